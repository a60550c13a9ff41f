section
-- ===== PART A: goes FIRST, ahead of the names: the tables' words, and 'selects' of the private methods out of them =====
/-- a private method of a class that the tables say can be made, by its rows of tables_1 -/
def lw_okq (q : MethodName × Nat) : Prop := (q.1.cls ≠ "java/lang/invoke/MethodHandle" ∧ q.1.cls ≠ "java/lang/invoke/VarHandle") ∧ Cond.instantiable q.1.cls q.2 ∈ tables_1 ∧ Cond.privateMethod q.1 ∈ tables_1 ∧ Cond.instanceMethod q.1 ∈ tables_1
theorem lw_p0 : lw_okq (⟨"BrotherAutomata$SmallTrees", "make", "(III)V"⟩, 3) := ⟨⟨by decide +kernel, by decide +kernel⟩, List.mem_of_getElem? (i := 22) (by decide +kernel), List.mem_of_getElem? (i := 28) (by decide +kernel), List.mem_of_getElem? (i := 29) (by decide +kernel)⟩
theorem lw_p1 : lw_okq (⟨"BrotherAutomata$SmallTrees", "makeUnary", "(I)V"⟩, 3) := ⟨⟨by decide +kernel, by decide +kernel⟩, List.mem_of_getElem? (i := 22) (by decide +kernel), List.mem_of_getElem? (i := 40) (by decide +kernel), List.mem_of_getElem? (i := 41) (by decide +kernel)⟩
theorem lw_p2 : lw_okq (⟨"BrotherAutomata$SmallTrees", "makeBinary", "(II)V"⟩, 3) := ⟨⟨by decide +kernel, by decide +kernel⟩, List.mem_of_getElem? (i := 22) (by decide +kernel), List.mem_of_getElem? (i := 46) (by decide +kernel), List.mem_of_getElem? (i := 47) (by decide +kernel)⟩
theorem lw_p3 : lw_okq (⟨"BrotherAutomata", "renewRuns", "()V"⟩, 10) := ⟨⟨by decide +kernel, by decide +kernel⟩, List.mem_of_getElem? (i := 14) (by decide +kernel), List.mem_of_getElem? (i := 230) (by decide +kernel), List.mem_of_getElem? (i := 231) (by decide +kernel)⟩
theorem lw_p4 : lw_okq (⟨"BrotherAutomata$RuleMasks", "enter", "(LBrotherAutomata$RuleBook;I)V"⟩, 6) := ⟨⟨by decide +kernel, by decide +kernel⟩, List.mem_of_getElem? (i := 128) (by decide +kernel), List.mem_of_getElem? (i := 241) (by decide +kernel), List.mem_of_getElem? (i := 242) (by decide +kernel)⟩
theorem lw_p5 : lw_okq (⟨"BrotherAutomata", "isState", "(I)Z"⟩, 10) := ⟨⟨by decide +kernel, by decide +kernel⟩, List.mem_of_getElem? (i := 14) (by decide +kernel), List.mem_of_getElem? (i := 253) (by decide +kernel), List.mem_of_getElem? (i := 254) (by decide +kernel)⟩
theorem lw_p6 : lw_okq (⟨"BrotherAutomata", "isChildState", "(IZ)Z"⟩, 10) := ⟨⟨by decide +kernel, by decide +kernel⟩, List.mem_of_getElem? (i := 14) (by decide +kernel), List.mem_of_getElem? (i := 289) (by decide +kernel), List.mem_of_getElem? (i := 290) (by decide +kernel)⟩
theorem lw_p7 : lw_okq (⟨"BrotherAutomata$RuleBook", "closeGap", "([II)V"⟩, 7) := ⟨⟨by decide +kernel, by decide +kernel⟩, List.mem_of_getElem? (i := 66) (by decide +kernel), List.mem_of_getElem? (i := 308) (by decide +kernel), List.mem_of_getElem? (i := 309) (by decide +kernel)⟩
theorem lw_p8 : lw_okq (⟨"BrotherAutomata$RuleBook", "contains", "(II)Z"⟩, 7) := ⟨⟨by decide +kernel, by decide +kernel⟩, List.mem_of_getElem? (i := 66) (by decide +kernel), List.mem_of_getElem? (i := 320) (by decide +kernel), List.mem_of_getElem? (i := 321) (by decide +kernel)⟩
theorem lw_p9 : lw_okq (⟨"BrotherAutomata", "subsetAt", "(I)I"⟩, 10) := ⟨⟨by decide +kernel, by decide +kernel⟩, List.mem_of_getElem? (i := 14) (by decide +kernel), List.mem_of_getElem? (i := 400) (by decide +kernel), List.mem_of_getElem? (i := 401) (by decide +kernel)⟩
theorem lw_p10 : lw_okq (⟨"BrotherAutomata", "isAccepted", "(I)Z"⟩, 10) := ⟨⟨by decide +kernel, by decide +kernel⟩, List.mem_of_getElem? (i := 14) (by decide +kernel), List.mem_of_getElem? (i := 412) (by decide +kernel), List.mem_of_getElem? (i := 413) (by decide +kernel)⟩
theorem lw_p11 : lw_okq (⟨"BrotherAutomata$RunCounter", "layOut", "(LBrotherAutomata$SmallTrees;I)I"⟩, 3) := ⟨⟨by decide +kernel, by decide +kernel⟩, List.mem_of_getElem? (i := 153) (by decide +kernel), List.mem_of_getElem? (i := 424) (by decide +kernel), List.mem_of_getElem? (i := 425) (by decide +kernel)⟩
theorem lw_p12 : lw_okq (⟨"BrotherAutomata$RunCounter", "countAt", "(LBrotherAutomata$SmallTrees;LBrotherAutomata$RuleBook;I)V"⟩, 3) := ⟨⟨by decide +kernel, by decide +kernel⟩, List.mem_of_getElem? (i := 153) (by decide +kernel), List.mem_of_getElem? (i := 432) (by decide +kernel), List.mem_of_getElem? (i := 433) (by decide +kernel)⟩
theorem lw_p13 : lw_okq (⟨"BrotherAutomata$RunCounter", "waysBelow", "(LBrotherAutomata$RuleBook;II)I"⟩, 3) := ⟨⟨by decide +kernel, by decide +kernel⟩, List.mem_of_getElem? (i := 153) (by decide +kernel), List.mem_of_getElem? (i := 437) (by decide +kernel), List.mem_of_getElem? (i := 438) (by decide +kernel)⟩
theorem lw_p14 : lw_okq (⟨"BrotherAutomata", "setCount", "()I"⟩, 10) := ⟨⟨by decide +kernel, by decide +kernel⟩, List.mem_of_getElem? (i := 14) (by decide +kernel), List.mem_of_getElem? (i := 454) (by decide +kernel), List.mem_of_getElem? (i := 455) (by decide +kernel)⟩
theorem lw_p15 : lw_okq (⟨"BrotherAutomata", "renewCensus", "()V"⟩, 10) := ⟨⟨by decide +kernel, by decide +kernel⟩, List.mem_of_getElem? (i := 14) (by decide +kernel), List.mem_of_getElem? (i := 458) (by decide +kernel), List.mem_of_getElem? (i := 459) (by decide +kernel)⟩
def lw_privs_1 : List (MethodName × Nat) := [(⟨"BrotherAutomata$SmallTrees", "make", "(III)V"⟩, 3), (⟨"BrotherAutomata$SmallTrees", "makeUnary", "(I)V"⟩, 3), (⟨"BrotherAutomata$SmallTrees", "makeBinary", "(II)V"⟩, 3), (⟨"BrotherAutomata", "renewRuns", "()V"⟩, 10), (⟨"BrotherAutomata$RuleMasks", "enter", "(LBrotherAutomata$RuleBook;I)V"⟩, 6), (⟨"BrotherAutomata", "isState", "(I)Z"⟩, 10), (⟨"BrotherAutomata", "isChildState", "(IZ)Z"⟩, 10), (⟨"BrotherAutomata$RuleBook", "closeGap", "([II)V"⟩, 7), (⟨"BrotherAutomata$RuleBook", "contains", "(II)Z"⟩, 7), (⟨"BrotherAutomata", "subsetAt", "(I)I"⟩, 10), (⟨"BrotherAutomata", "isAccepted", "(I)Z"⟩, 10), (⟨"BrotherAutomata$RunCounter", "layOut", "(LBrotherAutomata$SmallTrees;I)I"⟩, 3), (⟨"BrotherAutomata$RunCounter", "countAt", "(LBrotherAutomata$SmallTrees;LBrotherAutomata$RuleBook;I)V"⟩, 3), (⟨"BrotherAutomata$RunCounter", "waysBelow", "(LBrotherAutomata$RuleBook;II)I"⟩, 3), (⟨"BrotherAutomata", "setCount", "()I"⟩, 10), (⟨"BrotherAutomata", "renewCensus", "()V"⟩, 10)]
theorem lw_r1 : ∀ q ∈ lw_privs_1, lw_okq q := List.forall_mem_cons.mpr ⟨lw_p0, List.forall_mem_cons.mpr ⟨lw_p1, List.forall_mem_cons.mpr ⟨lw_p2, List.forall_mem_cons.mpr ⟨lw_p3, List.forall_mem_cons.mpr ⟨lw_p4, List.forall_mem_cons.mpr ⟨lw_p5, List.forall_mem_cons.mpr ⟨lw_p6, List.forall_mem_cons.mpr ⟨lw_p7, List.forall_mem_cons.mpr ⟨lw_p8, List.forall_mem_cons.mpr ⟨lw_p9, List.forall_mem_cons.mpr ⟨lw_p10, List.forall_mem_cons.mpr ⟨lw_p11, List.forall_mem_cons.mpr ⟨lw_p12, List.forall_mem_cons.mpr ⟨lw_p13, List.forall_mem_cons.mpr ⟨lw_p14, List.forall_mem_cons.mpr ⟨lw_p15, fun _ h => absurd h List.not_mem_nil⟩⟩⟩⟩⟩⟩⟩⟩⟩⟩⟩⟩⟩⟩⟩⟩
theorem lw_p16 : lw_okq (⟨"BrotherAutomata$Census", "countConstants", "(LBrotherAutomata$RuleMasks;)V"⟩, 3) := ⟨⟨by decide +kernel, by decide +kernel⟩, List.mem_of_getElem? (i := 169) (by decide +kernel), List.mem_of_getElem? (i := 468) (by decide +kernel), List.mem_of_getElem? (i := 469) (by decide +kernel)⟩
theorem lw_p17 : lw_okq (⟨"BrotherAutomata$Census", "raise", "(II)V"⟩, 3) := ⟨⟨by decide +kernel, by decide +kernel⟩, List.mem_of_getElem? (i := 169) (by decide +kernel), List.mem_of_getElem? (i := 473) (by decide +kernel), List.mem_of_getElem? (i := 474) (by decide +kernel)⟩
theorem lw_p18 : lw_okq (⟨"BrotherAutomata$Census", "countUnary", "(LBrotherAutomata$RuleMasks;I)V"⟩, 3) := ⟨⟨by decide +kernel, by decide +kernel⟩, List.mem_of_getElem? (i := 169) (by decide +kernel), List.mem_of_getElem? (i := 478) (by decide +kernel), List.mem_of_getElem? (i := 479) (by decide +kernel)⟩
theorem lw_p19 : lw_okq (⟨"BrotherAutomata$Census", "countBinary", "(LBrotherAutomata$RuleMasks;I)V"⟩, 3) := ⟨⟨by decide +kernel, by decide +kernel⟩, List.mem_of_getElem? (i := 169) (by decide +kernel), List.mem_of_getElem? (i := 482) (by decide +kernel), List.mem_of_getElem? (i := 483) (by decide +kernel)⟩
theorem lw_p20 : lw_okq (⟨"BrotherAutomata$Census", "countPairs", "(LBrotherAutomata$RuleMasks;III)V"⟩, 3) := ⟨⟨by decide +kernel, by decide +kernel⟩, List.mem_of_getElem? (i := 169) (by decide +kernel), List.mem_of_getElem? (i := 486) (by decide +kernel), List.mem_of_getElem? (i := 487) (by decide +kernel)⟩
theorem lw_p21 : lw_okq (⟨"BrotherAutomata$Census", "noteGrowth", "(II)Z"⟩, 3) := ⟨⟨by decide +kernel, by decide +kernel⟩, List.mem_of_getElem? (i := 169) (by decide +kernel), List.mem_of_getElem? (i := 490) (by decide +kernel), List.mem_of_getElem? (i := 491) (by decide +kernel)⟩
theorem lw_p22 : lw_okq (⟨"BrotherAutomata", "meetsReachedSet", "(I)Z"⟩, 10) := ⟨⟨by decide +kernel, by decide +kernel⟩, List.mem_of_getElem? (i := 14) (by decide +kernel), List.mem_of_getElem? (i := 506) (by decide +kernel), List.mem_of_getElem? (i := 507) (by decide +kernel)⟩
theorem lw_p23 : lw_okq (⟨"BrotherAutomataModel", "lays", "(IIIII)V"⟩, 14) := ⟨⟨by decide +kernel, by decide +kernel⟩, List.mem_of_getElem? (i := 538) (by decide +kernel), List.mem_of_getElem? (i := 544) (by decide +kernel), List.mem_of_getElem? (i := 545) (by decide +kernel)⟩
theorem lw_p24 : lw_okq (⟨"BrotherAutomataModel", "grows", "(I)V"⟩, 14) := ⟨⟨by decide +kernel, by decide +kernel⟩, List.mem_of_getElem? (i := 538) (by decide +kernel), List.mem_of_getElem? (i := 548) (by decide +kernel), List.mem_of_getElem? (i := 549) (by decide +kernel)⟩
theorem lw_p25 : lw_okq (⟨"BrotherAutomataModel", "isState", "(I)Z"⟩, 14) := ⟨⟨by decide +kernel, by decide +kernel⟩, List.mem_of_getElem? (i := 538) (by decide +kernel), List.mem_of_getElem? (i := 610) (by decide +kernel), List.mem_of_getElem? (i := 611) (by decide +kernel)⟩
theorem lw_p26 : lw_okq (⟨"BrotherAutomataModel", "edit", "()V"⟩, 14) := ⟨⟨by decide +kernel, by decide +kernel⟩, List.mem_of_getElem? (i := 538) (by decide +kernel), List.mem_of_getElem? (i := 614) (by decide +kernel), List.mem_of_getElem? (i := 615) (by decide +kernel)⟩
theorem lw_p27 : lw_okq (⟨"BrotherAutomataModel", "runsTo", "(I)V"⟩, 14) := ⟨⟨by decide +kernel, by decide +kernel⟩, List.mem_of_getElem? (i := 538) (by decide +kernel), List.mem_of_getElem? (i := 681) (by decide +kernel), List.mem_of_getElem? (i := 682) (by decide +kernel)⟩
theorem lw_p28 : lw_okq (⟨"BrotherAutomataModel", "subset", "(I)I"⟩, 14) := ⟨⟨by decide +kernel, by decide +kernel⟩, List.mem_of_getElem? (i := 538) (by decide +kernel), List.mem_of_getElem? (i := 688) (by decide +kernel), List.mem_of_getElem? (i := 689) (by decide +kernel)⟩
theorem lw_p29 : lw_okq (⟨"BrotherAutomataModel", "isAccepted", "(I)Z"⟩, 14) := ⟨⟨by decide +kernel, by decide +kernel⟩, List.mem_of_getElem? (i := 538) (by decide +kernel), List.mem_of_getElem? (i := 696) (by decide +kernel), List.mem_of_getElem? (i := 697) (by decide +kernel)⟩
theorem lw_p30 : lw_okq (⟨"BrotherAutomataModel", "counts", "()V"⟩, 14) := ⟨⟨by decide +kernel, by decide +kernel⟩, List.mem_of_getElem? (i := 538) (by decide +kernel), List.mem_of_getElem? (i := 716) (by decide +kernel), List.mem_of_getElem? (i := 717) (by decide +kernel)⟩
theorem lw_p31 : lw_okq (⟨"BrotherAutomataModel", "starts", "()V"⟩, 14) := ⟨⟨by decide +kernel, by decide +kernel⟩, List.mem_of_getElem? (i := 538) (by decide +kernel), List.mem_of_getElem? (i := 720) (by decide +kernel), List.mem_of_getElem? (i := 721) (by decide +kernel)⟩
def lw_privs_2 : List (MethodName × Nat) := [(⟨"BrotherAutomata$Census", "countConstants", "(LBrotherAutomata$RuleMasks;)V"⟩, 3), (⟨"BrotherAutomata$Census", "raise", "(II)V"⟩, 3), (⟨"BrotherAutomata$Census", "countUnary", "(LBrotherAutomata$RuleMasks;I)V"⟩, 3), (⟨"BrotherAutomata$Census", "countBinary", "(LBrotherAutomata$RuleMasks;I)V"⟩, 3), (⟨"BrotherAutomata$Census", "countPairs", "(LBrotherAutomata$RuleMasks;III)V"⟩, 3), (⟨"BrotherAutomata$Census", "noteGrowth", "(II)Z"⟩, 3), (⟨"BrotherAutomata", "meetsReachedSet", "(I)Z"⟩, 10), (⟨"BrotherAutomataModel", "lays", "(IIIII)V"⟩, 14), (⟨"BrotherAutomataModel", "grows", "(I)V"⟩, 14), (⟨"BrotherAutomataModel", "isState", "(I)Z"⟩, 14), (⟨"BrotherAutomataModel", "edit", "()V"⟩, 14), (⟨"BrotherAutomataModel", "runsTo", "(I)V"⟩, 14), (⟨"BrotherAutomataModel", "subset", "(I)I"⟩, 14), (⟨"BrotherAutomataModel", "isAccepted", "(I)Z"⟩, 14), (⟨"BrotherAutomataModel", "counts", "()V"⟩, 14), (⟨"BrotherAutomataModel", "starts", "()V"⟩, 14)]
theorem lw_r2 : ∀ q ∈ lw_privs_2, lw_okq q := List.forall_mem_cons.mpr ⟨lw_p16, List.forall_mem_cons.mpr ⟨lw_p17, List.forall_mem_cons.mpr ⟨lw_p18, List.forall_mem_cons.mpr ⟨lw_p19, List.forall_mem_cons.mpr ⟨lw_p20, List.forall_mem_cons.mpr ⟨lw_p21, List.forall_mem_cons.mpr ⟨lw_p22, List.forall_mem_cons.mpr ⟨lw_p23, List.forall_mem_cons.mpr ⟨lw_p24, List.forall_mem_cons.mpr ⟨lw_p25, List.forall_mem_cons.mpr ⟨lw_p26, List.forall_mem_cons.mpr ⟨lw_p27, List.forall_mem_cons.mpr ⟨lw_p28, List.forall_mem_cons.mpr ⟨lw_p29, List.forall_mem_cons.mpr ⟨lw_p30, List.forall_mem_cons.mpr ⟨lw_p31, fun _ h => absurd h List.not_mem_nil⟩⟩⟩⟩⟩⟩⟩⟩⟩⟩⟩⟩⟩⟩⟩⟩
theorem lw_p32 : lw_okq (⟨"BrotherAutomataModel", "steps", "()Z"⟩, 14) := ⟨⟨by decide +kernel, by decide +kernel⟩, List.mem_of_getElem? (i := 538) (by decide +kernel), List.mem_of_getElem? (i := 724) (by decide +kernel), List.mem_of_getElem? (i := 725) (by decide +kernel)⟩
theorem lw_p33 : lw_okq (⟨"BrotherAutomataModel", "leads", "(IIIZ)I"⟩, 14) := ⟨⟨by decide +kernel, by decide +kernel⟩, List.mem_of_getElem? (i := 538) (by decide +kernel), List.mem_of_getElem? (i := 728) (by decide +kernel), List.mem_of_getElem? (i := 729) (by decide +kernel)⟩
theorem lw_p34 : lw_okq (⟨"BrotherAutomataModel", "puts", "(II)V"⟩, 14) := ⟨⟨by decide +kernel, by decide +kernel⟩, List.mem_of_getElem? (i := 538) (by decide +kernel), List.mem_of_getElem? (i := 732) (by decide +kernel), List.mem_of_getElem? (i := 733) (by decide +kernel)⟩
theorem lw_p35 : lw_okq (⟨"BrotherAutomataModel", "reached", "()I"⟩, 14) := ⟨⟨by decide +kernel, by decide +kernel⟩, List.mem_of_getElem? (i := 538) (by decide +kernel), List.mem_of_getElem? (i := 744) (by decide +kernel), List.mem_of_getElem? (i := 745) (by decide +kernel)⟩
def lw_privs_3 : List (MethodName × Nat) := [(⟨"BrotherAutomataModel", "steps", "()Z"⟩, 14), (⟨"BrotherAutomataModel", "leads", "(IIIZ)I"⟩, 14), (⟨"BrotherAutomataModel", "puts", "(II)V"⟩, 14), (⟨"BrotherAutomataModel", "reached", "()I"⟩, 14)]
theorem lw_r3 : ∀ q ∈ lw_privs_3, lw_okq q := List.forall_mem_cons.mpr ⟨lw_p32, List.forall_mem_cons.mpr ⟨lw_p33, List.forall_mem_cons.mpr ⟨lw_p34, List.forall_mem_cons.mpr ⟨lw_p35, fun _ h => absurd h List.not_mem_nil⟩⟩⟩⟩
def lw_privs : List (MethodName × Nat) := lw_privs_1 ++ (lw_privs_2 ++ (lw_privs_3))
def lw_tbl : List Cond := k2_sels lw_privs ++ tables_1
theorem lw_privs_ok : ∀ q ∈ lw_privs, lw_okq q := by
  show ∀ q ∈ lw_privs_1 ++ (lw_privs_2 ++ (lw_privs_3)), lw_okq q
  exact List.forall_mem_append.mpr ⟨lw_r1, List.forall_mem_append.mpr ⟨lw_r2, lw_r3⟩⟩
end
section
/-! ===== BEGIN words of one list among another's, by their places ===== -/
theorem goodIn_r {big : List Cond} (ws : List Cond) (ps : List Nat) (hp : ws = ps.filterMap (fun i => big[i]?)) (h : ws.all goodWord = true) : GoodIn big ws := by
  intro w hw
  have h1 := List.all_eq_true.mp h w hw
  rw [hp] at hw
  obtain ⟨i, -, hi⟩ := List.mem_filterMap.mp hw
  have hm : w ∈ big := by first | exact List.mem_of_getElem? hi | exact List.getElem?_mem hi
  exact ⟨hm, good_of_word h1⟩
theorem goodIn_app {big a b : List Cond} (ha : GoodIn big a) (hb : GoodIn big b) : GoodIn big (a ++ b) := fun w h => (List.mem_append.mp h).elim (ha w) (hb w)
theorem goodIn_ca {big a b : List Cond} {c : Cond} (ha : GoodIn big (c :: a)) (hb : GoodIn big b) : GoodIn big (c :: (a ++ b)) := fun w h => (List.mem_cons.mp h).elim (fun e => ha w (List.mem_cons.mpr (Or.inl e))) (fun h => (List.mem_append.mp h).elim (fun h => ha w (List.mem_cons.mpr (Or.inr h))) (hb w))
theorem goodIn_sub {big ws : List Cond} (hm : ∀ w ∈ ws, w ∈ big) (h : ws.all goodWord = true) : GoodIn big ws := fun w hw => ⟨hm w hw, good_of_word (List.all_eq_true.mp h w hw)⟩
/-! ===== END ===== -/

/-! ===== BEGIN printed: names, fields, word lists, decode rows ===== -/
def RX0 : String := "BrotherAutomata$Census"
def TX0 : u_T := fun k => match k with
  | 0 => ("BrotherAutomata$Census", "numbers", "[I", true)
  | 1 => ("BrotherAutomata$Census", "before", "[I", true)
  | _ => ("BrotherAutomata$Census", "heights", "[I", true)
def tyX0 : Nat → FieldType := fun k => match k with
  | 0 => .array .int
  | 1 => .array .int
  | _ => .array .int
abbrev wsX00 : List Cond := u_ws RX0 TX0 3
theorem nmX0 : ∀ a, a < 3 → ∀ b, b < 3 → a ≠ b → (TX0 a).2.1 ≠ (TX0 b).2.1 := by decide +kernel
theorem tyX0_ok : ∀ k, k < 3 → parseFieldDescriptor (TX0 k).2.2.1 = some (tyX0 k) := by decide +kernel
abbrev cX0_init : ByteArray := prog_2_method_1_code
def yX0_init : MethodName := ⟨RX0, "<init>", "()V"⟩
abbrev cX0_isReached : ByteArray := prog_2_method_2_code
def yX0_isReached : MethodName := ⟨RX0, "isReached", "(I)Z"⟩
abbrev cX0_take : ByteArray := prog_2_method_3_code
def yX0_take : MethodName := ⟨RX0, "take", "(LBrotherAutomata$RuleMasks;I)V"⟩
abbrev cX0_countConstants : ByteArray := prog_2_method_4_code
def yX0_countConstants : MethodName := ⟨RX0, "countConstants", "(LBrotherAutomata$RuleMasks;)V"⟩
abbrev cX0_countUnary : ByteArray := prog_2_method_5_code
def yX0_countUnary : MethodName := ⟨RX0, "countUnary", "(LBrotherAutomata$RuleMasks;I)V"⟩
abbrev cX0_countBinary : ByteArray := prog_2_method_6_code
def yX0_countBinary : MethodName := ⟨RX0, "countBinary", "(LBrotherAutomata$RuleMasks;I)V"⟩
abbrev cX0_countPairs : ByteArray := prog_2_method_7_code
def yX0_countPairs : MethodName := ⟨RX0, "countPairs", "(LBrotherAutomata$RuleMasks;III)V"⟩
abbrev cX0_raise : ByteArray := prog_2_method_8_code
def yX0_raise : MethodName := ⟨RX0, "raise", "(II)V"⟩
abbrev cX0_noteGrowth : ByteArray := prog_2_method_9_code
def yX0_noteGrowth : MethodName := ⟨RX0, "noteGrowth", "(II)Z"⟩
def RX1 : String := "BrotherAutomata$History"
def TX1 : u_T := fun k => match k with
  | 0 => ("BrotherAutomata$History", "ring", "[LBrotherAutomata$RuleBook;", true)
  | 1 => ("BrotherAutomata$History", "next", "I", false)
  | _ => ("BrotherAutomata$History", "kept", "I", false)
def tyX1 : Nat → FieldType := fun k => match k with
  | 0 => .array (.object "BrotherAutomata$RuleBook")
  | 1 => .int
  | _ => .int
abbrev wsX10 : List Cond := u_ws RX1 TX1 3
theorem nmX1 : ∀ a, a < 3 → ∀ b, b < 3 → a ≠ b → (TX1 a).2.1 ≠ (TX1 b).2.1 := by decide +kernel
theorem tyX1_ok : ∀ k, k < 3 → parseFieldDescriptor (TX1 k).2.2.1 = some (tyX1 k) := by decide +kernel
abbrev cX1_init : ByteArray := prog_3_method_1_code
def yX1_init : MethodName := ⟨RX1, "<init>", "()V"⟩
abbrev cX1_forget : ByteArray := prog_3_method_2_code
def yX1_forget : MethodName := ⟨RX1, "forget", "()V"⟩
abbrev cX1_keep : ByteArray := prog_3_method_3_code
def yX1_keep : MethodName := ⟨RX1, "keep", "(LBrotherAutomata$RuleBook;)V"⟩
abbrev cX1_giveBack : ByteArray := prog_3_method_4_code
def yX1_giveBack : MethodName := ⟨RX1, "giveBack", "(LBrotherAutomata$RuleBook;)V"⟩
def RX2 : String := "BrotherAutomata$RuleBook"
def TX2 : u_T := fun k => match k with
  | 0 => ("BrotherAutomata$RuleBook", "symbols", "[I", true)
  | 1 => ("BrotherAutomata$RuleBook", "firsts", "[I", true)
  | 2 => ("BrotherAutomata$RuleBook", "seconds", "[I", true)
  | 3 => ("BrotherAutomata$RuleBook", "constraints", "[I", true)
  | 4 => ("BrotherAutomata$RuleBook", "targets", "[I", true)
  | 5 => ("BrotherAutomata$RuleBook", "count", "I", false)
  | _ => ("BrotherAutomata$RuleBook", "finals", "I", false)
def tyX2 : Nat → FieldType := fun k => match k with
  | 0 => .array .int
  | 1 => .array .int
  | 2 => .array .int
  | 3 => .array .int
  | 4 => .array .int
  | 5 => .int
  | _ => .int
abbrev wsX20 : List Cond := u_ws RX2 TX2 7
theorem nmX2 : ∀ a, a < 7 → ∀ b, b < 7 → a ≠ b → (TX2 a).2.1 ≠ (TX2 b).2.1 := by decide +kernel
theorem tyX2_ok : ∀ k, k < 7 → parseFieldDescriptor (TX2 k).2.2.1 = some (tyX2 k) := by decide +kernel
abbrev cX2_init : ByteArray := prog_4_method_1_code
def yX2_init : MethodName := ⟨RX2, "<init>", "()V"⟩
abbrev cX2_clear : ByteArray := prog_4_method_2_code
def yX2_clear : MethodName := ⟨RX2, "clear", "()V"⟩
abbrev cX2_copyFrom : ByteArray := prog_4_method_3_code
def yX2_copyFrom : MethodName := ⟨RX2, "copyFrom", "(LBrotherAutomata$RuleBook;)V"⟩
abbrev cX2_markFinal : ByteArray := prog_4_method_4_code
def yX2_markFinal : MethodName := ⟨RX2, "markFinal", "(IZ)V"⟩
abbrev cX2_append : ByteArray := prog_4_method_5_code
def yX2_append : MethodName := ⟨RX2, "append", "(IIIII)V"⟩
abbrev cX2_delete : ByteArray := prog_4_method_6_code
def yX2_delete : MethodName := ⟨RX2, "delete", "(I)V"⟩
abbrev cX2_closeGap : ByteArray := prog_4_method_7_code
def yX2_closeGap : MethodName := ⟨RX2, "closeGap", "([II)V"⟩
abbrev cX2_rulesWith : ByteArray := prog_4_method_8_code
def yX2_rulesWith : MethodName := ⟨RX2, "rulesWith", "(II)I"⟩
abbrev cX2_contains : ByteArray := prog_4_method_9_code
def yX2_contains : MethodName := ⟨RX2, "contains", "(II)Z"⟩
abbrev cX2_exchange : ByteArray := prog_4_method_10_code
def yX2_exchange : MethodName := ⟨RX2, "exchange", "(II)V"⟩
abbrev cX2_swapped : ByteArray := prog_4_method_11_code
def yX2_swapped : MethodName := ⟨RX2, "swapped", "(III)I"⟩
def RX3 : String := "BrotherAutomata$RuleMasks"
def TX3 : u_T := fun k => match k with
  | 0 => ("BrotherAutomata$RuleMasks", "bySymbol", "[I", true)
  | 1 => ("BrotherAutomata$RuleMasks", "byFirst", "[I", true)
  | 2 => ("BrotherAutomata$RuleMasks", "bySecond", "[I", true)
  | 3 => ("BrotherAutomata$RuleMasks", "targetSets", "[I", true)
  | 4 => ("BrotherAutomata$RuleMasks", "whenEqual", "I", false)
  | _ => ("BrotherAutomata$RuleMasks", "whenDifferent", "I", false)
def tyX3 : Nat → FieldType := fun k => match k with
  | 0 => .array .int
  | 1 => .array .int
  | 2 => .array .int
  | 3 => .array .int
  | 4 => .int
  | _ => .int
abbrev wsX30 : List Cond := u_ws RX3 TX3 6
theorem nmX3 : ∀ a, a < 6 → ∀ b, b < 6 → a ≠ b → (TX3 a).2.1 ≠ (TX3 b).2.1 := by decide +kernel
theorem tyX3_ok : ∀ k, k < 6 → parseFieldDescriptor (TX3 k).2.2.1 = some (tyX3 k) := by decide +kernel
abbrev cX3_init : ByteArray := prog_5_method_1_code
def yX3_init : MethodName := ⟨RX3, "<init>", "()V"⟩
abbrev cX3_build : ByteArray := prog_5_method_2_code
def yX3_build : MethodName := ⟨RX3, "build", "(LBrotherAutomata$RuleBook;)V"⟩
abbrev cX3_enter : ByteArray := prog_5_method_3_code
def yX3_enter : MethodName := ⟨RX3, "enter", "(LBrotherAutomata$RuleBook;I)V"⟩
abbrev cX3_spread : ByteArray := prog_5_method_4_code
def yX3_spread : MethodName := ⟨RX3, "spread", "([I)V"⟩
abbrev cX3_step : ByteArray := prog_5_method_5_code
def yX3_step : MethodName := ⟨RX3, "step", "(IIIZ)I"⟩
def RX4 : String := "BrotherAutomata$RunCounter"
def TX4 : u_T := fun k => match k with
  | 0 => ("BrotherAutomata$RunCounter", "nodes", "[I", true)
  | 1 => ("BrotherAutomata$RunCounter", "firstPlaces", "[I", true)
  | _ => ("BrotherAutomata$RunCounter", "runs", "[I", true)
def tyX4 : Nat → FieldType := fun k => match k with
  | 0 => .array .int
  | 1 => .array .int
  | _ => .array .int
abbrev wsX40 : List Cond := u_ws RX4 TX4 3
theorem nmX4 : ∀ a, a < 3 → ∀ b, b < 3 → a ≠ b → (TX4 a).2.1 ≠ (TX4 b).2.1 := by decide +kernel
theorem tyX4_ok : ∀ k, k < 3 → parseFieldDescriptor (TX4 k).2.2.1 = some (tyX4 k) := by decide +kernel
abbrev cX4_init : ByteArray := prog_6_method_1_code
def yX4_init : MethodName := ⟨RX4, "<init>", "()V"⟩
abbrev cX4_count : ByteArray := prog_6_method_2_code
def yX4_count : MethodName := ⟨RX4, "count", "(LBrotherAutomata$SmallTrees;LBrotherAutomata$RuleBook;II)I"⟩
abbrev cX4_layOut : ByteArray := prog_6_method_3_code
def yX4_layOut : MethodName := ⟨RX4, "layOut", "(LBrotherAutomata$SmallTrees;I)I"⟩
abbrev cX4_countAt : ByteArray := prog_6_method_4_code
def yX4_countAt : MethodName := ⟨RX4, "countAt", "(LBrotherAutomata$SmallTrees;LBrotherAutomata$RuleBook;I)V"⟩
abbrev cX4_waysBelow : ByteArray := prog_6_method_5_code
def yX4_waysBelow : MethodName := ⟨RX4, "waysBelow", "(LBrotherAutomata$RuleBook;II)I"⟩
def RX5 : String := "BrotherAutomata$SmallTrees"
def TX5 : u_T := fun k => match k with
  | 0 => ("BrotherAutomata$SmallTrees", "contents", "[I", true)
  | 1 => ("BrotherAutomata$SmallTrees", "heights", "[I", true)
  | _ => ("BrotherAutomata$SmallTrees", "made", "I", false)
def tyX5 : Nat → FieldType := fun k => match k with
  | 0 => .array .int
  | 1 => .array .int
  | _ => .int
abbrev wsX50 : List Cond := u_ws RX5 TX5 3
theorem nmX5 : ∀ a, a < 3 → ∀ b, b < 3 → a ≠ b → (TX5 a).2.1 ≠ (TX5 b).2.1 := by decide +kernel
theorem tyX5_ok : ∀ k, k < 3 → parseFieldDescriptor (TX5 k).2.2.1 = some (tyX5 k) := by decide +kernel
abbrev cX5_init : ByteArray := prog_7_method_1_code
def yX5_init : MethodName := ⟨RX5, "<init>", "()V"⟩
abbrev cX5_makeUnary : ByteArray := prog_7_method_2_code
def yX5_makeUnary : MethodName := ⟨RX5, "makeUnary", "(I)V"⟩
abbrev cX5_makeBinary : ByteArray := prog_7_method_3_code
def yX5_makeBinary : MethodName := ⟨RX5, "makeBinary", "(II)V"⟩
abbrev cX5_make : ByteArray := prog_7_method_4_code
def yX5_make : MethodName := ⟨RX5, "make", "(III)V"⟩
abbrev cX5_content : ByteArray := prog_7_method_5_code
def yX5_content : MethodName := ⟨RX5, "content", "(III)I"⟩
abbrev cX5_symbolAt : ByteArray := prog_7_method_6_code
def yX5_symbolAt : MethodName := ⟨RX5, "symbolAt", "(I)I"⟩
abbrev cX5_firstAt : ByteArray := prog_7_method_7_code
def yX5_firstAt : MethodName := ⟨RX5, "firstAt", "(I)I"⟩
abbrev cX5_secondAt : ByteArray := prog_7_method_8_code
def yX5_secondAt : MethodName := ⟨RX5, "secondAt", "(I)I"⟩
abbrev cX5_arityAt : ByteArray := prog_7_method_9_code
def yX5_arityAt : MethodName := ⟨RX5, "arityAt", "(I)I"⟩
abbrev cX5_find : ByteArray := prog_7_method_10_code
def yX5_find : MethodName := ⟨RX5, "find", "(III)I"⟩
def RX6 : String := "BrotherAutomata"
def TX6 : u_T := fun k => match k with
  | 0 => ("BrotherAutomata", "trees", "LBrotherAutomata$SmallTrees;", true)
  | 1 => ("BrotherAutomata", "book", "LBrotherAutomata$RuleBook;", true)
  | 2 => ("BrotherAutomata", "history", "LBrotherAutomata$History;", true)
  | 3 => ("BrotherAutomata", "masks", "LBrotherAutomata$RuleMasks;", true)
  | 4 => ("BrotherAutomata", "runCounter", "LBrotherAutomata$RunCounter;", true)
  | 5 => ("BrotherAutomata", "census", "LBrotherAutomata$Census;", true)
  | 6 => ("BrotherAutomata", "subsets", "[I", true)
  | 7 => ("BrotherAutomata", "subsetsKnown", "I", false)
  | 8 => ("BrotherAutomata", "censusKnown", "Z", false)
  | _ => ("BrotherAutomata", "states", "I", false)
def tyX6 : Nat → FieldType := fun k => match k with
  | 0 => .object "BrotherAutomata$SmallTrees"
  | 1 => .object "BrotherAutomata$RuleBook"
  | 2 => .object "BrotherAutomata$History"
  | 3 => .object "BrotherAutomata$RuleMasks"
  | 4 => .object "BrotherAutomata$RunCounter"
  | 5 => .object "BrotherAutomata$Census"
  | 6 => .array .int
  | 7 => .int
  | 8 => .boolean
  | _ => .int
abbrev wsX60 : List Cond := u_ws RX6 TX6 10
theorem nmX6 : ∀ a, a < 10 → ∀ b, b < 10 → a ≠ b → (TX6 a).2.1 ≠ (TX6 b).2.1 := by decide +kernel
theorem tyX6_ok : ∀ k, k < 10 → parseFieldDescriptor (TX6 k).2.2.1 = some (tyX6 k) := by decide +kernel
abbrev cX6_init : ByteArray := prog_1_method_1_code
def yX6_init : MethodName := ⟨RX6, "<init>", "()V"⟩
abbrev cX6_reset : ByteArray := prog_1_method_2_code
def yX6_reset : MethodName := ⟨RX6, "reset", "(I)I"⟩
abbrev cX6_setFinal : ByteArray := prog_1_method_3_code
def yX6_setFinal : MethodName := ⟨RX6, "setFinal", "(IZ)I"⟩
abbrev cX6_addRule : ByteArray := prog_1_method_4_code
def yX6_addRule : MethodName := ⟨RX6, "addRule", "(IIIII)I"⟩
abbrev cX6_removeRule : ByteArray := prog_1_method_5_code
def yX6_removeRule : MethodName := ⟨RX6, "removeRule", "(I)I"⟩
abbrev cX6_swapStates : ByteArray := prog_1_method_6_code
def yX6_swapStates : MethodName := ⟨RX6, "swapStates", "(II)I"⟩
abbrev cX6_ruleCount : ByteArray := prog_1_method_7_code
def yX6_ruleCount : MethodName := ⟨RX6, "ruleCount", "()I"⟩
abbrev cX6_finalStates : ByteArray := prog_1_method_8_code
def yX6_finalStates : MethodName := ⟨RX6, "finalStates", "()I"⟩
abbrev cX6_treeCount : ByteArray := prog_1_method_9_code
def yX6_treeCount : MethodName := ⟨RX6, "treeCount", "(I)I"⟩
abbrev cX6_treeOf : ByteArray := prog_1_method_10_code
def yX6_treeOf : MethodName := ⟨RX6, "treeOf", "(III)I"⟩
abbrev cX6_symbolOf : ByteArray := prog_1_method_11_code
def yX6_symbolOf : MethodName := ⟨RX6, "symbolOf", "(I)I"⟩
abbrev cX6_childOf : ByteArray := prog_1_method_12_code
def yX6_childOf : MethodName := ⟨RX6, "childOf", "(II)I"⟩
abbrev cX6_sizeOf : ByteArray := prog_1_method_13_code
def yX6_sizeOf : MethodName := ⟨RX6, "sizeOf", "(I)I"⟩
abbrev cX6_heightOf : ByteArray := prog_1_method_14_code
def yX6_heightOf : MethodName := ⟨RX6, "heightOf", "(I)I"⟩
abbrev cX6_subsetOf : ByteArray := prog_1_method_15_code
def yX6_subsetOf : MethodName := ⟨RX6, "subsetOf", "(I)I"⟩
abbrev cX6_accepts : ByteArray := prog_1_method_16_code
def yX6_accepts : MethodName := ⟨RX6, "accepts", "(I)I"⟩
abbrev cX6_runCount : ByteArray := prog_1_method_17_code
def yX6_runCount : MethodName := ⟨RX6, "runCount", "(II)I"⟩
abbrev cX6_acceptedCount : ByteArray := prog_1_method_18_code
def yX6_acceptedCount : MethodName := ⟨RX6, "acceptedCount", "(I)I"⟩
abbrev cX6_acceptedTree : ByteArray := prog_1_method_19_code
def yX6_acceptedTree : MethodName := ⟨RX6, "acceptedTree", "(II)I"⟩
abbrev cX6_treesOfSet : ByteArray := prog_1_method_20_code
def yX6_treesOfSet : MethodName := ⟨RX6, "treesOfSet", "(I)I"⟩
abbrev cX6_reachedSets : ByteArray := prog_1_method_21_code
def yX6_reachedSets : MethodName := ⟨RX6, "reachedSets", "()I"⟩
abbrev cX6_isReachable : ByteArray := prog_1_method_22_code
def yX6_isReachable : MethodName := ⟨RX6, "isReachable", "(I)I"⟩
abbrev cX6_isEmpty : ByteArray := prog_1_method_23_code
def yX6_isEmpty : MethodName := ⟨RX6, "isEmpty", "()I"⟩
abbrev cX6_isUniversal : ByteArray := prog_1_method_24_code
def yX6_isUniversal : MethodName := ⟨RX6, "isUniversal", "()I"⟩
abbrev cX6_isComplete : ByteArray := prog_1_method_25_code
def yX6_isComplete : MethodName := ⟨RX6, "isComplete", "()I"⟩
abbrev cX6_isDeterministic : ByteArray := prog_1_method_26_code
def yX6_isDeterministic : MethodName := ⟨RX6, "isDeterministic", "()I"⟩
abbrev cX6_leastHeight : ByteArray := prog_1_method_27_code
def yX6_leastHeight : MethodName := ⟨RX6, "leastHeight", "()I"⟩
abbrev cX6_undo : ByteArray := prog_1_method_28_code
def yX6_undo : MethodName := ⟨RX6, "undo", "()I"⟩
abbrev cX6_isSymbol : ByteArray := prog_1_method_29_code
def yX6_isSymbol : MethodName := ⟨RX6, "isSymbol", "(I)Z"⟩
abbrev cX6_isTree : ByteArray := prog_1_method_30_code
def yX6_isTree : MethodName := ⟨RX6, "isTree", "(I)Z"⟩
abbrev cX6_isSize : ByteArray := prog_1_method_31_code
def yX6_isSize : MethodName := ⟨RX6, "isSize", "(I)Z"⟩
abbrev cX6_isChildTree : ByteArray := prog_1_method_32_code
def yX6_isChildTree : MethodName := ⟨RX6, "isChildTree", "(IZ)Z"⟩
abbrev cX6_isConstraint : ByteArray := prog_1_method_33_code
def yX6_isConstraint : MethodName := ⟨RX6, "isConstraint", "(IZ)Z"⟩
abbrev cX6_isState : ByteArray := prog_1_method_34_code
def yX6_isState : MethodName := ⟨RX6, "isState", "(I)Z"⟩
abbrev cX6_isChildState : ByteArray := prog_1_method_35_code
def yX6_isChildState : MethodName := ⟨RX6, "isChildState", "(IZ)Z"⟩
abbrev cX6_setCount : ByteArray := prog_1_method_36_code
def yX6_setCount : MethodName := ⟨RX6, "setCount", "()I"⟩
abbrev cX6_sizeAt : ByteArray := prog_1_method_37_code
def yX6_sizeAt : MethodName := ⟨RX6, "sizeAt", "(I)I"⟩
abbrev cX6_renewRuns : ByteArray := prog_1_method_38_code
def yX6_renewRuns : MethodName := ⟨RX6, "renewRuns", "()V"⟩
abbrev cX6_renewCensus : ByteArray := prog_1_method_39_code
def yX6_renewCensus : MethodName := ⟨RX6, "renewCensus", "()V"⟩
abbrev cX6_subsetAt : ByteArray := prog_1_method_40_code
def yX6_subsetAt : MethodName := ⟨RX6, "subsetAt", "(I)I"⟩
abbrev cX6_isAccepted : ByteArray := prog_1_method_41_code
def yX6_isAccepted : MethodName := ⟨RX6, "isAccepted", "(I)Z"⟩
abbrev cX6_meetsReachedSet : ByteArray := prog_1_method_42_code
def yX6_meetsReachedSet : MethodName := ⟨RX6, "meetsReachedSet", "(I)Z"⟩
def RX7 : String := "BrotherAutomataModel"
def TX7 : u_T := fun k => match k with
  | 0 => ("BrotherAutomataModel", "trees", "I", false)
  | 1 => ("BrotherAutomataModel", "symbol", "[I", true)
  | 2 => ("BrotherAutomataModel", "first", "[I", true)
  | 3 => ("BrotherAutomataModel", "second", "[I", true)
  | 4 => ("BrotherAutomataModel", "size", "[I", true)
  | 5 => ("BrotherAutomataModel", "height", "[I", true)
  | 6 => ("BrotherAutomataModel", "begin", "[I", true)
  | 7 => ("BrotherAutomataModel", "runs", "[I", true)
  | 8 => ("BrotherAutomataModel", "states", "I", false)
  | 9 => ("BrotherAutomataModel", "now", "[I", true)
  | 10 => ("BrotherAutomataModel", "history", "[I", true)
  | 11 => ("BrotherAutomataModel", "edits", "I", false)
  | 12 => ("BrotherAutomataModel", "many", "[I", true)
  | _ => ("BrotherAutomataModel", "more", "[I", true)
def tyX7 : Nat → FieldType := fun k => match k with
  | 0 => .int
  | 1 => .array .int
  | 2 => .array .int
  | 3 => .array .int
  | 4 => .array .int
  | 5 => .array .int
  | 6 => .array .int
  | 7 => .array .int
  | 8 => .int
  | 9 => .array .int
  | 10 => .array .int
  | 11 => .int
  | 12 => .array .int
  | _ => .array .int
abbrev wsX70 : List Cond := u_ws RX7 TX7 14
theorem nmX7 : ∀ a, a < 14 → ∀ b, b < 14 → a ≠ b → (TX7 a).2.1 ≠ (TX7 b).2.1 := by decide +kernel
theorem tyX7_ok : ∀ k, k < 14 → parseFieldDescriptor (TX7 k).2.2.1 = some (tyX7 k) := by decide +kernel
abbrev cX7_init : ByteArray := prog_9_method_1_code
def yX7_init : MethodName := ⟨RX7, "<init>", "()V"⟩
abbrev cX7_lays : ByteArray := prog_9_method_2_code
def yX7_lays : MethodName := ⟨RX7, "lays", "(IIIII)V"⟩
abbrev cX7_grows : ByteArray := prog_9_method_3_code
def yX7_grows : MethodName := ⟨RX7, "grows", "(I)V"⟩
abbrev cX7_in : ByteArray := prog_9_method_4_code
def yX7_in : MethodName := ⟨RX7, "in", "(III)Z"⟩
abbrev cX7_isState : ByteArray := prog_9_method_5_code
def yX7_isState : MethodName := ⟨RX7, "isState", "(I)Z"⟩
abbrev cX7_arity : ByteArray := prog_9_method_6_code
def yX7_arity : MethodName := ⟨RX7, "arity", "(I)I"⟩
abbrev cX7_has : ByteArray := prog_9_method_7_code
def yX7_has : MethodName := ⟨RX7, "has", "(II)Z"⟩
abbrev cX7_reset : ByteArray := prog_9_method_8_code
def yX7_reset : MethodName := ⟨RX7, "reset", "(I)I"⟩
abbrev cX7_edit : ByteArray := prog_9_method_9_code
def yX7_edit : MethodName := ⟨RX7, "edit", "()V"⟩
abbrev cX7_undo : ByteArray := prog_9_method_10_code
def yX7_undo : MethodName := ⟨RX7, "undo", "()I"⟩
abbrev cX7_setFinal : ByteArray := prog_9_method_11_code
def yX7_setFinal : MethodName := ⟨RX7, "setFinal", "(IZ)I"⟩
abbrev cX7_addRule : ByteArray := prog_9_method_12_code
def yX7_addRule : MethodName := ⟨RX7, "addRule", "(IIIII)I"⟩
abbrev cX7_removeRule : ByteArray := prog_9_method_13_code
def yX7_removeRule : MethodName := ⟨RX7, "removeRule", "(I)I"⟩
abbrev cX7_swapped : ByteArray := prog_9_method_14_code
def yX7_swapped : MethodName := ⟨RX7, "swapped", "(III)I"⟩
abbrev cX7_swapStates : ByteArray := prog_9_method_15_code
def yX7_swapStates : MethodName := ⟨RX7, "swapStates", "(II)I"⟩
abbrev cX7_ruleCount : ByteArray := prog_9_method_16_code
def yX7_ruleCount : MethodName := ⟨RX7, "ruleCount", "()I"⟩
abbrev cX7_finalStates : ByteArray := prog_9_method_17_code
def yX7_finalStates : MethodName := ⟨RX7, "finalStates", "()I"⟩
abbrev cX7_isSize : ByteArray := prog_9_method_18_code
def yX7_isSize : MethodName := ⟨RX7, "isSize", "(I)Z"⟩
abbrev cX7_isTree : ByteArray := prog_9_method_19_code
def yX7_isTree : MethodName := ⟨RX7, "isTree", "(I)Z"⟩
abbrev cX7_treeCount : ByteArray := prog_9_method_20_code
def yX7_treeCount : MethodName := ⟨RX7, "treeCount", "(I)I"⟩
abbrev cX7_treeOf : ByteArray := prog_9_method_21_code
def yX7_treeOf : MethodName := ⟨RX7, "treeOf", "(III)I"⟩
abbrev cX7_symbolOf : ByteArray := prog_9_method_22_code
def yX7_symbolOf : MethodName := ⟨RX7, "symbolOf", "(I)I"⟩
abbrev cX7_childOf : ByteArray := prog_9_method_23_code
def yX7_childOf : MethodName := ⟨RX7, "childOf", "(II)I"⟩
abbrev cX7_sizeOf : ByteArray := prog_9_method_24_code
def yX7_sizeOf : MethodName := ⟨RX7, "sizeOf", "(I)I"⟩
abbrev cX7_heightOf : ByteArray := prog_9_method_25_code
def yX7_heightOf : MethodName := ⟨RX7, "heightOf", "(I)I"⟩
abbrev cX7_isFulfilled : ByteArray := prog_9_method_26_code
def yX7_isFulfilled : MethodName := ⟨RX7, "isFulfilled", "(IZ)Z"⟩
abbrev cX7_runsTo : ByteArray := prog_9_method_27_code
def yX7_runsTo : MethodName := ⟨RX7, "runsTo", "(I)V"⟩
abbrev cX7_subset : ByteArray := prog_9_method_28_code
def yX7_subset : MethodName := ⟨RX7, "subset", "(I)I"⟩
abbrev cX7_subsetOf : ByteArray := prog_9_method_29_code
def yX7_subsetOf : MethodName := ⟨RX7, "subsetOf", "(I)I"⟩
abbrev cX7_isAccepted : ByteArray := prog_9_method_30_code
def yX7_isAccepted : MethodName := ⟨RX7, "isAccepted", "(I)Z"⟩
abbrev cX7_accepts : ByteArray := prog_9_method_31_code
def yX7_accepts : MethodName := ⟨RX7, "accepts", "(I)I"⟩
abbrev cX7_runCount : ByteArray := prog_9_method_32_code
def yX7_runCount : MethodName := ⟨RX7, "runCount", "(II)I"⟩
abbrev cX7_acceptedCount : ByteArray := prog_9_method_33_code
def yX7_acceptedCount : MethodName := ⟨RX7, "acceptedCount", "(I)I"⟩
abbrev cX7_acceptedTree : ByteArray := prog_9_method_34_code
def yX7_acceptedTree : MethodName := ⟨RX7, "acceptedTree", "(II)I"⟩
abbrev cX7_leads : ByteArray := prog_9_method_35_code
def yX7_leads : MethodName := ⟨RX7, "leads", "(IIIZ)I"⟩
abbrev cX7_puts : ByteArray := prog_9_method_36_code
def yX7_puts : MethodName := ⟨RX7, "puts", "(II)V"⟩
abbrev cX7_steps : ByteArray := prog_9_method_37_code
def yX7_steps : MethodName := ⟨RX7, "steps", "()Z"⟩
abbrev cX7_starts : ByteArray := prog_9_method_38_code
def yX7_starts : MethodName := ⟨RX7, "starts", "()V"⟩
abbrev cX7_counts : ByteArray := prog_9_method_39_code
def yX7_counts : MethodName := ⟨RX7, "counts", "()V"⟩
abbrev cX7_treesOfSet : ByteArray := prog_9_method_40_code
def yX7_treesOfSet : MethodName := ⟨RX7, "treesOfSet", "(I)I"⟩
abbrev cX7_reachedSets : ByteArray := prog_9_method_41_code
def yX7_reachedSets : MethodName := ⟨RX7, "reachedSets", "()I"⟩
abbrev cX7_reached : ByteArray := prog_9_method_42_code
def yX7_reached : MethodName := ⟨RX7, "reached", "()I"⟩
abbrev cX7_isReachable : ByteArray := prog_9_method_43_code
def yX7_isReachable : MethodName := ⟨RX7, "isReachable", "(I)I"⟩
abbrev cX7_isEmpty : ByteArray := prog_9_method_44_code
def yX7_isEmpty : MethodName := ⟨RX7, "isEmpty", "()I"⟩
abbrev cX7_isUniversal : ByteArray := prog_9_method_45_code
def yX7_isUniversal : MethodName := ⟨RX7, "isUniversal", "()I"⟩
abbrev cX7_isComplete : ByteArray := prog_9_method_46_code
def yX7_isComplete : MethodName := ⟨RX7, "isComplete", "()I"⟩
abbrev cX7_isDeterministic : ByteArray := prog_9_method_47_code
def yX7_isDeterministic : MethodName := ⟨RX7, "isDeterministic", "()I"⟩
abbrev cX7_leastHeight : ByteArray := prog_9_method_48_code
def yX7_leastHeight : MethodName := ⟨RX7, "leastHeight", "()I"⟩
def RJ6 : String := "java/lang/Integer"
def TJ6 : u_T := fun k => match k with
  | _ => ("", "", "", false)
def tyJ6 : Nat → FieldType := fun k => match k with
  | _ => .int
abbrev wsJ60 : List Cond := u_ws RJ6 TJ6 0
theorem nmJ6 : ∀ a, a < 0 → ∀ b, b < 0 → a ≠ b → (TJ6 a).2.1 ≠ (TJ6 b).2.1 := by decide +kernel
theorem tyJ6_ok : ∀ k, k < 0 → parseFieldDescriptor (TJ6 k).2.2.1 = some (tyJ6 k) := by decide +kernel
abbrev cJ6_bitCount_0f7a4 : ByteArray := prog_10_method_49_code
def yJ6_bitCount_0f7a4 : MethodName := ⟨RJ6, "bitCount", "(I)I"⟩
def RJ9 : String := "java/lang/Math"
def TJ9 : u_T := fun k => match k with
  | _ => ("", "", "", false)
def tyJ9 : Nat → FieldType := fun k => match k with
  | _ => .int
abbrev wsJ90 : List Cond := u_ws RJ9 TJ9 0
theorem nmJ9 : ∀ a, a < 0 → ∀ b, b < 0 → a ≠ b → (TJ9 a).2.1 ≠ (TJ9 b).2.1 := by decide +kernel
theorem tyJ9_ok : ∀ k, k < 0 → parseFieldDescriptor (TJ9 k).2.2.1 = some (tyJ9 k) := by decide +kernel
abbrev cJ9_max_7cf53 : ByteArray := prog_11_method_65_code
def yJ9_max_7cf53 : MethodName := ⟨RJ9, "max", "(II)I"⟩
abbrev cJ9_min_7cf53 : ByteArray := prog_11_method_69_code
def yJ9_min_7cf53 : MethodName := ⟨RJ9, "min", "(II)I"⟩
def RJ10 : String := "java/lang/System"
def TJ10 : u_T := fun k => match k with
  | _ => ("", "", "", false)
def tyJ10 : Nat → FieldType := fun k => match k with
  | _ => .int
abbrev wsJ100 : List Cond := u_ws RJ10 TJ10 0
theorem nmJ10 : ∀ a, a < 0 → ∀ b, b < 0 → a ≠ b → (TJ10 a).2.1 ≠ (TJ10 b).2.1 := by decide +kernel
theorem tyJ10_ok : ∀ k, k < 0 → parseFieldDescriptor (TJ10 k).2.2.1 = some (tyJ10 k) := by decide +kernel
def RJ7 : String := "java/util/Arrays"
def TJ7 : u_T := fun k => match k with
  | _ => ("", "", "", false)
def tyJ7 : Nat → FieldType := fun k => match k with
  | _ => .int
abbrev wsJ70 : List Cond := u_ws RJ7 TJ7 0
theorem nmJ7 : ∀ a, a < 0 → ∀ b, b < 0 → a ≠ b → (TJ7 a).2.1 ≠ (TJ7 b).2.1 := by decide +kernel
theorem tyJ7_ok : ∀ k, k < 0 → parseFieldDescriptor (TJ7 k).2.2.1 = some (tyJ7 k) := by decide +kernel
abbrev cJ7_fill_53178 : ByteArray := prog_13_method_103_code
def yJ7_fill_53178 : MethodName := ⟨RJ7, "fill", "([II)V"⟩
def RL : String := "BrotherAutomataLaw"
abbrev cL_law : ByteArray := code
def yL_law : MethodName := ⟨RL, "law", "([I)Z"⟩
def wsX0_init : List Cond := .code yX0_init cX0_init 1 none :: ([.methodLink RX0 3 objectInit, .instanceMethod objectInit, .code objectInit ⟨#[0xb1]⟩ 1 none, .arrayClass .int, .fieldLink RX0 9 "BrotherAutomata$Census" "numbers" "[I", .fieldLink RX0 15 "BrotherAutomata$Census" "before" "[I", .fieldLink RX0 18 "BrotherAutomata$Census" "heights" "[I"] ++ wsX00)
def wsX0_isReached : List Cond := .code yX0_isReached cX0_isReached 2 (some .boolean) :: ([.fieldLink RX0 9 "BrotherAutomata$Census" "numbers" "[I"] ++ wsX00)
def wsJ7_fill_53178 : List Cond := .code yJ7_fill_53178 cJ7_fill_53178 4 none :: ([])
def wsX3_step : List Cond := .code yX3_step cX3_step 8 (some .int) :: ([.fieldLink RX3 9 "BrotherAutomata$RuleMasks" "bySymbol" "[I", .fieldLink RX3 15 "BrotherAutomata$RuleMasks" "byFirst" "[I", .fieldLink RX3 18 "BrotherAutomata$RuleMasks" "bySecond" "[I", .fieldLink RX3 24 "BrotherAutomata$RuleMasks" "whenEqual" "I", .fieldLink RX3 28 "BrotherAutomata$RuleMasks" "whenDifferent" "I", .fieldLink RX3 21 "BrotherAutomata$RuleMasks" "targetSets" "[I"] ++ wsX30)
def wsX0_raise : List Cond := .code yX0_raise cX0_raise 3 none :: ([.fieldLink RX0 9 "BrotherAutomata$Census" "numbers" "[I", .methodLink RX0 62 Lib.Math.min.name, .static Lib.Math.min.name, .initialized "java/lang/Math", .code Lib.Math.min.name Lib.Math.min.code 2 (some .int)] ++ wsX00)
def wsX0_countConstants : List Cond := .code yX0_countConstants cX0_countConstants 3 none :: ([.methodLink RX0 48 yX3_step, .instanceMethod yX3_step, .selects RX3 yX3_step yX3_step, .initialized RX3, .code yX3_step cX3_step 8 (some .int), .fieldLink RX3 9 "BrotherAutomata$RuleMasks" "bySymbol" "[I", .fieldLink RX3 15 "BrotherAutomata$RuleMasks" "byFirst" "[I", .fieldLink RX3 18 "BrotherAutomata$RuleMasks" "bySecond" "[I", .fieldLink RX3 24 "BrotherAutomata$RuleMasks" "whenEqual" "I", .fieldLink RX3 28 "BrotherAutomata$RuleMasks" "whenDifferent" "I", .fieldLink RX3 21 "BrotherAutomata$RuleMasks" "targetSets" "[I", .methodLink RX0 54 yX0_raise, .instanceMethod yX0_raise, .selects RX0 yX0_raise yX0_raise, .initialized RX0, .code yX0_raise cX0_raise 3 none, .fieldLink RX0 9 "BrotherAutomata$Census" "numbers" "[I", .methodLink RX0 62 Lib.Math.min.name, .static Lib.Math.min.name, .initialized "java/lang/Math", .code Lib.Math.min.name Lib.Math.min.code 2 (some .int)] ++ wsX30 ++ wsX00)
def wsX0_countUnary : List Cond := .code yX0_countUnary cX0_countUnary 4 none :: ([.fieldLink RX0 15 "BrotherAutomata$Census" "before" "[I", .methodLink RX0 48 yX3_step, .instanceMethod yX3_step, .selects RX3 yX3_step yX3_step, .initialized RX3, .code yX3_step cX3_step 8 (some .int), .fieldLink RX3 9 "BrotherAutomata$RuleMasks" "bySymbol" "[I", .fieldLink RX3 15 "BrotherAutomata$RuleMasks" "byFirst" "[I", .fieldLink RX3 18 "BrotherAutomata$RuleMasks" "bySecond" "[I", .fieldLink RX3 24 "BrotherAutomata$RuleMasks" "whenEqual" "I", .fieldLink RX3 28 "BrotherAutomata$RuleMasks" "whenDifferent" "I", .fieldLink RX3 21 "BrotherAutomata$RuleMasks" "targetSets" "[I", .methodLink RX0 54 yX0_raise, .instanceMethod yX0_raise, .selects RX0 yX0_raise yX0_raise, .initialized RX0, .code yX0_raise cX0_raise 3 none, .fieldLink RX0 9 "BrotherAutomata$Census" "numbers" "[I", .methodLink RX0 62 Lib.Math.min.name, .static Lib.Math.min.name, .initialized "java/lang/Math", .code Lib.Math.min.name Lib.Math.min.code 2 (some .int)] ++ wsX00 ++ wsX30)
def wsX0_countPairs : List Cond := .code yX0_countPairs cX0_countPairs 6 none :: ([.fieldLink RX0 15 "BrotherAutomata$Census" "before" "[I", .methodLink RX0 48 yX3_step, .instanceMethod yX3_step, .selects RX3 yX3_step yX3_step, .initialized RX3, .code yX3_step cX3_step 8 (some .int), .fieldLink RX3 9 "BrotherAutomata$RuleMasks" "bySymbol" "[I", .fieldLink RX3 15 "BrotherAutomata$RuleMasks" "byFirst" "[I", .fieldLink RX3 18 "BrotherAutomata$RuleMasks" "bySecond" "[I", .fieldLink RX3 24 "BrotherAutomata$RuleMasks" "whenEqual" "I", .fieldLink RX3 28 "BrotherAutomata$RuleMasks" "whenDifferent" "I", .fieldLink RX3 21 "BrotherAutomata$RuleMasks" "targetSets" "[I", .methodLink RX0 54 yX0_raise, .instanceMethod yX0_raise, .selects RX0 yX0_raise yX0_raise, .initialized RX0, .code yX0_raise cX0_raise 3 none, .fieldLink RX0 9 "BrotherAutomata$Census" "numbers" "[I", .methodLink RX0 62 Lib.Math.min.name, .static Lib.Math.min.name, .initialized "java/lang/Math", .code Lib.Math.min.name Lib.Math.min.code 2 (some .int)] ++ wsX00 ++ wsX30)
def wsX0_countBinary_r1 : List Cond := [Cond.fieldLink RX0 15 "BrotherAutomata$Census" "before" "[I", Cond.methodLink RX0 58 yX0_countPairs, Cond.instanceMethod yX0_countPairs, Cond.selects RX0 yX0_countPairs yX0_countPairs, Cond.initialized RX0, Cond.code yX0_countPairs cX0_countPairs 6 none, Cond.methodLink RX0 48 yX3_step, Cond.instanceMethod yX3_step, Cond.selects RX3 yX3_step yX3_step, Cond.initialized RX3, Cond.code yX3_step cX3_step 8 (some .int), Cond.fieldLink RX3 9 "BrotherAutomata$RuleMasks" "bySymbol" "[I", Cond.fieldLink RX3 15 "BrotherAutomata$RuleMasks" "byFirst" "[I", Cond.fieldLink RX3 18 "BrotherAutomata$RuleMasks" "bySecond" "[I", Cond.fieldLink RX3 24 "BrotherAutomata$RuleMasks" "whenEqual" "I", Cond.fieldLink RX3 28 "BrotherAutomata$RuleMasks" "whenDifferent" "I", Cond.fieldLink RX3 21 "BrotherAutomata$RuleMasks" "targetSets" "[I", Cond.methodLink RX0 54 yX0_raise, Cond.instanceMethod yX0_raise, Cond.selects RX0 yX0_raise yX0_raise, Cond.code yX0_raise cX0_raise 3 none, Cond.fieldLink RX0 9 "BrotherAutomata$Census" "numbers" "[I", Cond.methodLink RX0 62 Lib.Math.min.name, Cond.static Lib.Math.min.name]
def wsX0_countBinary_r2 : List Cond := [Cond.initialized "java/lang/Math", Cond.code Lib.Math.min.name Lib.Math.min.code 2 (some .int)]
def wsX0_countBinary : List Cond := .code yX0_countBinary cX0_countBinary 5 none :: ((wsX0_countBinary_r1 ++ wsX0_countBinary_r2) ++ wsX00 ++ wsX30)
def wsX0_noteGrowth : List Cond := .code yX0_noteGrowth cX0_noteGrowth 5 (some .boolean) :: ([.fieldLink RX0 9 "BrotherAutomata$Census" "numbers" "[I", .fieldLink RX0 15 "BrotherAutomata$Census" "before" "[I", .fieldLink RX0 18 "BrotherAutomata$Census" "heights" "[I"] ++ wsX00)
def wsX0_take_r1 : List Cond := [Cond.fieldLink RX0 9 "BrotherAutomata$Census" "numbers" "[I", Cond.fieldLink RX0 15 "BrotherAutomata$Census" "before" "[I", Cond.methodLink RX0 27 arraycopyName, Cond.native arraycopyName, Cond.static arraycopyName, Cond.initialized "java/lang/System", Cond.methodLink RX0 21 yJ7_fill_53178, Cond.static yJ7_fill_53178, Cond.initialized RJ7, Cond.code yJ7_fill_53178 cJ7_fill_53178 4 none, Cond.methodLink RX0 33 yX0_countConstants, Cond.instanceMethod yX0_countConstants, Cond.selects RX0 yX0_countConstants yX0_countConstants, Cond.initialized RX0, Cond.code yX0_countConstants cX0_countConstants 3 none, Cond.methodLink RX0 48 yX3_step, Cond.instanceMethod yX3_step, Cond.selects RX3 yX3_step yX3_step, Cond.initialized RX3, Cond.code yX3_step cX3_step 8 (some .int), Cond.fieldLink RX3 9 "BrotherAutomata$RuleMasks" "bySymbol" "[I", Cond.fieldLink RX3 15 "BrotherAutomata$RuleMasks" "byFirst" "[I", Cond.fieldLink RX3 18 "BrotherAutomata$RuleMasks" "bySecond" "[I", Cond.fieldLink RX3 24 "BrotherAutomata$RuleMasks" "whenEqual" "I"]
def wsX0_take_r2 : List Cond := [Cond.fieldLink RX3 28 "BrotherAutomata$RuleMasks" "whenDifferent" "I", Cond.fieldLink RX3 21 "BrotherAutomata$RuleMasks" "targetSets" "[I", Cond.methodLink RX0 54 yX0_raise, Cond.instanceMethod yX0_raise, Cond.selects RX0 yX0_raise yX0_raise, Cond.code yX0_raise cX0_raise 3 none, Cond.methodLink RX0 62 Lib.Math.min.name, Cond.static Lib.Math.min.name, Cond.initialized "java/lang/Math", Cond.code Lib.Math.min.name Lib.Math.min.code 2 (some .int), Cond.methodLink RX0 37 yX0_countUnary, Cond.instanceMethod yX0_countUnary, Cond.selects RX0 yX0_countUnary yX0_countUnary, Cond.code yX0_countUnary cX0_countUnary 4 none, Cond.methodLink RX0 41 yX0_countBinary, Cond.instanceMethod yX0_countBinary, Cond.selects RX0 yX0_countBinary yX0_countBinary, Cond.code yX0_countBinary cX0_countBinary 5 none, Cond.methodLink RX0 58 yX0_countPairs, Cond.instanceMethod yX0_countPairs, Cond.selects RX0 yX0_countPairs yX0_countPairs, Cond.code yX0_countPairs cX0_countPairs 6 none, Cond.methodLink RX0 44 yX0_noteGrowth, Cond.instanceMethod yX0_noteGrowth]
def wsX0_take_r3 : List Cond := [Cond.selects RX0 yX0_noteGrowth yX0_noteGrowth, Cond.code yX0_noteGrowth cX0_noteGrowth 5 (some .boolean), Cond.fieldLink RX0 18 "BrotherAutomata$Census" "heights" "[I"]
def wsX0_take : List Cond := .code yX0_take cX0_take 5 none :: ((wsX0_take_r1 ++ (wsX0_take_r2 ++ wsX0_take_r3)) ++ wsX00 ++ wsX30)
def wsX2_init : List Cond := .code yX2_init cX2_init 1 none :: ([.methodLink RX2 3 objectInit, .instanceMethod objectInit, .code objectInit ⟨#[0xb1]⟩ 1 none, .arrayClass .int, .fieldLink RX2 9 "BrotherAutomata$RuleBook" "symbols" "[I", .fieldLink RX2 15 "BrotherAutomata$RuleBook" "firsts" "[I", .fieldLink RX2 18 "BrotherAutomata$RuleBook" "seconds" "[I", .fieldLink RX2 21 "BrotherAutomata$RuleBook" "constraints" "[I", .fieldLink RX2 24 "BrotherAutomata$RuleBook" "targets" "[I", .fieldLink RX2 27 "BrotherAutomata$RuleBook" "count" "I", .fieldLink RX2 31 "BrotherAutomata$RuleBook" "finals" "I"] ++ wsX20)
def wsX1_init : List Cond := .code yX1_init cX1_init 2 none :: ([.methodLink RX1 3 objectInit, .instanceMethod objectInit, .code objectInit ⟨#[0xb1]⟩ 1 none, .classLink RX1 9 RX2, .fieldLink RX1 11 "BrotherAutomata$History" "ring" "[LBrotherAutomata$RuleBook;", .instantiable RX2 7, .initialized RX2, .fieldLink RX1 18 "BrotherAutomata$History" "next" "I", .fieldLink RX1 22 "BrotherAutomata$History" "kept" "I", .methodLink RX1 17 yX2_init, .instanceMethod yX2_init, .code yX2_init cX2_init 1 none, .methodLink RX2 3 objectInit, .arrayClass .int, .fieldLink RX2 9 "BrotherAutomata$RuleBook" "symbols" "[I", .fieldLink RX2 15 "BrotherAutomata$RuleBook" "firsts" "[I", .fieldLink RX2 18 "BrotherAutomata$RuleBook" "seconds" "[I", .fieldLink RX2 21 "BrotherAutomata$RuleBook" "constraints" "[I", .fieldLink RX2 24 "BrotherAutomata$RuleBook" "targets" "[I", .fieldLink RX2 27 "BrotherAutomata$RuleBook" "count" "I", .fieldLink RX2 31 "BrotherAutomata$RuleBook" "finals" "I"] ++ wsX10 ++ wsX20)
def wsX1_forget : List Cond := .code yX1_forget cX1_forget 1 none :: ([.fieldLink RX1 18 "BrotherAutomata$History" "next" "I", .fieldLink RX1 22 "BrotherAutomata$History" "kept" "I"] ++ wsX10)
def wsX2_copyFrom : List Cond := .code yX2_copyFrom cX2_copyFrom 2 none :: ([.fieldLink RX2 27 "BrotherAutomata$RuleBook" "count" "I", .fieldLink RX2 31 "BrotherAutomata$RuleBook" "finals" "I", .fieldLink RX2 9 "BrotherAutomata$RuleBook" "symbols" "[I", .methodLink RX2 34 arraycopyName, .native arraycopyName, .static arraycopyName, .initialized "java/lang/System", .fieldLink RX2 15 "BrotherAutomata$RuleBook" "firsts" "[I", .fieldLink RX2 18 "BrotherAutomata$RuleBook" "seconds" "[I", .fieldLink RX2 21 "BrotherAutomata$RuleBook" "constraints" "[I", .fieldLink RX2 24 "BrotherAutomata$RuleBook" "targets" "[I"] ++ wsX20)
def wsX1_keep : List Cond := .code yX1_keep cX1_keep 2 none :: ([.fieldLink RX1 11 "BrotherAutomata$History" "ring" "[LBrotherAutomata$RuleBook;", .fieldLink RX1 18 "BrotherAutomata$History" "next" "I", .fieldLink RX1 22 "BrotherAutomata$History" "kept" "I", .methodLink RX1 29 Lib.Math.min.name, .static Lib.Math.min.name, .initialized "java/lang/Math", .code Lib.Math.min.name Lib.Math.min.code 2 (some .int), .methodLink RX1 25 yX2_copyFrom, .instanceMethod yX2_copyFrom, .selects RX2 yX2_copyFrom yX2_copyFrom, .initialized RX2, .code yX2_copyFrom cX2_copyFrom 2 none, .fieldLink RX2 27 "BrotherAutomata$RuleBook" "count" "I", .fieldLink RX2 31 "BrotherAutomata$RuleBook" "finals" "I", .fieldLink RX2 9 "BrotherAutomata$RuleBook" "symbols" "[I", .methodLink RX2 34 arraycopyName, .native arraycopyName, .static arraycopyName, .initialized "java/lang/System", .fieldLink RX2 15 "BrotherAutomata$RuleBook" "firsts" "[I", .fieldLink RX2 18 "BrotherAutomata$RuleBook" "seconds" "[I", .fieldLink RX2 21 "BrotherAutomata$RuleBook" "constraints" "[I", .fieldLink RX2 24 "BrotherAutomata$RuleBook" "targets" "[I"] ++ wsX10 ++ wsX20)
def wsX1_giveBack : List Cond := .code yX1_giveBack cX1_giveBack 2 none :: ([.fieldLink RX1 22 "BrotherAutomata$History" "kept" "I", .fieldLink RX1 18 "BrotherAutomata$History" "next" "I", .fieldLink RX1 11 "BrotherAutomata$History" "ring" "[LBrotherAutomata$RuleBook;", .methodLink RX1 25 yX2_copyFrom, .instanceMethod yX2_copyFrom, .selects RX2 yX2_copyFrom yX2_copyFrom, .initialized RX2, .code yX2_copyFrom cX2_copyFrom 2 none, .fieldLink RX2 27 "BrotherAutomata$RuleBook" "count" "I", .fieldLink RX2 31 "BrotherAutomata$RuleBook" "finals" "I", .fieldLink RX2 9 "BrotherAutomata$RuleBook" "symbols" "[I", .methodLink RX2 34 arraycopyName, .native arraycopyName, .static arraycopyName, .initialized "java/lang/System", .fieldLink RX2 15 "BrotherAutomata$RuleBook" "firsts" "[I", .fieldLink RX2 18 "BrotherAutomata$RuleBook" "seconds" "[I", .fieldLink RX2 21 "BrotherAutomata$RuleBook" "constraints" "[I", .fieldLink RX2 24 "BrotherAutomata$RuleBook" "targets" "[I"] ++ wsX10 ++ wsX20)
def wsX2_clear : List Cond := .code yX2_clear cX2_clear 1 none :: ([.fieldLink RX2 27 "BrotherAutomata$RuleBook" "count" "I", .fieldLink RX2 31 "BrotherAutomata$RuleBook" "finals" "I"] ++ wsX20)
def wsX2_markFinal : List Cond := .code yX2_markFinal cX2_markFinal 3 none :: ([.fieldLink RX2 31 "BrotherAutomata$RuleBook" "finals" "I"] ++ wsX20)
def wsX2_append : List Cond := .code yX2_append cX2_append 6 none :: ([.fieldLink RX2 27 "BrotherAutomata$RuleBook" "count" "I", .fieldLink RX2 9 "BrotherAutomata$RuleBook" "symbols" "[I", .fieldLink RX2 15 "BrotherAutomata$RuleBook" "firsts" "[I", .fieldLink RX2 18 "BrotherAutomata$RuleBook" "seconds" "[I", .fieldLink RX2 21 "BrotherAutomata$RuleBook" "constraints" "[I", .fieldLink RX2 24 "BrotherAutomata$RuleBook" "targets" "[I"] ++ wsX20)
def wsX2_closeGap : List Cond := .code yX2_closeGap cX2_closeGap 4 none :: ([.fieldLink RX2 27 "BrotherAutomata$RuleBook" "count" "I"] ++ wsX20)
def wsX2_delete : List Cond := .code yX2_delete cX2_delete 2 none :: ([.fieldLink RX2 27 "BrotherAutomata$RuleBook" "count" "I", .fieldLink RX2 9 "BrotherAutomata$RuleBook" "symbols" "[I", .fieldLink RX2 15 "BrotherAutomata$RuleBook" "firsts" "[I", .fieldLink RX2 18 "BrotherAutomata$RuleBook" "seconds" "[I", .fieldLink RX2 21 "BrotherAutomata$RuleBook" "constraints" "[I", .fieldLink RX2 24 "BrotherAutomata$RuleBook" "targets" "[I", .methodLink RX2 40 yX2_closeGap, .instanceMethod yX2_closeGap, .selects RX2 yX2_closeGap yX2_closeGap, .initialized RX2, .code yX2_closeGap cX2_closeGap 4 none] ++ wsX20)
def wsX2_contains : List Cond := .code yX2_contains cX2_contains 4 (some .boolean) :: ([.fieldLink RX2 9 "BrotherAutomata$RuleBook" "symbols" "[I", .fieldLink RX2 24 "BrotherAutomata$RuleBook" "targets" "[I", .fieldLink RX2 15 "BrotherAutomata$RuleBook" "firsts" "[I", .fieldLink RX2 18 "BrotherAutomata$RuleBook" "seconds" "[I"] ++ wsX20)
def wsX2_rulesWith : List Cond := .code yX2_rulesWith cX2_rulesWith 5 (some .int) :: ([.fieldLink RX2 27 "BrotherAutomata$RuleBook" "count" "I", .methodLink RX2 44 yX2_contains, .instanceMethod yX2_contains, .selects RX2 yX2_contains yX2_contains, .initialized RX2, .code yX2_contains cX2_contains 4 (some .boolean), .fieldLink RX2 9 "BrotherAutomata$RuleBook" "symbols" "[I", .fieldLink RX2 24 "BrotherAutomata$RuleBook" "targets" "[I", .fieldLink RX2 15 "BrotherAutomata$RuleBook" "firsts" "[I", .fieldLink RX2 18 "BrotherAutomata$RuleBook" "seconds" "[I"] ++ wsX20)
def wsX2_swapped : List Cond := .code yX2_swapped cX2_swapped 3 (some .int) :: ([])
def wsX2_exchange : List Cond := .code yX2_exchange cX2_exchange 5 none :: ([.fieldLink RX2 27 "BrotherAutomata$RuleBook" "count" "I", .fieldLink RX2 9 "BrotherAutomata$RuleBook" "symbols" "[I", .fieldLink RX2 24 "BrotherAutomata$RuleBook" "targets" "[I", .fieldLink RX2 15 "BrotherAutomata$RuleBook" "firsts" "[I", .fieldLink RX2 18 "BrotherAutomata$RuleBook" "seconds" "[I", .fieldLink RX2 31 "BrotherAutomata$RuleBook" "finals" "I", .methodLink RX2 51 yX2_swapped, .static yX2_swapped, .initialized RX2, .code yX2_swapped cX2_swapped 3 (some .int), .methodLink RX2 55 yX2_markFinal, .instanceMethod yX2_markFinal, .selects RX2 yX2_markFinal yX2_markFinal, .code yX2_markFinal cX2_markFinal 3 none] ++ wsX20)
def wsX3_init : List Cond := .code yX3_init cX3_init 1 none :: ([.methodLink RX3 3 objectInit, .instanceMethod objectInit, .code objectInit ⟨#[0xb1]⟩ 1 none, .arrayClass .int, .fieldLink RX3 9 "BrotherAutomata$RuleMasks" "bySymbol" "[I", .fieldLink RX3 15 "BrotherAutomata$RuleMasks" "byFirst" "[I", .fieldLink RX3 18 "BrotherAutomata$RuleMasks" "bySecond" "[I", .fieldLink RX3 21 "BrotherAutomata$RuleMasks" "targetSets" "[I", .fieldLink RX3 24 "BrotherAutomata$RuleMasks" "whenEqual" "I", .fieldLink RX3 28 "BrotherAutomata$RuleMasks" "whenDifferent" "I"] ++ wsX30)
def wsX3_enter : List Cond := .code yX3_enter cX3_enter 6 none :: ([.fieldLink RX3 9 "BrotherAutomata$RuleMasks" "bySymbol" "[I", .fieldLink RX3 15 "BrotherAutomata$RuleMasks" "byFirst" "[I", .fieldLink RX3 18 "BrotherAutomata$RuleMasks" "bySecond" "[I", .fieldLink RX3 21 "BrotherAutomata$RuleMasks" "targetSets" "[I", .fieldLink RX3 24 "BrotherAutomata$RuleMasks" "whenEqual" "I", .fieldLink RX3 28 "BrotherAutomata$RuleMasks" "whenDifferent" "I"] ++ wsX20 ++ wsX30)
def wsX3_spread : List Cond := .code yX3_spread cX3_spread 3 none :: ([])
def wsX3_build : List Cond := .code yX3_build cX3_build 3 none :: ([.fieldLink RX3 9 "BrotherAutomata$RuleMasks" "bySymbol" "[I", .fieldLink RX3 15 "BrotherAutomata$RuleMasks" "byFirst" "[I", .fieldLink RX3 18 "BrotherAutomata$RuleMasks" "bySecond" "[I", .fieldLink RX3 24 "BrotherAutomata$RuleMasks" "whenEqual" "I", .fieldLink RX3 28 "BrotherAutomata$RuleMasks" "whenDifferent" "I", .methodLink RX3 31 yJ7_fill_53178, .static yJ7_fill_53178, .initialized RJ7, .code yJ7_fill_53178 cJ7_fill_53178 4 none, .methodLink RX3 42 yX3_enter, .instanceMethod yX3_enter, .selects RX3 yX3_enter yX3_enter, .initialized RX3, .code yX3_enter cX3_enter 6 none, .fieldLink RX3 21 "BrotherAutomata$RuleMasks" "targetSets" "[I", .methodLink RX3 46 yX3_spread, .static yX3_spread, .code yX3_spread cX3_spread 3 none] ++ wsX30 ++ wsX20)
def wsX4_init : List Cond := .code yX4_init cX4_init 1 none :: ([.methodLink RX4 3 objectInit, .instanceMethod objectInit, .code objectInit ⟨#[0xb1]⟩ 1 none, .arrayClass .int, .fieldLink RX4 9 "BrotherAutomata$RunCounter" "nodes" "[I", .fieldLink RX4 15 "BrotherAutomata$RunCounter" "firstPlaces" "[I", .fieldLink RX4 18 "BrotherAutomata$RunCounter" "runs" "[I"] ++ wsX40)
def wsX5_symbolAt : List Cond := .code yX5_symbolAt cX5_symbolAt 2 (some .int) :: ([.fieldLink RX5 9 "BrotherAutomata$SmallTrees" "contents" "[I"] ++ wsX50)
def wsX5_arityAt : List Cond := .code yX5_arityAt cX5_arityAt 2 (some .int) :: ([.methodLink RX5 54 yX5_symbolAt, .instanceMethod yX5_symbolAt, .selects RX5 yX5_symbolAt yX5_symbolAt, .initialized RX5, .code yX5_symbolAt cX5_symbolAt 2 (some .int), .fieldLink RX5 9 "BrotherAutomata$SmallTrees" "contents" "[I"] ++ wsX50)
def wsX5_firstAt : List Cond := .code yX5_firstAt cX5_firstAt 2 (some .int) :: ([.fieldLink RX5 9 "BrotherAutomata$SmallTrees" "contents" "[I"] ++ wsX50)
def wsX5_secondAt : List Cond := .code yX5_secondAt cX5_secondAt 2 (some .int) :: ([.fieldLink RX5 9 "BrotherAutomata$SmallTrees" "contents" "[I"] ++ wsX50)
def wsX4_layOut : List Cond := .code yX4_layOut cX4_layOut 6 (some .int) :: ([.fieldLink RX4 9 "BrotherAutomata$RunCounter" "nodes" "[I", .fieldLink RX4 15 "BrotherAutomata$RunCounter" "firstPlaces" "[I", .methodLink RX4 35 yX5_arityAt, .instanceMethod yX5_arityAt, .selects RX5 yX5_arityAt yX5_arityAt, .initialized RX5, .code yX5_arityAt cX5_arityAt 2 (some .int), .methodLink RX5 54 yX5_symbolAt, .instanceMethod yX5_symbolAt, .selects RX5 yX5_symbolAt yX5_symbolAt, .code yX5_symbolAt cX5_symbolAt 2 (some .int), .fieldLink RX5 9 "BrotherAutomata$SmallTrees" "contents" "[I", .methodLink RX4 41 yX5_firstAt, .instanceMethod yX5_firstAt, .selects RX5 yX5_firstAt yX5_firstAt, .code yX5_firstAt cX5_firstAt 2 (some .int), .methodLink RX4 44 yX5_secondAt, .instanceMethod yX5_secondAt, .selects RX5 yX5_secondAt yX5_secondAt, .code yX5_secondAt cX5_secondAt 2 (some .int)] ++ wsX40 ++ wsX50)
def wsX4_waysBelow : List Cond := .code yX4_waysBelow cX4_waysBelow 7 (some .int) :: ([.fieldLink RX4 15 "BrotherAutomata$RunCounter" "firstPlaces" "[I", .fieldLink RX4 18 "BrotherAutomata$RunCounter" "runs" "[I"] ++ wsX20 ++ wsX40)
def wsX4_countAt : List Cond := .code yX4_countAt cX4_countAt 8 none :: ([.fieldLink RX4 9 "BrotherAutomata$RunCounter" "nodes" "[I", .fieldLink RX4 18 "BrotherAutomata$RunCounter" "runs" "[I", .methodLink RX4 47 yX5_symbolAt, .instanceMethod yX5_symbolAt, .selects RX5 yX5_symbolAt yX5_symbolAt, .initialized RX5, .code yX5_symbolAt cX5_symbolAt 2 (some .int), .fieldLink RX5 9 "BrotherAutomata$SmallTrees" "contents" "[I", .methodLink RX4 41 yX5_firstAt, .instanceMethod yX5_firstAt, .selects RX5 yX5_firstAt yX5_firstAt, .code yX5_firstAt cX5_firstAt 2 (some .int), .methodLink RX4 44 yX5_secondAt, .instanceMethod yX5_secondAt, .selects RX5 yX5_secondAt yX5_secondAt, .code yX5_secondAt cX5_secondAt 2 (some .int), .methodLink RX4 65 yX4_waysBelow, .instanceMethod yX4_waysBelow, .selects RX4 yX4_waysBelow yX4_waysBelow, .initialized RX4, .code yX4_waysBelow cX4_waysBelow 7 (some .int), .fieldLink RX4 15 "BrotherAutomata$RunCounter" "firstPlaces" "[I"] ++ wsX40 ++ wsX20 ++ wsX50)
def wsX4_count_r1 : List Cond := [Cond.fieldLink RX4 18 "BrotherAutomata$RunCounter" "runs" "[I", Cond.methodLink RX4 21 yX4_layOut, Cond.instanceMethod yX4_layOut, Cond.selects RX4 yX4_layOut yX4_layOut, Cond.initialized RX4, Cond.code yX4_layOut cX4_layOut 6 (some .int), Cond.fieldLink RX4 9 "BrotherAutomata$RunCounter" "nodes" "[I", Cond.fieldLink RX4 15 "BrotherAutomata$RunCounter" "firstPlaces" "[I", Cond.methodLink RX4 35 yX5_arityAt, Cond.instanceMethod yX5_arityAt, Cond.selects RX5 yX5_arityAt yX5_arityAt, Cond.initialized RX5, Cond.code yX5_arityAt cX5_arityAt 2 (some .int), Cond.methodLink RX5 54 yX5_symbolAt, Cond.instanceMethod yX5_symbolAt, Cond.selects RX5 yX5_symbolAt yX5_symbolAt, Cond.code yX5_symbolAt cX5_symbolAt 2 (some .int), Cond.fieldLink RX5 9 "BrotherAutomata$SmallTrees" "contents" "[I", Cond.methodLink RX4 41 yX5_firstAt, Cond.instanceMethod yX5_firstAt, Cond.selects RX5 yX5_firstAt yX5_firstAt, Cond.code yX5_firstAt cX5_firstAt 2 (some .int), Cond.methodLink RX4 44 yX5_secondAt, Cond.instanceMethod yX5_secondAt]
def wsX4_count_r2 : List Cond := [Cond.selects RX5 yX5_secondAt yX5_secondAt, Cond.code yX5_secondAt cX5_secondAt 2 (some .int), Cond.methodLink RX4 25 yJ7_fill_53178, Cond.static yJ7_fill_53178, Cond.initialized RJ7, Cond.code yJ7_fill_53178 cJ7_fill_53178 4 none, Cond.methodLink RX4 31 yX4_countAt, Cond.instanceMethod yX4_countAt, Cond.selects RX4 yX4_countAt yX4_countAt, Cond.code yX4_countAt cX4_countAt 8 none, Cond.methodLink RX4 47 yX5_symbolAt, Cond.methodLink RX4 65 yX4_waysBelow, Cond.instanceMethod yX4_waysBelow, Cond.selects RX4 yX4_waysBelow yX4_waysBelow, Cond.code yX4_waysBelow cX4_waysBelow 7 (some .int)]
def wsX4_count : List Cond := .code yX4_count cX4_count 7 (some .int) :: ((wsX4_count_r1 ++ wsX4_count_r2) ++ wsX40 ++ wsX50 ++ wsX20)
def wsX5_content : List Cond := .code yX5_content cX5_content 3 (some .int) :: ([])
def wsX5_make : List Cond := .code yX5_make cX5_make 4 none :: ([.fieldLink RX5 18 "BrotherAutomata$SmallTrees" "made" "I", .fieldLink RX5 9 "BrotherAutomata$SmallTrees" "contents" "[I", .fieldLink RX5 15 "BrotherAutomata$SmallTrees" "heights" "[I", .methodLink RX5 48 Lib.Math.max.name, .static Lib.Math.max.name, .initialized "java/lang/Math", .code Lib.Math.max.name Lib.Math.max.code 2 (some .int), .methodLink RX5 41 yX5_content, .static yX5_content, .initialized RX5, .code yX5_content cX5_content 3 (some .int)] ++ wsX50)
def wsX5_makeUnary : List Cond := .code yX5_makeUnary cX5_makeUnary 3 none :: ([.methodLink RX5 22 yX5_make, .instanceMethod yX5_make, .selects RX5 yX5_make yX5_make, .initialized RX5, .code yX5_make cX5_make 4 none, .fieldLink RX5 18 "BrotherAutomata$SmallTrees" "made" "I", .fieldLink RX5 9 "BrotherAutomata$SmallTrees" "contents" "[I", .fieldLink RX5 15 "BrotherAutomata$SmallTrees" "heights" "[I", .methodLink RX5 48 Lib.Math.max.name, .static Lib.Math.max.name, .initialized "java/lang/Math", .code Lib.Math.max.name Lib.Math.max.code 2 (some .int), .methodLink RX5 41 yX5_content, .static yX5_content, .code yX5_content cX5_content 3 (some .int)] ++ wsX50)
def wsX6_sizeAt : List Cond := .code yX6_sizeAt cX6_sizeAt 2 (some .int) :: ([.fieldLink RX6 131 "BrotherAutomata" "START" "[I"])
def wsX5_makeBinary : List Cond := .code yX5_makeBinary cX5_makeBinary 6 none :: ([.static yX6_sizeAt, .initialized RX6, .code yX6_sizeAt cX6_sizeAt 2 (some .int), .fieldLink RX6 131 "BrotherAutomata" "START" "[I", .methodLink RX5 22 yX5_make, .instanceMethod yX5_make, .selects RX5 yX5_make yX5_make, .initialized RX5, .code yX5_make cX5_make 4 none, .fieldLink RX5 18 "BrotherAutomata$SmallTrees" "made" "I", .fieldLink RX5 9 "BrotherAutomata$SmallTrees" "contents" "[I", .fieldLink RX5 15 "BrotherAutomata$SmallTrees" "heights" "[I", .methodLink RX5 48 Lib.Math.max.name, .static Lib.Math.max.name, .initialized "java/lang/Math", .code Lib.Math.max.name Lib.Math.max.code 2 (some .int), .methodLink RX5 41 yX5_content, .static yX5_content, .code yX5_content cX5_content 3 (some .int)] ++ wsX50)
def wsX5_init_r1 : List Cond := [Cond.methodLink RX5 3 objectInit, Cond.instanceMethod objectInit, Cond.code objectInit ⟨#[0xb1]⟩ 1 none, Cond.arrayClass .int, Cond.fieldLink RX5 9 "BrotherAutomata$SmallTrees" "contents" "[I", Cond.fieldLink RX5 15 "BrotherAutomata$SmallTrees" "heights" "[I", Cond.fieldLink RX5 18 "BrotherAutomata$SmallTrees" "made" "I", Cond.methodLink RX5 22 yX5_make, Cond.instanceMethod yX5_make, Cond.selects RX5 yX5_make yX5_make, Cond.initialized RX5, Cond.code yX5_make cX5_make 4 none, Cond.methodLink RX5 48 Lib.Math.max.name, Cond.static Lib.Math.max.name, Cond.initialized "java/lang/Math", Cond.code Lib.Math.max.name Lib.Math.max.code 2 (some .int), Cond.methodLink RX5 41 yX5_content, Cond.static yX5_content, Cond.code yX5_content cX5_content 3 (some .int), Cond.methodLink RX5 26 yX5_makeUnary, Cond.instanceMethod yX5_makeUnary, Cond.selects RX5 yX5_makeUnary yX5_makeUnary, Cond.code yX5_makeUnary cX5_makeUnary 3 none, Cond.methodLink RX5 30 yX5_makeBinary]
def wsX5_init_r2 : List Cond := [Cond.instanceMethod yX5_makeBinary, Cond.selects RX5 yX5_makeBinary yX5_makeBinary, Cond.code yX5_makeBinary cX5_makeBinary 6 none, Cond.static yX6_sizeAt, Cond.initialized RX6, Cond.code yX6_sizeAt cX6_sizeAt 2 (some .int), Cond.fieldLink RX6 131 "BrotherAutomata" "START" "[I"]
def wsX5_init : List Cond := .code yX5_init cX5_init 2 none :: ((wsX5_init_r1 ++ wsX5_init_r2) ++ wsX50)
def wsX5_find : List Cond := .code yX5_find cX5_find 7 (some .int) :: ([.fieldLink RX5 9 "BrotherAutomata$SmallTrees" "contents" "[I", .static yX6_sizeAt, .initialized RX6, .code yX6_sizeAt cX6_sizeAt 2 (some .int), .fieldLink RX6 131 "BrotherAutomata" "START" "[I", .methodLink RX5 41 yX5_content, .static yX5_content, .initialized RX5, .code yX5_content cX5_content 3 (some .int)] ++ wsX50)
def wsX6_init_r1 : List Cond := [Cond.methodLink RX6 1 objectInit, Cond.instanceMethod objectInit, Cond.code objectInit ⟨#[0xb1]⟩ 1 none, Cond.classLink RX6 7 RX5, Cond.instantiable RX5 3, Cond.initialized RX5, Cond.fieldLink RX6 10 "BrotherAutomata" "trees" "LBrotherAutomata$SmallTrees;", Cond.classLink RX6 16 RX2, Cond.instantiable RX2 7, Cond.initialized RX2, Cond.fieldLink RX6 19 "BrotherAutomata" "book" "LBrotherAutomata$RuleBook;", Cond.classLink RX6 23 RX1, Cond.instantiable RX1 3, Cond.initialized RX1, Cond.fieldLink RX6 26 "BrotherAutomata" "history" "LBrotherAutomata$History;", Cond.classLink RX6 30 RX3, Cond.instantiable RX3 6, Cond.initialized RX3, Cond.fieldLink RX6 33 "BrotherAutomata" "masks" "LBrotherAutomata$RuleMasks;", Cond.classLink RX6 37 RX4, Cond.instantiable RX4 3, Cond.initialized RX4, Cond.fieldLink RX6 40 "BrotherAutomata" "runCounter" "LBrotherAutomata$RunCounter;", Cond.classLink RX6 44 RX0]
def wsX6_init_r2 : List Cond := [Cond.instantiable RX0 3, Cond.initialized RX0, Cond.fieldLink RX6 47 "BrotherAutomata" "census" "LBrotherAutomata$Census;", Cond.arrayClass .int, Cond.fieldLink RX6 51 "BrotherAutomata" "subsets" "[I", Cond.fieldLink RX6 55 "BrotherAutomata" "subsetsKnown" "I", Cond.fieldLink RX6 59 "BrotherAutomata" "censusKnown" "Z", Cond.fieldLink RX6 63 "BrotherAutomata" "states" "I", Cond.methodLink RX6 9 yX5_init, Cond.instanceMethod yX5_init, Cond.code yX5_init cX5_init 2 none, Cond.methodLink RX5 3 objectInit, Cond.fieldLink RX5 9 "BrotherAutomata$SmallTrees" "contents" "[I", Cond.fieldLink RX5 15 "BrotherAutomata$SmallTrees" "heights" "[I", Cond.fieldLink RX5 18 "BrotherAutomata$SmallTrees" "made" "I", Cond.methodLink RX5 22 yX5_make, Cond.instanceMethod yX5_make, Cond.selects RX5 yX5_make yX5_make, Cond.code yX5_make cX5_make 4 none, Cond.methodLink RX5 48 Lib.Math.max.name, Cond.static Lib.Math.max.name, Cond.initialized "java/lang/Math", Cond.code Lib.Math.max.name Lib.Math.max.code 2 (some .int), Cond.methodLink RX5 41 yX5_content]
def wsX6_init_r3 : List Cond := [Cond.static yX5_content, Cond.code yX5_content cX5_content 3 (some .int), Cond.methodLink RX5 26 yX5_makeUnary, Cond.instanceMethod yX5_makeUnary, Cond.selects RX5 yX5_makeUnary yX5_makeUnary, Cond.code yX5_makeUnary cX5_makeUnary 3 none, Cond.methodLink RX5 30 yX5_makeBinary, Cond.instanceMethod yX5_makeBinary, Cond.selects RX5 yX5_makeBinary yX5_makeBinary, Cond.code yX5_makeBinary cX5_makeBinary 6 none, Cond.static yX6_sizeAt, Cond.initialized RX6, Cond.code yX6_sizeAt cX6_sizeAt 2 (some .int), Cond.fieldLink RX6 131 "BrotherAutomata" "START" "[I", Cond.methodLink RX6 18 yX2_init, Cond.instanceMethod yX2_init, Cond.code yX2_init cX2_init 1 none, Cond.methodLink RX2 3 objectInit, Cond.fieldLink RX2 9 "BrotherAutomata$RuleBook" "symbols" "[I", Cond.fieldLink RX2 15 "BrotherAutomata$RuleBook" "firsts" "[I", Cond.fieldLink RX2 18 "BrotherAutomata$RuleBook" "seconds" "[I", Cond.fieldLink RX2 21 "BrotherAutomata$RuleBook" "constraints" "[I", Cond.fieldLink RX2 24 "BrotherAutomata$RuleBook" "targets" "[I", Cond.fieldLink RX2 27 "BrotherAutomata$RuleBook" "count" "I"]
def wsX6_init_r4 : List Cond := [Cond.fieldLink RX2 31 "BrotherAutomata$RuleBook" "finals" "I", Cond.methodLink RX6 25 yX1_init, Cond.instanceMethod yX1_init, Cond.code yX1_init cX1_init 2 none, Cond.methodLink RX1 3 objectInit, Cond.classLink RX1 9 RX2, Cond.fieldLink RX1 11 "BrotherAutomata$History" "ring" "[LBrotherAutomata$RuleBook;", Cond.fieldLink RX1 18 "BrotherAutomata$History" "next" "I", Cond.fieldLink RX1 22 "BrotherAutomata$History" "kept" "I", Cond.methodLink RX1 17 yX2_init, Cond.methodLink RX6 32 yX3_init, Cond.instanceMethod yX3_init, Cond.code yX3_init cX3_init 1 none, Cond.methodLink RX3 3 objectInit, Cond.fieldLink RX3 9 "BrotherAutomata$RuleMasks" "bySymbol" "[I", Cond.fieldLink RX3 15 "BrotherAutomata$RuleMasks" "byFirst" "[I", Cond.fieldLink RX3 18 "BrotherAutomata$RuleMasks" "bySecond" "[I", Cond.fieldLink RX3 21 "BrotherAutomata$RuleMasks" "targetSets" "[I", Cond.fieldLink RX3 24 "BrotherAutomata$RuleMasks" "whenEqual" "I", Cond.fieldLink RX3 28 "BrotherAutomata$RuleMasks" "whenDifferent" "I", Cond.methodLink RX6 39 yX4_init, Cond.instanceMethod yX4_init, Cond.code yX4_init cX4_init 1 none, Cond.methodLink RX4 3 objectInit]
def wsX6_init_r5 : List Cond := [Cond.fieldLink RX4 9 "BrotherAutomata$RunCounter" "nodes" "[I", Cond.fieldLink RX4 15 "BrotherAutomata$RunCounter" "firstPlaces" "[I", Cond.fieldLink RX4 18 "BrotherAutomata$RunCounter" "runs" "[I", Cond.methodLink RX6 46 yX0_init, Cond.instanceMethod yX0_init, Cond.code yX0_init cX0_init 1 none, Cond.methodLink RX0 3 objectInit, Cond.fieldLink RX0 9 "BrotherAutomata$Census" "numbers" "[I", Cond.fieldLink RX0 15 "BrotherAutomata$Census" "before" "[I", Cond.fieldLink RX0 18 "BrotherAutomata$Census" "heights" "[I"]
def wsX6_init : List Cond := .code yX6_init cX6_init 1 none :: ((wsX6_init_r1 ++ (wsX6_init_r2 ++ (wsX6_init_r3 ++ (wsX6_init_r4 ++ wsX6_init_r5)))) ++ wsX50 ++ wsX60 ++ wsX20 ++ wsX10 ++ wsX30 ++ wsX40 ++ wsX00)
def wsX6_renewRuns_r1 : List Cond := [Cond.fieldLink RX6 33 "BrotherAutomata" "masks" "LBrotherAutomata$RuleMasks;", Cond.fieldLink RX6 19 "BrotherAutomata" "book" "LBrotherAutomata$RuleBook;", Cond.fieldLink RX6 55 "BrotherAutomata" "subsetsKnown" "I", Cond.fieldLink RX6 59 "BrotherAutomata" "censusKnown" "Z", Cond.methodLink RX6 194 yX3_build, Cond.instanceMethod yX3_build, Cond.selects RX3 yX3_build yX3_build, Cond.initialized RX3, Cond.code yX3_build cX3_build 3 none, Cond.fieldLink RX3 9 "BrotherAutomata$RuleMasks" "bySymbol" "[I", Cond.fieldLink RX3 15 "BrotherAutomata$RuleMasks" "byFirst" "[I", Cond.fieldLink RX3 18 "BrotherAutomata$RuleMasks" "bySecond" "[I", Cond.fieldLink RX3 24 "BrotherAutomata$RuleMasks" "whenEqual" "I", Cond.fieldLink RX3 28 "BrotherAutomata$RuleMasks" "whenDifferent" "I", Cond.methodLink RX3 31 yJ7_fill_53178, Cond.static yJ7_fill_53178, Cond.initialized RJ7, Cond.code yJ7_fill_53178 cJ7_fill_53178 4 none, Cond.methodLink RX3 42 yX3_enter, Cond.instanceMethod yX3_enter, Cond.selects RX3 yX3_enter yX3_enter, Cond.code yX3_enter cX3_enter 6 none, Cond.fieldLink RX3 21 "BrotherAutomata$RuleMasks" "targetSets" "[I", Cond.methodLink RX3 46 yX3_spread]
def wsX6_renewRuns_r2 : List Cond := [Cond.static yX3_spread, Cond.code yX3_spread cX3_spread 3 none]
def wsX6_renewRuns : List Cond := .code yX6_renewRuns cX6_renewRuns 1 none :: ((wsX6_renewRuns_r1 ++ wsX6_renewRuns_r2) ++ wsX60 ++ wsX30 ++ wsX20)
def wsX6_reset_r1 : List Cond := [Cond.fieldLink RX6 63 "BrotherAutomata" "states" "I", Cond.fieldLink RX6 19 "BrotherAutomata" "book" "LBrotherAutomata$RuleBook;", Cond.fieldLink RX6 26 "BrotherAutomata" "history" "LBrotherAutomata$History;", Cond.methodLink RX6 66 yX2_clear, Cond.instanceMethod yX2_clear, Cond.selects RX2 yX2_clear yX2_clear, Cond.initialized RX2, Cond.code yX2_clear cX2_clear 1 none, Cond.fieldLink RX2 27 "BrotherAutomata$RuleBook" "count" "I", Cond.fieldLink RX2 31 "BrotherAutomata$RuleBook" "finals" "I", Cond.methodLink RX6 69 yX1_forget, Cond.instanceMethod yX1_forget, Cond.selects RX1 yX1_forget yX1_forget, Cond.initialized RX1, Cond.code yX1_forget cX1_forget 1 none, Cond.fieldLink RX1 18 "BrotherAutomata$History" "next" "I", Cond.fieldLink RX1 22 "BrotherAutomata$History" "kept" "I", Cond.methodLink RX6 72 yX6_renewRuns, Cond.instanceMethod yX6_renewRuns, Cond.selects RX6 yX6_renewRuns yX6_renewRuns, Cond.initialized RX6, Cond.code yX6_renewRuns cX6_renewRuns 1 none, Cond.fieldLink RX6 33 "BrotherAutomata" "masks" "LBrotherAutomata$RuleMasks;", Cond.fieldLink RX6 55 "BrotherAutomata" "subsetsKnown" "I"]
def wsX6_reset_r2 : List Cond := [Cond.fieldLink RX6 59 "BrotherAutomata" "censusKnown" "Z", Cond.methodLink RX6 194 yX3_build, Cond.instanceMethod yX3_build, Cond.selects RX3 yX3_build yX3_build, Cond.initialized RX3, Cond.code yX3_build cX3_build 3 none, Cond.fieldLink RX3 9 "BrotherAutomata$RuleMasks" "bySymbol" "[I", Cond.fieldLink RX3 15 "BrotherAutomata$RuleMasks" "byFirst" "[I", Cond.fieldLink RX3 18 "BrotherAutomata$RuleMasks" "bySecond" "[I", Cond.fieldLink RX3 24 "BrotherAutomata$RuleMasks" "whenEqual" "I", Cond.fieldLink RX3 28 "BrotherAutomata$RuleMasks" "whenDifferent" "I", Cond.methodLink RX3 31 yJ7_fill_53178, Cond.static yJ7_fill_53178, Cond.initialized RJ7, Cond.code yJ7_fill_53178 cJ7_fill_53178 4 none, Cond.methodLink RX3 42 yX3_enter, Cond.instanceMethod yX3_enter, Cond.selects RX3 yX3_enter yX3_enter, Cond.code yX3_enter cX3_enter 6 none, Cond.fieldLink RX3 21 "BrotherAutomata$RuleMasks" "targetSets" "[I", Cond.methodLink RX3 46 yX3_spread, Cond.static yX3_spread, Cond.code yX3_spread cX3_spread 3 none]
def wsX6_reset : List Cond := .code yX6_reset cX6_reset 3 (some .int) :: ((wsX6_reset_r1 ++ wsX6_reset_r2) ++ wsX60 ++ wsX20 ++ wsX10 ++ wsX30)
def wsX6_isState : List Cond := .code yX6_isState cX6_isState 2 (some .boolean) :: ([.fieldLink RX6 63 "BrotherAutomata" "states" "I"] ++ wsX60)
def wsJ6_bitCount_0f7a4 : List Cond := .code yJ6_bitCount_0f7a4 cJ6_bitCount_0f7a4 1 (some .int) :: ([.constant RJ6 265 (1431655765), .constant RJ6 266 (858993459), .constant RJ6 267 (252645135)])
def wsX6_setFinal_r1 : List Cond := [Cond.fieldLink RX6 26 "BrotherAutomata" "history" "LBrotherAutomata$History;", Cond.fieldLink RX6 19 "BrotherAutomata" "book" "LBrotherAutomata$RuleBook;", Cond.methodLink RX6 75 yX6_isState, Cond.instanceMethod yX6_isState, Cond.selects RX6 yX6_isState yX6_isState, Cond.initialized RX6, Cond.code yX6_isState cX6_isState 2 (some .boolean), Cond.fieldLink RX6 63 "BrotherAutomata" "states" "I", Cond.methodLink RX6 79 yX1_keep, Cond.instanceMethod yX1_keep, Cond.selects RX1 yX1_keep yX1_keep, Cond.initialized RX1, Cond.code yX1_keep cX1_keep 2 none, Cond.fieldLink RX1 11 "BrotherAutomata$History" "ring" "[LBrotherAutomata$RuleBook;", Cond.fieldLink RX1 18 "BrotherAutomata$History" "next" "I", Cond.fieldLink RX1 22 "BrotherAutomata$History" "kept" "I", Cond.methodLink RX1 29 Lib.Math.min.name, Cond.static Lib.Math.min.name, Cond.initialized "java/lang/Math", Cond.code Lib.Math.min.name Lib.Math.min.code 2 (some .int), Cond.methodLink RX1 25 yX2_copyFrom, Cond.instanceMethod yX2_copyFrom, Cond.selects RX2 yX2_copyFrom yX2_copyFrom, Cond.initialized RX2]
def wsX6_setFinal_r2 : List Cond := [Cond.code yX2_copyFrom cX2_copyFrom 2 none, Cond.fieldLink RX2 27 "BrotherAutomata$RuleBook" "count" "I", Cond.fieldLink RX2 31 "BrotherAutomata$RuleBook" "finals" "I", Cond.fieldLink RX2 9 "BrotherAutomata$RuleBook" "symbols" "[I", Cond.methodLink RX2 34 arraycopyName, Cond.native arraycopyName, Cond.static arraycopyName, Cond.initialized "java/lang/System", Cond.fieldLink RX2 15 "BrotherAutomata$RuleBook" "firsts" "[I", Cond.fieldLink RX2 18 "BrotherAutomata$RuleBook" "seconds" "[I", Cond.fieldLink RX2 21 "BrotherAutomata$RuleBook" "constraints" "[I", Cond.fieldLink RX2 24 "BrotherAutomata$RuleBook" "targets" "[I", Cond.methodLink RX6 83 yX2_markFinal, Cond.instanceMethod yX2_markFinal, Cond.selects RX2 yX2_markFinal yX2_markFinal, Cond.code yX2_markFinal cX2_markFinal 3 none, Cond.methodLink RX6 90 yJ6_bitCount_0f7a4, Cond.static yJ6_bitCount_0f7a4, Cond.initialized RJ6, Cond.code yJ6_bitCount_0f7a4 cJ6_bitCount_0f7a4 1 (some .int), Cond.constant RJ6 265 (1431655765), Cond.constant RJ6 266 (858993459), Cond.constant RJ6 267 (252645135)]
def wsX6_setFinal : List Cond := .code yX6_setFinal cX6_setFinal 3 (some .int) :: ((wsX6_setFinal_r1 ++ wsX6_setFinal_r2) ++ wsX60 ++ wsX20 ++ wsX10)
def wsX6_isSymbol : List Cond := .code yX6_isSymbol cX6_isSymbol 1 (some .boolean) :: ([])
def wsX6_isChildState : List Cond := .code yX6_isChildState cX6_isChildState 3 (some .boolean) :: ([.methodLink RX6 75 yX6_isState, .instanceMethod yX6_isState, .selects RX6 yX6_isState yX6_isState, .initialized RX6, .code yX6_isState cX6_isState 2 (some .boolean), .fieldLink RX6 63 "BrotherAutomata" "states" "I"] ++ wsX60)
def wsX6_isConstraint : List Cond := .code yX6_isConstraint cX6_isConstraint 2 (some .boolean) :: ([])
def wsX6_addRule_r1 : List Cond := [Cond.fieldLink RX6 99 "BrotherAutomata" "ARITY" "[I", Cond.fieldLink RX6 19 "BrotherAutomata" "book" "LBrotherAutomata$RuleBook;", Cond.fieldLink RX6 26 "BrotherAutomata" "history" "LBrotherAutomata$History;", Cond.methodLink RX6 96 yX6_isSymbol, Cond.static yX6_isSymbol, Cond.initialized RX6, Cond.code yX6_isSymbol cX6_isSymbol 1 (some .boolean), Cond.methodLink RX6 75 yX6_isState, Cond.instanceMethod yX6_isState, Cond.selects RX6 yX6_isState yX6_isState, Cond.code yX6_isState cX6_isState 2 (some .boolean), Cond.fieldLink RX6 63 "BrotherAutomata" "states" "I", Cond.methodLink RX6 102 yX6_isChildState, Cond.instanceMethod yX6_isChildState, Cond.selects RX6 yX6_isChildState yX6_isChildState, Cond.code yX6_isChildState cX6_isChildState 3 (some .boolean), Cond.methodLink RX6 106 yX6_isConstraint, Cond.static yX6_isConstraint, Cond.code yX6_isConstraint cX6_isConstraint 2 (some .boolean), Cond.methodLink RX6 79 yX1_keep, Cond.instanceMethod yX1_keep, Cond.selects RX1 yX1_keep yX1_keep, Cond.initialized RX1, Cond.code yX1_keep cX1_keep 2 none]
def wsX6_addRule_r2 : List Cond := [Cond.fieldLink RX1 11 "BrotherAutomata$History" "ring" "[LBrotherAutomata$RuleBook;", Cond.fieldLink RX1 18 "BrotherAutomata$History" "next" "I", Cond.fieldLink RX1 22 "BrotherAutomata$History" "kept" "I", Cond.methodLink RX1 29 Lib.Math.min.name, Cond.static Lib.Math.min.name, Cond.initialized "java/lang/Math", Cond.code Lib.Math.min.name Lib.Math.min.code 2 (some .int), Cond.methodLink RX1 25 yX2_copyFrom, Cond.instanceMethod yX2_copyFrom, Cond.selects RX2 yX2_copyFrom yX2_copyFrom, Cond.initialized RX2, Cond.code yX2_copyFrom cX2_copyFrom 2 none, Cond.fieldLink RX2 27 "BrotherAutomata$RuleBook" "count" "I", Cond.fieldLink RX2 31 "BrotherAutomata$RuleBook" "finals" "I", Cond.fieldLink RX2 9 "BrotherAutomata$RuleBook" "symbols" "[I", Cond.methodLink RX2 34 arraycopyName, Cond.native arraycopyName, Cond.static arraycopyName, Cond.initialized "java/lang/System", Cond.fieldLink RX2 15 "BrotherAutomata$RuleBook" "firsts" "[I", Cond.fieldLink RX2 18 "BrotherAutomata$RuleBook" "seconds" "[I", Cond.fieldLink RX2 21 "BrotherAutomata$RuleBook" "constraints" "[I", Cond.fieldLink RX2 24 "BrotherAutomata$RuleBook" "targets" "[I", Cond.methodLink RX6 112 yX2_append]
def wsX6_addRule_r3 : List Cond := [Cond.instanceMethod yX2_append, Cond.selects RX2 yX2_append yX2_append, Cond.code yX2_append cX2_append 6 none, Cond.methodLink RX6 72 yX6_renewRuns, Cond.instanceMethod yX6_renewRuns, Cond.selects RX6 yX6_renewRuns yX6_renewRuns, Cond.code yX6_renewRuns cX6_renewRuns 1 none, Cond.fieldLink RX6 33 "BrotherAutomata" "masks" "LBrotherAutomata$RuleMasks;", Cond.fieldLink RX6 55 "BrotherAutomata" "subsetsKnown" "I", Cond.fieldLink RX6 59 "BrotherAutomata" "censusKnown" "Z", Cond.methodLink RX6 194 yX3_build, Cond.instanceMethod yX3_build, Cond.selects RX3 yX3_build yX3_build, Cond.initialized RX3, Cond.code yX3_build cX3_build 3 none, Cond.fieldLink RX3 9 "BrotherAutomata$RuleMasks" "bySymbol" "[I", Cond.fieldLink RX3 15 "BrotherAutomata$RuleMasks" "byFirst" "[I", Cond.fieldLink RX3 18 "BrotherAutomata$RuleMasks" "bySecond" "[I", Cond.fieldLink RX3 24 "BrotherAutomata$RuleMasks" "whenEqual" "I", Cond.fieldLink RX3 28 "BrotherAutomata$RuleMasks" "whenDifferent" "I", Cond.methodLink RX3 31 yJ7_fill_53178, Cond.static yJ7_fill_53178, Cond.initialized RJ7, Cond.code yJ7_fill_53178 cJ7_fill_53178 4 none]
def wsX6_addRule_r4 : List Cond := [Cond.methodLink RX3 42 yX3_enter, Cond.instanceMethod yX3_enter, Cond.selects RX3 yX3_enter yX3_enter, Cond.code yX3_enter cX3_enter 6 none, Cond.fieldLink RX3 21 "BrotherAutomata$RuleMasks" "targetSets" "[I", Cond.methodLink RX3 46 yX3_spread, Cond.static yX3_spread, Cond.code yX3_spread cX3_spread 3 none]
def wsX6_addRule : List Cond := .code yX6_addRule cX6_addRule 6 (some .int) :: ((wsX6_addRule_r1 ++ (wsX6_addRule_r2 ++ (wsX6_addRule_r3 ++ wsX6_addRule_r4))) ++ wsX60 ++ wsX20 ++ wsX10 ++ wsX30)
def wsX6_removeRule_r1 : List Cond := [Cond.fieldLink RX6 19 "BrotherAutomata" "book" "LBrotherAutomata$RuleBook;", Cond.fieldLink RX6 26 "BrotherAutomata" "history" "LBrotherAutomata$History;", Cond.methodLink RX6 79 yX1_keep, Cond.instanceMethod yX1_keep, Cond.selects RX1 yX1_keep yX1_keep, Cond.initialized RX1, Cond.code yX1_keep cX1_keep 2 none, Cond.fieldLink RX1 11 "BrotherAutomata$History" "ring" "[LBrotherAutomata$RuleBook;", Cond.fieldLink RX1 18 "BrotherAutomata$History" "next" "I", Cond.fieldLink RX1 22 "BrotherAutomata$History" "kept" "I", Cond.methodLink RX1 29 Lib.Math.min.name, Cond.static Lib.Math.min.name, Cond.initialized "java/lang/Math", Cond.code Lib.Math.min.name Lib.Math.min.code 2 (some .int), Cond.methodLink RX1 25 yX2_copyFrom, Cond.instanceMethod yX2_copyFrom, Cond.selects RX2 yX2_copyFrom yX2_copyFrom, Cond.initialized RX2, Cond.code yX2_copyFrom cX2_copyFrom 2 none, Cond.fieldLink RX2 27 "BrotherAutomata$RuleBook" "count" "I", Cond.fieldLink RX2 31 "BrotherAutomata$RuleBook" "finals" "I", Cond.fieldLink RX2 9 "BrotherAutomata$RuleBook" "symbols" "[I", Cond.methodLink RX2 34 arraycopyName, Cond.native arraycopyName]
def wsX6_removeRule_r2 : List Cond := [Cond.static arraycopyName, Cond.initialized "java/lang/System", Cond.fieldLink RX2 15 "BrotherAutomata$RuleBook" "firsts" "[I", Cond.fieldLink RX2 18 "BrotherAutomata$RuleBook" "seconds" "[I", Cond.fieldLink RX2 21 "BrotherAutomata$RuleBook" "constraints" "[I", Cond.fieldLink RX2 24 "BrotherAutomata$RuleBook" "targets" "[I", Cond.methodLink RX6 116 yX2_delete, Cond.instanceMethod yX2_delete, Cond.selects RX2 yX2_delete yX2_delete, Cond.code yX2_delete cX2_delete 2 none, Cond.methodLink RX2 40 yX2_closeGap, Cond.instanceMethod yX2_closeGap, Cond.selects RX2 yX2_closeGap yX2_closeGap, Cond.code yX2_closeGap cX2_closeGap 4 none, Cond.methodLink RX6 72 yX6_renewRuns, Cond.instanceMethod yX6_renewRuns, Cond.selects RX6 yX6_renewRuns yX6_renewRuns, Cond.initialized RX6, Cond.code yX6_renewRuns cX6_renewRuns 1 none, Cond.fieldLink RX6 33 "BrotherAutomata" "masks" "LBrotherAutomata$RuleMasks;", Cond.fieldLink RX6 55 "BrotherAutomata" "subsetsKnown" "I", Cond.fieldLink RX6 59 "BrotherAutomata" "censusKnown" "Z", Cond.methodLink RX6 194 yX3_build, Cond.instanceMethod yX3_build]
def wsX6_removeRule_r3 : List Cond := [Cond.selects RX3 yX3_build yX3_build, Cond.initialized RX3, Cond.code yX3_build cX3_build 3 none, Cond.fieldLink RX3 9 "BrotherAutomata$RuleMasks" "bySymbol" "[I", Cond.fieldLink RX3 15 "BrotherAutomata$RuleMasks" "byFirst" "[I", Cond.fieldLink RX3 18 "BrotherAutomata$RuleMasks" "bySecond" "[I", Cond.fieldLink RX3 24 "BrotherAutomata$RuleMasks" "whenEqual" "I", Cond.fieldLink RX3 28 "BrotherAutomata$RuleMasks" "whenDifferent" "I", Cond.methodLink RX3 31 yJ7_fill_53178, Cond.static yJ7_fill_53178, Cond.initialized RJ7, Cond.code yJ7_fill_53178 cJ7_fill_53178 4 none, Cond.methodLink RX3 42 yX3_enter, Cond.instanceMethod yX3_enter, Cond.selects RX3 yX3_enter yX3_enter, Cond.code yX3_enter cX3_enter 6 none, Cond.fieldLink RX3 21 "BrotherAutomata$RuleMasks" "targetSets" "[I", Cond.methodLink RX3 46 yX3_spread, Cond.static yX3_spread, Cond.code yX3_spread cX3_spread 3 none]
def wsX6_removeRule : List Cond := .code yX6_removeRule cX6_removeRule 2 (some .int) :: ((wsX6_removeRule_r1 ++ (wsX6_removeRule_r2 ++ wsX6_removeRule_r3)) ++ wsX60 ++ wsX20 ++ wsX10 ++ wsX30)
def wsX6_swapStates_r1 : List Cond := [Cond.fieldLink RX6 26 "BrotherAutomata" "history" "LBrotherAutomata$History;", Cond.fieldLink RX6 19 "BrotherAutomata" "book" "LBrotherAutomata$RuleBook;", Cond.methodLink RX6 75 yX6_isState, Cond.instanceMethod yX6_isState, Cond.selects RX6 yX6_isState yX6_isState, Cond.initialized RX6, Cond.code yX6_isState cX6_isState 2 (some .boolean), Cond.fieldLink RX6 63 "BrotherAutomata" "states" "I", Cond.methodLink RX6 79 yX1_keep, Cond.instanceMethod yX1_keep, Cond.selects RX1 yX1_keep yX1_keep, Cond.initialized RX1, Cond.code yX1_keep cX1_keep 2 none, Cond.fieldLink RX1 11 "BrotherAutomata$History" "ring" "[LBrotherAutomata$RuleBook;", Cond.fieldLink RX1 18 "BrotherAutomata$History" "next" "I", Cond.fieldLink RX1 22 "BrotherAutomata$History" "kept" "I", Cond.methodLink RX1 29 Lib.Math.min.name, Cond.static Lib.Math.min.name, Cond.initialized "java/lang/Math", Cond.code Lib.Math.min.name Lib.Math.min.code 2 (some .int), Cond.methodLink RX1 25 yX2_copyFrom, Cond.instanceMethod yX2_copyFrom, Cond.selects RX2 yX2_copyFrom yX2_copyFrom, Cond.initialized RX2]
def wsX6_swapStates_r2 : List Cond := [Cond.code yX2_copyFrom cX2_copyFrom 2 none, Cond.fieldLink RX2 27 "BrotherAutomata$RuleBook" "count" "I", Cond.fieldLink RX2 31 "BrotherAutomata$RuleBook" "finals" "I", Cond.fieldLink RX2 9 "BrotherAutomata$RuleBook" "symbols" "[I", Cond.methodLink RX2 34 arraycopyName, Cond.native arraycopyName, Cond.static arraycopyName, Cond.initialized "java/lang/System", Cond.fieldLink RX2 15 "BrotherAutomata$RuleBook" "firsts" "[I", Cond.fieldLink RX2 18 "BrotherAutomata$RuleBook" "seconds" "[I", Cond.fieldLink RX2 21 "BrotherAutomata$RuleBook" "constraints" "[I", Cond.fieldLink RX2 24 "BrotherAutomata$RuleBook" "targets" "[I", Cond.methodLink RX6 120 yX2_rulesWith, Cond.instanceMethod yX2_rulesWith, Cond.selects RX2 yX2_rulesWith yX2_rulesWith, Cond.code yX2_rulesWith cX2_rulesWith 5 (some .int), Cond.methodLink RX2 44 yX2_contains, Cond.instanceMethod yX2_contains, Cond.selects RX2 yX2_contains yX2_contains, Cond.code yX2_contains cX2_contains 4 (some .boolean), Cond.methodLink RX6 124 yX2_exchange, Cond.instanceMethod yX2_exchange, Cond.selects RX2 yX2_exchange yX2_exchange, Cond.code yX2_exchange cX2_exchange 5 none]
def wsX6_swapStates_r3 : List Cond := [Cond.methodLink RX2 51 yX2_swapped, Cond.static yX2_swapped, Cond.code yX2_swapped cX2_swapped 3 (some .int), Cond.methodLink RX2 55 yX2_markFinal, Cond.instanceMethod yX2_markFinal, Cond.selects RX2 yX2_markFinal yX2_markFinal, Cond.code yX2_markFinal cX2_markFinal 3 none, Cond.methodLink RX6 72 yX6_renewRuns, Cond.instanceMethod yX6_renewRuns, Cond.selects RX6 yX6_renewRuns yX6_renewRuns, Cond.code yX6_renewRuns cX6_renewRuns 1 none, Cond.fieldLink RX6 33 "BrotherAutomata" "masks" "LBrotherAutomata$RuleMasks;", Cond.fieldLink RX6 55 "BrotherAutomata" "subsetsKnown" "I", Cond.fieldLink RX6 59 "BrotherAutomata" "censusKnown" "Z", Cond.methodLink RX6 194 yX3_build, Cond.instanceMethod yX3_build, Cond.selects RX3 yX3_build yX3_build, Cond.initialized RX3, Cond.code yX3_build cX3_build 3 none, Cond.fieldLink RX3 9 "BrotherAutomata$RuleMasks" "bySymbol" "[I", Cond.fieldLink RX3 15 "BrotherAutomata$RuleMasks" "byFirst" "[I", Cond.fieldLink RX3 18 "BrotherAutomata$RuleMasks" "bySecond" "[I", Cond.fieldLink RX3 24 "BrotherAutomata$RuleMasks" "whenEqual" "I", Cond.fieldLink RX3 28 "BrotherAutomata$RuleMasks" "whenDifferent" "I"]
def wsX6_swapStates_r4 : List Cond := [Cond.methodLink RX3 31 yJ7_fill_53178, Cond.static yJ7_fill_53178, Cond.initialized RJ7, Cond.code yJ7_fill_53178 cJ7_fill_53178 4 none, Cond.methodLink RX3 42 yX3_enter, Cond.instanceMethod yX3_enter, Cond.selects RX3 yX3_enter yX3_enter, Cond.code yX3_enter cX3_enter 6 none, Cond.fieldLink RX3 21 "BrotherAutomata$RuleMasks" "targetSets" "[I", Cond.methodLink RX3 46 yX3_spread, Cond.static yX3_spread, Cond.code yX3_spread cX3_spread 3 none]
def wsX6_swapStates : List Cond := .code yX6_swapStates cX6_swapStates 4 (some .int) :: ((wsX6_swapStates_r1 ++ (wsX6_swapStates_r2 ++ (wsX6_swapStates_r3 ++ wsX6_swapStates_r4))) ++ wsX60 ++ wsX10 ++ wsX20 ++ wsX30)
def wsX6_ruleCount : List Cond := .code yX6_ruleCount cX6_ruleCount 1 (some .int) :: ([.fieldLink RX6 19 "BrotherAutomata" "book" "LBrotherAutomata$RuleBook;"] ++ wsX60 ++ wsX20)
def wsX6_finalStates : List Cond := .code yX6_finalStates cX6_finalStates 1 (some .int) :: ([.fieldLink RX6 19 "BrotherAutomata" "book" "LBrotherAutomata$RuleBook;"] ++ wsX60 ++ wsX20)
def wsX6_isSize : List Cond := .code yX6_isSize cX6_isSize 1 (some .boolean) :: ([])
def wsX6_treeCount : List Cond := .code yX6_treeCount cX6_treeCount 2 (some .int) :: ([.fieldLink RX6 131 "BrotherAutomata" "START" "[I", .methodLink RX6 128 yX6_isSize, .static yX6_isSize, .initialized RX6, .code yX6_isSize cX6_isSize 1 (some .boolean)])
def wsX6_isTree : List Cond := .code yX6_isTree cX6_isTree 1 (some .boolean) :: ([])
def wsX6_isChildTree : List Cond := .code yX6_isChildTree cX6_isChildTree 2 (some .boolean) :: ([.methodLink RX6 141 yX6_isTree, .static yX6_isTree, .initialized RX6, .code yX6_isTree cX6_isTree 1 (some .boolean)])
def wsX6_treeOf : List Cond := .code yX6_treeOf cX6_treeOf 4 (some .int) :: ([.fieldLink RX6 99 "BrotherAutomata" "ARITY" "[I", .fieldLink RX6 10 "BrotherAutomata" "trees" "LBrotherAutomata$SmallTrees;", .methodLink RX6 96 yX6_isSymbol, .static yX6_isSymbol, .initialized RX6, .code yX6_isSymbol cX6_isSymbol 1 (some .boolean), .methodLink RX6 134 yX6_isChildTree, .static yX6_isChildTree, .code yX6_isChildTree cX6_isChildTree 2 (some .boolean), .methodLink RX6 141 yX6_isTree, .static yX6_isTree, .code yX6_isTree cX6_isTree 1 (some .boolean), .methodLink RX6 137 yX5_find, .instanceMethod yX5_find, .selects RX5 yX5_find yX5_find, .initialized RX5, .code yX5_find cX5_find 7 (some .int), .fieldLink RX5 9 "BrotherAutomata$SmallTrees" "contents" "[I", .static yX6_sizeAt, .code yX6_sizeAt cX6_sizeAt 2 (some .int), .fieldLink RX6 131 "BrotherAutomata" "START" "[I", .methodLink RX5 41 yX5_content, .static yX5_content, .code yX5_content cX5_content 3 (some .int)] ++ wsX60 ++ wsX50)
def wsX6_symbolOf : List Cond := .code yX6_symbolOf cX6_symbolOf 2 (some .int) :: ([.fieldLink RX6 10 "BrotherAutomata" "trees" "LBrotherAutomata$SmallTrees;", .methodLink RX6 141 yX6_isTree, .static yX6_isTree, .initialized RX6, .code yX6_isTree cX6_isTree 1 (some .boolean), .methodLink RX6 144 yX5_symbolAt, .instanceMethod yX5_symbolAt, .selects RX5 yX5_symbolAt yX5_symbolAt, .initialized RX5, .code yX5_symbolAt cX5_symbolAt 2 (some .int), .fieldLink RX5 9 "BrotherAutomata$SmallTrees" "contents" "[I"] ++ wsX60 ++ wsX50)
def wsX6_childOf : List Cond := .code yX6_childOf cX6_childOf 3 (some .int) :: ([.fieldLink RX6 10 "BrotherAutomata" "trees" "LBrotherAutomata$SmallTrees;", .methodLink RX6 141 yX6_isTree, .static yX6_isTree, .initialized RX6, .code yX6_isTree cX6_isTree 1 (some .boolean), .methodLink RX6 147 yX5_arityAt, .instanceMethod yX5_arityAt, .selects RX5 yX5_arityAt yX5_arityAt, .initialized RX5, .code yX5_arityAt cX5_arityAt 2 (some .int), .methodLink RX5 54 yX5_symbolAt, .instanceMethod yX5_symbolAt, .selects RX5 yX5_symbolAt yX5_symbolAt, .code yX5_symbolAt cX5_symbolAt 2 (some .int), .fieldLink RX5 9 "BrotherAutomata$SmallTrees" "contents" "[I", .methodLink RX6 150 yX5_firstAt, .instanceMethod yX5_firstAt, .selects RX5 yX5_firstAt yX5_firstAt, .code yX5_firstAt cX5_firstAt 2 (some .int), .methodLink RX6 153 yX5_secondAt, .instanceMethod yX5_secondAt, .selects RX5 yX5_secondAt yX5_secondAt, .code yX5_secondAt cX5_secondAt 2 (some .int)] ++ wsX60 ++ wsX50)
def wsX6_sizeOf : List Cond := .code yX6_sizeOf cX6_sizeOf 2 (some .int) :: ([.methodLink RX6 141 yX6_isTree, .static yX6_isTree, .initialized RX6, .code yX6_isTree cX6_isTree 1 (some .boolean), .methodLink RX6 156 yX6_sizeAt, .static yX6_sizeAt, .code yX6_sizeAt cX6_sizeAt 2 (some .int), .fieldLink RX6 131 "BrotherAutomata" "START" "[I"])
def wsX6_heightOf : List Cond := .code yX6_heightOf cX6_heightOf 2 (some .int) :: ([.fieldLink RX6 10 "BrotherAutomata" "trees" "LBrotherAutomata$SmallTrees;", .methodLink RX6 141 yX6_isTree, .static yX6_isTree, .initialized RX6, .code yX6_isTree cX6_isTree 1 (some .boolean)] ++ wsX60 ++ wsX50)
def wsX6_subsetAt_r1 : List Cond := [Cond.fieldLink RX6 55 "BrotherAutomata" "subsetsKnown" "I", Cond.fieldLink RX6 10 "BrotherAutomata" "trees" "LBrotherAutomata$SmallTrees;", Cond.fieldLink RX6 51 "BrotherAutomata" "subsets" "[I", Cond.fieldLink RX6 33 "BrotherAutomata" "masks" "LBrotherAutomata$RuleMasks;", Cond.methodLink RX6 150 yX5_firstAt, Cond.instanceMethod yX5_firstAt, Cond.selects RX5 yX5_firstAt yX5_firstAt, Cond.initialized RX5, Cond.code yX5_firstAt cX5_firstAt 2 (some .int), Cond.fieldLink RX5 9 "BrotherAutomata$SmallTrees" "contents" "[I", Cond.methodLink RX6 153 yX5_secondAt, Cond.instanceMethod yX5_secondAt, Cond.selects RX5 yX5_secondAt yX5_secondAt, Cond.code yX5_secondAt cX5_secondAt 2 (some .int), Cond.methodLink RX6 144 yX5_symbolAt, Cond.instanceMethod yX5_symbolAt, Cond.selects RX5 yX5_symbolAt yX5_symbolAt, Cond.code yX5_symbolAt cX5_symbolAt 2 (some .int), Cond.methodLink RX6 201 yX3_step, Cond.instanceMethod yX3_step, Cond.selects RX3 yX3_step yX3_step, Cond.initialized RX3, Cond.code yX3_step cX3_step 8 (some .int), Cond.fieldLink RX3 9 "BrotherAutomata$RuleMasks" "bySymbol" "[I"]
def wsX6_subsetAt_r2 : List Cond := [Cond.fieldLink RX3 15 "BrotherAutomata$RuleMasks" "byFirst" "[I", Cond.fieldLink RX3 18 "BrotherAutomata$RuleMasks" "bySecond" "[I", Cond.fieldLink RX3 24 "BrotherAutomata$RuleMasks" "whenEqual" "I", Cond.fieldLink RX3 28 "BrotherAutomata$RuleMasks" "whenDifferent" "I", Cond.fieldLink RX3 21 "BrotherAutomata$RuleMasks" "targetSets" "[I"]
def wsX6_subsetAt : List Cond := .code yX6_subsetAt cX6_subsetAt 4 (some .int) :: ((wsX6_subsetAt_r1 ++ wsX6_subsetAt_r2) ++ wsX60 ++ wsX50 ++ wsX30)
def wsX6_subsetOf_r1 : List Cond := [Cond.methodLink RX6 141 yX6_isTree, Cond.static yX6_isTree, Cond.initialized RX6, Cond.code yX6_isTree cX6_isTree 1 (some .boolean), Cond.methodLink RX6 162 yX6_subsetAt, Cond.instanceMethod yX6_subsetAt, Cond.selects RX6 yX6_subsetAt yX6_subsetAt, Cond.code yX6_subsetAt cX6_subsetAt 4 (some .int), Cond.fieldLink RX6 55 "BrotherAutomata" "subsetsKnown" "I", Cond.fieldLink RX6 10 "BrotherAutomata" "trees" "LBrotherAutomata$SmallTrees;", Cond.fieldLink RX6 51 "BrotherAutomata" "subsets" "[I", Cond.fieldLink RX6 33 "BrotherAutomata" "masks" "LBrotherAutomata$RuleMasks;", Cond.methodLink RX6 150 yX5_firstAt, Cond.instanceMethod yX5_firstAt, Cond.selects RX5 yX5_firstAt yX5_firstAt, Cond.initialized RX5, Cond.code yX5_firstAt cX5_firstAt 2 (some .int), Cond.fieldLink RX5 9 "BrotherAutomata$SmallTrees" "contents" "[I", Cond.methodLink RX6 153 yX5_secondAt, Cond.instanceMethod yX5_secondAt, Cond.selects RX5 yX5_secondAt yX5_secondAt, Cond.code yX5_secondAt cX5_secondAt 2 (some .int), Cond.methodLink RX6 144 yX5_symbolAt, Cond.instanceMethod yX5_symbolAt]
def wsX6_subsetOf_r2 : List Cond := [Cond.selects RX5 yX5_symbolAt yX5_symbolAt, Cond.code yX5_symbolAt cX5_symbolAt 2 (some .int), Cond.methodLink RX6 201 yX3_step, Cond.instanceMethod yX3_step, Cond.selects RX3 yX3_step yX3_step, Cond.initialized RX3, Cond.code yX3_step cX3_step 8 (some .int), Cond.fieldLink RX3 9 "BrotherAutomata$RuleMasks" "bySymbol" "[I", Cond.fieldLink RX3 15 "BrotherAutomata$RuleMasks" "byFirst" "[I", Cond.fieldLink RX3 18 "BrotherAutomata$RuleMasks" "bySecond" "[I", Cond.fieldLink RX3 24 "BrotherAutomata$RuleMasks" "whenEqual" "I", Cond.fieldLink RX3 28 "BrotherAutomata$RuleMasks" "whenDifferent" "I", Cond.fieldLink RX3 21 "BrotherAutomata$RuleMasks" "targetSets" "[I"]
def wsX6_subsetOf : List Cond := .code yX6_subsetOf cX6_subsetOf 2 (some .int) :: ((wsX6_subsetOf_r1 ++ wsX6_subsetOf_r2) ++ wsX60 ++ wsX50 ++ wsX30)
def wsX6_isAccepted_r1 : List Cond := [Cond.fieldLink RX6 19 "BrotherAutomata" "book" "LBrotherAutomata$RuleBook;", Cond.methodLink RX6 162 yX6_subsetAt, Cond.instanceMethod yX6_subsetAt, Cond.selects RX6 yX6_subsetAt yX6_subsetAt, Cond.initialized RX6, Cond.code yX6_subsetAt cX6_subsetAt 4 (some .int), Cond.fieldLink RX6 55 "BrotherAutomata" "subsetsKnown" "I", Cond.fieldLink RX6 10 "BrotherAutomata" "trees" "LBrotherAutomata$SmallTrees;", Cond.fieldLink RX6 51 "BrotherAutomata" "subsets" "[I", Cond.fieldLink RX6 33 "BrotherAutomata" "masks" "LBrotherAutomata$RuleMasks;", Cond.methodLink RX6 150 yX5_firstAt, Cond.instanceMethod yX5_firstAt, Cond.selects RX5 yX5_firstAt yX5_firstAt, Cond.initialized RX5, Cond.code yX5_firstAt cX5_firstAt 2 (some .int), Cond.fieldLink RX5 9 "BrotherAutomata$SmallTrees" "contents" "[I", Cond.methodLink RX6 153 yX5_secondAt, Cond.instanceMethod yX5_secondAt, Cond.selects RX5 yX5_secondAt yX5_secondAt, Cond.code yX5_secondAt cX5_secondAt 2 (some .int), Cond.methodLink RX6 144 yX5_symbolAt, Cond.instanceMethod yX5_symbolAt, Cond.selects RX5 yX5_symbolAt yX5_symbolAt, Cond.code yX5_symbolAt cX5_symbolAt 2 (some .int)]
def wsX6_isAccepted_r2 : List Cond := [Cond.methodLink RX6 201 yX3_step, Cond.instanceMethod yX3_step, Cond.selects RX3 yX3_step yX3_step, Cond.initialized RX3, Cond.code yX3_step cX3_step 8 (some .int), Cond.fieldLink RX3 9 "BrotherAutomata$RuleMasks" "bySymbol" "[I", Cond.fieldLink RX3 15 "BrotherAutomata$RuleMasks" "byFirst" "[I", Cond.fieldLink RX3 18 "BrotherAutomata$RuleMasks" "bySecond" "[I", Cond.fieldLink RX3 24 "BrotherAutomata$RuleMasks" "whenEqual" "I", Cond.fieldLink RX3 28 "BrotherAutomata$RuleMasks" "whenDifferent" "I", Cond.fieldLink RX3 21 "BrotherAutomata$RuleMasks" "targetSets" "[I"]
def wsX6_isAccepted : List Cond := .code yX6_isAccepted cX6_isAccepted 2 (some .boolean) :: ((wsX6_isAccepted_r1 ++ wsX6_isAccepted_r2) ++ wsX60 ++ wsX20 ++ wsX50 ++ wsX30)
def wsX6_accepts_r1 : List Cond := [Cond.methodLink RX6 141 yX6_isTree, Cond.static yX6_isTree, Cond.initialized RX6, Cond.code yX6_isTree cX6_isTree 1 (some .boolean), Cond.methodLink RX6 165 yX6_isAccepted, Cond.instanceMethod yX6_isAccepted, Cond.selects RX6 yX6_isAccepted yX6_isAccepted, Cond.code yX6_isAccepted cX6_isAccepted 2 (some .boolean), Cond.fieldLink RX6 19 "BrotherAutomata" "book" "LBrotherAutomata$RuleBook;", Cond.methodLink RX6 162 yX6_subsetAt, Cond.instanceMethod yX6_subsetAt, Cond.selects RX6 yX6_subsetAt yX6_subsetAt, Cond.code yX6_subsetAt cX6_subsetAt 4 (some .int), Cond.fieldLink RX6 55 "BrotherAutomata" "subsetsKnown" "I", Cond.fieldLink RX6 10 "BrotherAutomata" "trees" "LBrotherAutomata$SmallTrees;", Cond.fieldLink RX6 51 "BrotherAutomata" "subsets" "[I", Cond.fieldLink RX6 33 "BrotherAutomata" "masks" "LBrotherAutomata$RuleMasks;", Cond.methodLink RX6 150 yX5_firstAt, Cond.instanceMethod yX5_firstAt, Cond.selects RX5 yX5_firstAt yX5_firstAt, Cond.initialized RX5, Cond.code yX5_firstAt cX5_firstAt 2 (some .int), Cond.fieldLink RX5 9 "BrotherAutomata$SmallTrees" "contents" "[I", Cond.methodLink RX6 153 yX5_secondAt]
def wsX6_accepts_r2 : List Cond := [Cond.instanceMethod yX5_secondAt, Cond.selects RX5 yX5_secondAt yX5_secondAt, Cond.code yX5_secondAt cX5_secondAt 2 (some .int), Cond.methodLink RX6 144 yX5_symbolAt, Cond.instanceMethod yX5_symbolAt, Cond.selects RX5 yX5_symbolAt yX5_symbolAt, Cond.code yX5_symbolAt cX5_symbolAt 2 (some .int), Cond.methodLink RX6 201 yX3_step, Cond.instanceMethod yX3_step, Cond.selects RX3 yX3_step yX3_step, Cond.initialized RX3, Cond.code yX3_step cX3_step 8 (some .int), Cond.fieldLink RX3 9 "BrotherAutomata$RuleMasks" "bySymbol" "[I", Cond.fieldLink RX3 15 "BrotherAutomata$RuleMasks" "byFirst" "[I", Cond.fieldLink RX3 18 "BrotherAutomata$RuleMasks" "bySecond" "[I", Cond.fieldLink RX3 24 "BrotherAutomata$RuleMasks" "whenEqual" "I", Cond.fieldLink RX3 28 "BrotherAutomata$RuleMasks" "whenDifferent" "I", Cond.fieldLink RX3 21 "BrotherAutomata$RuleMasks" "targetSets" "[I"]
def wsX6_accepts : List Cond := .code yX6_accepts cX6_accepts 2 (some .int) :: ((wsX6_accepts_r1 ++ wsX6_accepts_r2) ++ wsX60 ++ wsX20 ++ wsX50 ++ wsX30)
def wsX6_runCount_r1 : List Cond := [Cond.fieldLink RX6 40 "BrotherAutomata" "runCounter" "LBrotherAutomata$RunCounter;", Cond.fieldLink RX6 10 "BrotherAutomata" "trees" "LBrotherAutomata$SmallTrees;", Cond.fieldLink RX6 19 "BrotherAutomata" "book" "LBrotherAutomata$RuleBook;", Cond.methodLink RX6 141 yX6_isTree, Cond.static yX6_isTree, Cond.initialized RX6, Cond.code yX6_isTree cX6_isTree 1 (some .boolean), Cond.methodLink RX6 75 yX6_isState, Cond.instanceMethod yX6_isState, Cond.selects RX6 yX6_isState yX6_isState, Cond.code yX6_isState cX6_isState 2 (some .boolean), Cond.fieldLink RX6 63 "BrotherAutomata" "states" "I", Cond.methodLink RX6 168 yX4_count, Cond.instanceMethod yX4_count, Cond.selects RX4 yX4_count yX4_count, Cond.initialized RX4, Cond.code yX4_count cX4_count 7 (some .int), Cond.fieldLink RX4 18 "BrotherAutomata$RunCounter" "runs" "[I", Cond.methodLink RX4 21 yX4_layOut, Cond.instanceMethod yX4_layOut, Cond.selects RX4 yX4_layOut yX4_layOut, Cond.code yX4_layOut cX4_layOut 6 (some .int), Cond.fieldLink RX4 9 "BrotherAutomata$RunCounter" "nodes" "[I", Cond.fieldLink RX4 15 "BrotherAutomata$RunCounter" "firstPlaces" "[I"]
def wsX6_runCount_r2 : List Cond := [Cond.methodLink RX4 35 yX5_arityAt, Cond.instanceMethod yX5_arityAt, Cond.selects RX5 yX5_arityAt yX5_arityAt, Cond.initialized RX5, Cond.code yX5_arityAt cX5_arityAt 2 (some .int), Cond.methodLink RX5 54 yX5_symbolAt, Cond.instanceMethod yX5_symbolAt, Cond.selects RX5 yX5_symbolAt yX5_symbolAt, Cond.code yX5_symbolAt cX5_symbolAt 2 (some .int), Cond.fieldLink RX5 9 "BrotherAutomata$SmallTrees" "contents" "[I", Cond.methodLink RX4 41 yX5_firstAt, Cond.instanceMethod yX5_firstAt, Cond.selects RX5 yX5_firstAt yX5_firstAt, Cond.code yX5_firstAt cX5_firstAt 2 (some .int), Cond.methodLink RX4 44 yX5_secondAt, Cond.instanceMethod yX5_secondAt, Cond.selects RX5 yX5_secondAt yX5_secondAt, Cond.code yX5_secondAt cX5_secondAt 2 (some .int), Cond.methodLink RX4 25 yJ7_fill_53178, Cond.static yJ7_fill_53178, Cond.initialized RJ7, Cond.code yJ7_fill_53178 cJ7_fill_53178 4 none, Cond.methodLink RX4 31 yX4_countAt, Cond.instanceMethod yX4_countAt]
def wsX6_runCount_r3 : List Cond := [Cond.selects RX4 yX4_countAt yX4_countAt, Cond.code yX4_countAt cX4_countAt 8 none, Cond.methodLink RX4 47 yX5_symbolAt, Cond.methodLink RX4 65 yX4_waysBelow, Cond.instanceMethod yX4_waysBelow, Cond.selects RX4 yX4_waysBelow yX4_waysBelow, Cond.code yX4_waysBelow cX4_waysBelow 7 (some .int)]
def wsX6_runCount : List Cond := .code yX6_runCount cX6_runCount 3 (some .int) :: ((wsX6_runCount_r1 ++ (wsX6_runCount_r2 ++ wsX6_runCount_r3)) ++ wsX60 ++ wsX40 ++ wsX50 ++ wsX20)
def wsX6_acceptedCount_r1 : List Cond := [Cond.fieldLink RX6 131 "BrotherAutomata" "START" "[I", Cond.methodLink RX6 128 yX6_isSize, Cond.static yX6_isSize, Cond.initialized RX6, Cond.code yX6_isSize cX6_isSize 1 (some .boolean), Cond.methodLink RX6 165 yX6_isAccepted, Cond.instanceMethod yX6_isAccepted, Cond.selects RX6 yX6_isAccepted yX6_isAccepted, Cond.code yX6_isAccepted cX6_isAccepted 2 (some .boolean), Cond.fieldLink RX6 19 "BrotherAutomata" "book" "LBrotherAutomata$RuleBook;", Cond.methodLink RX6 162 yX6_subsetAt, Cond.instanceMethod yX6_subsetAt, Cond.selects RX6 yX6_subsetAt yX6_subsetAt, Cond.code yX6_subsetAt cX6_subsetAt 4 (some .int), Cond.fieldLink RX6 55 "BrotherAutomata" "subsetsKnown" "I", Cond.fieldLink RX6 10 "BrotherAutomata" "trees" "LBrotherAutomata$SmallTrees;", Cond.fieldLink RX6 51 "BrotherAutomata" "subsets" "[I", Cond.fieldLink RX6 33 "BrotherAutomata" "masks" "LBrotherAutomata$RuleMasks;", Cond.methodLink RX6 150 yX5_firstAt, Cond.instanceMethod yX5_firstAt, Cond.selects RX5 yX5_firstAt yX5_firstAt, Cond.initialized RX5, Cond.code yX5_firstAt cX5_firstAt 2 (some .int), Cond.fieldLink RX5 9 "BrotherAutomata$SmallTrees" "contents" "[I"]
def wsX6_acceptedCount_r2 : List Cond := [Cond.methodLink RX6 153 yX5_secondAt, Cond.instanceMethod yX5_secondAt, Cond.selects RX5 yX5_secondAt yX5_secondAt, Cond.code yX5_secondAt cX5_secondAt 2 (some .int), Cond.methodLink RX6 144 yX5_symbolAt, Cond.instanceMethod yX5_symbolAt, Cond.selects RX5 yX5_symbolAt yX5_symbolAt, Cond.code yX5_symbolAt cX5_symbolAt 2 (some .int), Cond.methodLink RX6 201 yX3_step, Cond.instanceMethod yX3_step, Cond.selects RX3 yX3_step yX3_step, Cond.initialized RX3, Cond.code yX3_step cX3_step 8 (some .int), Cond.fieldLink RX3 9 "BrotherAutomata$RuleMasks" "bySymbol" "[I", Cond.fieldLink RX3 15 "BrotherAutomata$RuleMasks" "byFirst" "[I", Cond.fieldLink RX3 18 "BrotherAutomata$RuleMasks" "bySecond" "[I", Cond.fieldLink RX3 24 "BrotherAutomata$RuleMasks" "whenEqual" "I", Cond.fieldLink RX3 28 "BrotherAutomata$RuleMasks" "whenDifferent" "I", Cond.fieldLink RX3 21 "BrotherAutomata$RuleMasks" "targetSets" "[I"]
def wsX6_acceptedCount : List Cond := .code yX6_acceptedCount cX6_acceptedCount 4 (some .int) :: ((wsX6_acceptedCount_r1 ++ wsX6_acceptedCount_r2) ++ wsX60 ++ wsX20 ++ wsX50 ++ wsX30)
def wsX6_acceptedTree_r1 : List Cond := [Cond.fieldLink RX6 131 "BrotherAutomata" "START" "[I", Cond.methodLink RX6 128 yX6_isSize, Cond.static yX6_isSize, Cond.initialized RX6, Cond.code yX6_isSize cX6_isSize 1 (some .boolean), Cond.methodLink RX6 165 yX6_isAccepted, Cond.instanceMethod yX6_isAccepted, Cond.selects RX6 yX6_isAccepted yX6_isAccepted, Cond.code yX6_isAccepted cX6_isAccepted 2 (some .boolean), Cond.fieldLink RX6 19 "BrotherAutomata" "book" "LBrotherAutomata$RuleBook;", Cond.methodLink RX6 162 yX6_subsetAt, Cond.instanceMethod yX6_subsetAt, Cond.selects RX6 yX6_subsetAt yX6_subsetAt, Cond.code yX6_subsetAt cX6_subsetAt 4 (some .int), Cond.fieldLink RX6 55 "BrotherAutomata" "subsetsKnown" "I", Cond.fieldLink RX6 10 "BrotherAutomata" "trees" "LBrotherAutomata$SmallTrees;", Cond.fieldLink RX6 51 "BrotherAutomata" "subsets" "[I", Cond.fieldLink RX6 33 "BrotherAutomata" "masks" "LBrotherAutomata$RuleMasks;", Cond.methodLink RX6 150 yX5_firstAt, Cond.instanceMethod yX5_firstAt, Cond.selects RX5 yX5_firstAt yX5_firstAt, Cond.initialized RX5, Cond.code yX5_firstAt cX5_firstAt 2 (some .int), Cond.fieldLink RX5 9 "BrotherAutomata$SmallTrees" "contents" "[I"]
def wsX6_acceptedTree_r2 : List Cond := [Cond.methodLink RX6 153 yX5_secondAt, Cond.instanceMethod yX5_secondAt, Cond.selects RX5 yX5_secondAt yX5_secondAt, Cond.code yX5_secondAt cX5_secondAt 2 (some .int), Cond.methodLink RX6 144 yX5_symbolAt, Cond.instanceMethod yX5_symbolAt, Cond.selects RX5 yX5_symbolAt yX5_symbolAt, Cond.code yX5_symbolAt cX5_symbolAt 2 (some .int), Cond.methodLink RX6 201 yX3_step, Cond.instanceMethod yX3_step, Cond.selects RX3 yX3_step yX3_step, Cond.initialized RX3, Cond.code yX3_step cX3_step 8 (some .int), Cond.fieldLink RX3 9 "BrotherAutomata$RuleMasks" "bySymbol" "[I", Cond.fieldLink RX3 15 "BrotherAutomata$RuleMasks" "byFirst" "[I", Cond.fieldLink RX3 18 "BrotherAutomata$RuleMasks" "bySecond" "[I", Cond.fieldLink RX3 24 "BrotherAutomata$RuleMasks" "whenEqual" "I", Cond.fieldLink RX3 28 "BrotherAutomata$RuleMasks" "whenDifferent" "I", Cond.fieldLink RX3 21 "BrotherAutomata$RuleMasks" "targetSets" "[I"]
def wsX6_acceptedTree : List Cond := .code yX6_acceptedTree cX6_acceptedTree 5 (some .int) :: ((wsX6_acceptedTree_r1 ++ wsX6_acceptedTree_r2) ++ wsX60 ++ wsX20 ++ wsX50 ++ wsX30)
def wsX6_setCount : List Cond := .code yX6_setCount cX6_setCount 1 (some .int) :: ([.fieldLink RX6 63 "BrotherAutomata" "states" "I"] ++ wsX60)
def wsX6_renewCensus_r1 : List Cond := [Cond.fieldLink RX6 59 "BrotherAutomata" "censusKnown" "Z", Cond.fieldLink RX6 47 "BrotherAutomata" "census" "LBrotherAutomata$Census;", Cond.fieldLink RX6 33 "BrotherAutomata" "masks" "LBrotherAutomata$RuleMasks;", Cond.methodLink RX6 171 yX6_setCount, Cond.instanceMethod yX6_setCount, Cond.selects RX6 yX6_setCount yX6_setCount, Cond.initialized RX6, Cond.code yX6_setCount cX6_setCount 1 (some .int), Cond.fieldLink RX6 63 "BrotherAutomata" "states" "I", Cond.methodLink RX6 197 yX0_take, Cond.instanceMethod yX0_take, Cond.selects RX0 yX0_take yX0_take, Cond.initialized RX0, Cond.code yX0_take cX0_take 5 none, Cond.fieldLink RX0 9 "BrotherAutomata$Census" "numbers" "[I", Cond.fieldLink RX0 15 "BrotherAutomata$Census" "before" "[I", Cond.methodLink RX0 27 arraycopyName, Cond.native arraycopyName, Cond.static arraycopyName, Cond.initialized "java/lang/System", Cond.methodLink RX0 21 yJ7_fill_53178, Cond.static yJ7_fill_53178, Cond.initialized RJ7, Cond.code yJ7_fill_53178 cJ7_fill_53178 4 none]
def wsX6_renewCensus_r2 : List Cond := [Cond.methodLink RX0 33 yX0_countConstants, Cond.instanceMethod yX0_countConstants, Cond.selects RX0 yX0_countConstants yX0_countConstants, Cond.code yX0_countConstants cX0_countConstants 3 none, Cond.methodLink RX0 48 yX3_step, Cond.instanceMethod yX3_step, Cond.selects RX3 yX3_step yX3_step, Cond.initialized RX3, Cond.code yX3_step cX3_step 8 (some .int), Cond.fieldLink RX3 9 "BrotherAutomata$RuleMasks" "bySymbol" "[I", Cond.fieldLink RX3 15 "BrotherAutomata$RuleMasks" "byFirst" "[I", Cond.fieldLink RX3 18 "BrotherAutomata$RuleMasks" "bySecond" "[I", Cond.fieldLink RX3 24 "BrotherAutomata$RuleMasks" "whenEqual" "I", Cond.fieldLink RX3 28 "BrotherAutomata$RuleMasks" "whenDifferent" "I", Cond.fieldLink RX3 21 "BrotherAutomata$RuleMasks" "targetSets" "[I", Cond.methodLink RX0 54 yX0_raise, Cond.instanceMethod yX0_raise, Cond.selects RX0 yX0_raise yX0_raise, Cond.code yX0_raise cX0_raise 3 none, Cond.methodLink RX0 62 Lib.Math.min.name, Cond.static Lib.Math.min.name, Cond.initialized "java/lang/Math", Cond.code Lib.Math.min.name Lib.Math.min.code 2 (some .int), Cond.methodLink RX0 37 yX0_countUnary]
def wsX6_renewCensus_r3 : List Cond := [Cond.instanceMethod yX0_countUnary, Cond.selects RX0 yX0_countUnary yX0_countUnary, Cond.code yX0_countUnary cX0_countUnary 4 none, Cond.methodLink RX0 41 yX0_countBinary, Cond.instanceMethod yX0_countBinary, Cond.selects RX0 yX0_countBinary yX0_countBinary, Cond.code yX0_countBinary cX0_countBinary 5 none, Cond.methodLink RX0 58 yX0_countPairs, Cond.instanceMethod yX0_countPairs, Cond.selects RX0 yX0_countPairs yX0_countPairs, Cond.code yX0_countPairs cX0_countPairs 6 none, Cond.methodLink RX0 44 yX0_noteGrowth, Cond.instanceMethod yX0_noteGrowth, Cond.selects RX0 yX0_noteGrowth yX0_noteGrowth, Cond.code yX0_noteGrowth cX0_noteGrowth 5 (some .boolean), Cond.fieldLink RX0 18 "BrotherAutomata$Census" "heights" "[I"]
def wsX6_renewCensus : List Cond := .code yX6_renewCensus cX6_renewCensus 1 none :: ((wsX6_renewCensus_r1 ++ (wsX6_renewCensus_r2 ++ wsX6_renewCensus_r3)) ++ wsX60 ++ wsX00 ++ wsX30)
def wsX6_treesOfSet_r1 : List Cond := [Cond.fieldLink RX6 47 "BrotherAutomata" "census" "LBrotherAutomata$Census;", Cond.methodLink RX6 171 yX6_setCount, Cond.instanceMethod yX6_setCount, Cond.selects RX6 yX6_setCount yX6_setCount, Cond.initialized RX6, Cond.code yX6_setCount cX6_setCount 1 (some .int), Cond.fieldLink RX6 63 "BrotherAutomata" "states" "I", Cond.methodLink RX6 175 yX6_renewCensus, Cond.instanceMethod yX6_renewCensus, Cond.selects RX6 yX6_renewCensus yX6_renewCensus, Cond.code yX6_renewCensus cX6_renewCensus 1 none, Cond.fieldLink RX6 59 "BrotherAutomata" "censusKnown" "Z", Cond.fieldLink RX6 33 "BrotherAutomata" "masks" "LBrotherAutomata$RuleMasks;", Cond.methodLink RX6 197 yX0_take, Cond.instanceMethod yX0_take, Cond.selects RX0 yX0_take yX0_take, Cond.initialized RX0, Cond.code yX0_take cX0_take 5 none, Cond.fieldLink RX0 9 "BrotherAutomata$Census" "numbers" "[I", Cond.fieldLink RX0 15 "BrotherAutomata$Census" "before" "[I", Cond.methodLink RX0 27 arraycopyName, Cond.native arraycopyName, Cond.static arraycopyName, Cond.initialized "java/lang/System"]
def wsX6_treesOfSet_r2 : List Cond := [Cond.methodLink RX0 21 yJ7_fill_53178, Cond.static yJ7_fill_53178, Cond.initialized RJ7, Cond.code yJ7_fill_53178 cJ7_fill_53178 4 none, Cond.methodLink RX0 33 yX0_countConstants, Cond.instanceMethod yX0_countConstants, Cond.selects RX0 yX0_countConstants yX0_countConstants, Cond.code yX0_countConstants cX0_countConstants 3 none, Cond.methodLink RX0 48 yX3_step, Cond.instanceMethod yX3_step, Cond.selects RX3 yX3_step yX3_step, Cond.initialized RX3, Cond.code yX3_step cX3_step 8 (some .int), Cond.fieldLink RX3 9 "BrotherAutomata$RuleMasks" "bySymbol" "[I", Cond.fieldLink RX3 15 "BrotherAutomata$RuleMasks" "byFirst" "[I", Cond.fieldLink RX3 18 "BrotherAutomata$RuleMasks" "bySecond" "[I", Cond.fieldLink RX3 24 "BrotherAutomata$RuleMasks" "whenEqual" "I", Cond.fieldLink RX3 28 "BrotherAutomata$RuleMasks" "whenDifferent" "I", Cond.fieldLink RX3 21 "BrotherAutomata$RuleMasks" "targetSets" "[I", Cond.methodLink RX0 54 yX0_raise, Cond.instanceMethod yX0_raise, Cond.selects RX0 yX0_raise yX0_raise, Cond.code yX0_raise cX0_raise 3 none, Cond.methodLink RX0 62 Lib.Math.min.name]
def wsX6_treesOfSet_r3 : List Cond := [Cond.static Lib.Math.min.name, Cond.initialized "java/lang/Math", Cond.code Lib.Math.min.name Lib.Math.min.code 2 (some .int), Cond.methodLink RX0 37 yX0_countUnary, Cond.instanceMethod yX0_countUnary, Cond.selects RX0 yX0_countUnary yX0_countUnary, Cond.code yX0_countUnary cX0_countUnary 4 none, Cond.methodLink RX0 41 yX0_countBinary, Cond.instanceMethod yX0_countBinary, Cond.selects RX0 yX0_countBinary yX0_countBinary, Cond.code yX0_countBinary cX0_countBinary 5 none, Cond.methodLink RX0 58 yX0_countPairs, Cond.instanceMethod yX0_countPairs, Cond.selects RX0 yX0_countPairs yX0_countPairs, Cond.code yX0_countPairs cX0_countPairs 6 none, Cond.methodLink RX0 44 yX0_noteGrowth, Cond.instanceMethod yX0_noteGrowth, Cond.selects RX0 yX0_noteGrowth yX0_noteGrowth, Cond.code yX0_noteGrowth cX0_noteGrowth 5 (some .boolean), Cond.fieldLink RX0 18 "BrotherAutomata$Census" "heights" "[I"]
def wsX6_treesOfSet : List Cond := .code yX6_treesOfSet cX6_treesOfSet 2 (some .int) :: ((wsX6_treesOfSet_r1 ++ (wsX6_treesOfSet_r2 ++ wsX6_treesOfSet_r3)) ++ wsX60 ++ wsX00 ++ wsX30)
def wsX6_reachedSets_r1 : List Cond := [Cond.fieldLink RX6 47 "BrotherAutomata" "census" "LBrotherAutomata$Census;", Cond.methodLink RX6 175 yX6_renewCensus, Cond.instanceMethod yX6_renewCensus, Cond.selects RX6 yX6_renewCensus yX6_renewCensus, Cond.initialized RX6, Cond.code yX6_renewCensus cX6_renewCensus 1 none, Cond.fieldLink RX6 59 "BrotherAutomata" "censusKnown" "Z", Cond.fieldLink RX6 33 "BrotherAutomata" "masks" "LBrotherAutomata$RuleMasks;", Cond.methodLink RX6 171 yX6_setCount, Cond.instanceMethod yX6_setCount, Cond.selects RX6 yX6_setCount yX6_setCount, Cond.code yX6_setCount cX6_setCount 1 (some .int), Cond.fieldLink RX6 63 "BrotherAutomata" "states" "I", Cond.methodLink RX6 197 yX0_take, Cond.instanceMethod yX0_take, Cond.selects RX0 yX0_take yX0_take, Cond.initialized RX0, Cond.code yX0_take cX0_take 5 none, Cond.fieldLink RX0 9 "BrotherAutomata$Census" "numbers" "[I", Cond.fieldLink RX0 15 "BrotherAutomata$Census" "before" "[I", Cond.methodLink RX0 27 arraycopyName, Cond.native arraycopyName, Cond.static arraycopyName, Cond.initialized "java/lang/System"]
def wsX6_reachedSets_r2 : List Cond := [Cond.methodLink RX0 21 yJ7_fill_53178, Cond.static yJ7_fill_53178, Cond.initialized RJ7, Cond.code yJ7_fill_53178 cJ7_fill_53178 4 none, Cond.methodLink RX0 33 yX0_countConstants, Cond.instanceMethod yX0_countConstants, Cond.selects RX0 yX0_countConstants yX0_countConstants, Cond.code yX0_countConstants cX0_countConstants 3 none, Cond.methodLink RX0 48 yX3_step, Cond.instanceMethod yX3_step, Cond.selects RX3 yX3_step yX3_step, Cond.initialized RX3, Cond.code yX3_step cX3_step 8 (some .int), Cond.fieldLink RX3 9 "BrotherAutomata$RuleMasks" "bySymbol" "[I", Cond.fieldLink RX3 15 "BrotherAutomata$RuleMasks" "byFirst" "[I", Cond.fieldLink RX3 18 "BrotherAutomata$RuleMasks" "bySecond" "[I", Cond.fieldLink RX3 24 "BrotherAutomata$RuleMasks" "whenEqual" "I", Cond.fieldLink RX3 28 "BrotherAutomata$RuleMasks" "whenDifferent" "I", Cond.fieldLink RX3 21 "BrotherAutomata$RuleMasks" "targetSets" "[I", Cond.methodLink RX0 54 yX0_raise, Cond.instanceMethod yX0_raise, Cond.selects RX0 yX0_raise yX0_raise, Cond.code yX0_raise cX0_raise 3 none, Cond.methodLink RX0 62 Lib.Math.min.name]
def wsX6_reachedSets_r3 : List Cond := [Cond.static Lib.Math.min.name, Cond.initialized "java/lang/Math", Cond.code Lib.Math.min.name Lib.Math.min.code 2 (some .int), Cond.methodLink RX0 37 yX0_countUnary, Cond.instanceMethod yX0_countUnary, Cond.selects RX0 yX0_countUnary yX0_countUnary, Cond.code yX0_countUnary cX0_countUnary 4 none, Cond.methodLink RX0 41 yX0_countBinary, Cond.instanceMethod yX0_countBinary, Cond.selects RX0 yX0_countBinary yX0_countBinary, Cond.code yX0_countBinary cX0_countBinary 5 none, Cond.methodLink RX0 58 yX0_countPairs, Cond.instanceMethod yX0_countPairs, Cond.selects RX0 yX0_countPairs yX0_countPairs, Cond.code yX0_countPairs cX0_countPairs 6 none, Cond.methodLink RX0 44 yX0_noteGrowth, Cond.instanceMethod yX0_noteGrowth, Cond.selects RX0 yX0_noteGrowth yX0_noteGrowth, Cond.code yX0_noteGrowth cX0_noteGrowth 5 (some .boolean), Cond.fieldLink RX0 18 "BrotherAutomata$Census" "heights" "[I", Cond.methodLink RX6 181 yX0_isReached, Cond.instanceMethod yX0_isReached, Cond.selects RX0 yX0_isReached yX0_isReached, Cond.code yX0_isReached cX0_isReached 2 (some .boolean)]
def wsX6_reachedSets : List Cond := .code yX6_reachedSets cX6_reachedSets 3 (some .int) :: ((wsX6_reachedSets_r1 ++ (wsX6_reachedSets_r2 ++ wsX6_reachedSets_r3)) ++ wsX60 ++ wsX00 ++ wsX30)
def wsX6_meetsReachedSet : List Cond := .code yX6_meetsReachedSet cX6_meetsReachedSet 3 (some .boolean) :: ([.fieldLink RX6 47 "BrotherAutomata" "census" "LBrotherAutomata$Census;", .methodLink RX6 171 yX6_setCount, .instanceMethod yX6_setCount, .selects RX6 yX6_setCount yX6_setCount, .initialized RX6, .code yX6_setCount cX6_setCount 1 (some .int), .fieldLink RX6 63 "BrotherAutomata" "states" "I", .methodLink RX6 181 yX0_isReached, .instanceMethod yX0_isReached, .selects RX0 yX0_isReached yX0_isReached, .initialized RX0, .code yX0_isReached cX0_isReached 2 (some .boolean), .fieldLink RX0 9 "BrotherAutomata$Census" "numbers" "[I"] ++ wsX60 ++ wsX00)
def wsX6_isReachable_r1 : List Cond := [Cond.methodLink RX6 75 yX6_isState, Cond.instanceMethod yX6_isState, Cond.selects RX6 yX6_isState yX6_isState, Cond.initialized RX6, Cond.code yX6_isState cX6_isState 2 (some .boolean), Cond.fieldLink RX6 63 "BrotherAutomata" "states" "I", Cond.methodLink RX6 175 yX6_renewCensus, Cond.instanceMethod yX6_renewCensus, Cond.selects RX6 yX6_renewCensus yX6_renewCensus, Cond.code yX6_renewCensus cX6_renewCensus 1 none, Cond.fieldLink RX6 59 "BrotherAutomata" "censusKnown" "Z", Cond.fieldLink RX6 47 "BrotherAutomata" "census" "LBrotherAutomata$Census;", Cond.fieldLink RX6 33 "BrotherAutomata" "masks" "LBrotherAutomata$RuleMasks;", Cond.methodLink RX6 171 yX6_setCount, Cond.instanceMethod yX6_setCount, Cond.selects RX6 yX6_setCount yX6_setCount, Cond.code yX6_setCount cX6_setCount 1 (some .int), Cond.methodLink RX6 197 yX0_take, Cond.instanceMethod yX0_take, Cond.selects RX0 yX0_take yX0_take, Cond.initialized RX0, Cond.code yX0_take cX0_take 5 none, Cond.fieldLink RX0 9 "BrotherAutomata$Census" "numbers" "[I", Cond.fieldLink RX0 15 "BrotherAutomata$Census" "before" "[I"]
def wsX6_isReachable_r2 : List Cond := [Cond.methodLink RX0 27 arraycopyName, Cond.native arraycopyName, Cond.static arraycopyName, Cond.initialized "java/lang/System", Cond.methodLink RX0 21 yJ7_fill_53178, Cond.static yJ7_fill_53178, Cond.initialized RJ7, Cond.code yJ7_fill_53178 cJ7_fill_53178 4 none, Cond.methodLink RX0 33 yX0_countConstants, Cond.instanceMethod yX0_countConstants, Cond.selects RX0 yX0_countConstants yX0_countConstants, Cond.code yX0_countConstants cX0_countConstants 3 none, Cond.methodLink RX0 48 yX3_step, Cond.instanceMethod yX3_step, Cond.selects RX3 yX3_step yX3_step, Cond.initialized RX3, Cond.code yX3_step cX3_step 8 (some .int), Cond.fieldLink RX3 9 "BrotherAutomata$RuleMasks" "bySymbol" "[I", Cond.fieldLink RX3 15 "BrotherAutomata$RuleMasks" "byFirst" "[I", Cond.fieldLink RX3 18 "BrotherAutomata$RuleMasks" "bySecond" "[I", Cond.fieldLink RX3 24 "BrotherAutomata$RuleMasks" "whenEqual" "I", Cond.fieldLink RX3 28 "BrotherAutomata$RuleMasks" "whenDifferent" "I", Cond.fieldLink RX3 21 "BrotherAutomata$RuleMasks" "targetSets" "[I", Cond.methodLink RX0 54 yX0_raise]
def wsX6_isReachable_r3 : List Cond := [Cond.instanceMethod yX0_raise, Cond.selects RX0 yX0_raise yX0_raise, Cond.code yX0_raise cX0_raise 3 none, Cond.methodLink RX0 62 Lib.Math.min.name, Cond.static Lib.Math.min.name, Cond.initialized "java/lang/Math", Cond.code Lib.Math.min.name Lib.Math.min.code 2 (some .int), Cond.methodLink RX0 37 yX0_countUnary, Cond.instanceMethod yX0_countUnary, Cond.selects RX0 yX0_countUnary yX0_countUnary, Cond.code yX0_countUnary cX0_countUnary 4 none, Cond.methodLink RX0 41 yX0_countBinary, Cond.instanceMethod yX0_countBinary, Cond.selects RX0 yX0_countBinary yX0_countBinary, Cond.code yX0_countBinary cX0_countBinary 5 none, Cond.methodLink RX0 58 yX0_countPairs, Cond.instanceMethod yX0_countPairs, Cond.selects RX0 yX0_countPairs yX0_countPairs, Cond.code yX0_countPairs cX0_countPairs 6 none, Cond.methodLink RX0 44 yX0_noteGrowth, Cond.instanceMethod yX0_noteGrowth, Cond.selects RX0 yX0_noteGrowth yX0_noteGrowth, Cond.code yX0_noteGrowth cX0_noteGrowth 5 (some .boolean), Cond.fieldLink RX0 18 "BrotherAutomata$Census" "heights" "[I"]
def wsX6_isReachable_r4 : List Cond := [Cond.methodLink RX6 184 yX6_meetsReachedSet, Cond.instanceMethod yX6_meetsReachedSet, Cond.selects RX6 yX6_meetsReachedSet yX6_meetsReachedSet, Cond.code yX6_meetsReachedSet cX6_meetsReachedSet 3 (some .boolean), Cond.methodLink RX6 181 yX0_isReached, Cond.instanceMethod yX0_isReached, Cond.selects RX0 yX0_isReached yX0_isReached, Cond.code yX0_isReached cX0_isReached 2 (some .boolean)]
def wsX6_isReachable : List Cond := .code yX6_isReachable cX6_isReachable 2 (some .int) :: ((wsX6_isReachable_r1 ++ (wsX6_isReachable_r2 ++ (wsX6_isReachable_r3 ++ wsX6_isReachable_r4))) ++ wsX60 ++ wsX00 ++ wsX30)
def wsX6_isEmpty_r1 : List Cond := [Cond.fieldLink RX6 19 "BrotherAutomata" "book" "LBrotherAutomata$RuleBook;", Cond.methodLink RX6 175 yX6_renewCensus, Cond.instanceMethod yX6_renewCensus, Cond.selects RX6 yX6_renewCensus yX6_renewCensus, Cond.initialized RX6, Cond.code yX6_renewCensus cX6_renewCensus 1 none, Cond.fieldLink RX6 59 "BrotherAutomata" "censusKnown" "Z", Cond.fieldLink RX6 47 "BrotherAutomata" "census" "LBrotherAutomata$Census;", Cond.fieldLink RX6 33 "BrotherAutomata" "masks" "LBrotherAutomata$RuleMasks;", Cond.methodLink RX6 171 yX6_setCount, Cond.instanceMethod yX6_setCount, Cond.selects RX6 yX6_setCount yX6_setCount, Cond.code yX6_setCount cX6_setCount 1 (some .int), Cond.fieldLink RX6 63 "BrotherAutomata" "states" "I", Cond.methodLink RX6 197 yX0_take, Cond.instanceMethod yX0_take, Cond.selects RX0 yX0_take yX0_take, Cond.initialized RX0, Cond.code yX0_take cX0_take 5 none, Cond.fieldLink RX0 9 "BrotherAutomata$Census" "numbers" "[I", Cond.fieldLink RX0 15 "BrotherAutomata$Census" "before" "[I", Cond.methodLink RX0 27 arraycopyName, Cond.native arraycopyName, Cond.static arraycopyName]
def wsX6_isEmpty_r2 : List Cond := [Cond.initialized "java/lang/System", Cond.methodLink RX0 21 yJ7_fill_53178, Cond.static yJ7_fill_53178, Cond.initialized RJ7, Cond.code yJ7_fill_53178 cJ7_fill_53178 4 none, Cond.methodLink RX0 33 yX0_countConstants, Cond.instanceMethod yX0_countConstants, Cond.selects RX0 yX0_countConstants yX0_countConstants, Cond.code yX0_countConstants cX0_countConstants 3 none, Cond.methodLink RX0 48 yX3_step, Cond.instanceMethod yX3_step, Cond.selects RX3 yX3_step yX3_step, Cond.initialized RX3, Cond.code yX3_step cX3_step 8 (some .int), Cond.fieldLink RX3 9 "BrotherAutomata$RuleMasks" "bySymbol" "[I", Cond.fieldLink RX3 15 "BrotherAutomata$RuleMasks" "byFirst" "[I", Cond.fieldLink RX3 18 "BrotherAutomata$RuleMasks" "bySecond" "[I", Cond.fieldLink RX3 24 "BrotherAutomata$RuleMasks" "whenEqual" "I", Cond.fieldLink RX3 28 "BrotherAutomata$RuleMasks" "whenDifferent" "I", Cond.fieldLink RX3 21 "BrotherAutomata$RuleMasks" "targetSets" "[I", Cond.methodLink RX0 54 yX0_raise, Cond.instanceMethod yX0_raise, Cond.selects RX0 yX0_raise yX0_raise, Cond.code yX0_raise cX0_raise 3 none]
def wsX6_isEmpty_r3 : List Cond := [Cond.methodLink RX0 62 Lib.Math.min.name, Cond.static Lib.Math.min.name, Cond.initialized "java/lang/Math", Cond.code Lib.Math.min.name Lib.Math.min.code 2 (some .int), Cond.methodLink RX0 37 yX0_countUnary, Cond.instanceMethod yX0_countUnary, Cond.selects RX0 yX0_countUnary yX0_countUnary, Cond.code yX0_countUnary cX0_countUnary 4 none, Cond.methodLink RX0 41 yX0_countBinary, Cond.instanceMethod yX0_countBinary, Cond.selects RX0 yX0_countBinary yX0_countBinary, Cond.code yX0_countBinary cX0_countBinary 5 none, Cond.methodLink RX0 58 yX0_countPairs, Cond.instanceMethod yX0_countPairs, Cond.selects RX0 yX0_countPairs yX0_countPairs, Cond.code yX0_countPairs cX0_countPairs 6 none, Cond.methodLink RX0 44 yX0_noteGrowth, Cond.instanceMethod yX0_noteGrowth, Cond.selects RX0 yX0_noteGrowth yX0_noteGrowth, Cond.code yX0_noteGrowth cX0_noteGrowth 5 (some .boolean), Cond.fieldLink RX0 18 "BrotherAutomata$Census" "heights" "[I", Cond.methodLink RX6 184 yX6_meetsReachedSet, Cond.instanceMethod yX6_meetsReachedSet, Cond.selects RX6 yX6_meetsReachedSet yX6_meetsReachedSet]
def wsX6_isEmpty_r4 : List Cond := [Cond.code yX6_meetsReachedSet cX6_meetsReachedSet 3 (some .boolean), Cond.methodLink RX6 181 yX0_isReached, Cond.instanceMethod yX0_isReached, Cond.selects RX0 yX0_isReached yX0_isReached, Cond.code yX0_isReached cX0_isReached 2 (some .boolean)]
def wsX6_isEmpty : List Cond := .code yX6_isEmpty cX6_isEmpty 1 (some .int) :: ((wsX6_isEmpty_r1 ++ (wsX6_isEmpty_r2 ++ (wsX6_isEmpty_r3 ++ wsX6_isEmpty_r4))) ++ wsX60 ++ wsX20 ++ wsX00 ++ wsX30)
def wsX6_isUniversal_r1 : List Cond := [Cond.fieldLink RX6 47 "BrotherAutomata" "census" "LBrotherAutomata$Census;", Cond.fieldLink RX6 19 "BrotherAutomata" "book" "LBrotherAutomata$RuleBook;", Cond.methodLink RX6 175 yX6_renewCensus, Cond.instanceMethod yX6_renewCensus, Cond.selects RX6 yX6_renewCensus yX6_renewCensus, Cond.initialized RX6, Cond.code yX6_renewCensus cX6_renewCensus 1 none, Cond.fieldLink RX6 59 "BrotherAutomata" "censusKnown" "Z", Cond.fieldLink RX6 33 "BrotherAutomata" "masks" "LBrotherAutomata$RuleMasks;", Cond.methodLink RX6 171 yX6_setCount, Cond.instanceMethod yX6_setCount, Cond.selects RX6 yX6_setCount yX6_setCount, Cond.code yX6_setCount cX6_setCount 1 (some .int), Cond.fieldLink RX6 63 "BrotherAutomata" "states" "I", Cond.methodLink RX6 197 yX0_take, Cond.instanceMethod yX0_take, Cond.selects RX0 yX0_take yX0_take, Cond.initialized RX0, Cond.code yX0_take cX0_take 5 none, Cond.fieldLink RX0 9 "BrotherAutomata$Census" "numbers" "[I", Cond.fieldLink RX0 15 "BrotherAutomata$Census" "before" "[I", Cond.methodLink RX0 27 arraycopyName, Cond.native arraycopyName, Cond.static arraycopyName]
def wsX6_isUniversal_r2 : List Cond := [Cond.initialized "java/lang/System", Cond.methodLink RX0 21 yJ7_fill_53178, Cond.static yJ7_fill_53178, Cond.initialized RJ7, Cond.code yJ7_fill_53178 cJ7_fill_53178 4 none, Cond.methodLink RX0 33 yX0_countConstants, Cond.instanceMethod yX0_countConstants, Cond.selects RX0 yX0_countConstants yX0_countConstants, Cond.code yX0_countConstants cX0_countConstants 3 none, Cond.methodLink RX0 48 yX3_step, Cond.instanceMethod yX3_step, Cond.selects RX3 yX3_step yX3_step, Cond.initialized RX3, Cond.code yX3_step cX3_step 8 (some .int), Cond.fieldLink RX3 9 "BrotherAutomata$RuleMasks" "bySymbol" "[I", Cond.fieldLink RX3 15 "BrotherAutomata$RuleMasks" "byFirst" "[I", Cond.fieldLink RX3 18 "BrotherAutomata$RuleMasks" "bySecond" "[I", Cond.fieldLink RX3 24 "BrotherAutomata$RuleMasks" "whenEqual" "I", Cond.fieldLink RX3 28 "BrotherAutomata$RuleMasks" "whenDifferent" "I", Cond.fieldLink RX3 21 "BrotherAutomata$RuleMasks" "targetSets" "[I", Cond.methodLink RX0 54 yX0_raise, Cond.instanceMethod yX0_raise, Cond.selects RX0 yX0_raise yX0_raise, Cond.code yX0_raise cX0_raise 3 none]
def wsX6_isUniversal_r3 : List Cond := [Cond.methodLink RX0 62 Lib.Math.min.name, Cond.static Lib.Math.min.name, Cond.initialized "java/lang/Math", Cond.code Lib.Math.min.name Lib.Math.min.code 2 (some .int), Cond.methodLink RX0 37 yX0_countUnary, Cond.instanceMethod yX0_countUnary, Cond.selects RX0 yX0_countUnary yX0_countUnary, Cond.code yX0_countUnary cX0_countUnary 4 none, Cond.methodLink RX0 41 yX0_countBinary, Cond.instanceMethod yX0_countBinary, Cond.selects RX0 yX0_countBinary yX0_countBinary, Cond.code yX0_countBinary cX0_countBinary 5 none, Cond.methodLink RX0 58 yX0_countPairs, Cond.instanceMethod yX0_countPairs, Cond.selects RX0 yX0_countPairs yX0_countPairs, Cond.code yX0_countPairs cX0_countPairs 6 none, Cond.methodLink RX0 44 yX0_noteGrowth, Cond.instanceMethod yX0_noteGrowth, Cond.selects RX0 yX0_noteGrowth yX0_noteGrowth, Cond.code yX0_noteGrowth cX0_noteGrowth 5 (some .boolean), Cond.fieldLink RX0 18 "BrotherAutomata$Census" "heights" "[I", Cond.methodLink RX6 181 yX0_isReached, Cond.instanceMethod yX0_isReached, Cond.selects RX0 yX0_isReached yX0_isReached]
def wsX6_isUniversal_r4 : List Cond := [Cond.code yX0_isReached cX0_isReached 2 (some .boolean)]
def wsX6_isUniversal : List Cond := .code yX6_isUniversal cX6_isUniversal 2 (some .int) :: ((wsX6_isUniversal_r1 ++ (wsX6_isUniversal_r2 ++ (wsX6_isUniversal_r3 ++ wsX6_isUniversal_r4))) ++ wsX60 ++ wsX20 ++ wsX00 ++ wsX30)
def wsX6_isComplete_r1 : List Cond := [Cond.fieldLink RX6 47 "BrotherAutomata" "census" "LBrotherAutomata$Census;", Cond.methodLink RX6 175 yX6_renewCensus, Cond.instanceMethod yX6_renewCensus, Cond.selects RX6 yX6_renewCensus yX6_renewCensus, Cond.initialized RX6, Cond.code yX6_renewCensus cX6_renewCensus 1 none, Cond.fieldLink RX6 59 "BrotherAutomata" "censusKnown" "Z", Cond.fieldLink RX6 33 "BrotherAutomata" "masks" "LBrotherAutomata$RuleMasks;", Cond.methodLink RX6 171 yX6_setCount, Cond.instanceMethod yX6_setCount, Cond.selects RX6 yX6_setCount yX6_setCount, Cond.code yX6_setCount cX6_setCount 1 (some .int), Cond.fieldLink RX6 63 "BrotherAutomata" "states" "I", Cond.methodLink RX6 197 yX0_take, Cond.instanceMethod yX0_take, Cond.selects RX0 yX0_take yX0_take, Cond.initialized RX0, Cond.code yX0_take cX0_take 5 none, Cond.fieldLink RX0 9 "BrotherAutomata$Census" "numbers" "[I", Cond.fieldLink RX0 15 "BrotherAutomata$Census" "before" "[I", Cond.methodLink RX0 27 arraycopyName, Cond.native arraycopyName, Cond.static arraycopyName, Cond.initialized "java/lang/System"]
def wsX6_isComplete_r2 : List Cond := [Cond.methodLink RX0 21 yJ7_fill_53178, Cond.static yJ7_fill_53178, Cond.initialized RJ7, Cond.code yJ7_fill_53178 cJ7_fill_53178 4 none, Cond.methodLink RX0 33 yX0_countConstants, Cond.instanceMethod yX0_countConstants, Cond.selects RX0 yX0_countConstants yX0_countConstants, Cond.code yX0_countConstants cX0_countConstants 3 none, Cond.methodLink RX0 48 yX3_step, Cond.instanceMethod yX3_step, Cond.selects RX3 yX3_step yX3_step, Cond.initialized RX3, Cond.code yX3_step cX3_step 8 (some .int), Cond.fieldLink RX3 9 "BrotherAutomata$RuleMasks" "bySymbol" "[I", Cond.fieldLink RX3 15 "BrotherAutomata$RuleMasks" "byFirst" "[I", Cond.fieldLink RX3 18 "BrotherAutomata$RuleMasks" "bySecond" "[I", Cond.fieldLink RX3 24 "BrotherAutomata$RuleMasks" "whenEqual" "I", Cond.fieldLink RX3 28 "BrotherAutomata$RuleMasks" "whenDifferent" "I", Cond.fieldLink RX3 21 "BrotherAutomata$RuleMasks" "targetSets" "[I", Cond.methodLink RX0 54 yX0_raise, Cond.instanceMethod yX0_raise, Cond.selects RX0 yX0_raise yX0_raise, Cond.code yX0_raise cX0_raise 3 none, Cond.methodLink RX0 62 Lib.Math.min.name]
def wsX6_isComplete_r3 : List Cond := [Cond.static Lib.Math.min.name, Cond.initialized "java/lang/Math", Cond.code Lib.Math.min.name Lib.Math.min.code 2 (some .int), Cond.methodLink RX0 37 yX0_countUnary, Cond.instanceMethod yX0_countUnary, Cond.selects RX0 yX0_countUnary yX0_countUnary, Cond.code yX0_countUnary cX0_countUnary 4 none, Cond.methodLink RX0 41 yX0_countBinary, Cond.instanceMethod yX0_countBinary, Cond.selects RX0 yX0_countBinary yX0_countBinary, Cond.code yX0_countBinary cX0_countBinary 5 none, Cond.methodLink RX0 58 yX0_countPairs, Cond.instanceMethod yX0_countPairs, Cond.selects RX0 yX0_countPairs yX0_countPairs, Cond.code yX0_countPairs cX0_countPairs 6 none, Cond.methodLink RX0 44 yX0_noteGrowth, Cond.instanceMethod yX0_noteGrowth, Cond.selects RX0 yX0_noteGrowth yX0_noteGrowth, Cond.code yX0_noteGrowth cX0_noteGrowth 5 (some .boolean), Cond.fieldLink RX0 18 "BrotherAutomata$Census" "heights" "[I", Cond.methodLink RX6 181 yX0_isReached, Cond.instanceMethod yX0_isReached, Cond.selects RX0 yX0_isReached yX0_isReached, Cond.code yX0_isReached cX0_isReached 2 (some .boolean)]
def wsX6_isComplete : List Cond := .code yX6_isComplete cX6_isComplete 1 (some .int) :: ((wsX6_isComplete_r1 ++ (wsX6_isComplete_r2 ++ wsX6_isComplete_r3)) ++ wsX60 ++ wsX00 ++ wsX30)
def wsX6_isDeterministic_r1 : List Cond := [Cond.fieldLink RX6 47 "BrotherAutomata" "census" "LBrotherAutomata$Census;", Cond.methodLink RX6 175 yX6_renewCensus, Cond.instanceMethod yX6_renewCensus, Cond.selects RX6 yX6_renewCensus yX6_renewCensus, Cond.initialized RX6, Cond.code yX6_renewCensus cX6_renewCensus 1 none, Cond.fieldLink RX6 59 "BrotherAutomata" "censusKnown" "Z", Cond.fieldLink RX6 33 "BrotherAutomata" "masks" "LBrotherAutomata$RuleMasks;", Cond.methodLink RX6 171 yX6_setCount, Cond.instanceMethod yX6_setCount, Cond.selects RX6 yX6_setCount yX6_setCount, Cond.code yX6_setCount cX6_setCount 1 (some .int), Cond.fieldLink RX6 63 "BrotherAutomata" "states" "I", Cond.methodLink RX6 197 yX0_take, Cond.instanceMethod yX0_take, Cond.selects RX0 yX0_take yX0_take, Cond.initialized RX0, Cond.code yX0_take cX0_take 5 none, Cond.fieldLink RX0 9 "BrotherAutomata$Census" "numbers" "[I", Cond.fieldLink RX0 15 "BrotherAutomata$Census" "before" "[I", Cond.methodLink RX0 27 arraycopyName, Cond.native arraycopyName, Cond.static arraycopyName, Cond.initialized "java/lang/System"]
def wsX6_isDeterministic_r2 : List Cond := [Cond.methodLink RX0 21 yJ7_fill_53178, Cond.static yJ7_fill_53178, Cond.initialized RJ7, Cond.code yJ7_fill_53178 cJ7_fill_53178 4 none, Cond.methodLink RX0 33 yX0_countConstants, Cond.instanceMethod yX0_countConstants, Cond.selects RX0 yX0_countConstants yX0_countConstants, Cond.code yX0_countConstants cX0_countConstants 3 none, Cond.methodLink RX0 48 yX3_step, Cond.instanceMethod yX3_step, Cond.selects RX3 yX3_step yX3_step, Cond.initialized RX3, Cond.code yX3_step cX3_step 8 (some .int), Cond.fieldLink RX3 9 "BrotherAutomata$RuleMasks" "bySymbol" "[I", Cond.fieldLink RX3 15 "BrotherAutomata$RuleMasks" "byFirst" "[I", Cond.fieldLink RX3 18 "BrotherAutomata$RuleMasks" "bySecond" "[I", Cond.fieldLink RX3 24 "BrotherAutomata$RuleMasks" "whenEqual" "I", Cond.fieldLink RX3 28 "BrotherAutomata$RuleMasks" "whenDifferent" "I", Cond.fieldLink RX3 21 "BrotherAutomata$RuleMasks" "targetSets" "[I", Cond.methodLink RX0 54 yX0_raise, Cond.instanceMethod yX0_raise, Cond.selects RX0 yX0_raise yX0_raise, Cond.code yX0_raise cX0_raise 3 none, Cond.methodLink RX0 62 Lib.Math.min.name]
def wsX6_isDeterministic_r3 : List Cond := [Cond.static Lib.Math.min.name, Cond.initialized "java/lang/Math", Cond.code Lib.Math.min.name Lib.Math.min.code 2 (some .int), Cond.methodLink RX0 37 yX0_countUnary, Cond.instanceMethod yX0_countUnary, Cond.selects RX0 yX0_countUnary yX0_countUnary, Cond.code yX0_countUnary cX0_countUnary 4 none, Cond.methodLink RX0 41 yX0_countBinary, Cond.instanceMethod yX0_countBinary, Cond.selects RX0 yX0_countBinary yX0_countBinary, Cond.code yX0_countBinary cX0_countBinary 5 none, Cond.methodLink RX0 58 yX0_countPairs, Cond.instanceMethod yX0_countPairs, Cond.selects RX0 yX0_countPairs yX0_countPairs, Cond.code yX0_countPairs cX0_countPairs 6 none, Cond.methodLink RX0 44 yX0_noteGrowth, Cond.instanceMethod yX0_noteGrowth, Cond.selects RX0 yX0_noteGrowth yX0_noteGrowth, Cond.code yX0_noteGrowth cX0_noteGrowth 5 (some .boolean), Cond.fieldLink RX0 18 "BrotherAutomata$Census" "heights" "[I", Cond.methodLink RX6 181 yX0_isReached, Cond.instanceMethod yX0_isReached, Cond.selects RX0 yX0_isReached yX0_isReached, Cond.code yX0_isReached cX0_isReached 2 (some .boolean)]
def wsX6_isDeterministic_r4 : List Cond := [Cond.methodLink RX6 90 yJ6_bitCount_0f7a4, Cond.static yJ6_bitCount_0f7a4, Cond.initialized RJ6, Cond.code yJ6_bitCount_0f7a4 cJ6_bitCount_0f7a4 1 (some .int), Cond.constant RJ6 265 (1431655765), Cond.constant RJ6 266 (858993459), Cond.constant RJ6 267 (252645135)]
def wsX6_isDeterministic : List Cond := .code yX6_isDeterministic cX6_isDeterministic 2 (some .int) :: ((wsX6_isDeterministic_r1 ++ (wsX6_isDeterministic_r2 ++ (wsX6_isDeterministic_r3 ++ wsX6_isDeterministic_r4))) ++ wsX60 ++ wsX00 ++ wsX30)
def wsX6_leastHeight_r1 : List Cond := [Cond.fieldLink RX6 47 "BrotherAutomata" "census" "LBrotherAutomata$Census;", Cond.fieldLink RX6 19 "BrotherAutomata" "book" "LBrotherAutomata$RuleBook;", Cond.methodLink RX6 175 yX6_renewCensus, Cond.instanceMethod yX6_renewCensus, Cond.selects RX6 yX6_renewCensus yX6_renewCensus, Cond.initialized RX6, Cond.code yX6_renewCensus cX6_renewCensus 1 none, Cond.fieldLink RX6 59 "BrotherAutomata" "censusKnown" "Z", Cond.fieldLink RX6 33 "BrotherAutomata" "masks" "LBrotherAutomata$RuleMasks;", Cond.methodLink RX6 171 yX6_setCount, Cond.instanceMethod yX6_setCount, Cond.selects RX6 yX6_setCount yX6_setCount, Cond.code yX6_setCount cX6_setCount 1 (some .int), Cond.fieldLink RX6 63 "BrotherAutomata" "states" "I", Cond.methodLink RX6 197 yX0_take, Cond.instanceMethod yX0_take, Cond.selects RX0 yX0_take yX0_take, Cond.initialized RX0, Cond.code yX0_take cX0_take 5 none, Cond.fieldLink RX0 9 "BrotherAutomata$Census" "numbers" "[I", Cond.fieldLink RX0 15 "BrotherAutomata$Census" "before" "[I", Cond.methodLink RX0 27 arraycopyName, Cond.native arraycopyName, Cond.static arraycopyName]
def wsX6_leastHeight_r2 : List Cond := [Cond.initialized "java/lang/System", Cond.methodLink RX0 21 yJ7_fill_53178, Cond.static yJ7_fill_53178, Cond.initialized RJ7, Cond.code yJ7_fill_53178 cJ7_fill_53178 4 none, Cond.methodLink RX0 33 yX0_countConstants, Cond.instanceMethod yX0_countConstants, Cond.selects RX0 yX0_countConstants yX0_countConstants, Cond.code yX0_countConstants cX0_countConstants 3 none, Cond.methodLink RX0 48 yX3_step, Cond.instanceMethod yX3_step, Cond.selects RX3 yX3_step yX3_step, Cond.initialized RX3, Cond.code yX3_step cX3_step 8 (some .int), Cond.fieldLink RX3 9 "BrotherAutomata$RuleMasks" "bySymbol" "[I", Cond.fieldLink RX3 15 "BrotherAutomata$RuleMasks" "byFirst" "[I", Cond.fieldLink RX3 18 "BrotherAutomata$RuleMasks" "bySecond" "[I", Cond.fieldLink RX3 24 "BrotherAutomata$RuleMasks" "whenEqual" "I", Cond.fieldLink RX3 28 "BrotherAutomata$RuleMasks" "whenDifferent" "I", Cond.fieldLink RX3 21 "BrotherAutomata$RuleMasks" "targetSets" "[I", Cond.methodLink RX0 54 yX0_raise, Cond.instanceMethod yX0_raise, Cond.selects RX0 yX0_raise yX0_raise, Cond.code yX0_raise cX0_raise 3 none]
def wsX6_leastHeight_r3 : List Cond := [Cond.methodLink RX0 62 Lib.Math.min.name, Cond.static Lib.Math.min.name, Cond.initialized "java/lang/Math", Cond.code Lib.Math.min.name Lib.Math.min.code 2 (some .int), Cond.methodLink RX0 37 yX0_countUnary, Cond.instanceMethod yX0_countUnary, Cond.selects RX0 yX0_countUnary yX0_countUnary, Cond.code yX0_countUnary cX0_countUnary 4 none, Cond.methodLink RX0 41 yX0_countBinary, Cond.instanceMethod yX0_countBinary, Cond.selects RX0 yX0_countBinary yX0_countBinary, Cond.code yX0_countBinary cX0_countBinary 5 none, Cond.methodLink RX0 58 yX0_countPairs, Cond.instanceMethod yX0_countPairs, Cond.selects RX0 yX0_countPairs yX0_countPairs, Cond.code yX0_countPairs cX0_countPairs 6 none, Cond.methodLink RX0 44 yX0_noteGrowth, Cond.instanceMethod yX0_noteGrowth, Cond.selects RX0 yX0_noteGrowth yX0_noteGrowth, Cond.code yX0_noteGrowth cX0_noteGrowth 5 (some .boolean), Cond.fieldLink RX0 18 "BrotherAutomata$Census" "heights" "[I", Cond.methodLink RX6 181 yX0_isReached, Cond.instanceMethod yX0_isReached, Cond.selects RX0 yX0_isReached yX0_isReached]
def wsX6_leastHeight_r4 : List Cond := [Cond.code yX0_isReached cX0_isReached 2 (some .boolean)]
def wsX6_leastHeight : List Cond := .code yX6_leastHeight cX6_leastHeight 3 (some .int) :: ((wsX6_leastHeight_r1 ++ (wsX6_leastHeight_r2 ++ (wsX6_leastHeight_r3 ++ wsX6_leastHeight_r4))) ++ wsX60 ++ wsX20 ++ wsX00 ++ wsX30)
def wsX6_undo_r1 : List Cond := [Cond.fieldLink RX6 26 "BrotherAutomata" "history" "LBrotherAutomata$History;", Cond.fieldLink RX6 19 "BrotherAutomata" "book" "LBrotherAutomata$RuleBook;", Cond.methodLink RX6 191 yX1_giveBack, Cond.instanceMethod yX1_giveBack, Cond.selects RX1 yX1_giveBack yX1_giveBack, Cond.initialized RX1, Cond.code yX1_giveBack cX1_giveBack 2 none, Cond.fieldLink RX1 22 "BrotherAutomata$History" "kept" "I", Cond.fieldLink RX1 18 "BrotherAutomata$History" "next" "I", Cond.fieldLink RX1 11 "BrotherAutomata$History" "ring" "[LBrotherAutomata$RuleBook;", Cond.methodLink RX1 25 yX2_copyFrom, Cond.instanceMethod yX2_copyFrom, Cond.selects RX2 yX2_copyFrom yX2_copyFrom, Cond.initialized RX2, Cond.code yX2_copyFrom cX2_copyFrom 2 none, Cond.fieldLink RX2 27 "BrotherAutomata$RuleBook" "count" "I", Cond.fieldLink RX2 31 "BrotherAutomata$RuleBook" "finals" "I", Cond.fieldLink RX2 9 "BrotherAutomata$RuleBook" "symbols" "[I", Cond.methodLink RX2 34 arraycopyName, Cond.native arraycopyName, Cond.static arraycopyName, Cond.initialized "java/lang/System", Cond.fieldLink RX2 15 "BrotherAutomata$RuleBook" "firsts" "[I", Cond.fieldLink RX2 18 "BrotherAutomata$RuleBook" "seconds" "[I"]
def wsX6_undo_r2 : List Cond := [Cond.fieldLink RX2 21 "BrotherAutomata$RuleBook" "constraints" "[I", Cond.fieldLink RX2 24 "BrotherAutomata$RuleBook" "targets" "[I", Cond.methodLink RX6 72 yX6_renewRuns, Cond.instanceMethod yX6_renewRuns, Cond.selects RX6 yX6_renewRuns yX6_renewRuns, Cond.initialized RX6, Cond.code yX6_renewRuns cX6_renewRuns 1 none, Cond.fieldLink RX6 33 "BrotherAutomata" "masks" "LBrotherAutomata$RuleMasks;", Cond.fieldLink RX6 55 "BrotherAutomata" "subsetsKnown" "I", Cond.fieldLink RX6 59 "BrotherAutomata" "censusKnown" "Z", Cond.methodLink RX6 194 yX3_build, Cond.instanceMethod yX3_build, Cond.selects RX3 yX3_build yX3_build, Cond.initialized RX3, Cond.code yX3_build cX3_build 3 none, Cond.fieldLink RX3 9 "BrotherAutomata$RuleMasks" "bySymbol" "[I", Cond.fieldLink RX3 15 "BrotherAutomata$RuleMasks" "byFirst" "[I", Cond.fieldLink RX3 18 "BrotherAutomata$RuleMasks" "bySecond" "[I", Cond.fieldLink RX3 24 "BrotherAutomata$RuleMasks" "whenEqual" "I", Cond.fieldLink RX3 28 "BrotherAutomata$RuleMasks" "whenDifferent" "I", Cond.methodLink RX3 31 yJ7_fill_53178, Cond.static yJ7_fill_53178, Cond.initialized RJ7, Cond.code yJ7_fill_53178 cJ7_fill_53178 4 none]
def wsX6_undo_r3 : List Cond := [Cond.methodLink RX3 42 yX3_enter, Cond.instanceMethod yX3_enter, Cond.selects RX3 yX3_enter yX3_enter, Cond.code yX3_enter cX3_enter 6 none, Cond.fieldLink RX3 21 "BrotherAutomata$RuleMasks" "targetSets" "[I", Cond.methodLink RX3 46 yX3_spread, Cond.static yX3_spread, Cond.code yX3_spread cX3_spread 3 none]
def wsX6_undo : List Cond := .code yX6_undo cX6_undo 1 (some .int) :: ((wsX6_undo_r1 ++ (wsX6_undo_r2 ++ wsX6_undo_r3)) ++ wsX60 ++ wsX10 ++ wsX20 ++ wsX30)
def wsX7_lays : List Cond := .code yX7_lays cX7_lays 6 none :: ([.fieldLink RX7 7 "BrotherAutomataModel" "symbol" "[I", .fieldLink RX7 47 "BrotherAutomataModel" "trees" "I", .fieldLink RX7 13 "BrotherAutomataModel" "first" "[I", .fieldLink RX7 16 "BrotherAutomataModel" "second" "[I", .fieldLink RX7 19 "BrotherAutomataModel" "size" "[I", .fieldLink RX7 22 "BrotherAutomataModel" "height" "[I"] ++ wsX70)
def wsX7_grows : List Cond := .code yX7_grows cX7_grows 7 none :: ([.fieldLink RX7 47 "BrotherAutomataModel" "trees" "I", .fieldLink RX7 25 "BrotherAutomataModel" "begin" "[I", .fieldLink RX7 22 "BrotherAutomataModel" "height" "[I", .fieldLink RX7 19 "BrotherAutomataModel" "size" "[I", .methodLink RX7 50 yX7_lays, .instanceMethod yX7_lays, .selects RX7 yX7_lays yX7_lays, .initialized RX7, .code yX7_lays cX7_lays 6 none, .fieldLink RX7 7 "BrotherAutomataModel" "symbol" "[I", .fieldLink RX7 13 "BrotherAutomataModel" "first" "[I", .fieldLink RX7 16 "BrotherAutomataModel" "second" "[I"] ++ wsX70)
def wsX7_init_r1 : List Cond := [Cond.methodLink RX7 1 objectInit, Cond.instanceMethod objectInit, Cond.code objectInit ⟨#[0xb1]⟩ 1 none, Cond.arrayClass .int, Cond.fieldLink RX7 7 "BrotherAutomataModel" "symbol" "[I", Cond.fieldLink RX7 13 "BrotherAutomataModel" "first" "[I", Cond.fieldLink RX7 16 "BrotherAutomataModel" "second" "[I", Cond.fieldLink RX7 19 "BrotherAutomataModel" "size" "[I", Cond.fieldLink RX7 22 "BrotherAutomataModel" "height" "[I", Cond.fieldLink RX7 25 "BrotherAutomataModel" "begin" "[I", Cond.fieldLink RX7 28 "BrotherAutomataModel" "runs" "[I", Cond.fieldLink RX7 31 "BrotherAutomataModel" "states" "I", Cond.fieldLink RX7 35 "BrotherAutomataModel" "now" "[I", Cond.fieldLink RX7 38 "BrotherAutomataModel" "history" "[I", Cond.fieldLink RX7 41 "BrotherAutomataModel" "many" "[I", Cond.fieldLink RX7 44 "BrotherAutomataModel" "more" "[I", Cond.fieldLink RX7 47 "BrotherAutomataModel" "trees" "I", Cond.methodLink RX7 50 yX7_lays, Cond.instanceMethod yX7_lays, Cond.selects RX7 yX7_lays yX7_lays, Cond.initialized RX7, Cond.code yX7_lays cX7_lays 6 none, Cond.methodLink RX7 54 yX7_grows, Cond.instanceMethod yX7_grows]
def wsX7_init_r2 : List Cond := [Cond.selects RX7 yX7_grows yX7_grows, Cond.code yX7_grows cX7_grows 7 none]
def wsX7_init : List Cond := .code yX7_init cX7_init 2 none :: ((wsX7_init_r1 ++ wsX7_init_r2) ++ wsX70)
def wsX7_in : List Cond := .code yX7_in cX7_in 3 (some .boolean) :: ([])
def wsX7_isState : List Cond := .code yX7_isState cX7_isState 2 (some .boolean) :: ([.fieldLink RX7 31 "BrotherAutomataModel" "states" "I", .methodLink RX7 58 yX7_in, .static yX7_in, .initialized RX7, .code yX7_in cX7_in 3 (some .boolean)] ++ wsX70)
def wsX7_arity : List Cond := .code yX7_arity cX7_arity 1 (some .int) :: ([])
def wsX7_has : List Cond := .code yX7_has cX7_has 2 (some .boolean) :: ([])
def wsX7_reset : List Cond := .code yX7_reset cX7_reset 3 (some .int) :: ([.fieldLink RX7 31 "BrotherAutomataModel" "states" "I", .fieldLink RX7 35 "BrotherAutomataModel" "now" "[I", .fieldLink RX7 62 "BrotherAutomataModel" "edits" "I", .methodLink RX7 58 yX7_in, .static yX7_in, .initialized RX7, .code yX7_in cX7_in 3 (some .boolean)] ++ wsX70)
def wsX7_edit : List Cond := .code yX7_edit cX7_edit 2 none :: ([.fieldLink RX7 62 "BrotherAutomataModel" "edits" "I", .fieldLink RX7 38 "BrotherAutomataModel" "history" "[I", .fieldLink RX7 35 "BrotherAutomataModel" "now" "[I"] ++ wsX70)
def wsX7_undo : List Cond := .code yX7_undo cX7_undo 2 (some .int) :: ([.fieldLink RX7 62 "BrotherAutomataModel" "edits" "I", .fieldLink RX7 35 "BrotherAutomataModel" "now" "[I", .fieldLink RX7 38 "BrotherAutomataModel" "history" "[I"] ++ wsX70)
def wsX7_setFinal : List Cond := .code yX7_setFinal cX7_setFinal 5 (some .int) :: ([.fieldLink RX7 35 "BrotherAutomataModel" "now" "[I", .fieldLink RX7 31 "BrotherAutomataModel" "states" "I", .methodLink RX7 65 yX7_isState, .instanceMethod yX7_isState, .selects RX7 yX7_isState yX7_isState, .initialized RX7, .code yX7_isState cX7_isState 2 (some .boolean), .methodLink RX7 58 yX7_in, .static yX7_in, .code yX7_in cX7_in 3 (some .boolean), .methodLink RX7 69 yX7_edit, .instanceMethod yX7_edit, .selects RX7 yX7_edit yX7_edit, .code yX7_edit cX7_edit 2 none, .fieldLink RX7 62 "BrotherAutomataModel" "edits" "I", .fieldLink RX7 38 "BrotherAutomataModel" "history" "[I", .methodLink RX7 72 yX7_has, .static yX7_has, .code yX7_has cX7_has 2 (some .boolean)] ++ wsX70)
def wsX7_addRule : List Cond := .code yX7_addRule cX7_addRule 8 (some .int) :: ([.fieldLink RX7 35 "BrotherAutomataModel" "now" "[I", .methodLink RX7 58 yX7_in, .static yX7_in, .initialized RX7, .code yX7_in cX7_in 3 (some .boolean), .methodLink RX7 65 yX7_isState, .instanceMethod yX7_isState, .selects RX7 yX7_isState yX7_isState, .code yX7_isState cX7_isState 2 (some .boolean), .fieldLink RX7 31 "BrotherAutomataModel" "states" "I", .methodLink RX7 76 yX7_arity, .static yX7_arity, .code yX7_arity cX7_arity 1 (some .int), .methodLink RX7 69 yX7_edit, .instanceMethod yX7_edit, .selects RX7 yX7_edit yX7_edit, .code yX7_edit cX7_edit 2 none, .fieldLink RX7 62 "BrotherAutomataModel" "edits" "I", .fieldLink RX7 38 "BrotherAutomataModel" "history" "[I"] ++ wsX70)
def wsX7_removeRule : List Cond := .code yX7_removeRule cX7_removeRule 3 (some .int) :: ([.fieldLink RX7 35 "BrotherAutomataModel" "now" "[I", .methodLink RX7 58 yX7_in, .static yX7_in, .initialized RX7, .code yX7_in cX7_in 3 (some .boolean), .methodLink RX7 69 yX7_edit, .instanceMethod yX7_edit, .selects RX7 yX7_edit yX7_edit, .code yX7_edit cX7_edit 2 none, .fieldLink RX7 62 "BrotherAutomataModel" "edits" "I", .fieldLink RX7 38 "BrotherAutomataModel" "history" "[I"] ++ wsX70)
def wsX7_swapped : List Cond := .code yX7_swapped cX7_swapped 3 (some .int) :: ([])
def wsX7_swapStates_r1 : List Cond := [Cond.fieldLink RX7 35 "BrotherAutomataModel" "now" "[I", Cond.fieldLink RX7 31 "BrotherAutomataModel" "states" "I", Cond.methodLink RX7 65 yX7_isState, Cond.instanceMethod yX7_isState, Cond.selects RX7 yX7_isState yX7_isState, Cond.initialized RX7, Cond.code yX7_isState cX7_isState 2 (some .boolean), Cond.methodLink RX7 58 yX7_in, Cond.static yX7_in, Cond.code yX7_in cX7_in 3 (some .boolean), Cond.methodLink RX7 69 yX7_edit, Cond.instanceMethod yX7_edit, Cond.selects RX7 yX7_edit yX7_edit, Cond.code yX7_edit cX7_edit 2 none, Cond.fieldLink RX7 62 "BrotherAutomataModel" "edits" "I", Cond.fieldLink RX7 38 "BrotherAutomataModel" "history" "[I", Cond.methodLink RX7 76 yX7_arity, Cond.static yX7_arity, Cond.code yX7_arity cX7_arity 1 (some .int), Cond.methodLink RX7 80 yX7_swapped, Cond.static yX7_swapped, Cond.code yX7_swapped cX7_swapped 3 (some .int), Cond.methodLink RX7 72 yX7_has, Cond.static yX7_has]
def wsX7_swapStates_r2 : List Cond := [Cond.code yX7_has cX7_has 2 (some .boolean)]
def wsX7_swapStates : List Cond := .code yX7_swapStates cX7_swapStates 8 (some .int) :: ((wsX7_swapStates_r1 ++ wsX7_swapStates_r2) ++ wsX70)
def wsX7_ruleCount : List Cond := .code yX7_ruleCount cX7_ruleCount 1 (some .int) :: ([.fieldLink RX7 35 "BrotherAutomataModel" "now" "[I"] ++ wsX70)
def wsX7_finalStates : List Cond := .code yX7_finalStates cX7_finalStates 1 (some .int) :: ([.fieldLink RX7 35 "BrotherAutomataModel" "now" "[I"] ++ wsX70)
def wsX7_isSize : List Cond := .code yX7_isSize cX7_isSize 1 (some .boolean) :: ([.methodLink RX7 58 yX7_in, .static yX7_in, .initialized RX7, .code yX7_in cX7_in 3 (some .boolean)])
def wsX7_isTree : List Cond := .code yX7_isTree cX7_isTree 1 (some .boolean) :: ([.methodLink RX7 58 yX7_in, .static yX7_in, .initialized RX7, .code yX7_in cX7_in 3 (some .boolean)])
def wsX7_treeCount : List Cond := .code yX7_treeCount cX7_treeCount 2 (some .int) :: ([.fieldLink RX7 25 "BrotherAutomataModel" "begin" "[I", .methodLink RX7 84 yX7_isSize, .static yX7_isSize, .initialized RX7, .code yX7_isSize cX7_isSize 1 (some .boolean), .methodLink RX7 58 yX7_in, .static yX7_in, .code yX7_in cX7_in 3 (some .boolean)] ++ wsX70)
def wsX7_treeOf : List Cond := .code yX7_treeOf cX7_treeOf 7 (some .int) :: ([.fieldLink RX7 19 "BrotherAutomataModel" "size" "[I", .fieldLink RX7 25 "BrotherAutomataModel" "begin" "[I", .fieldLink RX7 7 "BrotherAutomataModel" "symbol" "[I", .fieldLink RX7 13 "BrotherAutomataModel" "first" "[I", .fieldLink RX7 16 "BrotherAutomataModel" "second" "[I", .methodLink RX7 58 yX7_in, .static yX7_in, .initialized RX7, .code yX7_in cX7_in 3 (some .boolean), .methodLink RX7 76 yX7_arity, .static yX7_arity, .code yX7_arity cX7_arity 1 (some .int), .methodLink RX7 87 yX7_isTree, .static yX7_isTree, .code yX7_isTree cX7_isTree 1 (some .boolean)] ++ wsX70)
def wsX7_symbolOf : List Cond := .code yX7_symbolOf cX7_symbolOf 2 (some .int) :: ([.fieldLink RX7 7 "BrotherAutomataModel" "symbol" "[I", .methodLink RX7 87 yX7_isTree, .static yX7_isTree, .initialized RX7, .code yX7_isTree cX7_isTree 1 (some .boolean), .methodLink RX7 58 yX7_in, .static yX7_in, .code yX7_in cX7_in 3 (some .boolean)] ++ wsX70)
def wsX7_childOf : List Cond := .code yX7_childOf cX7_childOf 3 (some .int) :: ([.fieldLink RX7 7 "BrotherAutomataModel" "symbol" "[I", .fieldLink RX7 13 "BrotherAutomataModel" "first" "[I", .fieldLink RX7 16 "BrotherAutomataModel" "second" "[I", .methodLink RX7 87 yX7_isTree, .static yX7_isTree, .initialized RX7, .code yX7_isTree cX7_isTree 1 (some .boolean), .methodLink RX7 58 yX7_in, .static yX7_in, .code yX7_in cX7_in 3 (some .boolean), .methodLink RX7 76 yX7_arity, .static yX7_arity, .code yX7_arity cX7_arity 1 (some .int)] ++ wsX70)
def wsX7_sizeOf : List Cond := .code yX7_sizeOf cX7_sizeOf 2 (some .int) :: ([.fieldLink RX7 19 "BrotherAutomataModel" "size" "[I", .methodLink RX7 87 yX7_isTree, .static yX7_isTree, .initialized RX7, .code yX7_isTree cX7_isTree 1 (some .boolean), .methodLink RX7 58 yX7_in, .static yX7_in, .code yX7_in cX7_in 3 (some .boolean)] ++ wsX70)
def wsX7_heightOf : List Cond := .code yX7_heightOf cX7_heightOf 2 (some .int) :: ([.fieldLink RX7 22 "BrotherAutomataModel" "height" "[I", .methodLink RX7 87 yX7_isTree, .static yX7_isTree, .initialized RX7, .code yX7_isTree cX7_isTree 1 (some .boolean), .methodLink RX7 58 yX7_in, .static yX7_in, .code yX7_in cX7_in 3 (some .boolean)] ++ wsX70)
def wsX7_isFulfilled : List Cond := .code yX7_isFulfilled cX7_isFulfilled 2 (some .boolean) :: ([])
def wsX7_runsTo : List Cond := .code yX7_runsTo cX7_runsTo 5 none :: ([.fieldLink RX7 28 "BrotherAutomataModel" "runs" "[I", .fieldLink RX7 35 "BrotherAutomataModel" "now" "[I", .fieldLink RX7 7 "BrotherAutomataModel" "symbol" "[I", .fieldLink RX7 13 "BrotherAutomataModel" "first" "[I", .fieldLink RX7 16 "BrotherAutomataModel" "second" "[I", .methodLink RX7 76 yX7_arity, .static yX7_arity, .initialized RX7, .code yX7_arity cX7_arity 1 (some .int), .methodLink RX7 90 yX7_isFulfilled, .static yX7_isFulfilled, .code yX7_isFulfilled cX7_isFulfilled 2 (some .boolean)] ++ wsX70)
def wsX7_subset : List Cond := .code yX7_subset cX7_subset 4 (some .int) :: ([.fieldLink RX7 31 "BrotherAutomataModel" "states" "I", .fieldLink RX7 28 "BrotherAutomataModel" "runs" "[I"] ++ wsX70)
def wsX7_subsetOf_r1 : List Cond := [Cond.methodLink RX7 87 yX7_isTree, Cond.static yX7_isTree, Cond.initialized RX7, Cond.code yX7_isTree cX7_isTree 1 (some .boolean), Cond.methodLink RX7 58 yX7_in, Cond.static yX7_in, Cond.code yX7_in cX7_in 3 (some .boolean), Cond.methodLink RX7 94 yX7_runsTo, Cond.instanceMethod yX7_runsTo, Cond.selects RX7 yX7_runsTo yX7_runsTo, Cond.code yX7_runsTo cX7_runsTo 5 none, Cond.fieldLink RX7 28 "BrotherAutomataModel" "runs" "[I", Cond.fieldLink RX7 35 "BrotherAutomataModel" "now" "[I", Cond.fieldLink RX7 7 "BrotherAutomataModel" "symbol" "[I", Cond.fieldLink RX7 13 "BrotherAutomataModel" "first" "[I", Cond.fieldLink RX7 16 "BrotherAutomataModel" "second" "[I", Cond.methodLink RX7 76 yX7_arity, Cond.static yX7_arity, Cond.code yX7_arity cX7_arity 1 (some .int), Cond.methodLink RX7 90 yX7_isFulfilled, Cond.static yX7_isFulfilled, Cond.code yX7_isFulfilled cX7_isFulfilled 2 (some .boolean), Cond.methodLink RX7 97 yX7_subset, Cond.instanceMethod yX7_subset]
def wsX7_subsetOf_r2 : List Cond := [Cond.selects RX7 yX7_subset yX7_subset, Cond.code yX7_subset cX7_subset 4 (some .int), Cond.fieldLink RX7 31 "BrotherAutomataModel" "states" "I"]
def wsX7_subsetOf : List Cond := .code yX7_subsetOf cX7_subsetOf 2 (some .int) :: ((wsX7_subsetOf_r1 ++ wsX7_subsetOf_r2) ++ wsX70)
def wsX7_isAccepted : List Cond := .code yX7_isAccepted cX7_isAccepted 2 (some .boolean) :: ([.fieldLink RX7 35 "BrotherAutomataModel" "now" "[I", .methodLink RX7 97 yX7_subset, .instanceMethod yX7_subset, .selects RX7 yX7_subset yX7_subset, .initialized RX7, .code yX7_subset cX7_subset 4 (some .int), .fieldLink RX7 31 "BrotherAutomataModel" "states" "I", .fieldLink RX7 28 "BrotherAutomataModel" "runs" "[I"] ++ wsX70)
def wsX7_accepts_r1 : List Cond := [Cond.methodLink RX7 87 yX7_isTree, Cond.static yX7_isTree, Cond.initialized RX7, Cond.code yX7_isTree cX7_isTree 1 (some .boolean), Cond.methodLink RX7 58 yX7_in, Cond.static yX7_in, Cond.code yX7_in cX7_in 3 (some .boolean), Cond.methodLink RX7 94 yX7_runsTo, Cond.instanceMethod yX7_runsTo, Cond.selects RX7 yX7_runsTo yX7_runsTo, Cond.code yX7_runsTo cX7_runsTo 5 none, Cond.fieldLink RX7 28 "BrotherAutomataModel" "runs" "[I", Cond.fieldLink RX7 35 "BrotherAutomataModel" "now" "[I", Cond.fieldLink RX7 7 "BrotherAutomataModel" "symbol" "[I", Cond.fieldLink RX7 13 "BrotherAutomataModel" "first" "[I", Cond.fieldLink RX7 16 "BrotherAutomataModel" "second" "[I", Cond.methodLink RX7 76 yX7_arity, Cond.static yX7_arity, Cond.code yX7_arity cX7_arity 1 (some .int), Cond.methodLink RX7 90 yX7_isFulfilled, Cond.static yX7_isFulfilled, Cond.code yX7_isFulfilled cX7_isFulfilled 2 (some .boolean), Cond.methodLink RX7 100 yX7_isAccepted, Cond.instanceMethod yX7_isAccepted]
def wsX7_accepts_r2 : List Cond := [Cond.selects RX7 yX7_isAccepted yX7_isAccepted, Cond.code yX7_isAccepted cX7_isAccepted 2 (some .boolean), Cond.methodLink RX7 97 yX7_subset, Cond.instanceMethod yX7_subset, Cond.selects RX7 yX7_subset yX7_subset, Cond.code yX7_subset cX7_subset 4 (some .int), Cond.fieldLink RX7 31 "BrotherAutomataModel" "states" "I"]
def wsX7_accepts : List Cond := .code yX7_accepts cX7_accepts 2 (some .int) :: ((wsX7_accepts_r1 ++ wsX7_accepts_r2) ++ wsX70)
def wsX7_runCount_r1 : List Cond := [Cond.fieldLink RX7 28 "BrotherAutomataModel" "runs" "[I", Cond.methodLink RX7 87 yX7_isTree, Cond.static yX7_isTree, Cond.initialized RX7, Cond.code yX7_isTree cX7_isTree 1 (some .boolean), Cond.methodLink RX7 58 yX7_in, Cond.static yX7_in, Cond.code yX7_in cX7_in 3 (some .boolean), Cond.methodLink RX7 65 yX7_isState, Cond.instanceMethod yX7_isState, Cond.selects RX7 yX7_isState yX7_isState, Cond.code yX7_isState cX7_isState 2 (some .boolean), Cond.fieldLink RX7 31 "BrotherAutomataModel" "states" "I", Cond.methodLink RX7 94 yX7_runsTo, Cond.instanceMethod yX7_runsTo, Cond.selects RX7 yX7_runsTo yX7_runsTo, Cond.code yX7_runsTo cX7_runsTo 5 none, Cond.fieldLink RX7 35 "BrotherAutomataModel" "now" "[I", Cond.fieldLink RX7 7 "BrotherAutomataModel" "symbol" "[I", Cond.fieldLink RX7 13 "BrotherAutomataModel" "first" "[I", Cond.fieldLink RX7 16 "BrotherAutomataModel" "second" "[I", Cond.methodLink RX7 76 yX7_arity, Cond.static yX7_arity, Cond.code yX7_arity cX7_arity 1 (some .int)]
def wsX7_runCount_r2 : List Cond := [Cond.methodLink RX7 90 yX7_isFulfilled, Cond.static yX7_isFulfilled, Cond.code yX7_isFulfilled cX7_isFulfilled 2 (some .boolean)]
def wsX7_runCount : List Cond := .code yX7_runCount cX7_runCount 3 (some .int) :: ((wsX7_runCount_r1 ++ wsX7_runCount_r2) ++ wsX70)
def wsX7_acceptedCount_r1 : List Cond := [Cond.fieldLink RX7 25 "BrotherAutomataModel" "begin" "[I", Cond.methodLink RX7 84 yX7_isSize, Cond.static yX7_isSize, Cond.initialized RX7, Cond.code yX7_isSize cX7_isSize 1 (some .boolean), Cond.methodLink RX7 58 yX7_in, Cond.static yX7_in, Cond.code yX7_in cX7_in 3 (some .boolean), Cond.methodLink RX7 94 yX7_runsTo, Cond.instanceMethod yX7_runsTo, Cond.selects RX7 yX7_runsTo yX7_runsTo, Cond.code yX7_runsTo cX7_runsTo 5 none, Cond.fieldLink RX7 28 "BrotherAutomataModel" "runs" "[I", Cond.fieldLink RX7 35 "BrotherAutomataModel" "now" "[I", Cond.fieldLink RX7 7 "BrotherAutomataModel" "symbol" "[I", Cond.fieldLink RX7 13 "BrotherAutomataModel" "first" "[I", Cond.fieldLink RX7 16 "BrotherAutomataModel" "second" "[I", Cond.methodLink RX7 76 yX7_arity, Cond.static yX7_arity, Cond.code yX7_arity cX7_arity 1 (some .int), Cond.methodLink RX7 90 yX7_isFulfilled, Cond.static yX7_isFulfilled, Cond.code yX7_isFulfilled cX7_isFulfilled 2 (some .boolean), Cond.methodLink RX7 100 yX7_isAccepted]
def wsX7_acceptedCount_r2 : List Cond := [Cond.instanceMethod yX7_isAccepted, Cond.selects RX7 yX7_isAccepted yX7_isAccepted, Cond.code yX7_isAccepted cX7_isAccepted 2 (some .boolean), Cond.methodLink RX7 97 yX7_subset, Cond.instanceMethod yX7_subset, Cond.selects RX7 yX7_subset yX7_subset, Cond.code yX7_subset cX7_subset 4 (some .int), Cond.fieldLink RX7 31 "BrotherAutomataModel" "states" "I"]
def wsX7_acceptedCount : List Cond := .code yX7_acceptedCount cX7_acceptedCount 4 (some .int) :: ((wsX7_acceptedCount_r1 ++ wsX7_acceptedCount_r2) ++ wsX70)
def wsX7_acceptedTree_r1 : List Cond := [Cond.fieldLink RX7 25 "BrotherAutomataModel" "begin" "[I", Cond.methodLink RX7 84 yX7_isSize, Cond.static yX7_isSize, Cond.initialized RX7, Cond.code yX7_isSize cX7_isSize 1 (some .boolean), Cond.methodLink RX7 58 yX7_in, Cond.static yX7_in, Cond.code yX7_in cX7_in 3 (some .boolean), Cond.methodLink RX7 94 yX7_runsTo, Cond.instanceMethod yX7_runsTo, Cond.selects RX7 yX7_runsTo yX7_runsTo, Cond.code yX7_runsTo cX7_runsTo 5 none, Cond.fieldLink RX7 28 "BrotherAutomataModel" "runs" "[I", Cond.fieldLink RX7 35 "BrotherAutomataModel" "now" "[I", Cond.fieldLink RX7 7 "BrotherAutomataModel" "symbol" "[I", Cond.fieldLink RX7 13 "BrotherAutomataModel" "first" "[I", Cond.fieldLink RX7 16 "BrotherAutomataModel" "second" "[I", Cond.methodLink RX7 76 yX7_arity, Cond.static yX7_arity, Cond.code yX7_arity cX7_arity 1 (some .int), Cond.methodLink RX7 90 yX7_isFulfilled, Cond.static yX7_isFulfilled, Cond.code yX7_isFulfilled cX7_isFulfilled 2 (some .boolean), Cond.methodLink RX7 100 yX7_isAccepted]
def wsX7_acceptedTree_r2 : List Cond := [Cond.instanceMethod yX7_isAccepted, Cond.selects RX7 yX7_isAccepted yX7_isAccepted, Cond.code yX7_isAccepted cX7_isAccepted 2 (some .boolean), Cond.methodLink RX7 97 yX7_subset, Cond.instanceMethod yX7_subset, Cond.selects RX7 yX7_subset yX7_subset, Cond.code yX7_subset cX7_subset 4 (some .int), Cond.fieldLink RX7 31 "BrotherAutomataModel" "states" "I"]
def wsX7_acceptedTree : List Cond := .code yX7_acceptedTree cX7_acceptedTree 5 (some .int) :: ((wsX7_acceptedTree_r1 ++ wsX7_acceptedTree_r2) ++ wsX70)
def wsX7_leads : List Cond := .code yX7_leads cX7_leads 8 (some .int) :: ([.fieldLink RX7 35 "BrotherAutomataModel" "now" "[I", .methodLink RX7 76 yX7_arity, .static yX7_arity, .initialized RX7, .code yX7_arity cX7_arity 1 (some .int), .methodLink RX7 72 yX7_has, .static yX7_has, .code yX7_has cX7_has 2 (some .boolean), .methodLink RX7 90 yX7_isFulfilled, .static yX7_isFulfilled, .code yX7_isFulfilled cX7_isFulfilled 2 (some .boolean)] ++ wsX70)
def wsX7_puts : List Cond := .code yX7_puts cX7_puts 3 none :: ([.fieldLink RX7 44 "BrotherAutomataModel" "more" "[I"] ++ wsX70)
def wsX7_steps : List Cond := .code yX7_steps cX7_steps 6 (some .boolean) :: ([.fieldLink RX7 31 "BrotherAutomataModel" "states" "I", .fieldLink RX7 44 "BrotherAutomataModel" "more" "[I", .fieldLink RX7 41 "BrotherAutomataModel" "many" "[I", .methodLink RX7 103 yX7_leads, .instanceMethod yX7_leads, .selects RX7 yX7_leads yX7_leads, .initialized RX7, .code yX7_leads cX7_leads 8 (some .int), .fieldLink RX7 35 "BrotherAutomataModel" "now" "[I", .methodLink RX7 76 yX7_arity, .static yX7_arity, .code yX7_arity cX7_arity 1 (some .int), .methodLink RX7 72 yX7_has, .static yX7_has, .code yX7_has cX7_has 2 (some .boolean), .methodLink RX7 90 yX7_isFulfilled, .static yX7_isFulfilled, .code yX7_isFulfilled cX7_isFulfilled 2 (some .boolean), .methodLink RX7 107 yX7_puts, .instanceMethod yX7_puts, .selects RX7 yX7_puts yX7_puts, .code yX7_puts cX7_puts 3 none] ++ wsX70)
def wsX7_starts : List Cond := .code yX7_starts cX7_starts 2 none :: ([.fieldLink RX7 41 "BrotherAutomataModel" "many" "[I"] ++ wsX70)
def wsX7_counts_r1 : List Cond := [Cond.methodLink RX7 111 yX7_starts, Cond.instanceMethod yX7_starts, Cond.selects RX7 yX7_starts yX7_starts, Cond.initialized RX7, Cond.code yX7_starts cX7_starts 2 none, Cond.fieldLink RX7 41 "BrotherAutomataModel" "many" "[I", Cond.methodLink RX7 114 yX7_steps, Cond.instanceMethod yX7_steps, Cond.selects RX7 yX7_steps yX7_steps, Cond.code yX7_steps cX7_steps 6 (some .boolean), Cond.fieldLink RX7 31 "BrotherAutomataModel" "states" "I", Cond.fieldLink RX7 44 "BrotherAutomataModel" "more" "[I", Cond.methodLink RX7 103 yX7_leads, Cond.instanceMethod yX7_leads, Cond.selects RX7 yX7_leads yX7_leads, Cond.code yX7_leads cX7_leads 8 (some .int), Cond.fieldLink RX7 35 "BrotherAutomataModel" "now" "[I", Cond.methodLink RX7 76 yX7_arity, Cond.static yX7_arity, Cond.code yX7_arity cX7_arity 1 (some .int), Cond.methodLink RX7 72 yX7_has, Cond.static yX7_has, Cond.code yX7_has cX7_has 2 (some .boolean), Cond.methodLink RX7 90 yX7_isFulfilled]
def wsX7_counts_r2 : List Cond := [Cond.static yX7_isFulfilled, Cond.code yX7_isFulfilled cX7_isFulfilled 2 (some .boolean), Cond.methodLink RX7 107 yX7_puts, Cond.instanceMethod yX7_puts, Cond.selects RX7 yX7_puts yX7_puts, Cond.code yX7_puts cX7_puts 3 none]
def wsX7_counts : List Cond := .code yX7_counts cX7_counts 2 none :: ((wsX7_counts_r1 ++ wsX7_counts_r2) ++ wsX70)
def wsX7_treesOfSet_r1 : List Cond := [Cond.fieldLink RX7 31 "BrotherAutomataModel" "states" "I", Cond.fieldLink RX7 41 "BrotherAutomataModel" "many" "[I", Cond.methodLink RX7 58 yX7_in, Cond.static yX7_in, Cond.initialized RX7, Cond.code yX7_in cX7_in 3 (some .boolean), Cond.methodLink RX7 118 yX7_counts, Cond.instanceMethod yX7_counts, Cond.selects RX7 yX7_counts yX7_counts, Cond.code yX7_counts cX7_counts 2 none, Cond.methodLink RX7 111 yX7_starts, Cond.instanceMethod yX7_starts, Cond.selects RX7 yX7_starts yX7_starts, Cond.code yX7_starts cX7_starts 2 none, Cond.methodLink RX7 114 yX7_steps, Cond.instanceMethod yX7_steps, Cond.selects RX7 yX7_steps yX7_steps, Cond.code yX7_steps cX7_steps 6 (some .boolean), Cond.fieldLink RX7 44 "BrotherAutomataModel" "more" "[I", Cond.methodLink RX7 103 yX7_leads, Cond.instanceMethod yX7_leads, Cond.selects RX7 yX7_leads yX7_leads, Cond.code yX7_leads cX7_leads 8 (some .int), Cond.fieldLink RX7 35 "BrotherAutomataModel" "now" "[I"]
def wsX7_treesOfSet_r2 : List Cond := [Cond.methodLink RX7 76 yX7_arity, Cond.static yX7_arity, Cond.code yX7_arity cX7_arity 1 (some .int), Cond.methodLink RX7 72 yX7_has, Cond.static yX7_has, Cond.code yX7_has cX7_has 2 (some .boolean), Cond.methodLink RX7 90 yX7_isFulfilled, Cond.static yX7_isFulfilled, Cond.code yX7_isFulfilled cX7_isFulfilled 2 (some .boolean), Cond.methodLink RX7 107 yX7_puts, Cond.instanceMethod yX7_puts, Cond.selects RX7 yX7_puts yX7_puts, Cond.code yX7_puts cX7_puts 3 none]
def wsX7_treesOfSet : List Cond := .code yX7_treesOfSet cX7_treesOfSet 2 (some .int) :: ((wsX7_treesOfSet_r1 ++ wsX7_treesOfSet_r2) ++ wsX70)
def wsX7_reachedSets_r1 : List Cond := [Cond.fieldLink RX7 41 "BrotherAutomataModel" "many" "[I", Cond.methodLink RX7 118 yX7_counts, Cond.instanceMethod yX7_counts, Cond.selects RX7 yX7_counts yX7_counts, Cond.initialized RX7, Cond.code yX7_counts cX7_counts 2 none, Cond.methodLink RX7 111 yX7_starts, Cond.instanceMethod yX7_starts, Cond.selects RX7 yX7_starts yX7_starts, Cond.code yX7_starts cX7_starts 2 none, Cond.methodLink RX7 114 yX7_steps, Cond.instanceMethod yX7_steps, Cond.selects RX7 yX7_steps yX7_steps, Cond.code yX7_steps cX7_steps 6 (some .boolean), Cond.fieldLink RX7 31 "BrotherAutomataModel" "states" "I", Cond.fieldLink RX7 44 "BrotherAutomataModel" "more" "[I", Cond.methodLink RX7 103 yX7_leads, Cond.instanceMethod yX7_leads, Cond.selects RX7 yX7_leads yX7_leads, Cond.code yX7_leads cX7_leads 8 (some .int), Cond.fieldLink RX7 35 "BrotherAutomataModel" "now" "[I", Cond.methodLink RX7 76 yX7_arity, Cond.static yX7_arity, Cond.code yX7_arity cX7_arity 1 (some .int)]
def wsX7_reachedSets_r2 : List Cond := [Cond.methodLink RX7 72 yX7_has, Cond.static yX7_has, Cond.code yX7_has cX7_has 2 (some .boolean), Cond.methodLink RX7 90 yX7_isFulfilled, Cond.static yX7_isFulfilled, Cond.code yX7_isFulfilled cX7_isFulfilled 2 (some .boolean), Cond.methodLink RX7 107 yX7_puts, Cond.instanceMethod yX7_puts, Cond.selects RX7 yX7_puts yX7_puts, Cond.code yX7_puts cX7_puts 3 none]
def wsX7_reachedSets : List Cond := .code yX7_reachedSets cX7_reachedSets 3 (some .int) :: ((wsX7_reachedSets_r1 ++ wsX7_reachedSets_r2) ++ wsX70)
def wsX7_reached_r1 : List Cond := [Cond.fieldLink RX7 41 "BrotherAutomataModel" "many" "[I", Cond.methodLink RX7 118 yX7_counts, Cond.instanceMethod yX7_counts, Cond.selects RX7 yX7_counts yX7_counts, Cond.initialized RX7, Cond.code yX7_counts cX7_counts 2 none, Cond.methodLink RX7 111 yX7_starts, Cond.instanceMethod yX7_starts, Cond.selects RX7 yX7_starts yX7_starts, Cond.code yX7_starts cX7_starts 2 none, Cond.methodLink RX7 114 yX7_steps, Cond.instanceMethod yX7_steps, Cond.selects RX7 yX7_steps yX7_steps, Cond.code yX7_steps cX7_steps 6 (some .boolean), Cond.fieldLink RX7 31 "BrotherAutomataModel" "states" "I", Cond.fieldLink RX7 44 "BrotherAutomataModel" "more" "[I", Cond.methodLink RX7 103 yX7_leads, Cond.instanceMethod yX7_leads, Cond.selects RX7 yX7_leads yX7_leads, Cond.code yX7_leads cX7_leads 8 (some .int), Cond.fieldLink RX7 35 "BrotherAutomataModel" "now" "[I", Cond.methodLink RX7 76 yX7_arity, Cond.static yX7_arity, Cond.code yX7_arity cX7_arity 1 (some .int)]
def wsX7_reached_r2 : List Cond := [Cond.methodLink RX7 72 yX7_has, Cond.static yX7_has, Cond.code yX7_has cX7_has 2 (some .boolean), Cond.methodLink RX7 90 yX7_isFulfilled, Cond.static yX7_isFulfilled, Cond.code yX7_isFulfilled cX7_isFulfilled 2 (some .boolean), Cond.methodLink RX7 107 yX7_puts, Cond.instanceMethod yX7_puts, Cond.selects RX7 yX7_puts yX7_puts, Cond.code yX7_puts cX7_puts 3 none]
def wsX7_reached : List Cond := .code yX7_reached cX7_reached 3 (some .int) :: ((wsX7_reached_r1 ++ wsX7_reached_r2) ++ wsX70)
def wsX7_isReachable_r1 : List Cond := [Cond.methodLink RX7 65 yX7_isState, Cond.instanceMethod yX7_isState, Cond.selects RX7 yX7_isState yX7_isState, Cond.initialized RX7, Cond.code yX7_isState cX7_isState 2 (some .boolean), Cond.fieldLink RX7 31 "BrotherAutomataModel" "states" "I", Cond.methodLink RX7 58 yX7_in, Cond.static yX7_in, Cond.code yX7_in cX7_in 3 (some .boolean), Cond.methodLink RX7 121 yX7_reached, Cond.instanceMethod yX7_reached, Cond.selects RX7 yX7_reached yX7_reached, Cond.code yX7_reached cX7_reached 3 (some .int), Cond.fieldLink RX7 41 "BrotherAutomataModel" "many" "[I", Cond.methodLink RX7 118 yX7_counts, Cond.instanceMethod yX7_counts, Cond.selects RX7 yX7_counts yX7_counts, Cond.code yX7_counts cX7_counts 2 none, Cond.methodLink RX7 111 yX7_starts, Cond.instanceMethod yX7_starts, Cond.selects RX7 yX7_starts yX7_starts, Cond.code yX7_starts cX7_starts 2 none, Cond.methodLink RX7 114 yX7_steps, Cond.instanceMethod yX7_steps]
def wsX7_isReachable_r2 : List Cond := [Cond.selects RX7 yX7_steps yX7_steps, Cond.code yX7_steps cX7_steps 6 (some .boolean), Cond.fieldLink RX7 44 "BrotherAutomataModel" "more" "[I", Cond.methodLink RX7 103 yX7_leads, Cond.instanceMethod yX7_leads, Cond.selects RX7 yX7_leads yX7_leads, Cond.code yX7_leads cX7_leads 8 (some .int), Cond.fieldLink RX7 35 "BrotherAutomataModel" "now" "[I", Cond.methodLink RX7 76 yX7_arity, Cond.static yX7_arity, Cond.code yX7_arity cX7_arity 1 (some .int), Cond.methodLink RX7 72 yX7_has, Cond.static yX7_has, Cond.code yX7_has cX7_has 2 (some .boolean), Cond.methodLink RX7 90 yX7_isFulfilled, Cond.static yX7_isFulfilled, Cond.code yX7_isFulfilled cX7_isFulfilled 2 (some .boolean), Cond.methodLink RX7 107 yX7_puts, Cond.instanceMethod yX7_puts, Cond.selects RX7 yX7_puts yX7_puts, Cond.code yX7_puts cX7_puts 3 none]
def wsX7_isReachable : List Cond := .code yX7_isReachable cX7_isReachable 2 (some .int) :: ((wsX7_isReachable_r1 ++ wsX7_isReachable_r2) ++ wsX70)
def wsX7_isEmpty_r1 : List Cond := [Cond.fieldLink RX7 35 "BrotherAutomataModel" "now" "[I", Cond.methodLink RX7 121 yX7_reached, Cond.instanceMethod yX7_reached, Cond.selects RX7 yX7_reached yX7_reached, Cond.initialized RX7, Cond.code yX7_reached cX7_reached 3 (some .int), Cond.fieldLink RX7 41 "BrotherAutomataModel" "many" "[I", Cond.methodLink RX7 118 yX7_counts, Cond.instanceMethod yX7_counts, Cond.selects RX7 yX7_counts yX7_counts, Cond.code yX7_counts cX7_counts 2 none, Cond.methodLink RX7 111 yX7_starts, Cond.instanceMethod yX7_starts, Cond.selects RX7 yX7_starts yX7_starts, Cond.code yX7_starts cX7_starts 2 none, Cond.methodLink RX7 114 yX7_steps, Cond.instanceMethod yX7_steps, Cond.selects RX7 yX7_steps yX7_steps, Cond.code yX7_steps cX7_steps 6 (some .boolean), Cond.fieldLink RX7 31 "BrotherAutomataModel" "states" "I", Cond.fieldLink RX7 44 "BrotherAutomataModel" "more" "[I", Cond.methodLink RX7 103 yX7_leads, Cond.instanceMethod yX7_leads, Cond.selects RX7 yX7_leads yX7_leads]
def wsX7_isEmpty_r2 : List Cond := [Cond.code yX7_leads cX7_leads 8 (some .int), Cond.methodLink RX7 76 yX7_arity, Cond.static yX7_arity, Cond.code yX7_arity cX7_arity 1 (some .int), Cond.methodLink RX7 72 yX7_has, Cond.static yX7_has, Cond.code yX7_has cX7_has 2 (some .boolean), Cond.methodLink RX7 90 yX7_isFulfilled, Cond.static yX7_isFulfilled, Cond.code yX7_isFulfilled cX7_isFulfilled 2 (some .boolean), Cond.methodLink RX7 107 yX7_puts, Cond.instanceMethod yX7_puts, Cond.selects RX7 yX7_puts yX7_puts, Cond.code yX7_puts cX7_puts 3 none]
def wsX7_isEmpty : List Cond := .code yX7_isEmpty cX7_isEmpty 1 (some .int) :: ((wsX7_isEmpty_r1 ++ wsX7_isEmpty_r2) ++ wsX70)
def wsX7_isUniversal_r1 : List Cond := [Cond.fieldLink RX7 41 "BrotherAutomataModel" "many" "[I", Cond.fieldLink RX7 35 "BrotherAutomataModel" "now" "[I", Cond.methodLink RX7 118 yX7_counts, Cond.instanceMethod yX7_counts, Cond.selects RX7 yX7_counts yX7_counts, Cond.initialized RX7, Cond.code yX7_counts cX7_counts 2 none, Cond.methodLink RX7 111 yX7_starts, Cond.instanceMethod yX7_starts, Cond.selects RX7 yX7_starts yX7_starts, Cond.code yX7_starts cX7_starts 2 none, Cond.methodLink RX7 114 yX7_steps, Cond.instanceMethod yX7_steps, Cond.selects RX7 yX7_steps yX7_steps, Cond.code yX7_steps cX7_steps 6 (some .boolean), Cond.fieldLink RX7 31 "BrotherAutomataModel" "states" "I", Cond.fieldLink RX7 44 "BrotherAutomataModel" "more" "[I", Cond.methodLink RX7 103 yX7_leads, Cond.instanceMethod yX7_leads, Cond.selects RX7 yX7_leads yX7_leads, Cond.code yX7_leads cX7_leads 8 (some .int), Cond.methodLink RX7 76 yX7_arity, Cond.static yX7_arity, Cond.code yX7_arity cX7_arity 1 (some .int)]
def wsX7_isUniversal_r2 : List Cond := [Cond.methodLink RX7 72 yX7_has, Cond.static yX7_has, Cond.code yX7_has cX7_has 2 (some .boolean), Cond.methodLink RX7 90 yX7_isFulfilled, Cond.static yX7_isFulfilled, Cond.code yX7_isFulfilled cX7_isFulfilled 2 (some .boolean), Cond.methodLink RX7 107 yX7_puts, Cond.instanceMethod yX7_puts, Cond.selects RX7 yX7_puts yX7_puts, Cond.code yX7_puts cX7_puts 3 none]
def wsX7_isUniversal : List Cond := .code yX7_isUniversal cX7_isUniversal 3 (some .int) :: ((wsX7_isUniversal_r1 ++ wsX7_isUniversal_r2) ++ wsX70)
def wsX7_isComplete_r1 : List Cond := [Cond.fieldLink RX7 41 "BrotherAutomataModel" "many" "[I", Cond.methodLink RX7 118 yX7_counts, Cond.instanceMethod yX7_counts, Cond.selects RX7 yX7_counts yX7_counts, Cond.initialized RX7, Cond.code yX7_counts cX7_counts 2 none, Cond.methodLink RX7 111 yX7_starts, Cond.instanceMethod yX7_starts, Cond.selects RX7 yX7_starts yX7_starts, Cond.code yX7_starts cX7_starts 2 none, Cond.methodLink RX7 114 yX7_steps, Cond.instanceMethod yX7_steps, Cond.selects RX7 yX7_steps yX7_steps, Cond.code yX7_steps cX7_steps 6 (some .boolean), Cond.fieldLink RX7 31 "BrotherAutomataModel" "states" "I", Cond.fieldLink RX7 44 "BrotherAutomataModel" "more" "[I", Cond.methodLink RX7 103 yX7_leads, Cond.instanceMethod yX7_leads, Cond.selects RX7 yX7_leads yX7_leads, Cond.code yX7_leads cX7_leads 8 (some .int), Cond.fieldLink RX7 35 "BrotherAutomataModel" "now" "[I", Cond.methodLink RX7 76 yX7_arity, Cond.static yX7_arity, Cond.code yX7_arity cX7_arity 1 (some .int)]
def wsX7_isComplete_r2 : List Cond := [Cond.methodLink RX7 72 yX7_has, Cond.static yX7_has, Cond.code yX7_has cX7_has 2 (some .boolean), Cond.methodLink RX7 90 yX7_isFulfilled, Cond.static yX7_isFulfilled, Cond.code yX7_isFulfilled cX7_isFulfilled 2 (some .boolean), Cond.methodLink RX7 107 yX7_puts, Cond.instanceMethod yX7_puts, Cond.selects RX7 yX7_puts yX7_puts, Cond.code yX7_puts cX7_puts 3 none]
def wsX7_isComplete : List Cond := .code yX7_isComplete cX7_isComplete 1 (some .int) :: ((wsX7_isComplete_r1 ++ wsX7_isComplete_r2) ++ wsX70)
def wsX7_isDeterministic_r1 : List Cond := [Cond.fieldLink RX7 41 "BrotherAutomataModel" "many" "[I", Cond.methodLink RX7 118 yX7_counts, Cond.instanceMethod yX7_counts, Cond.selects RX7 yX7_counts yX7_counts, Cond.initialized RX7, Cond.code yX7_counts cX7_counts 2 none, Cond.methodLink RX7 111 yX7_starts, Cond.instanceMethod yX7_starts, Cond.selects RX7 yX7_starts yX7_starts, Cond.code yX7_starts cX7_starts 2 none, Cond.methodLink RX7 114 yX7_steps, Cond.instanceMethod yX7_steps, Cond.selects RX7 yX7_steps yX7_steps, Cond.code yX7_steps cX7_steps 6 (some .boolean), Cond.fieldLink RX7 31 "BrotherAutomataModel" "states" "I", Cond.fieldLink RX7 44 "BrotherAutomataModel" "more" "[I", Cond.methodLink RX7 103 yX7_leads, Cond.instanceMethod yX7_leads, Cond.selects RX7 yX7_leads yX7_leads, Cond.code yX7_leads cX7_leads 8 (some .int), Cond.fieldLink RX7 35 "BrotherAutomataModel" "now" "[I", Cond.methodLink RX7 76 yX7_arity, Cond.static yX7_arity, Cond.code yX7_arity cX7_arity 1 (some .int)]
def wsX7_isDeterministic_r2 : List Cond := [Cond.methodLink RX7 72 yX7_has, Cond.static yX7_has, Cond.code yX7_has cX7_has 2 (some .boolean), Cond.methodLink RX7 90 yX7_isFulfilled, Cond.static yX7_isFulfilled, Cond.code yX7_isFulfilled cX7_isFulfilled 2 (some .boolean), Cond.methodLink RX7 107 yX7_puts, Cond.instanceMethod yX7_puts, Cond.selects RX7 yX7_puts yX7_puts, Cond.code yX7_puts cX7_puts 3 none]
def wsX7_isDeterministic : List Cond := .code yX7_isDeterministic cX7_isDeterministic 3 (some .int) :: ((wsX7_isDeterministic_r1 ++ wsX7_isDeterministic_r2) ++ wsX70)
def wsX7_leastHeight_r1 : List Cond := [Cond.fieldLink RX7 41 "BrotherAutomataModel" "many" "[I", Cond.fieldLink RX7 35 "BrotherAutomataModel" "now" "[I", Cond.methodLink RX7 111 yX7_starts, Cond.instanceMethod yX7_starts, Cond.selects RX7 yX7_starts yX7_starts, Cond.initialized RX7, Cond.code yX7_starts cX7_starts 2 none, Cond.methodLink RX7 114 yX7_steps, Cond.instanceMethod yX7_steps, Cond.selects RX7 yX7_steps yX7_steps, Cond.code yX7_steps cX7_steps 6 (some .boolean), Cond.fieldLink RX7 31 "BrotherAutomataModel" "states" "I", Cond.fieldLink RX7 44 "BrotherAutomataModel" "more" "[I", Cond.methodLink RX7 103 yX7_leads, Cond.instanceMethod yX7_leads, Cond.selects RX7 yX7_leads yX7_leads, Cond.code yX7_leads cX7_leads 8 (some .int), Cond.methodLink RX7 76 yX7_arity, Cond.static yX7_arity, Cond.code yX7_arity cX7_arity 1 (some .int), Cond.methodLink RX7 72 yX7_has, Cond.static yX7_has, Cond.code yX7_has cX7_has 2 (some .boolean), Cond.methodLink RX7 90 yX7_isFulfilled]
def wsX7_leastHeight_r2 : List Cond := [Cond.static yX7_isFulfilled, Cond.code yX7_isFulfilled cX7_isFulfilled 2 (some .boolean), Cond.methodLink RX7 107 yX7_puts, Cond.instanceMethod yX7_puts, Cond.selects RX7 yX7_puts yX7_puts, Cond.code yX7_puts cX7_puts 3 none]
def wsX7_leastHeight : List Cond := .code yX7_leastHeight cX7_leastHeight 4 (some .int) :: ((wsX7_leastHeight_r1 ++ wsX7_leastHeight_r2) ++ wsX70)
def wsJ9_max_7cf53 : List Cond := .code yJ9_max_7cf53 cJ9_max_7cf53 2 (some .int) :: ([])
def wsJ9_min_7cf53 : List Cond := .code yJ9_min_7cf53 cJ9_min_7cf53 2 (some .int) :: ([])
def wsL_law_r1 : List Cond := [Cond.classLink RL 7 RX6, Cond.instantiable RX6 10, Cond.initialized RX6, Cond.classLink RL 10 RX7, Cond.instantiable RX7 14, Cond.initialized RX7, Cond.methodLink RL 9 yX6_init, Cond.instanceMethod yX6_init, Cond.code yX6_init cX6_init 1 none, Cond.methodLink RX6 1 objectInit, Cond.instanceMethod objectInit, Cond.code objectInit ⟨#[0xb1]⟩ 1 none, Cond.classLink RX6 7 RX5, Cond.instantiable RX5 3, Cond.initialized RX5, Cond.fieldLink RX6 10 "BrotherAutomata" "trees" "LBrotherAutomata$SmallTrees;", Cond.classLink RX6 16 RX2, Cond.instantiable RX2 7, Cond.initialized RX2, Cond.fieldLink RX6 19 "BrotherAutomata" "book" "LBrotherAutomata$RuleBook;", Cond.classLink RX6 23 RX1, Cond.instantiable RX1 3, Cond.initialized RX1, Cond.fieldLink RX6 26 "BrotherAutomata" "history" "LBrotherAutomata$History;"]
def wsL_law_r2 : List Cond := [Cond.classLink RX6 30 RX3, Cond.instantiable RX3 6, Cond.initialized RX3, Cond.fieldLink RX6 33 "BrotherAutomata" "masks" "LBrotherAutomata$RuleMasks;", Cond.classLink RX6 37 RX4, Cond.instantiable RX4 3, Cond.initialized RX4, Cond.fieldLink RX6 40 "BrotherAutomata" "runCounter" "LBrotherAutomata$RunCounter;", Cond.classLink RX6 44 RX0, Cond.instantiable RX0 3, Cond.initialized RX0, Cond.fieldLink RX6 47 "BrotherAutomata" "census" "LBrotherAutomata$Census;", Cond.arrayClass .int, Cond.fieldLink RX6 51 "BrotherAutomata" "subsets" "[I", Cond.fieldLink RX6 55 "BrotherAutomata" "subsetsKnown" "I", Cond.fieldLink RX6 59 "BrotherAutomata" "censusKnown" "Z", Cond.fieldLink RX6 63 "BrotherAutomata" "states" "I", Cond.methodLink RX6 9 yX5_init, Cond.instanceMethod yX5_init, Cond.code yX5_init cX5_init 2 none, Cond.methodLink RX5 3 objectInit, Cond.fieldLink RX5 9 "BrotherAutomata$SmallTrees" "contents" "[I", Cond.fieldLink RX5 15 "BrotherAutomata$SmallTrees" "heights" "[I", Cond.fieldLink RX5 18 "BrotherAutomata$SmallTrees" "made" "I"]
def wsL_law_r3 : List Cond := [Cond.methodLink RX5 22 yX5_make, Cond.instanceMethod yX5_make, Cond.selects RX5 yX5_make yX5_make, Cond.code yX5_make cX5_make 4 none, Cond.methodLink RX5 48 Lib.Math.max.name, Cond.static Lib.Math.max.name, Cond.initialized "java/lang/Math", Cond.code Lib.Math.max.name Lib.Math.max.code 2 (some .int), Cond.methodLink RX5 41 yX5_content, Cond.static yX5_content, Cond.code yX5_content cX5_content 3 (some .int), Cond.methodLink RX5 26 yX5_makeUnary, Cond.instanceMethod yX5_makeUnary, Cond.selects RX5 yX5_makeUnary yX5_makeUnary, Cond.code yX5_makeUnary cX5_makeUnary 3 none, Cond.methodLink RX5 30 yX5_makeBinary, Cond.instanceMethod yX5_makeBinary, Cond.selects RX5 yX5_makeBinary yX5_makeBinary, Cond.code yX5_makeBinary cX5_makeBinary 6 none, Cond.static yX6_sizeAt, Cond.code yX6_sizeAt cX6_sizeAt 2 (some .int), Cond.fieldLink RX6 131 "BrotherAutomata" "START" "[I", Cond.methodLink RX6 18 yX2_init, Cond.instanceMethod yX2_init]
def wsL_law_r4 : List Cond := [Cond.code yX2_init cX2_init 1 none, Cond.methodLink RX2 3 objectInit, Cond.fieldLink RX2 9 "BrotherAutomata$RuleBook" "symbols" "[I", Cond.fieldLink RX2 15 "BrotherAutomata$RuleBook" "firsts" "[I", Cond.fieldLink RX2 18 "BrotherAutomata$RuleBook" "seconds" "[I", Cond.fieldLink RX2 21 "BrotherAutomata$RuleBook" "constraints" "[I", Cond.fieldLink RX2 24 "BrotherAutomata$RuleBook" "targets" "[I", Cond.fieldLink RX2 27 "BrotherAutomata$RuleBook" "count" "I", Cond.fieldLink RX2 31 "BrotherAutomata$RuleBook" "finals" "I", Cond.methodLink RX6 25 yX1_init, Cond.instanceMethod yX1_init, Cond.code yX1_init cX1_init 2 none, Cond.methodLink RX1 3 objectInit, Cond.classLink RX1 9 RX2, Cond.fieldLink RX1 11 "BrotherAutomata$History" "ring" "[LBrotherAutomata$RuleBook;", Cond.fieldLink RX1 18 "BrotherAutomata$History" "next" "I", Cond.fieldLink RX1 22 "BrotherAutomata$History" "kept" "I", Cond.methodLink RX1 17 yX2_init, Cond.methodLink RX6 32 yX3_init, Cond.instanceMethod yX3_init, Cond.code yX3_init cX3_init 1 none, Cond.methodLink RX3 3 objectInit, Cond.fieldLink RX3 9 "BrotherAutomata$RuleMasks" "bySymbol" "[I", Cond.fieldLink RX3 15 "BrotherAutomata$RuleMasks" "byFirst" "[I"]
def wsL_law_r5 : List Cond := [Cond.fieldLink RX3 18 "BrotherAutomata$RuleMasks" "bySecond" "[I", Cond.fieldLink RX3 21 "BrotherAutomata$RuleMasks" "targetSets" "[I", Cond.fieldLink RX3 24 "BrotherAutomata$RuleMasks" "whenEqual" "I", Cond.fieldLink RX3 28 "BrotherAutomata$RuleMasks" "whenDifferent" "I", Cond.methodLink RX6 39 yX4_init, Cond.instanceMethod yX4_init, Cond.code yX4_init cX4_init 1 none, Cond.methodLink RX4 3 objectInit, Cond.fieldLink RX4 9 "BrotherAutomata$RunCounter" "nodes" "[I", Cond.fieldLink RX4 15 "BrotherAutomata$RunCounter" "firstPlaces" "[I", Cond.fieldLink RX4 18 "BrotherAutomata$RunCounter" "runs" "[I", Cond.methodLink RX6 46 yX0_init, Cond.instanceMethod yX0_init, Cond.code yX0_init cX0_init 1 none, Cond.methodLink RX0 3 objectInit, Cond.fieldLink RX0 9 "BrotherAutomata$Census" "numbers" "[I", Cond.fieldLink RX0 15 "BrotherAutomata$Census" "before" "[I", Cond.fieldLink RX0 18 "BrotherAutomata$Census" "heights" "[I", Cond.methodLink RL 12 yX7_init, Cond.instanceMethod yX7_init, Cond.code yX7_init cX7_init 2 none, Cond.methodLink RX7 1 objectInit, Cond.fieldLink RX7 7 "BrotherAutomataModel" "symbol" "[I", Cond.fieldLink RX7 13 "BrotherAutomataModel" "first" "[I"]
def wsL_law_r6 : List Cond := [Cond.fieldLink RX7 16 "BrotherAutomataModel" "second" "[I", Cond.fieldLink RX7 19 "BrotherAutomataModel" "size" "[I", Cond.fieldLink RX7 22 "BrotherAutomataModel" "height" "[I", Cond.fieldLink RX7 25 "BrotherAutomataModel" "begin" "[I", Cond.fieldLink RX7 28 "BrotherAutomataModel" "runs" "[I", Cond.fieldLink RX7 31 "BrotherAutomataModel" "states" "I", Cond.fieldLink RX7 35 "BrotherAutomataModel" "now" "[I", Cond.fieldLink RX7 38 "BrotherAutomataModel" "history" "[I", Cond.fieldLink RX7 41 "BrotherAutomataModel" "many" "[I", Cond.fieldLink RX7 44 "BrotherAutomataModel" "more" "[I", Cond.fieldLink RX7 47 "BrotherAutomataModel" "trees" "I", Cond.methodLink RX7 50 yX7_lays, Cond.instanceMethod yX7_lays, Cond.selects RX7 yX7_lays yX7_lays, Cond.code yX7_lays cX7_lays 6 none, Cond.methodLink RX7 54 yX7_grows, Cond.instanceMethod yX7_grows, Cond.selects RX7 yX7_grows yX7_grows, Cond.code yX7_grows cX7_grows 7 none, Cond.methodLink RL 13 yX6_reset, Cond.instanceMethod yX6_reset, Cond.selects RX6 yX6_reset yX6_reset, Cond.code yX6_reset cX6_reset 3 (some .int), Cond.methodLink RX6 66 yX2_clear]
def wsL_law_r7 : List Cond := [Cond.instanceMethod yX2_clear, Cond.selects RX2 yX2_clear yX2_clear, Cond.code yX2_clear cX2_clear 1 none, Cond.methodLink RX6 69 yX1_forget, Cond.instanceMethod yX1_forget, Cond.selects RX1 yX1_forget yX1_forget, Cond.code yX1_forget cX1_forget 1 none, Cond.methodLink RX6 72 yX6_renewRuns, Cond.instanceMethod yX6_renewRuns, Cond.selects RX6 yX6_renewRuns yX6_renewRuns, Cond.code yX6_renewRuns cX6_renewRuns 1 none, Cond.methodLink RX6 194 yX3_build, Cond.instanceMethod yX3_build, Cond.selects RX3 yX3_build yX3_build, Cond.code yX3_build cX3_build 3 none, Cond.methodLink RX3 31 yJ7_fill_53178, Cond.static yJ7_fill_53178, Cond.initialized RJ7, Cond.code yJ7_fill_53178 cJ7_fill_53178 4 none, Cond.methodLink RX3 42 yX3_enter, Cond.instanceMethod yX3_enter, Cond.selects RX3 yX3_enter yX3_enter, Cond.code yX3_enter cX3_enter 6 none, Cond.methodLink RX3 46 yX3_spread]
def wsL_law_r8 : List Cond := [Cond.static yX3_spread, Cond.code yX3_spread cX3_spread 3 none, Cond.methodLink RL 17 yX7_reset, Cond.instanceMethod yX7_reset, Cond.selects RX7 yX7_reset yX7_reset, Cond.code yX7_reset cX7_reset 3 (some .int), Cond.fieldLink RX7 62 "BrotherAutomataModel" "edits" "I", Cond.methodLink RX7 58 yX7_in, Cond.static yX7_in, Cond.code yX7_in cX7_in 3 (some .boolean), Cond.methodLink RL 18 yX6_setFinal, Cond.instanceMethod yX6_setFinal, Cond.selects RX6 yX6_setFinal yX6_setFinal, Cond.code yX6_setFinal cX6_setFinal 3 (some .int), Cond.methodLink RX6 75 yX6_isState, Cond.instanceMethod yX6_isState, Cond.selects RX6 yX6_isState yX6_isState, Cond.code yX6_isState cX6_isState 2 (some .boolean), Cond.methodLink RX6 79 yX1_keep, Cond.instanceMethod yX1_keep, Cond.selects RX1 yX1_keep yX1_keep, Cond.code yX1_keep cX1_keep 2 none, Cond.methodLink RX1 29 Lib.Math.min.name, Cond.static Lib.Math.min.name]
def wsL_law_r9 : List Cond := [Cond.code Lib.Math.min.name Lib.Math.min.code 2 (some .int), Cond.methodLink RX1 25 yX2_copyFrom, Cond.instanceMethod yX2_copyFrom, Cond.selects RX2 yX2_copyFrom yX2_copyFrom, Cond.code yX2_copyFrom cX2_copyFrom 2 none, Cond.methodLink RX2 34 arraycopyName, Cond.native arraycopyName, Cond.static arraycopyName, Cond.initialized "java/lang/System", Cond.methodLink RX6 83 yX2_markFinal, Cond.instanceMethod yX2_markFinal, Cond.selects RX2 yX2_markFinal yX2_markFinal, Cond.code yX2_markFinal cX2_markFinal 3 none, Cond.methodLink RX6 90 yJ6_bitCount_0f7a4, Cond.static yJ6_bitCount_0f7a4, Cond.initialized RJ6, Cond.code yJ6_bitCount_0f7a4 cJ6_bitCount_0f7a4 1 (some .int), Cond.constant RJ6 265 (1431655765), Cond.constant RJ6 266 (858993459), Cond.constant RJ6 267 (252645135), Cond.methodLink RL 22 yX7_setFinal, Cond.instanceMethod yX7_setFinal, Cond.selects RX7 yX7_setFinal yX7_setFinal, Cond.code yX7_setFinal cX7_setFinal 5 (some .int)]
def wsL_law_r10 : List Cond := [Cond.methodLink RX7 65 yX7_isState, Cond.instanceMethod yX7_isState, Cond.selects RX7 yX7_isState yX7_isState, Cond.code yX7_isState cX7_isState 2 (some .boolean), Cond.methodLink RX7 69 yX7_edit, Cond.instanceMethod yX7_edit, Cond.selects RX7 yX7_edit yX7_edit, Cond.code yX7_edit cX7_edit 2 none, Cond.methodLink RX7 72 yX7_has, Cond.static yX7_has, Cond.code yX7_has cX7_has 2 (some .boolean), Cond.methodLink RL 23 yX6_addRule, Cond.instanceMethod yX6_addRule, Cond.selects RX6 yX6_addRule yX6_addRule, Cond.code yX6_addRule cX6_addRule 6 (some .int), Cond.fieldLink RX6 99 "BrotherAutomata" "ARITY" "[I", Cond.methodLink RX6 96 yX6_isSymbol, Cond.static yX6_isSymbol, Cond.code yX6_isSymbol cX6_isSymbol 1 (some .boolean), Cond.methodLink RX6 102 yX6_isChildState, Cond.instanceMethod yX6_isChildState, Cond.selects RX6 yX6_isChildState yX6_isChildState, Cond.code yX6_isChildState cX6_isChildState 3 (some .boolean), Cond.methodLink RX6 106 yX6_isConstraint]
def wsL_law_r11 : List Cond := [Cond.static yX6_isConstraint, Cond.code yX6_isConstraint cX6_isConstraint 2 (some .boolean), Cond.methodLink RX6 112 yX2_append, Cond.instanceMethod yX2_append, Cond.selects RX2 yX2_append yX2_append, Cond.code yX2_append cX2_append 6 none, Cond.methodLink RL 27 yX7_addRule, Cond.instanceMethod yX7_addRule, Cond.selects RX7 yX7_addRule yX7_addRule, Cond.code yX7_addRule cX7_addRule 8 (some .int), Cond.methodLink RX7 76 yX7_arity, Cond.static yX7_arity, Cond.code yX7_arity cX7_arity 1 (some .int), Cond.methodLink RL 28 yX6_removeRule, Cond.instanceMethod yX6_removeRule, Cond.selects RX6 yX6_removeRule yX6_removeRule, Cond.code yX6_removeRule cX6_removeRule 2 (some .int), Cond.methodLink RX6 116 yX2_delete, Cond.instanceMethod yX2_delete, Cond.selects RX2 yX2_delete yX2_delete, Cond.code yX2_delete cX2_delete 2 none, Cond.methodLink RX2 40 yX2_closeGap, Cond.instanceMethod yX2_closeGap, Cond.selects RX2 yX2_closeGap yX2_closeGap]
def wsL_law_r12 : List Cond := [Cond.code yX2_closeGap cX2_closeGap 4 none, Cond.methodLink RL 31 yX7_removeRule, Cond.instanceMethod yX7_removeRule, Cond.selects RX7 yX7_removeRule yX7_removeRule, Cond.code yX7_removeRule cX7_removeRule 3 (some .int), Cond.methodLink RL 32 yX6_swapStates, Cond.instanceMethod yX6_swapStates, Cond.selects RX6 yX6_swapStates yX6_swapStates, Cond.code yX6_swapStates cX6_swapStates 4 (some .int), Cond.methodLink RX6 120 yX2_rulesWith, Cond.instanceMethod yX2_rulesWith, Cond.selects RX2 yX2_rulesWith yX2_rulesWith, Cond.code yX2_rulesWith cX2_rulesWith 5 (some .int), Cond.methodLink RX2 44 yX2_contains, Cond.instanceMethod yX2_contains, Cond.selects RX2 yX2_contains yX2_contains, Cond.code yX2_contains cX2_contains 4 (some .boolean), Cond.methodLink RX6 124 yX2_exchange, Cond.instanceMethod yX2_exchange, Cond.selects RX2 yX2_exchange yX2_exchange, Cond.code yX2_exchange cX2_exchange 5 none, Cond.methodLink RX2 51 yX2_swapped, Cond.static yX2_swapped, Cond.code yX2_swapped cX2_swapped 3 (some .int)]
def wsL_law_r13 : List Cond := [Cond.methodLink RX2 55 yX2_markFinal, Cond.methodLink RL 36 yX7_swapStates, Cond.instanceMethod yX7_swapStates, Cond.selects RX7 yX7_swapStates yX7_swapStates, Cond.code yX7_swapStates cX7_swapStates 8 (some .int), Cond.methodLink RX7 80 yX7_swapped, Cond.static yX7_swapped, Cond.code yX7_swapped cX7_swapped 3 (some .int), Cond.methodLink RL 37 yX6_ruleCount, Cond.instanceMethod yX6_ruleCount, Cond.selects RX6 yX6_ruleCount yX6_ruleCount, Cond.code yX6_ruleCount cX6_ruleCount 1 (some .int), Cond.methodLink RL 41 yX7_ruleCount, Cond.instanceMethod yX7_ruleCount, Cond.selects RX7 yX7_ruleCount yX7_ruleCount, Cond.code yX7_ruleCount cX7_ruleCount 1 (some .int), Cond.methodLink RL 42 yX6_finalStates, Cond.instanceMethod yX6_finalStates, Cond.selects RX6 yX6_finalStates yX6_finalStates, Cond.code yX6_finalStates cX6_finalStates 1 (some .int), Cond.methodLink RL 45 yX7_finalStates, Cond.instanceMethod yX7_finalStates, Cond.selects RX7 yX7_finalStates yX7_finalStates, Cond.code yX7_finalStates cX7_finalStates 1 (some .int)]
def wsL_law_r14 : List Cond := [Cond.methodLink RL 46 yX6_treeCount, Cond.instanceMethod yX6_treeCount, Cond.selects RX6 yX6_treeCount yX6_treeCount, Cond.code yX6_treeCount cX6_treeCount 2 (some .int), Cond.methodLink RX6 128 yX6_isSize, Cond.static yX6_isSize, Cond.code yX6_isSize cX6_isSize 1 (some .boolean), Cond.methodLink RL 49 yX7_treeCount, Cond.instanceMethod yX7_treeCount, Cond.selects RX7 yX7_treeCount yX7_treeCount, Cond.code yX7_treeCount cX7_treeCount 2 (some .int), Cond.methodLink RX7 84 yX7_isSize, Cond.static yX7_isSize, Cond.code yX7_isSize cX7_isSize 1 (some .boolean), Cond.methodLink RL 50 yX6_treeOf, Cond.instanceMethod yX6_treeOf, Cond.selects RX6 yX6_treeOf yX6_treeOf, Cond.code yX6_treeOf cX6_treeOf 4 (some .int), Cond.methodLink RX6 134 yX6_isChildTree, Cond.static yX6_isChildTree, Cond.code yX6_isChildTree cX6_isChildTree 2 (some .boolean), Cond.methodLink RX6 141 yX6_isTree, Cond.static yX6_isTree, Cond.code yX6_isTree cX6_isTree 1 (some .boolean)]
def wsL_law_r15 : List Cond := [Cond.methodLink RX6 137 yX5_find, Cond.instanceMethod yX5_find, Cond.selects RX5 yX5_find yX5_find, Cond.code yX5_find cX5_find 7 (some .int), Cond.methodLink RL 54 yX7_treeOf, Cond.instanceMethod yX7_treeOf, Cond.selects RX7 yX7_treeOf yX7_treeOf, Cond.code yX7_treeOf cX7_treeOf 7 (some .int), Cond.methodLink RX7 87 yX7_isTree, Cond.static yX7_isTree, Cond.code yX7_isTree cX7_isTree 1 (some .boolean), Cond.methodLink RL 55 yX6_symbolOf, Cond.instanceMethod yX6_symbolOf, Cond.selects RX6 yX6_symbolOf yX6_symbolOf, Cond.code yX6_symbolOf cX6_symbolOf 2 (some .int), Cond.methodLink RX6 144 yX5_symbolAt, Cond.instanceMethod yX5_symbolAt, Cond.selects RX5 yX5_symbolAt yX5_symbolAt, Cond.code yX5_symbolAt cX5_symbolAt 2 (some .int), Cond.methodLink RL 58 yX7_symbolOf, Cond.instanceMethod yX7_symbolOf, Cond.selects RX7 yX7_symbolOf yX7_symbolOf, Cond.code yX7_symbolOf cX7_symbolOf 2 (some .int), Cond.methodLink RL 59 yX6_childOf]
def wsL_law_r16 : List Cond := [Cond.instanceMethod yX6_childOf, Cond.selects RX6 yX6_childOf yX6_childOf, Cond.code yX6_childOf cX6_childOf 3 (some .int), Cond.methodLink RX6 147 yX5_arityAt, Cond.instanceMethod yX5_arityAt, Cond.selects RX5 yX5_arityAt yX5_arityAt, Cond.code yX5_arityAt cX5_arityAt 2 (some .int), Cond.methodLink RX5 54 yX5_symbolAt, Cond.methodLink RX6 150 yX5_firstAt, Cond.instanceMethod yX5_firstAt, Cond.selects RX5 yX5_firstAt yX5_firstAt, Cond.code yX5_firstAt cX5_firstAt 2 (some .int), Cond.methodLink RX6 153 yX5_secondAt, Cond.instanceMethod yX5_secondAt, Cond.selects RX5 yX5_secondAt yX5_secondAt, Cond.code yX5_secondAt cX5_secondAt 2 (some .int), Cond.methodLink RL 62 yX7_childOf, Cond.instanceMethod yX7_childOf, Cond.selects RX7 yX7_childOf yX7_childOf, Cond.code yX7_childOf cX7_childOf 3 (some .int), Cond.methodLink RL 63 yX6_sizeOf, Cond.instanceMethod yX6_sizeOf, Cond.selects RX6 yX6_sizeOf yX6_sizeOf, Cond.code yX6_sizeOf cX6_sizeOf 2 (some .int)]
def wsL_law_r17 : List Cond := [Cond.methodLink RX6 156 yX6_sizeAt, Cond.methodLink RL 66 yX7_sizeOf, Cond.instanceMethod yX7_sizeOf, Cond.selects RX7 yX7_sizeOf yX7_sizeOf, Cond.code yX7_sizeOf cX7_sizeOf 2 (some .int), Cond.methodLink RL 67 yX6_heightOf, Cond.instanceMethod yX6_heightOf, Cond.selects RX6 yX6_heightOf yX6_heightOf, Cond.code yX6_heightOf cX6_heightOf 2 (some .int), Cond.methodLink RL 70 yX7_heightOf, Cond.instanceMethod yX7_heightOf, Cond.selects RX7 yX7_heightOf yX7_heightOf, Cond.code yX7_heightOf cX7_heightOf 2 (some .int), Cond.methodLink RL 71 yX6_subsetOf, Cond.instanceMethod yX6_subsetOf, Cond.selects RX6 yX6_subsetOf yX6_subsetOf, Cond.code yX6_subsetOf cX6_subsetOf 2 (some .int), Cond.methodLink RX6 162 yX6_subsetAt, Cond.instanceMethod yX6_subsetAt, Cond.selects RX6 yX6_subsetAt yX6_subsetAt, Cond.code yX6_subsetAt cX6_subsetAt 4 (some .int), Cond.methodLink RX6 201 yX3_step, Cond.instanceMethod yX3_step, Cond.selects RX3 yX3_step yX3_step]
def wsL_law_r18 : List Cond := [Cond.code yX3_step cX3_step 8 (some .int), Cond.methodLink RL 74 yX7_subsetOf, Cond.instanceMethod yX7_subsetOf, Cond.selects RX7 yX7_subsetOf yX7_subsetOf, Cond.code yX7_subsetOf cX7_subsetOf 2 (some .int), Cond.methodLink RX7 94 yX7_runsTo, Cond.instanceMethod yX7_runsTo, Cond.selects RX7 yX7_runsTo yX7_runsTo, Cond.code yX7_runsTo cX7_runsTo 5 none, Cond.methodLink RX7 90 yX7_isFulfilled, Cond.static yX7_isFulfilled, Cond.code yX7_isFulfilled cX7_isFulfilled 2 (some .boolean), Cond.methodLink RX7 97 yX7_subset, Cond.instanceMethod yX7_subset, Cond.selects RX7 yX7_subset yX7_subset, Cond.code yX7_subset cX7_subset 4 (some .int), Cond.methodLink RL 75 yX6_accepts, Cond.instanceMethod yX6_accepts, Cond.selects RX6 yX6_accepts yX6_accepts, Cond.code yX6_accepts cX6_accepts 2 (some .int), Cond.methodLink RX6 165 yX6_isAccepted, Cond.instanceMethod yX6_isAccepted, Cond.selects RX6 yX6_isAccepted yX6_isAccepted, Cond.code yX6_isAccepted cX6_isAccepted 2 (some .boolean)]
def wsL_law_r19 : List Cond := [Cond.methodLink RL 78 yX7_accepts, Cond.instanceMethod yX7_accepts, Cond.selects RX7 yX7_accepts yX7_accepts, Cond.code yX7_accepts cX7_accepts 2 (some .int), Cond.methodLink RX7 100 yX7_isAccepted, Cond.instanceMethod yX7_isAccepted, Cond.selects RX7 yX7_isAccepted yX7_isAccepted, Cond.code yX7_isAccepted cX7_isAccepted 2 (some .boolean), Cond.methodLink RL 79 yX6_runCount, Cond.instanceMethod yX6_runCount, Cond.selects RX6 yX6_runCount yX6_runCount, Cond.code yX6_runCount cX6_runCount 3 (some .int), Cond.methodLink RX6 168 yX4_count, Cond.instanceMethod yX4_count, Cond.selects RX4 yX4_count yX4_count, Cond.code yX4_count cX4_count 7 (some .int), Cond.methodLink RX4 21 yX4_layOut, Cond.instanceMethod yX4_layOut, Cond.selects RX4 yX4_layOut yX4_layOut, Cond.code yX4_layOut cX4_layOut 6 (some .int), Cond.methodLink RX4 35 yX5_arityAt, Cond.methodLink RX4 41 yX5_firstAt, Cond.methodLink RX4 44 yX5_secondAt, Cond.methodLink RX4 25 yJ7_fill_53178]
def wsL_law_r20 : List Cond := [Cond.methodLink RX4 31 yX4_countAt, Cond.instanceMethod yX4_countAt, Cond.selects RX4 yX4_countAt yX4_countAt, Cond.code yX4_countAt cX4_countAt 8 none, Cond.methodLink RX4 47 yX5_symbolAt, Cond.methodLink RX4 65 yX4_waysBelow, Cond.instanceMethod yX4_waysBelow, Cond.selects RX4 yX4_waysBelow yX4_waysBelow, Cond.code yX4_waysBelow cX4_waysBelow 7 (some .int), Cond.methodLink RL 82 yX7_runCount, Cond.instanceMethod yX7_runCount, Cond.selects RX7 yX7_runCount yX7_runCount, Cond.code yX7_runCount cX7_runCount 3 (some .int), Cond.methodLink RL 83 yX6_acceptedCount, Cond.instanceMethod yX6_acceptedCount, Cond.selects RX6 yX6_acceptedCount yX6_acceptedCount, Cond.code yX6_acceptedCount cX6_acceptedCount 4 (some .int), Cond.methodLink RL 86 yX7_acceptedCount, Cond.instanceMethod yX7_acceptedCount, Cond.selects RX7 yX7_acceptedCount yX7_acceptedCount, Cond.code yX7_acceptedCount cX7_acceptedCount 4 (some .int), Cond.methodLink RL 87 yX6_acceptedTree, Cond.instanceMethod yX6_acceptedTree, Cond.selects RX6 yX6_acceptedTree yX6_acceptedTree]
def wsL_law_r21 : List Cond := [Cond.code yX6_acceptedTree cX6_acceptedTree 5 (some .int), Cond.methodLink RL 90 yX7_acceptedTree, Cond.instanceMethod yX7_acceptedTree, Cond.selects RX7 yX7_acceptedTree yX7_acceptedTree, Cond.code yX7_acceptedTree cX7_acceptedTree 5 (some .int), Cond.methodLink RL 91 yX6_treesOfSet, Cond.instanceMethod yX6_treesOfSet, Cond.selects RX6 yX6_treesOfSet yX6_treesOfSet, Cond.code yX6_treesOfSet cX6_treesOfSet 2 (some .int), Cond.methodLink RX6 171 yX6_setCount, Cond.instanceMethod yX6_setCount, Cond.selects RX6 yX6_setCount yX6_setCount, Cond.code yX6_setCount cX6_setCount 1 (some .int), Cond.methodLink RX6 175 yX6_renewCensus, Cond.instanceMethod yX6_renewCensus, Cond.selects RX6 yX6_renewCensus yX6_renewCensus, Cond.code yX6_renewCensus cX6_renewCensus 1 none, Cond.methodLink RX6 197 yX0_take, Cond.instanceMethod yX0_take, Cond.selects RX0 yX0_take yX0_take, Cond.code yX0_take cX0_take 5 none, Cond.methodLink RX0 27 arraycopyName, Cond.methodLink RX0 21 yJ7_fill_53178, Cond.methodLink RX0 33 yX0_countConstants]
def wsL_law_r22 : List Cond := [Cond.instanceMethod yX0_countConstants, Cond.selects RX0 yX0_countConstants yX0_countConstants, Cond.code yX0_countConstants cX0_countConstants 3 none, Cond.methodLink RX0 48 yX3_step, Cond.methodLink RX0 54 yX0_raise, Cond.instanceMethod yX0_raise, Cond.selects RX0 yX0_raise yX0_raise, Cond.code yX0_raise cX0_raise 3 none, Cond.methodLink RX0 62 Lib.Math.min.name, Cond.methodLink RX0 37 yX0_countUnary, Cond.instanceMethod yX0_countUnary, Cond.selects RX0 yX0_countUnary yX0_countUnary, Cond.code yX0_countUnary cX0_countUnary 4 none, Cond.methodLink RX0 41 yX0_countBinary, Cond.instanceMethod yX0_countBinary, Cond.selects RX0 yX0_countBinary yX0_countBinary, Cond.code yX0_countBinary cX0_countBinary 5 none, Cond.methodLink RX0 58 yX0_countPairs, Cond.instanceMethod yX0_countPairs, Cond.selects RX0 yX0_countPairs yX0_countPairs, Cond.code yX0_countPairs cX0_countPairs 6 none, Cond.methodLink RX0 44 yX0_noteGrowth, Cond.instanceMethod yX0_noteGrowth, Cond.selects RX0 yX0_noteGrowth yX0_noteGrowth]
def wsL_law_r23 : List Cond := [Cond.code yX0_noteGrowth cX0_noteGrowth 5 (some .boolean), Cond.methodLink RL 94 yX7_treesOfSet, Cond.instanceMethod yX7_treesOfSet, Cond.selects RX7 yX7_treesOfSet yX7_treesOfSet, Cond.code yX7_treesOfSet cX7_treesOfSet 2 (some .int), Cond.methodLink RX7 118 yX7_counts, Cond.instanceMethod yX7_counts, Cond.selects RX7 yX7_counts yX7_counts, Cond.code yX7_counts cX7_counts 2 none, Cond.methodLink RX7 111 yX7_starts, Cond.instanceMethod yX7_starts, Cond.selects RX7 yX7_starts yX7_starts, Cond.code yX7_starts cX7_starts 2 none, Cond.methodLink RX7 114 yX7_steps, Cond.instanceMethod yX7_steps, Cond.selects RX7 yX7_steps yX7_steps, Cond.code yX7_steps cX7_steps 6 (some .boolean), Cond.methodLink RX7 103 yX7_leads, Cond.instanceMethod yX7_leads, Cond.selects RX7 yX7_leads yX7_leads, Cond.code yX7_leads cX7_leads 8 (some .int), Cond.methodLink RX7 107 yX7_puts, Cond.instanceMethod yX7_puts, Cond.selects RX7 yX7_puts yX7_puts]
def wsL_law_r24 : List Cond := [Cond.code yX7_puts cX7_puts 3 none, Cond.methodLink RL 95 yX6_reachedSets, Cond.instanceMethod yX6_reachedSets, Cond.selects RX6 yX6_reachedSets yX6_reachedSets, Cond.code yX6_reachedSets cX6_reachedSets 3 (some .int), Cond.methodLink RX6 181 yX0_isReached, Cond.instanceMethod yX0_isReached, Cond.selects RX0 yX0_isReached yX0_isReached, Cond.code yX0_isReached cX0_isReached 2 (some .boolean), Cond.methodLink RL 98 yX7_reachedSets, Cond.instanceMethod yX7_reachedSets, Cond.selects RX7 yX7_reachedSets yX7_reachedSets, Cond.code yX7_reachedSets cX7_reachedSets 3 (some .int), Cond.methodLink RL 99 yX6_isReachable, Cond.instanceMethod yX6_isReachable, Cond.selects RX6 yX6_isReachable yX6_isReachable, Cond.code yX6_isReachable cX6_isReachable 2 (some .int), Cond.methodLink RX6 184 yX6_meetsReachedSet, Cond.instanceMethod yX6_meetsReachedSet, Cond.selects RX6 yX6_meetsReachedSet yX6_meetsReachedSet, Cond.code yX6_meetsReachedSet cX6_meetsReachedSet 3 (some .boolean), Cond.methodLink RL 102 yX7_isReachable, Cond.instanceMethod yX7_isReachable, Cond.selects RX7 yX7_isReachable yX7_isReachable]
def wsL_law_r25 : List Cond := [Cond.code yX7_isReachable cX7_isReachable 2 (some .int), Cond.methodLink RX7 121 yX7_reached, Cond.instanceMethod yX7_reached, Cond.selects RX7 yX7_reached yX7_reached, Cond.code yX7_reached cX7_reached 3 (some .int), Cond.methodLink RL 103 yX6_isEmpty, Cond.instanceMethod yX6_isEmpty, Cond.selects RX6 yX6_isEmpty yX6_isEmpty, Cond.code yX6_isEmpty cX6_isEmpty 1 (some .int), Cond.methodLink RL 106 yX7_isEmpty, Cond.instanceMethod yX7_isEmpty, Cond.selects RX7 yX7_isEmpty yX7_isEmpty, Cond.code yX7_isEmpty cX7_isEmpty 1 (some .int), Cond.methodLink RL 107 yX6_isUniversal, Cond.instanceMethod yX6_isUniversal, Cond.selects RX6 yX6_isUniversal yX6_isUniversal, Cond.code yX6_isUniversal cX6_isUniversal 2 (some .int), Cond.methodLink RL 110 yX7_isUniversal, Cond.instanceMethod yX7_isUniversal, Cond.selects RX7 yX7_isUniversal yX7_isUniversal, Cond.code yX7_isUniversal cX7_isUniversal 3 (some .int), Cond.methodLink RL 111 yX6_isComplete, Cond.instanceMethod yX6_isComplete, Cond.selects RX6 yX6_isComplete yX6_isComplete]
def wsL_law_r26 : List Cond := [Cond.code yX6_isComplete cX6_isComplete 1 (some .int), Cond.methodLink RL 114 yX7_isComplete, Cond.instanceMethod yX7_isComplete, Cond.selects RX7 yX7_isComplete yX7_isComplete, Cond.code yX7_isComplete cX7_isComplete 1 (some .int), Cond.methodLink RL 115 yX6_isDeterministic, Cond.instanceMethod yX6_isDeterministic, Cond.selects RX6 yX6_isDeterministic yX6_isDeterministic, Cond.code yX6_isDeterministic cX6_isDeterministic 2 (some .int), Cond.methodLink RL 118 yX7_isDeterministic, Cond.instanceMethod yX7_isDeterministic, Cond.selects RX7 yX7_isDeterministic yX7_isDeterministic, Cond.code yX7_isDeterministic cX7_isDeterministic 3 (some .int), Cond.methodLink RL 119 yX6_leastHeight, Cond.instanceMethod yX6_leastHeight, Cond.selects RX6 yX6_leastHeight yX6_leastHeight, Cond.code yX6_leastHeight cX6_leastHeight 3 (some .int), Cond.methodLink RL 122 yX7_leastHeight, Cond.instanceMethod yX7_leastHeight, Cond.selects RX7 yX7_leastHeight yX7_leastHeight, Cond.code yX7_leastHeight cX7_leastHeight 4 (some .int), Cond.methodLink RL 123 yX6_undo, Cond.instanceMethod yX6_undo, Cond.selects RX6 yX6_undo yX6_undo]
def wsL_law_r27 : List Cond := [Cond.code yX6_undo cX6_undo 1 (some .int), Cond.methodLink RX6 191 yX1_giveBack, Cond.instanceMethod yX1_giveBack, Cond.selects RX1 yX1_giveBack yX1_giveBack, Cond.code yX1_giveBack cX1_giveBack 2 none, Cond.methodLink RL 126 yX7_undo, Cond.instanceMethod yX7_undo, Cond.selects RX7 yX7_undo yX7_undo, Cond.code yX7_undo cX7_undo 2 (some .int)]
def wsL_law : List Cond := (wsL_law_r1 ++ (wsL_law_r2 ++ (wsL_law_r3 ++ (wsL_law_r4 ++ (wsL_law_r5 ++ (wsL_law_r6 ++ (wsL_law_r7 ++ (wsL_law_r8 ++ (wsL_law_r9 ++ (wsL_law_r10 ++ (wsL_law_r11 ++ (wsL_law_r12 ++ (wsL_law_r13 ++ (wsL_law_r14 ++ (wsL_law_r15 ++ (wsL_law_r16 ++ (wsL_law_r17 ++ (wsL_law_r18 ++ (wsL_law_r19 ++ (wsL_law_r20 ++ (wsL_law_r21 ++ (wsL_law_r22 ++ (wsL_law_r23 ++ (wsL_law_r24 ++ (wsL_law_r25 ++ (wsL_law_r26 ++ wsL_law_r27)))))))))))))))))))))))))) ++ wsX60 ++ wsX70 ++ wsX50 ++ wsX20 ++ wsX10 ++ wsX30 ++ wsX40 ++ wsX00 ++ ([] : List Cond)
abbrev vwCl : List vw_C := [(RX0, TX0, 3), (RX1, TX1, 3), (RX2, TX2, 7), (RX3, TX3, 6), (RX4, TX4, 3), (RX5, TX5, 3), (RX6, TX6, 10), (RX7, TX7, 14)]
end
section
/-! own layer over the kit: one form of contract for all methods. State of a component: rows of ints. -/
abbrev CS : Type := Nat → Nat → Int32
def st (b : CS) (j i : Nat) (x : Int32) : CS := fun k => match Nat.beq k j with
  | true => upd (b j) i x
  | false => b k
def sr (b : CS) (j : Nat) (f : Nat → Int32) : CS := fun k => match Nat.beq k j with
  | true => f
  | false => b k
def sR (z : Nat → CS) (j : Nat) (b : CS) : Nat → CS := fun k => match Nat.beq k j with
  | true => b
  | false => z k
def xar : Nat → Int32 := fun j => match j with
  | 2 => 1
  | 3 => 2
  | 4 => 2
  | _ => 0
def xst : Nat → Int32 := fun j => match j with
  | 2 => 2
  | 3 => 4
  | 4 => 14
  | 5 => 40
  | 6 => 154
  | 7 => 556
  | 8 => 2278
  | _ => 0
abbrev xNW : List Cond := [
  .methodLinkNest RX5 37 yX6_sizeAt "BrotherAutomata",
  .fieldLinkNest RX5 45 "BrotherAutomata" "ARITY" "[I" "BrotherAutomata",
  .fieldLinkNest RX5 34 "BrotherAutomata" "START" "[I" "BrotherAutomata",
  .fieldLinkNest RX4 75 "BrotherAutomata$RuleBook" "seconds" "[I" "BrotherAutomata",
  .fieldLinkNest RX4 72 "BrotherAutomata$RuleBook" "firsts" "[I" "BrotherAutomata",
  .fieldLinkNest RX4 69 "BrotherAutomata" "ARITY" "[I" "BrotherAutomata",
  .fieldLinkNest RX4 62 "BrotherAutomata$RuleBook" "targets" "[I" "BrotherAutomata",
  .fieldLinkNest RX4 59 "BrotherAutomata$RuleBook" "constraints" "[I" "BrotherAutomata",
  .fieldLinkNest RX4 56 "BrotherAutomata$RuleBook" "symbols" "[I" "BrotherAutomata",
  .fieldLinkNest RX4 50 "BrotherAutomata$RuleBook" "count" "I" "BrotherAutomata",
  .fieldLinkNest RX3 65 "BrotherAutomata$RuleBook" "constraints" "[I" "BrotherAutomata",
  .fieldLinkNest RX3 62 "BrotherAutomata$RuleBook" "targets" "[I" "BrotherAutomata",
  .fieldLinkNest RX3 59 "BrotherAutomata$RuleBook" "seconds" "[I" "BrotherAutomata",
  .fieldLinkNest RX3 56 "BrotherAutomata$RuleBook" "firsts" "[I" "BrotherAutomata",
  .fieldLinkNest RX3 53 "BrotherAutomata" "ARITY" "[I" "BrotherAutomata",
  .fieldLinkNest RX3 50 "BrotherAutomata$RuleBook" "symbols" "[I" "BrotherAutomata",
  .fieldLinkNest RX3 37 "BrotherAutomata$RuleBook" "count" "I" "BrotherAutomata",
  .fieldLinkNest RX2 48 "BrotherAutomata" "ARITY" "[I" "BrotherAutomata",
  .fieldLinkNest RX6 87 "BrotherAutomata$RuleBook" "finals" "I" "BrotherAutomata",
  .fieldLinkNest RX6 188 "BrotherAutomata$History" "kept" "I" "BrotherAutomata",
  .fieldLinkNest RX6 187 "BrotherAutomata$Census" "heights" "[I" "BrotherAutomata",
  .fieldLinkNest RX6 178 "BrotherAutomata$Census" "numbers" "[I" "BrotherAutomata",
  .fieldLinkNest RX6 159 "BrotherAutomata$SmallTrees" "heights" "[I" "BrotherAutomata",
  .fieldLinkNest RX6 109 "BrotherAutomata$RuleBook" "count" "I" "BrotherAutomata"]
def xE (tA tS : Nat) (A : Nat → Prop) (U : State) (H : Heap) : Prop := (∀ w ∈ xNW, va_Nw w U) ∧ va_Z "BrotherAutomata" "ARITY" "[I" (.ref tA) A U H ∧ va_T .int tA 5 (fun j => .int (xar j)) A U H ∧ va_Z "BrotherAutomata" "START" "[I" (.ref tS) A U H ∧ va_T .int tS 9 (fun j => .int (xst j)) A U H
theorem xNW_warm {s U : State} (hW : s.WarmedH U.vm) : ∀ w ∈ xNW, va_Nw w s → va_Nw w U := by
  intro w hw h
  simp only [xNW, List.mem_cons, List.not_mem_nil, or_false] at hw
  rcases hw with rfl | rfl | rfl | rfl | rfl | rfl | rfl | rfl | rfl | rfl | rfl | rfl | rfl | rfl | rfl | rfl | rfl | rfl | rfl | rfl | rfl | rfl | rfl | rfl <;> first | exact va_Nw.warmF hW h | exact va_Nw.warmM hW h
theorem xNW_same {s U : State} (hv : s.vm = U.vm) : ∀ w ∈ xNW, va_Nw w s → va_Nw w U := by
  intro w hw h
  simp only [xNW, List.mem_cons, List.not_mem_nil, or_false] at hw
  rcases hw with rfl | rfl | rfl | rfl | rfl | rfl | rfl | rfl | rfl | rfl | rfl | rfl | rfl | rfl | rfl | rfl | rfl | rfl | rfl | rfl | rfl | rfl | rfl | rfl <;> exact va_Nw.same rfl hv h
theorem xE.warm {tA tS : Nat} {A : Nat → Prop} {s U : State} {H : Heap} (hW : s.WarmedH U.vm) (h : xE tA tS A s H) : xE tA tS A U H :=
  ⟨fun w hw => xNW_warm hW w hw (h.1 w hw), h.2.1.moved hW.alike, h.2.2.1.moved hW.alike, h.2.2.2.1.moved hW.alike, h.2.2.2.2.moved hW.alike⟩
theorem xE.same {tA tS : Nat} {A : Nat → Prop} {s U : State} {H : Heap} (hv : s.vm = U.vm) (h : xE tA tS A s H) : xE tA tS A U H := by
  have ha : s.vm.Alike U.vm := by rw [hv]; exact Vm.Alike.refl _
  exact ⟨fun w hw => xNW_same hv w hw (h.1 w hw), h.2.1.moved ha, h.2.2.1.moved ha, h.2.2.2.1.moved ha, h.2.2.2.2.moved ha⟩
theorem xE.kept {tA tS : Nat} {A : Nat → Prop} {U : State} {H H1 : Heap} (h : xE tA tS A U H) (hq : ∀ a : Nat, a < H.size → ¬ A a → H1[a]? = H[a]?) : xE tA tS A U H1 :=
  ⟨h.1, h.2.1.kept hq, h.2.2.1.kept hq, h.2.2.2.1.kept hq, h.2.2.2.2.kept hq⟩
theorem xE.narrow {tA tS : Nat} {A B : Nat → Prop} {U : State} {H : Heap} (h : xE tA tS A U H) (hAB : ∀ q, B q → A q) : xE tA tS B U H :=
  ⟨h.1, h.2.1.narrow hAB, h.2.2.1.narrow hAB, h.2.2.2.1.narrow hAB, h.2.2.2.2.narrow hAB⟩
abbrev xT (cI cO : ClassId) : List (ClassId × FieldType) := [(cI, .int), (cO, .object "BrotherAutomata$RuleBook")]
def xPre (D : va_G) (cI cO : ClassId) (tA tS : Nat) (av : List Value) (W0 : va_W) (sz : Nat) : Array Value → State → Prop :=
  va_Pc av (fun U => U.heap.size = sz ∧ va_P D vwCl W0 U.heap ∧ va_K D vwCl (xT cI cO) U ∧ va_D (fun _ => True) W0 ∧ xE tA tS (va_A W0 sz) U U.heap)
def xB {S : Type} (D : va_G) (cI cO : ClassId) (A : Nat → Prop) (w : S → va_W) : S → State → Prop :=
  fun u t => va_P D vwCl (w u) t.heap ∧ va_K D vwCl (xT cI cO) t ∧ va_D A (w u)
theorem xMet {l : Launch} {y : MethodName} {ws ws' : List Cond} {rm : Room} {cc : ByteArray} {maxL : Nat} {ret : Option FieldType} {av : List Value} {W0 : va_W} {sz mc ms : Nat} (D : va_G) (cI cO : ClassId) (tA tS : Nat) (Qf : (Nat → Prop) → Array Value → State → Outcome → State → Prop)
    (hy : plainName y.cls = true) (hw : ws = Cond.code y cc maxL ret :: ws') (hlen : (lg_sl av).length ≤ maxL)
    (body : ∀ (p : Program) (e : Env) (s : State) (m : MethodId) (below : List Frame) (meth : Method) (c : Code) (A : Nat → Prop) (ls : Array Slot), p.tables.exec = Jvm.exec → c.code = cc → meth.sig.returnType = ret → (∀ w ∈ ws, w.before av.toArray s = true) → s.vm.findClass y.cls = some m.cls → meth.locks = false → meth.name = y.name → c.maxLocals = maxL → (∀ q : Nat, s.heap.size ≤ q → A q) → va_S A s.heap s.heap [] → va_P D vwCl W0 s.heap → va_K D vwCl (xT cI cO) s → va_D A W0 → xE tA tS A s s.heap → lv_has ls maxL (lv_args 0 av) →
      W p l e rm s m av.toArray below meth c s.heap [] 0 0 (MQ below (Qf A) av.toArray s mc ms A) (F0 m 0 ls [])) :
    Met l y ws rm (xPre D cI cO tA tS av W0 sz) (Qf (va_A W0 sz)) mc ms (va_A W0 sz) := by
  refine Met.ofW (cc := cc) (maxL := maxL) (ret := ret) hy hw ?_
  intro p e s m args below meth c s₁ B hml hv
  obtain ⟨rfl, hsz, hP, hK, hD0, hE⟩ := hv
  subst hsz
  have hown : s.vm.findClass y.cls = some m.cls := findClass_of_methodNamed B.named
  rw [lg_entry_eq]
  exact body p e s m below meth c (va_A W0 s.heap.size) _ B.exec B.bytes B.returns (atoms_spec B.pre) hown B.notSynchronized (name_of_methodNamed B.named B.method).1 hml (fun q h => Or.inr h) va_S.rf hP hK hD0.self hE (lv_entry av hlen)
theorem va_P.subM {D : va_G} {cl : List vw_C} {ws ws' : va_W} {H : Heap} (h : va_P D cl ws H) (is : List Nat) (hs : is.map (fun i => ws[i]?) = ws'.map some) : va_P D cl ws' H := by
  intro k q hk
  have h1 : (is.map (fun i => ws[i]?))[k]? = some (some q) := by rw [hs, List.getElem?_map, hk]; rfl
  rw [List.getElem?_map] at h1
  cases hi : is[k]? with
  | none => rw [hi] at h1; cases h1
  | some i => rw [hi] at h1; exact h i q (Option.some.inj h1)
section XA
variable {p : Program} {l : Launch} {e : Env} {R : Room} {s : State} {m : MethodId} {args : Array Value} {below : List Frame} {meth : Method} {c : Code} {H : Heap} {locs : List Loc} {cells slots : Nat} {Q : State → Prop} {cc : ByteArray} {S : Type} {A : Nat → Prop} {D : va_G} {cI cO : ClassId} {pc : Nat} {ls : Array Slot}
theorem xiret {post : Int32 → S → Prop} {w : S → va_W} {v : Int32} (u : S) (hx : p.tables.exec = Jvm.exec) (hb : c.code = cc) (hr : meth.sig.returnType = some .int) (hlocks : meth.locks = false) (hp : post v u) (hP : va_P D vwCl (w u) H) (hK : va_K D vwCl (xT cI cO) s) (hD : va_D A (w u)) (hS : va_S A s.heap H locs) (hdg : decode cc pc = .ok (.ireturn, 1)) :
    W p l e R s m args below meth c H locs cells slots (MQ below (va_Qi post (xB D cI cO A w) A) args s cells slots A) (F0 m pc ls [.int v]) :=
  W.iret hx hb hr (fun t ht hW => ⟨⟨v, u, rfl, hp, by rw [ht]; exact hP, va_K.moved hW.alike hK, hD⟩, hS.F ht⟩) hS.2.2 hdg hlocks
theorem xzret {post : Int32 → S → Prop} {w : S → va_W} {v : Int32} (u : S) (hx : p.tables.exec = Jvm.exec) (hb : c.code = cc) (hr : meth.sig.returnType = some .boolean) (hlocks : meth.locks = false) (hn : narrow .boolean (.int v) = .int v) (hp : post v u) (hP : va_P D vwCl (w u) H) (hK : va_K D vwCl (xT cI cO) s) (hD : va_D A (w u)) (hS : va_S A s.heap H locs) (hdg : decode cc pc = .ok (.ireturn, 1)) :
    W p l e R s m args below meth c H locs cells slots (MQ below (va_Qi post (xB D cI cO A w) A) args s cells slots A) (F0 m pc ls [.int v]) :=
  W.zret hx hb hr hn (fun t ht hW => ⟨⟨v, u, rfl, hp, by rw [ht]; exact hP, va_K.moved hW.alike hK, hD⟩, hS.F ht⟩) hS.2.2 hdg hlocks
theorem xvret {post : S → Prop} {w : S → va_W} (u : S) (hx : p.tables.exec = Jvm.exec) (hb : c.code = cc) (hr : meth.sig.returnType = none) (hlocks : meth.locks = false) (hp : post u) (hP : va_P D vwCl (w u) H) (hK : va_K D vwCl (xT cI cO) s) (hD : va_D A (w u)) (hS : va_S A s.heap H locs) (hdg : decode cc pc = .ok (.return_, 1)) :
    W p l e R s m args below meth c H locs cells slots (MQ below (va_Qv post (xB D cI cO A w) A) args s cells slots A) (F0 m pc ls []) :=
  W.vret hx hb hr (fun t ht hW => ⟨⟨u, rfl, hp, by rw [ht]; exact hP, va_K.moved hW.alike hK, hD⟩, hS.F ht⟩) hS.2.2 hdg hlocks
theorem xcalli {post : Int32 → S → Prop} {w1 w2 : S → va_W} {ws wc wr : va_W} {H0 : Heap} {rest st0 : List Value} {a : Array Value}
    (hr : va_Run p l e R s m args below meth c H locs cells slots 0 0 (F0 m pc ls st0) rest (va_Qi post (xB D cI cO (va_A wc H.size) w1) (va_A wc H.size) a) (va_A wc H.size))
    (hP : va_P D vwCl ws H) (hD : va_D A ws) (hS : va_S A H0 H locs) (hA : ∀ q : Nat, H0.size ≤ q → A q) (isC isR is2 : List Nat) (hC : isC.map (fun i => ws[i]?) = wc.map some) (hR : isR.map (fun i => ws[i]?) = wr.map some) (hn : va_nd isR = true) (hdis : ∀ i ∈ isR, i ∉ isC) (hn2 : va_nd is2 = true) (h2 : ∀ u, is2.map (fun i => (wr ++ w1 u)[i]?) = (w2 u).map some)
    (kk : ∀ (r : Int32) (u : S) (H1 : Heap) (locs1 : List Loc), post r u → va_P D vwCl (w2 u) H1 → va_D A (w2 u) → va_S A H0 H1 locs1 → W p l e R s m args below meth c H1 locs1 cells slots Q (F0 m (pc + 3) ls (.int r :: rest))) : W p l e R s m args below meth c H locs cells slots Q (F0 m pc ls st0) := by
  have hFc := va_free (wc := wc) hD hS hA isC hC
  refine va_calli hr hS (fun q _ h => hFc q h) hFc (fun r u t H1 locs1 ht hvm hw hB hz1 hk1 hS1 => ?_)
  obtain ⟨hP1, hK1, hD1⟩ := hB
  rw [ht] at hP1
  obtain ⟨hP2, hD2⟩ := va_join (wr := wr) (w1 := w1 u) hP hD isC isR hC hR hn hdis hk1 hFc hP1 hD1
  exact kk r u H1 locs1 hw (hP2.subM is2 (h2 u)) (hD2.sub is2 hn2 (h2 u)) hS1
theorem xcallv {post : S → Prop} {w1 w2 : S → va_W} {ws wc wr : va_W} {H0 : Heap} {rest st0 : List Value} {a : Array Value}
    (hr : va_Run p l e R s m args below meth c H locs cells slots 0 0 (F0 m pc ls st0) rest (va_Qv post (xB D cI cO (va_A wc H.size) w1) (va_A wc H.size) a) (va_A wc H.size))
    (hP : va_P D vwCl ws H) (hD : va_D A ws) (hS : va_S A H0 H locs) (hA : ∀ q : Nat, H0.size ≤ q → A q) (isC isR is2 : List Nat) (hC : isC.map (fun i => ws[i]?) = wc.map some) (hR : isR.map (fun i => ws[i]?) = wr.map some) (hn : va_nd isR = true) (hdis : ∀ i ∈ isR, i ∉ isC) (hn2 : va_nd is2 = true) (h2 : ∀ u, is2.map (fun i => (wr ++ w1 u)[i]?) = (w2 u).map some)
    (kk : ∀ (u : S) (H1 : Heap) (locs1 : List Loc), post u → va_P D vwCl (w2 u) H1 → va_D A (w2 u) → va_S A H0 H1 locs1 → W p l e R s m args below meth c H1 locs1 cells slots Q (F0 m (pc + 3) ls rest)) : W p l e R s m args below meth c H locs cells slots Q (F0 m pc ls st0) := by
  have hFc := va_free (wc := wc) hD hS hA isC hC
  refine va_callv hr hS (fun q _ h => hFc q h) hFc (fun u t H1 locs1 ht hvm hw hB hz1 hk1 hS1 => ?_)
  obtain ⟨hP1, hK1, hD1⟩ := hB
  rw [ht] at hP1
  obtain ⟨hP2, hD2⟩ := va_join (wr := wr) (w1 := w1 u) hP hD isC isR hC hR hn hdis hk1 hFc hP1 hD1
  exact kk u H1 locs1 hw (hP2.subM is2 (h2 u)) (hD2.sub is2 hn2 (h2 u)) hS1
theorem xpreP {tA tS : Nat} {ws wc : va_W} {av : List Value} (hP : va_P D vwCl ws H) (hD : va_D A ws) (hS : va_S A s.heap H locs) (hA : ∀ q : Nat, s.heap.size ≤ q → A q) (hK : va_K D vwCl (xT cI cO) s) (hE : xE tA tS A s s.heap) (isC : List Nat) (hC : isC.map (fun i => ws[i]?) = wc.map some) (hnC : va_nd isC = true) : PreS s H (xPre D cI cO tA tS av wc H.size) av := by
  refine ⟨fun a U g mk q => ?_, fun U hU hW => ?_⟩
  · obtain ⟨q0, q1, qP, qK, qD, qE⟩ := q
    exact ⟨q0, q1, qP, va_K.moved (u := U) (U := U.calling g mk a) (Vm.Alike.refl U.vm) qK, qD, xE.same (s := U) (U := U.calling g mk a) rfl qE⟩
  · have hE1 : xE tA tS A s H := hE.kept (fun a h1 h2 => hS.2.1 a h1 h2)
    have hE2 : xE tA tS (va_A wc H.size) s H := hE1.narrow (va_free (wc := wc) hD hS hA isC hC)
    exact ⟨rfl, by rw [hU], by rw [hU]; exact hP.subM isC hC, va_K.moved hW.alike hK, (hD.sub isC hnC hC).weaken (fun _ _ _ _ => trivial), by rw [hU]; exact hE2.warm hW⟩
theorem xpreV {tA tS : Nat} {ws wc : va_W} {b : Nat} {As : List Value} {Cn : String} {Tn : u_T} {Nn : Nat} {fs : List Value} (hP : va_P D vwCl ws H) (hD : va_D A ws) (hS : va_S A s.heap H locs) (hA : ∀ q : Nat, s.heap.size ≤ q → A q) (hK : va_K D vwCl (xT cI cO) s) (hE : xE tA tS A s s.heap) (isC : List Nat) (hC : isC.map (fun i => ws[i]?) = wc.map some) (hnC : va_nd isC = true) (ci q0 : Nat) (hc : vwCl[ci]? = some (Cn, Tn, Nn)) (he : ws[q0]? = some (b, .inr (ci, fs))) : PreV s H Cn b (xPre D cI cO tA tS (.ref b :: As) wc H.size) As :=
  ⟨(xpreP hP hD hS hA hK hE isC hC hnC).1, va_recv hK hP hc he, (xpreP (av := .ref b :: As) hP hD hS hA hK hE isC hC hnC).2⟩
end XA
end
section
/-! laid by gen.py: the worlds, and for each method what must hold (q..) -/
abbrev wS (cI : ClassId) (aS aT aB aH aM aC aZ : Nat → Nat) (z : CS) : va_W := [(aS 0, .inr (6, [.ref (aT 0), .ref (aB 0), .ref (aH 0), .ref (aM 0), .ref (aC 0), .ref (aZ 0), .ref (aS 1), .int (z 1 0), .int (z 1 1), .int (z 1 2)])), (aS 1, .inl (cI, 2278, .inl (z 0)))]
abbrev wT (cI : ClassId) (aT : Nat → Nat) (z : CS) : va_W := [(aT 0, .inr (5, [.ref (aT 1), .ref (aT 2), .int (z 2 0)])), (aT 1, .inl (cI, 2278, .inl (z 0))), (aT 2, .inl (cI, 2278, .inl (z 1)))]
abbrev wB (cI : ClassId) (aB : Nat → Nat) (z : CS) : va_W := [(aB 0, .inr (2, [.ref (aB 1), .ref (aB 2), .ref (aB 3), .ref (aB 4), .ref (aB 5), .int (z 5 0), .int (z 5 1)])), (aB 1, .inl (cI, 16, .inl (z 0))), (aB 2, .inl (cI, 16, .inl (z 1))), (aB 3, .inl (cI, 16, .inl (z 2))), (aB 4, .inl (cI, 16, .inl (z 3))), (aB 5, .inl (cI, 16, .inl (z 4)))]
abbrev wM (cI : ClassId) (aM : Nat → Nat) (z : CS) : va_W := [(aM 0, .inr (3, [.ref (aM 1), .ref (aM 2), .ref (aM 3), .ref (aM 4), .int (z 4 0), .int (z 4 1)])), (aM 1, .inl (cI, 5, .inl (z 0))), (aM 2, .inl (cI, 64, .inl (z 1))), (aM 3, .inl (cI, 64, .inl (z 2))), (aM 4, .inl (cI, 16, .inl (z 3)))]
abbrev wC (cI : ClassId) (aC : Nat → Nat) (z : CS) : va_W := [(aC 0, .inr (4, [.ref (aC 1), .ref (aC 2), .ref (aC 3)])), (aC 1, .inl (cI, 7, .inl (z 0))), (aC 2, .inl (cI, 7, .inl (z 1))), (aC 3, .inl (cI, 42, .inl (z 2)))]
abbrev wZ (cI : ClassId) (aZ : Nat → Nat) (z : CS) : va_W := [(aZ 0, .inr (0, [.ref (aZ 1), .ref (aZ 2), .ref (aZ 3)])), (aZ 1, .inl (cI, 64, .inl (z 0))), (aZ 2, .inl (cI, 64, .inl (z 1))), (aZ 3, .inl (cI, 64, .inl (z 2)))]
abbrev wN (cI : ClassId) (aN : Nat → Nat) (z : CS) : va_W := [(aN 0, .inr (7, [.int (z 11 0), .ref (aN 1), .ref (aN 2), .ref (aN 3), .ref (aN 4), .ref (aN 5), .ref (aN 6), .ref (aN 7), .int (z 11 1), .ref (aN 8), .ref (aN 9), .int (z 11 2), .ref (aN 10), .ref (aN 11)])), (aN 1, .inl (cI, 2278, .inl (z 0))), (aN 2, .inl (cI, 2278, .inl (z 1))), (aN 3, .inl (cI, 2278, .inl (z 2))), (aN 4, .inl (cI, 2278, .inl (z 3))), (aN 5, .inl (cI, 2278, .inl (z 4))), (aN 6, .inl (cI, 9, .inl (z 5))), (aN 7, .inl (cI, 13668, .inl (z 6))), (aN 8, .inl (cI, 82, .inl (z 7))), (aN 9, .inl (cI, 410, .inl (z 8))), (aN 10, .inl (cI, 64, .inl (z 9))), (aN 11, .inl (cI, 64, .inl (z 10)))]
abbrev wB0 (aB : Nat → Nat) (z : CS) : va_W := [(aB 0, .inr (2, [.ref (aB 1), .ref (aB 2), .ref (aB 3), .ref (aB 4), .ref (aB 5), .int (z 5 0), .int (z 5 1)]))]
abbrev wH (cO : ClassId) (aH : Nat → Nat) (aR : Nat → Nat → Nat) (z : CS) : va_W := [(aH 0, .inr (1, [.ref (aH 1), .int (z 0 0), .int (z 0 1)])), (aH 1, .inl (cO, 5, .inr (.inr (.inr (.inr (fun j => some (aR j 0)))))))]
abbrev wR (cI : ClassId) (aR : Nat → Nat → Nat) (z : Nat → CS) : va_W := wB cI (aR 0) (z 0) ++ (wB cI (aR 1) (z 1) ++ (wB cI (aR 2) (z 2) ++ (wB cI (aR 3) (z 3) ++ wB cI (aR 4) (z 4))))
def qX0_isReached (post : Int32 → (Unit) → Prop) (x1 : Int32) (zZ : CS) : Prop :=
  vp_in x1 64 ∧ ((((zZ 0) x1.toNatClampNeg) ≤ (0 : Int32) → (post (0 : Int32) ())) ∧ (¬ ((zZ 0) x1.toNatClampNeg) ≤ (0 : Int32) → (post (1 : Int32) ())))
def qJ7_fill_53178_5b (post : ((Nat → Int32)) → Prop) (fn : Nat) (x1 : Int32)  (k5 : (Int32) → (Int32) → (Nat → Int32) → Prop) (y2 : Int32) (y3 : Int32) (zF : Nat → Int32) : Prop :=
  (y3 ≤ y2 → (post (zF))) ∧ (¬ y3 ≤ y2 → (vp_in y2 fn ∧ (k5 (y2 + (1 : Int32)) y3 (upd zF y2.toNatClampNeg x1))))
def qJ7_fill_53178_5 (post : ((Nat → Int32)) → Prop) (fn : Nat) (x1 : Int32)  (n : Nat) : (Int32) → (Int32) → (Nat → Int32) → Prop :=
  Nat.rec (motive := fun _ => (Int32) → (Int32) → (Nat → Int32) → Prop) (fun _ _ _ => False) (fun _ k => qJ7_fill_53178_5b post fn x1 k) n
def qJ7_fill_53178 (post : ((Nat → Int32)) → Prop) (fn : Nat) (x1 : Int32) (zF : Nat → Int32) : Prop :=
  ∃ n : Nat, qJ7_fill_53178_5 post fn x1 n (0 : Int32) (Int32.ofNat fn) zF
def qX3_step_88 (post : Int32 → (Unit) → Prop) (x1 : Int32) (x2 : Int32) (x3 : Int32) (x4 : Int32) (zM : CS)  (y5 : Int32) (y6 : Int32) (y7 : Int32) : Prop :=
  post y6 ()
def qX3_step_82 (post : Int32 → (Unit) → Prop) (x1 : Int32) (x2 : Int32) (x3 : Int32) (x4 : Int32) (zM : CS) (k45 : (Int32) → (Int32) → (Int32) → Prop) (y5 : Int32) (y6 : Int32) (y7 : Int32) : Prop :=
  k45 y5 y6 (y7 + (1 : Int32))
def qX3_step_45b (post : Int32 → (Unit) → Prop) (x1 : Int32) (x2 : Int32) (x3 : Int32) (x4 : Int32) (zM : CS)  (k45 : (Int32) → (Int32) → (Int32) → Prop) (y5 : Int32) (y6 : Int32) (y7 : Int32) : Prop :=
  ((16 : Int32) ≤ y7 → (qX3_step_88 post x1 x2 x3 x4 zM y5 y6 y7)) ∧ (¬ (16 : Int32) ≤ y7 → (((y5 >>> (y7 &&& 31)) = (0 : Int32) → (qX3_step_88 post x1 x2 x3 x4 zM y5 y6 y7)) ∧ (¬ (y5 >>> (y7 &&& 31)) = (0 : Int32) → ((((y5 >>> (y7 &&& 31)) &&& (1 : Int32)) = (0 : Int32) → (qX3_step_82 post x1 x2 x3 x4 zM k45 y5 y6 y7)) ∧ (¬ ((y5 >>> (y7 &&& 31)) &&& (1 : Int32)) = (0 : Int32) → (vp_in y7 16 ∧ (qX3_step_82 post x1 x2 x3 x4 zM k45 y5 (y6 ||| ((zM 3) y7.toNatClampNeg)) y7)))))))
def qX3_step_45 (post : Int32 → (Unit) → Prop) (x1 : Int32) (x2 : Int32) (x3 : Int32) (x4 : Int32) (zM : CS)  (n : Nat) : (Int32) → (Int32) → (Int32) → Prop :=
  Nat.rec (motive := fun _ => (Int32) → (Int32) → (Int32) → Prop) (fun _ _ _ => False) (fun _ k => qX3_step_45b post x1 x2 x3 x4 zM k) n
def qX3_step_36 (post : Int32 → (Unit) → Prop) (x1 : Int32) (x2 : Int32) (x3 : Int32) (x4 : Int32) (zM : CS)  (w0 : Int32) (w1 : Int32) : Prop :=
  ∃ n : Nat, qX3_step_45 post x1 x2 x3 x4 zM n (w0 &&& w1) (0 : Int32) (0 : Int32)
def qX3_step (post : Int32 → (Unit) → Prop) (x1 : Int32) (x2 : Int32) (x3 : Int32) (x4 : Int32) (zM : CS) : Prop :=
  vp_in x1 5 ∧ (vp_in x2 64 ∧ (vp_in x3 64 ∧ ((x4 = (0 : Int32) → (qX3_step_36 post x1 x2 x3 x4 zM ((((zM 0) x1.toNatClampNeg) &&& ((zM 1) x2.toNatClampNeg)) &&& ((zM 2) x3.toNatClampNeg)) (zM 4 1))) ∧ (¬ x4 = (0 : Int32) → (qX3_step_36 post x1 x2 x3 x4 zM ((((zM 0) x1.toNatClampNeg) &&& ((zM 1) x2.toNatClampNeg)) &&& ((zM 2) x3.toNatClampNeg)) (zM 4 0))))))
def qX0_raise (post : ((CS)) → Prop) (x1 : Int32) (x2 : Int32) (zZ : CS) : Prop :=
  vp_in x1 64 ∧ (vp_in x1 64 ∧ (post (st zZ 0 x1.toNatClampNeg (if (2 : Int32) < (((zZ 0) x1.toNatClampNeg) + x2) then (2 : Int32) else (((zZ 0) x1.toNatClampNeg) + x2)))))
def qX0_countConstants_2b (post : ((CS)) → Prop) (zM : CS)  (k2 : (Int32) → (CS) → Prop) (y2 : Int32) (zZ : CS) : Prop :=
  ((2 : Int32) ≤ y2 → (post (zZ))) ∧ (¬ (2 : Int32) ≤ y2 → (qX3_step (fun r13 (u13 : Unit) => qX0_raise (fun (u17 : (CS)) => k2 (y2 + (1 : Int32)) u17) r13 (1 : Int32) zZ) y2 (0 : Int32) (0 : Int32) (1 : Int32) zM))
def qX0_countConstants_2 (post : ((CS)) → Prop) (zM : CS)  (n : Nat) : (Int32) → (CS) → Prop :=
  Nat.rec (motive := fun _ => (Int32) → (CS) → Prop) (fun _ _ => False) (fun _ k => qX0_countConstants_2b post zM k) n
def qX0_countConstants (post : ((CS)) → Prop)  (zM : CS) (zZ : CS) : Prop :=
  ∃ n : Nat, qX0_countConstants_2 post zM n (0 : Int32) zZ
def qX0_countUnary_34 (post : ((CS)) → Prop) (x2 : Int32) (zM : CS) (k2 : (Int32) → (CS) → Prop) (y3 : Int32) (zZ : CS) : Prop :=
  k2 (y3 + (1 : Int32)) zZ
def qX0_countUnary_2b (post : ((CS)) → Prop) (x2 : Int32) (zM : CS)  (k2 : (Int32) → (CS) → Prop) (y3 : Int32) (zZ : CS) : Prop :=
  (x2 ≤ y3 → (post (zZ))) ∧ (¬ x2 ≤ y3 → (vp_in y3 64 ∧ ((((zZ 1) y3.toNatClampNeg) ≤ (0 : Int32) → (qX0_countUnary_34 post x2 zM k2 y3 zZ)) ∧ (¬ ((zZ 1) y3.toNatClampNeg) ≤ (0 : Int32) → (qX3_step (fun r22 (u22 : Unit) => vp_in y3 64 ∧ (qX0_raise (fun (u31 : (CS)) => qX0_countUnary_34 post x2 zM k2 y3 u31) r22 ((zZ 1) y3.toNatClampNeg) zZ)) (2 : Int32) y3 (0 : Int32) (1 : Int32) zM)))))
def qX0_countUnary_2 (post : ((CS)) → Prop) (x2 : Int32) (zM : CS)  (n : Nat) : (Int32) → (CS) → Prop :=
  Nat.rec (motive := fun _ => (Int32) → (CS) → Prop) (fun _ _ => False) (fun _ k => qX0_countUnary_2b post x2 zM k) n
def qX0_countUnary (post : ((CS)) → Prop) (x2 : Int32) (zM : CS) (zZ : CS) : Prop :=
  ∃ n : Nat, qX0_countUnary_2 post x2 zM n (0 : Int32) zZ
def qX0_countPairs_52 (post : ((CS)) → Prop) (x2 : Int32) (x3 : Int32) (x4 : Int32) (zM : CS)  (y5 : Int32) (zZ : CS) : Prop :=
  (y5 ≤ (0 : Int32) → (post (zZ))) ∧ (¬ y5 ≤ (0 : Int32) → (qX3_step (fun r64 (u64 : Unit) => qX0_raise (fun (u69 : (CS)) => post (u69)) r64 y5 zZ) x2 x3 x4 (0 : Int32) zM))
def qX0_countPairs (post : ((CS)) → Prop) (x2 : Int32) (x3 : Int32) (x4 : Int32) (zM : CS) (zZ : CS) : Prop :=
  vp_in x3 64 ∧ (vp_in x4 64 ∧ ((x3 = x4 → (qX3_step (fun r29 (u29 : Unit) => vp_in x3 64 ∧ (qX0_raise (fun (u38 : (CS)) => vp_in x3 64 ∧ (qX0_countPairs_52 post x2 x3 x4 zM ((((zZ 1) x3.toNatClampNeg) * ((zZ 1) x4.toNatClampNeg)) - ((u38 1) x3.toNatClampNeg)) u38)) r29 ((zZ 1) x3.toNatClampNeg) zZ)) x2 x3 x4 (1 : Int32) zM)) ∧ (¬ x3 = x4 → (qX0_countPairs_52 post x2 x3 x4 zM (((zZ 1) x3.toNatClampNeg) * ((zZ 1) x4.toNatClampNeg)) zZ))))
def qX0_countBinary_59 (post : ((CS)) → Prop) (x2 : Int32) (zM : CS) (k2 : (Int32) → (CS) → Prop) (y3 : Int32) (y4 : Int32) (zZ : CS) : Prop :=
  k2 (y3 + (1 : Int32)) zZ
def qX0_countBinary_53 (post : ((CS)) → Prop) (x2 : Int32) (zM : CS) (k2 : (Int32) → (CS) → Prop) (k10 : (Int32) → (Int32) → (CS) → Prop) (y3 : Int32) (y4 : Int32) (zZ : CS) : Prop :=
  k10 y3 (y4 + (1 : Int32)) zZ
def qX0_countBinary_10b (post : ((CS)) → Prop) (x2 : Int32) (zM : CS) (k2 : (Int32) → (CS) → Prop) (k10 : (Int32) → (Int32) → (CS) → Prop) (y3 : Int32) (y4 : Int32) (zZ : CS) : Prop :=
  (x2 ≤ y4 → (qX0_countBinary_59 post x2 zM k2 y3 y4 zZ)) ∧ (¬ x2 ≤ y4 → (vp_in y3 64 ∧ ((((zZ 1) y3.toNatClampNeg) ≤ (0 : Int32) → (qX0_countBinary_59 post x2 zM k2 y3 y4 zZ)) ∧ (¬ ((zZ 1) y3.toNatClampNeg) ≤ (0 : Int32) → (vp_in y4 64 ∧ ((((zZ 1) y4.toNatClampNeg) ≤ (0 : Int32) → (qX0_countBinary_53 post x2 zM k2 k10 y3 y4 zZ)) ∧ (¬ ((zZ 1) y4.toNatClampNeg) ≤ (0 : Int32) → (qX0_countPairs (fun (u41 : (CS)) => qX0_countPairs (fun (u50 : (CS)) => qX0_countBinary_53 post x2 zM k2 k10 y3 y4 u50) (4 : Int32) y3 y4 zM u41) (3 : Int32) y3 y4 zM zZ))))))))
def qX0_countBinary_10 (post : ((CS)) → Prop) (x2 : Int32) (zM : CS) (k2 : (Int32) → (CS) → Prop) (n : Nat) : (Int32) → (Int32) → (CS) → Prop :=
  Nat.rec (motive := fun _ => (Int32) → (Int32) → (CS) → Prop) (fun _ _ _ => False) (fun _ k => qX0_countBinary_10b post x2 zM k2 k) n
def qX0_countBinary_2b (post : ((CS)) → Prop) (x2 : Int32) (zM : CS)  (k2 : (Int32) → (CS) → Prop) (y3 : Int32) (zZ : CS) : Prop :=
  (x2 ≤ y3 → (post (zZ))) ∧ (¬ x2 ≤ y3 → (∃ n : Nat, qX0_countBinary_10 post x2 zM k2 n y3 (0 : Int32) zZ))
def qX0_countBinary_2 (post : ((CS)) → Prop) (x2 : Int32) (zM : CS)  (n : Nat) : (Int32) → (CS) → Prop :=
  Nat.rec (motive := fun _ => (Int32) → (CS) → Prop) (fun _ _ => False) (fun _ k => qX0_countBinary_2b post x2 zM k) n
def qX0_countBinary (post : ((CS)) → Prop) (x2 : Int32) (zM : CS) (zZ : CS) : Prop :=
  ∃ n : Nat, qX0_countBinary_2 post x2 zM n (0 : Int32) zZ
def qX0_noteGrowth_48 (post : Int32 → ((CS)) → Prop) (x1 : Int32) (x2 : Int32) (k5 : (Int32) → (Int32) → (CS) → Prop) (y3 : Int32) (y4 : Int32) (zZ : CS) : Prop :=
  k5 y3 (y4 + (1 : Int32)) zZ
def qX0_noteGrowth_5b (post : Int32 → ((CS)) → Prop) (x1 : Int32) (x2 : Int32)  (k5 : (Int32) → (Int32) → (CS) → Prop) (y3 : Int32) (y4 : Int32) (zZ : CS) : Prop :=
  (x2 ≤ y4 → (narrow .boolean (.int y3) = .int y3 ∧ post y3 (zZ))) ∧ (¬ x2 ≤ y4 → (vp_in y4 64 ∧ (vp_in y4 64 ∧ ((((zZ 0) y4.toNatClampNeg) = ((zZ 1) y4.toNatClampNeg) → (qX0_noteGrowth_48 post x1 x2 k5 y3 y4 zZ)) ∧ (¬ ((zZ 0) y4.toNatClampNeg) = ((zZ 1) y4.toNatClampNeg) → (vp_in y4 64 ∧ ((((zZ 1) y4.toNatClampNeg) = (0 : Int32) → (vp_in y4 64 ∧ (qX0_noteGrowth_48 post x1 x2 k5 (1 : Int32) y4 (st zZ 2 y4.toNatClampNeg x1)))) ∧ (¬ ((zZ 1) y4.toNatClampNeg) = (0 : Int32) → (qX0_noteGrowth_48 post x1 x2 k5 (1 : Int32) y4 zZ)))))))))
def qX0_noteGrowth_5 (post : Int32 → ((CS)) → Prop) (x1 : Int32) (x2 : Int32)  (n : Nat) : (Int32) → (Int32) → (CS) → Prop :=
  Nat.rec (motive := fun _ => (Int32) → (Int32) → (CS) → Prop) (fun _ _ _ => False) (fun _ k => qX0_noteGrowth_5b post x1 x2 k) n
def qX0_noteGrowth (post : Int32 → ((CS)) → Prop) (x1 : Int32) (x2 : Int32) (zZ : CS) : Prop :=
  ∃ n : Nat, qX0_noteGrowth_5 post x1 x2 n (0 : Int32) (0 : Int32) zZ
def qX0_take_13b (post : ((CS)) → Prop) (x2 : Int32) (zM : CS)  (k13 : (Int32) → (Int32) → (CS) → Prop) (y3 : Int32) (y4 : Int32) (zZ : CS) : Prop :=
  ((129 : Int32) ≤ y4 → (post (zZ))) ∧ (¬ (129 : Int32) ≤ y4 → ((y3 = (0 : Int32) → (post (zZ))) ∧ (¬ y3 = (0 : Int32) → (qJ7_fill_53178 (fun (u45 : (Nat → Int32)) => qX0_countConstants (fun (u50 : (CS)) => qX0_countUnary (fun (u56 : (CS)) => qX0_countBinary (fun (u62 : (CS)) => qX0_noteGrowth (fun r69 (u69 : (CS)) => k13 r69 (y4 + (1 : Int32)) u69) y4 x2 u62) x2 zM u56) x2 zM u50) zM (sr (sr zZ 1 (va_cpy (zZ 0) (zZ 1) 0 0 64)) 0 u45)) 64 (0 : Int32) ((sr zZ 1 (va_cpy (zZ 0) (zZ 1) 0 0 64)) 0)))))
def qX0_take_13 (post : ((CS)) → Prop) (x2 : Int32) (zM : CS)  (n : Nat) : (Int32) → (Int32) → (CS) → Prop :=
  Nat.rec (motive := fun _ => (Int32) → (Int32) → (CS) → Prop) (fun _ _ _ => False) (fun _ k => qX0_take_13b post x2 zM k) n
def qX0_take (post : ((CS)) → Prop) (x2 : Int32) (zM : CS) (zZ : CS) : Prop :=
  qJ7_fill_53178 (fun (u5 : (Nat → Int32)) => ∃ n : Nat, qX0_take_13 post x2 zM n (1 : Int32) (0 : Int32) (sr zZ 0 u5)) 64 (0 : Int32) (zZ 0)
def qX1_forget (post : ((CS)) → Prop)  (zH : CS) : Prop :=
  post (st (st zH 0 0 (0 : Int32)) 0 1 (0 : Int32))
def qX2_copyFrom (post : ((CS)) → Prop)  (zB : CS) (zO : CS) : Prop :=
  post (sr (sr (sr (sr (sr (st (st zB 5 0 (zO 5 0)) 5 1 (zO 5 1)) 0 (va_cpy (zO 0) ((st (st zB 5 0 (zO 5 0)) 5 1 (zO 5 1)) 0) 0 0 16)) 1 (va_cpy (zO 1) ((sr (st (st zB 5 0 (zO 5 0)) 5 1 (zO 5 1)) 0 (va_cpy (zO 0) ((st (st zB 5 0 (zO 5 0)) 5 1 (zO 5 1)) 0) 0 0 16)) 1) 0 0 16)) 2 (va_cpy (zO 2) ((sr (sr (st (st zB 5 0 (zO 5 0)) 5 1 (zO 5 1)) 0 (va_cpy (zO 0) ((st (st zB 5 0 (zO 5 0)) 5 1 (zO 5 1)) 0) 0 0 16)) 1 (va_cpy (zO 1) ((sr (st (st zB 5 0 (zO 5 0)) 5 1 (zO 5 1)) 0 (va_cpy (zO 0) ((st (st zB 5 0 (zO 5 0)) 5 1 (zO 5 1)) 0) 0 0 16)) 1) 0 0 16)) 2) 0 0 16)) 3 (va_cpy (zO 3) ((sr (sr (sr (st (st zB 5 0 (zO 5 0)) 5 1 (zO 5 1)) 0 (va_cpy (zO 0) ((st (st zB 5 0 (zO 5 0)) 5 1 (zO 5 1)) 0) 0 0 16)) 1 (va_cpy (zO 1) ((sr (st (st zB 5 0 (zO 5 0)) 5 1 (zO 5 1)) 0 (va_cpy (zO 0) ((st (st zB 5 0 (zO 5 0)) 5 1 (zO 5 1)) 0) 0 0 16)) 1) 0 0 16)) 2 (va_cpy (zO 2) ((sr (sr (st (st zB 5 0 (zO 5 0)) 5 1 (zO 5 1)) 0 (va_cpy (zO 0) ((st (st zB 5 0 (zO 5 0)) 5 1 (zO 5 1)) 0) 0 0 16)) 1 (va_cpy (zO 1) ((sr (st (st zB 5 0 (zO 5 0)) 5 1 (zO 5 1)) 0 (va_cpy (zO 0) ((st (st zB 5 0 (zO 5 0)) 5 1 (zO 5 1)) 0) 0 0 16)) 1) 0 0 16)) 2) 0 0 16)) 3) 0 0 16)) 4 (va_cpy (zO 4) ((sr (sr (sr (sr (st (st zB 5 0 (zO 5 0)) 5 1 (zO 5 1)) 0 (va_cpy (zO 0) ((st (st zB 5 0 (zO 5 0)) 5 1 (zO 5 1)) 0) 0 0 16)) 1 (va_cpy (zO 1) ((sr (st (st zB 5 0 (zO 5 0)) 5 1 (zO 5 1)) 0 (va_cpy (zO 0) ((st (st zB 5 0 (zO 5 0)) 5 1 (zO 5 1)) 0) 0 0 16)) 1) 0 0 16)) 2 (va_cpy (zO 2) ((sr (sr (st (st zB 5 0 (zO 5 0)) 5 1 (zO 5 1)) 0 (va_cpy (zO 0) ((st (st zB 5 0 (zO 5 0)) 5 1 (zO 5 1)) 0) 0 0 16)) 1 (va_cpy (zO 1) ((sr (st (st zB 5 0 (zO 5 0)) 5 1 (zO 5 1)) 0 (va_cpy (zO 0) ((st (st zB 5 0 (zO 5 0)) 5 1 (zO 5 1)) 0) 0 0 16)) 1) 0 0 16)) 2) 0 0 16)) 3 (va_cpy (zO 3) ((sr (sr (sr (st (st zB 5 0 (zO 5 0)) 5 1 (zO 5 1)) 0 (va_cpy (zO 0) ((st (st zB 5 0 (zO 5 0)) 5 1 (zO 5 1)) 0) 0 0 16)) 1 (va_cpy (zO 1) ((sr (st (st zB 5 0 (zO 5 0)) 5 1 (zO 5 1)) 0 (va_cpy (zO 0) ((st (st zB 5 0 (zO 5 0)) 5 1 (zO 5 1)) 0) 0 0 16)) 1) 0 0 16)) 2 (va_cpy (zO 2) ((sr (sr (st (st zB 5 0 (zO 5 0)) 5 1 (zO 5 1)) 0 (va_cpy (zO 0) ((st (st zB 5 0 (zO 5 0)) 5 1 (zO 5 1)) 0) 0 0 16)) 1 (va_cpy (zO 1) ((sr (st (st zB 5 0 (zO 5 0)) 5 1 (zO 5 1)) 0 (va_cpy (zO 0) ((st (st zB 5 0 (zO 5 0)) 5 1 (zO 5 1)) 0) 0 0 16)) 1) 0 0 16)) 2) 0 0 16)) 3) 0 0 16)) 4) 0 0 16))
def qX1_keep_34 (post : ((CS) × (Nat → CS)) → Prop) (zB : CS)  (w1 : Int32) (zH : CS) (zR : Nat → CS) : Prop :=
  post (st (st zH 0 0 w1) 0 1 (if (5 : Int32) < (((st zH 0 0 w1) 0 1) + (1 : Int32)) then (5 : Int32) else (((st zH 0 0 w1) 0 1) + (1 : Int32))), zR)
def qX1_keep (post : ((CS) × (Nat → CS)) → Prop)  (zB : CS) (zH : CS) (zR : Nat → CS) : Prop :=
  vp_in (zH 0 0) 5 ∧ (qX2_copyFrom (fun (u10 : (CS)) => ((5 : Int32) ≤ ((zH 0 0) + (1 : Int32)) → (qX1_keep_34 post zB (0 : Int32) zH (sR zR (zH 0 0).toNatClampNeg u10))) ∧ (¬ (5 : Int32) ≤ ((zH 0 0) + (1 : Int32)) → (qX1_keep_34 post zB ((zH 0 0) + (1 : Int32)) zH (sR zR (zH 0 0).toNatClampNeg u10)))) (zR (zH 0 0).toNatClampNeg) zB)
def qX1_giveBack_25 (post : ((CS) × (CS)) → Prop) (zR : Nat → CS)  (w1 : Int32) (zB : CS) (zH : CS) : Prop :=
  vp_in ((st zH 0 0 w1) 0 0) 5 ∧ (qX2_copyFrom (fun (u38 : (CS)) => post (u38, st (st zH 0 0 w1) 0 1 (((st zH 0 0 w1) 0 1) - (1 : Int32)))) zB (zR ((st zH 0 0 w1) 0 0).toNatClampNeg))
def qX1_giveBack (post : ((CS) × (CS)) → Prop)  (zB : CS) (zH : CS) (zR : Nat → CS) : Prop :=
  ((zH 0 1) ≤ (0 : Int32) → (post (zB, zH))) ∧ (¬ (zH 0 1) ≤ (0 : Int32) → (((zH 0 0) ≤ (0 : Int32) → (qX1_giveBack_25 post zR (4 : Int32) zB zH)) ∧ (¬ (zH 0 0) ≤ (0 : Int32) → (qX1_giveBack_25 post zR ((zH 0 0) - (1 : Int32)) zB zH))))
def qX2_clear (post : ((CS)) → Prop)  (zB : CS) : Prop :=
  post (st (st zB 5 0 (0 : Int32)) 5 1 (0 : Int32))
def qX2_markFinal_26 (post : ((CS)) → Prop) (x1 : Int32) (x2 : Int32)  (w1 : Int32) (zB : CS) : Prop :=
  post (st zB 5 1 w1)
def qX2_markFinal (post : ((CS)) → Prop) (x1 : Int32) (x2 : Int32) (zB : CS) : Prop :=
  (x2 = (0 : Int32) → (qX2_markFinal_26 post x1 x2 ((zB 5 1) &&& (((1 : Int32) <<< (x1 &&& 31)) ^^^ (-1 : Int32))) zB)) ∧ (¬ x2 = (0 : Int32) → (qX2_markFinal_26 post x1 x2 ((zB 5 1) ||| ((1 : Int32) <<< (x1 &&& 31))) zB))
def qX2_append (post : ((CS)) → Prop) (x1 : Int32) (x2 : Int32) (x3 : Int32) (x4 : Int32) (x5 : Int32) (zB : CS) : Prop :=
  ((16 : Int32) ≤ (zB 5 0) → (post (zB))) ∧ (¬ (16 : Int32) ≤ (zB 5 0) → (vp_in (zB 5 0) 16 ∧ (vp_in ((st zB 0 (zB 5 0).toNatClampNeg x1) 5 0) 16 ∧ (vp_in ((st (st zB 0 (zB 5 0).toNatClampNeg x1) 1 ((st zB 0 (zB 5 0).toNatClampNeg x1) 5 0).toNatClampNeg x2) 5 0) 16 ∧ (vp_in ((st (st (st zB 0 (zB 5 0).toNatClampNeg x1) 1 ((st zB 0 (zB 5 0).toNatClampNeg x1) 5 0).toNatClampNeg x2) 2 ((st (st zB 0 (zB 5 0).toNatClampNeg x1) 1 ((st zB 0 (zB 5 0).toNatClampNeg x1) 5 0).toNatClampNeg x2) 5 0).toNatClampNeg x3) 5 0) 16 ∧ (vp_in ((st (st (st (st zB 0 (zB 5 0).toNatClampNeg x1) 1 ((st zB 0 (zB 5 0).toNatClampNeg x1) 5 0).toNatClampNeg x2) 2 ((st (st zB 0 (zB 5 0).toNatClampNeg x1) 1 ((st zB 0 (zB 5 0).toNatClampNeg x1) 5 0).toNatClampNeg x2) 5 0).toNatClampNeg x3) 3 ((st (st (st zB 0 (zB 5 0).toNatClampNeg x1) 1 ((st zB 0 (zB 5 0).toNatClampNeg x1) 5 0).toNatClampNeg x2) 2 ((st (st zB 0 (zB 5 0).toNatClampNeg x1) 1 ((st zB 0 (zB 5 0).toNatClampNeg x1) 5 0).toNatClampNeg x2) 5 0).toNatClampNeg x3) 5 0).toNatClampNeg x4) 5 0) 16 ∧ (post (st (st (st (st (st (st zB 0 (zB 5 0).toNatClampNeg x1) 1 ((st zB 0 (zB 5 0).toNatClampNeg x1) 5 0).toNatClampNeg x2) 2 ((st (st zB 0 (zB 5 0).toNatClampNeg x1) 1 ((st zB 0 (zB 5 0).toNatClampNeg x1) 5 0).toNatClampNeg x2) 5 0).toNatClampNeg x3) 3 ((st (st (st zB 0 (zB 5 0).toNatClampNeg x1) 1 ((st zB 0 (zB 5 0).toNatClampNeg x1) 5 0).toNatClampNeg x2) 2 ((st (st zB 0 (zB 5 0).toNatClampNeg x1) 1 ((st zB 0 (zB 5 0).toNatClampNeg x1) 5 0).toNatClampNeg x2) 5 0).toNatClampNeg x3) 5 0).toNatClampNeg x4) 4 ((st (st (st (st zB 0 (zB 5 0).toNatClampNeg x1) 1 ((st zB 0 (zB 5 0).toNatClampNeg x1) 5 0).toNatClampNeg x2) 2 ((st (st zB 0 (zB 5 0).toNatClampNeg x1) 1 ((st zB 0 (zB 5 0).toNatClampNeg x1) 5 0).toNatClampNeg x2) 5 0).toNatClampNeg x3) 3 ((st (st (st zB 0 (zB 5 0).toNatClampNeg x1) 1 ((st zB 0 (zB 5 0).toNatClampNeg x1) 5 0).toNatClampNeg x2) 2 ((st (st zB 0 (zB 5 0).toNatClampNeg x1) 1 ((st zB 0 (zB 5 0).toNatClampNeg x1) 5 0).toNatClampNeg x2) 5 0).toNatClampNeg x3) 5 0).toNatClampNeg x4) 5 0).toNatClampNeg x5) 5 0 (((st (st (st (st (st zB 0 (zB 5 0).toNatClampNeg x1) 1 ((st zB 0 (zB 5 0).toNatClampNeg x1) 5 0).toNatClampNeg x2) 2 ((st (st zB 0 (zB 5 0).toNatClampNeg x1) 1 ((st zB 0 (zB 5 0).toNatClampNeg x1) 5 0).toNatClampNeg x2) 5 0).toNatClampNeg x3) 3 ((st (st (st zB 0 (zB 5 0).toNatClampNeg x1) 1 ((st zB 0 (zB 5 0).toNatClampNeg x1) 5 0).toNatClampNeg x2) 2 ((st (st zB 0 (zB 5 0).toNatClampNeg x1) 1 ((st zB 0 (zB 5 0).toNatClampNeg x1) 5 0).toNatClampNeg x2) 5 0).toNatClampNeg x3) 5 0).toNatClampNeg x4) 4 ((st (st (st (st zB 0 (zB 5 0).toNatClampNeg x1) 1 ((st zB 0 (zB 5 0).toNatClampNeg x1) 5 0).toNatClampNeg x2) 2 ((st (st zB 0 (zB 5 0).toNatClampNeg x1) 1 ((st zB 0 (zB 5 0).toNatClampNeg x1) 5 0).toNatClampNeg x2) 5 0).toNatClampNeg x3) 3 ((st (st (st zB 0 (zB 5 0).toNatClampNeg x1) 1 ((st zB 0 (zB 5 0).toNatClampNeg x1) 5 0).toNatClampNeg x2) 2 ((st (st zB 0 (zB 5 0).toNatClampNeg x1) 1 ((st zB 0 (zB 5 0).toNatClampNeg x1) 5 0).toNatClampNeg x2) 5 0).toNatClampNeg x3) 5 0).toNatClampNeg x4) 5 0).toNatClampNeg x5) 5 0) + (1 : Int32))))))))))
def qX2_closeGap_2b (post : ((Nat → Int32)) → Prop) (x2 : Int32) (zB0 : CS)  (k2 : (Int32) → (Nat → Int32) → Prop) (y3 : Int32) (zF : Nat → Int32) : Prop :=
  ((zB0 5 0) ≤ y3 → (post (zF))) ∧ (¬ (zB0 5 0) ≤ y3 → (vp_in (y3 + (1 : Int32)) 16 ∧ (vp_in y3 16 ∧ (k2 (y3 + (1 : Int32)) (upd zF y3.toNatClampNeg (zF (y3 + (1 : Int32)).toNatClampNeg))))))
def qX2_closeGap_2 (post : ((Nat → Int32)) → Prop) (x2 : Int32) (zB0 : CS)  (n : Nat) : (Int32) → (Nat → Int32) → Prop :=
  Nat.rec (motive := fun _ => (Int32) → (Nat → Int32) → Prop) (fun _ _ => False) (fun _ k => qX2_closeGap_2b post x2 zB0 k) n
def qX2_closeGap (post : ((Nat → Int32)) → Prop) (x2 : Int32) (zB0 : CS) (zF : Nat → Int32) : Prop :=
  ∃ n : Nat, qX2_closeGap_2 post x2 zB0 n x2 zF
def qX2_delete (post : ((CS)) → Prop) (x1 : Int32) (zB : CS) : Prop :=
  ((zB 5 0) ≤ x1 → (post (zB))) ∧ (¬ (zB 5 0) ≤ x1 → (qX2_closeGap (fun (u24 : (Nat → Int32)) => qX2_closeGap (fun (u33 : (Nat → Int32)) => qX2_closeGap (fun (u42 : (Nat → Int32)) => qX2_closeGap (fun (u51 : (Nat → Int32)) => qX2_closeGap (fun (u60 : (Nat → Int32)) => post (sr (sr (sr (sr (sr (st zB 5 0 ((zB 5 0) - (1 : Int32))) 0 u24) 1 u33) 2 u42) 3 u51) 4 u60)) x1 (sr (sr (sr (sr (st zB 5 0 ((zB 5 0) - (1 : Int32))) 0 u24) 1 u33) 2 u42) 3 u51) ((sr (sr (sr (sr (st zB 5 0 ((zB 5 0) - (1 : Int32))) 0 u24) 1 u33) 2 u42) 3 u51) 4)) x1 (sr (sr (sr (st zB 5 0 ((zB 5 0) - (1 : Int32))) 0 u24) 1 u33) 2 u42) ((sr (sr (sr (st zB 5 0 ((zB 5 0) - (1 : Int32))) 0 u24) 1 u33) 2 u42) 3)) x1 (sr (sr (st zB 5 0 ((zB 5 0) - (1 : Int32))) 0 u24) 1 u33) ((sr (sr (st zB 5 0 ((zB 5 0) - (1 : Int32))) 0 u24) 1 u33) 2)) x1 (sr (st zB 5 0 ((zB 5 0) - (1 : Int32))) 0 u24) ((sr (st zB 5 0 ((zB 5 0) - (1 : Int32))) 0 u24) 1)) x1 (st zB 5 0 ((zB 5 0) - (1 : Int32))) ((st zB 5 0 ((zB 5 0) - (1 : Int32))) 0)))
def qX2_contains_54 (post : Int32 → (Unit) → Prop) (x1 : Int32) (x2 : Int32) (zB : CS)  (y3 : Int32) : Prop :=
  post (0 : Int32) ()
def qX2_contains_50 (post : Int32 → (Unit) → Prop) (x1 : Int32) (x2 : Int32) (zB : CS)  (y3 : Int32) : Prop :=
  post (1 : Int32) ()
def qX2_contains_35 (post : Int32 → (Unit) → Prop) (x1 : Int32) (x2 : Int32) (zB : CS)  (y3 : Int32) : Prop :=
  (y3 ≤ (1 : Int32) → (qX2_contains_54 post x1 x2 zB y3)) ∧ (¬ y3 ≤ (1 : Int32) → (vp_in x1 16 ∧ ((((zB 2) x1.toNatClampNeg) = x2 → (qX2_contains_50 post x1 x2 zB y3)) ∧ (¬ ((zB 2) x1.toNatClampNeg) = x2 → (qX2_contains_54 post x1 x2 zB y3)))))
def qX2_contains (post : Int32 → (Unit) → Prop) (x1 : Int32) (x2 : Int32) (zB : CS) : Prop :=
  vp_in x1 16 ∧ (vp_in ((zB 0) x1.toNatClampNeg) 5 ∧ (vp_in x1 16 ∧ ((((zB 4) x1.toNatClampNeg) = x2 → (qX2_contains_50 post x1 x2 zB (xar ((zB 0) x1.toNatClampNeg).toNatClampNeg))) ∧ (¬ ((zB 4) x1.toNatClampNeg) = x2 → (((xar ((zB 0) x1.toNatClampNeg).toNatClampNeg) ≤ (0 : Int32) → (qX2_contains_35 post x1 x2 zB (xar ((zB 0) x1.toNatClampNeg).toNatClampNeg))) ∧ (¬ (xar ((zB 0) x1.toNatClampNeg).toNatClampNeg) ≤ (0 : Int32) → (vp_in x1 16 ∧ ((((zB 1) x1.toNatClampNeg) = x2 → (qX2_contains_50 post x1 x2 zB (xar ((zB 0) x1.toNatClampNeg).toNatClampNeg))) ∧ (¬ ((zB 1) x1.toNatClampNeg) = x2 → (qX2_contains_35 post x1 x2 zB (xar ((zB 0) x1.toNatClampNeg).toNatClampNeg)))))))))))
def qX2_rulesWith_37 (post : Int32 → (Unit) → Prop) (x1 : Int32) (x2 : Int32) (zB : CS) (k5 : (Int32) → (Int32) → Prop) (y3 : Int32) (y4 : Int32) : Prop :=
  k5 y3 (y4 + (1 : Int32))
def qX2_rulesWith_34 (post : Int32 → (Unit) → Prop) (x1 : Int32) (x2 : Int32) (zB : CS) (k5 : (Int32) → (Int32) → Prop) (y3 : Int32) (y4 : Int32) : Prop :=
  qX2_rulesWith_37 post x1 x2 zB k5 (y3 + (1 : Int32)) y4
def qX2_rulesWith_5b (post : Int32 → (Unit) → Prop) (x1 : Int32) (x2 : Int32) (zB : CS)  (k5 : (Int32) → (Int32) → Prop) (y3 : Int32) (y4 : Int32) : Prop :=
  ((zB 5 0) ≤ y4 → (post y3 ())) ∧ (¬ (zB 5 0) ≤ y4 → (qX2_contains (fun r18 (u18 : Unit) => (r18 = (0 : Int32) → (qX2_contains (fun r28 (u28 : Unit) => (r28 = (0 : Int32) → (qX2_rulesWith_37 post x1 x2 zB k5 y3 y4)) ∧ (¬ r28 = (0 : Int32) → (qX2_rulesWith_34 post x1 x2 zB k5 y3 y4))) y4 x2 zB)) ∧ (¬ r18 = (0 : Int32) → (qX2_rulesWith_34 post x1 x2 zB k5 y3 y4))) y4 x1 zB))
def qX2_rulesWith_5 (post : Int32 → (Unit) → Prop) (x1 : Int32) (x2 : Int32) (zB : CS)  (n : Nat) : (Int32) → (Int32) → Prop :=
  Nat.rec (motive := fun _ => (Int32) → (Int32) → Prop) (fun _ _ => False) (fun _ k => qX2_rulesWith_5b post x1 x2 zB k) n
def qX2_rulesWith (post : Int32 → (Unit) → Prop) (x1 : Int32) (x2 : Int32) (zB : CS) : Prop :=
  ∃ n : Nat, qX2_rulesWith_5 post x1 x2 zB n (0 : Int32) (0 : Int32)
def qX2_swapped (post : Int32 → (Unit) → Prop) (x0 : Int32) (x1 : Int32) (x2 : Int32)  : Prop :=
  (x0 = x1 → (post x2 ())) ∧ (¬ x0 = x1 → ((x0 = x2 → (post x1 ())) ∧ (¬ x0 = x2 → (post x0 ()))))
def qX2_exchange_123 (post : ((CS)) → Prop) (x1 : Int32) (x2 : Int32)  (y3 : Int32) (w0 : Int32) (zB : CS) : Prop :=
  qX2_markFinal (fun (u129 : (CS)) => qX2_markFinal (fun (u135 : (CS)) => post (u135)) x2 y3 u129) x1 w0 zB
def qX2_exchange_106 (post : ((CS)) → Prop) (x1 : Int32) (x2 : Int32)  (y3 : Int32) (w0 : Int32) (zB : CS) : Prop :=
  ((((zB 5 1) >>> (x2 &&& 31)) &&& (1 : Int32)) = (0 : Int32) → (qX2_exchange_123 post x1 x2 w0 (0 : Int32) zB)) ∧ (¬ (((zB 5 1) >>> (x2 &&& 31)) &&& (1 : Int32)) = (0 : Int32) → (qX2_exchange_123 post x1 x2 w0 (1 : Int32) zB))
def qX2_exchange_84 (post : ((CS)) → Prop) (x1 : Int32) (x2 : Int32) (k2 : (Int32) → (CS) → Prop) (y3 : Int32) (y4 : Int32) (zB : CS) : Prop :=
  k2 (y3 + (1 : Int32)) zB
def qX2_exchange_61 (post : ((CS)) → Prop) (x1 : Int32) (x2 : Int32) (k2 : (Int32) → (CS) → Prop) (y3 : Int32) (y4 : Int32) (zB : CS) : Prop :=
  (y4 ≤ (1 : Int32) → (qX2_exchange_84 post x1 x2 k2 y3 y4 zB)) ∧ (¬ y4 ≤ (1 : Int32) → (vp_in y3 16 ∧ (qX2_swapped (fun r80 (u80 : Unit) => vp_in y3 16 ∧ (qX2_exchange_84 post x1 x2 k2 y3 y4 (st zB 2 y3.toNatClampNeg r80))) ((zB 2) y3.toNatClampNeg) x1 x2)))
def qX2_exchange_2b (post : ((CS)) → Prop) (x1 : Int32) (x2 : Int32)  (k2 : (Int32) → (CS) → Prop) (y3 : Int32) (zB : CS) : Prop :=
  ((zB 5 0) ≤ y3 → (((((zB 5 1) >>> (x1 &&& 31)) &&& (1 : Int32)) = (0 : Int32) → (qX2_exchange_106 post x1 x2 y3 (0 : Int32) zB)) ∧ (¬ (((zB 5 1) >>> (x1 &&& 31)) &&& (1 : Int32)) = (0 : Int32) → (qX2_exchange_106 post x1 x2 y3 (1 : Int32) zB)))) ∧ (¬ (zB 5 0) ≤ y3 → (vp_in y3 16 ∧ (vp_in ((zB 0) y3.toNatClampNeg) 5 ∧ (vp_in y3 16 ∧ (qX2_swapped (fun r35 (u35 : Unit) => vp_in y3 16 ∧ (((xar ((zB 0) y3.toNatClampNeg).toNatClampNeg) ≤ (0 : Int32) → (qX2_exchange_61 post x1 x2 k2 y3 (xar ((zB 0) y3.toNatClampNeg).toNatClampNeg) (st zB 4 y3.toNatClampNeg r35))) ∧ (¬ (xar ((zB 0) y3.toNatClampNeg).toNatClampNeg) ≤ (0 : Int32) → (vp_in y3 16 ∧ (qX2_swapped (fun r57 (u57 : Unit) => vp_in y3 16 ∧ (qX2_exchange_61 post x1 x2 k2 y3 (xar ((zB 0) y3.toNatClampNeg).toNatClampNeg) (st (st zB 4 y3.toNatClampNeg r35) 1 y3.toNatClampNeg r57))) (((st zB 4 y3.toNatClampNeg r35) 1) y3.toNatClampNeg) x1 x2))))) ((zB 4) y3.toNatClampNeg) x1 x2)))))
def qX2_exchange_2 (post : ((CS)) → Prop) (x1 : Int32) (x2 : Int32)  (n : Nat) : (Int32) → (CS) → Prop :=
  Nat.rec (motive := fun _ => (Int32) → (CS) → Prop) (fun _ _ => False) (fun _ k => qX2_exchange_2b post x1 x2 k) n
def qX2_exchange (post : ((CS)) → Prop) (x1 : Int32) (x2 : Int32) (zB : CS) : Prop :=
  ∃ n : Nat, qX2_exchange_2 post x1 x2 n (0 : Int32) zB
def qX3_enter_118 (post : ((CS)) → Prop) (x2 : Int32) (zB : CS)  (y3 : Int32) (y4 : Int32) (y5 : Int32) (zM : CS) : Prop :=
  vp_in x2 16 ∧ ((((zB 3) x2.toNatClampNeg) = (1 : Int32) → (post (zM))) ∧ (¬ ((zB 3) x2.toNatClampNeg) = (1 : Int32) → (post (st zM 4 1 ((zM 4 1) ||| y3)))))
def qX3_enter_79 (post : ((CS)) → Prop) (x2 : Int32) (zB : CS)  (y3 : Int32) (y4 : Int32) (y5 : Int32) (w1 : Int32) (zM : CS) : Prop :=
  vp_in w1 64 ∧ (vp_in w1 64 ∧ (vp_in x2 16 ∧ (vp_in x2 16 ∧ (vp_in x2 16 ∧ ((((zB 3) x2.toNatClampNeg) = (2 : Int32) → (qX3_enter_118 post x2 zB y3 y4 y5 (st (st zM 2 w1.toNatClampNeg (((zM 2) w1.toNatClampNeg) ||| y3)) 3 x2.toNatClampNeg ((1 : Int32) <<< (((zB 4) x2.toNatClampNeg) &&& 31))))) ∧ (¬ ((zB 3) x2.toNatClampNeg) = (2 : Int32) → (qX3_enter_118 post x2 zB y3 y4 y5 (st (st (st zM 2 w1.toNatClampNeg (((zM 2) w1.toNatClampNeg) ||| y3)) 3 x2.toNatClampNeg ((1 : Int32) <<< (((zB 4) x2.toNatClampNeg) &&& 31))) 4 0 (((st (st zM 2 w1.toNatClampNeg (((zM 2) w1.toNatClampNeg) ||| y3)) 3 x2.toNatClampNeg ((1 : Int32) <<< (((zB 4) x2.toNatClampNeg) &&& 31))) 4 0) ||| y3)))))))))
def qX3_enter_52 (post : ((CS)) → Prop) (x2 : Int32) (zB : CS)  (y3 : Int32) (y4 : Int32) (y5 : Int32) (w1 : Int32) (zM : CS) : Prop :=
  vp_in w1 64 ∧ (vp_in w1 64 ∧ ((y5 ≤ (1 : Int32) → (qX3_enter_79 post x2 zB y3 y4 y5 (0 : Int32) (st zM 1 w1.toNatClampNeg (((zM 1) w1.toNatClampNeg) ||| y3)))) ∧ (¬ y5 ≤ (1 : Int32) → (vp_in x2 16 ∧ (qX3_enter_79 post x2 zB y3 y4 y5 ((1 : Int32) <<< (((zB 2) x2.toNatClampNeg) &&& 31)) (st zM 1 w1.toNatClampNeg (((zM 1) w1.toNatClampNeg) ||| y3)))))))
def qX3_enter (post : ((CS)) → Prop) (x2 : Int32) (zB : CS) (zM : CS) : Prop :=
  vp_in x2 16 ∧ (vp_in ((zB 0) x2.toNatClampNeg) 5 ∧ (vp_in ((zB 0) x2.toNatClampNeg) 5 ∧ (vp_in ((zB 0) x2.toNatClampNeg) 5 ∧ (((xar ((zB 0) x2.toNatClampNeg).toNatClampNeg) ≤ (0 : Int32) → (qX3_enter_52 post x2 zB ((1 : Int32) <<< (x2 &&& 31)) ((zB 0) x2.toNatClampNeg) (xar ((zB 0) x2.toNatClampNeg).toNatClampNeg) (0 : Int32) (st zM 0 ((zB 0) x2.toNatClampNeg).toNatClampNeg (((zM 0) ((zB 0) x2.toNatClampNeg).toNatClampNeg) ||| ((1 : Int32) <<< (x2 &&& 31)))))) ∧ (¬ (xar ((zB 0) x2.toNatClampNeg).toNatClampNeg) ≤ (0 : Int32) → (vp_in x2 16 ∧ (qX3_enter_52 post x2 zB ((1 : Int32) <<< (x2 &&& 31)) ((zB 0) x2.toNatClampNeg) (xar ((zB 0) x2.toNatClampNeg).toNatClampNeg) ((1 : Int32) <<< (((zB 1) x2.toNatClampNeg) &&& 31)) (st zM 0 ((zB 0) x2.toNatClampNeg).toNatClampNeg (((zM 0) ((zB 0) x2.toNatClampNeg).toNatClampNeg) ||| ((1 : Int32) <<< (x2 &&& 31)))))))))))
def qX3_spread_2b (post : ((Nat → Int32)) → Prop)   (k2 : (Int32) → (Nat → Int32) → Prop) (y1 : Int32) (zF : Nat → Int32) : Prop :=
  ((64 : Int32) ≤ y1 → (post (zF))) ∧ (¬ (64 : Int32) ≤ y1 → (vp_in (y1 - (y1 &&& (-y1))) 64 ∧ (vp_in (y1 &&& (-y1)) 64 ∧ (vp_in y1 64 ∧ (k2 (y1 + (1 : Int32)) (upd zF y1.toNatClampNeg ((zF (y1 - (y1 &&& (-y1))).toNatClampNeg) ||| (zF (y1 &&& (-y1)).toNatClampNeg))))))))
def qX3_spread_2 (post : ((Nat → Int32)) → Prop)   (n : Nat) : (Int32) → (Nat → Int32) → Prop :=
  Nat.rec (motive := fun _ => (Int32) → (Nat → Int32) → Prop) (fun _ _ => False) (fun _ k => qX3_spread_2b post k) n
def qX3_spread (post : ((Nat → Int32)) → Prop)  (zF : Nat → Int32) : Prop :=
  ∃ n : Nat, qX3_spread_2 post n (1 : Int32) zF
def qX3_build_36b (post : ((CS)) → Prop) (zB : CS)  (k36 : (Int32) → (CS) → Prop) (y2 : Int32) (zM : CS) : Prop :=
  ((zB 5 0) ≤ y2 → (qX3_spread (fun (u60 : (Nat → Int32)) => qX3_spread (fun (u67 : (Nat → Int32)) => post (sr (sr zM 1 u60) 2 u67)) ((sr zM 1 u60) 2)) (zM 1))) ∧ (¬ (zB 5 0) ≤ y2 → (qX3_enter (fun (u47 : (CS)) => k36 (y2 + (1 : Int32)) u47) y2 zB zM))
def qX3_build_36 (post : ((CS)) → Prop) (zB : CS)  (n : Nat) : (Int32) → (CS) → Prop :=
  Nat.rec (motive := fun _ => (Int32) → (CS) → Prop) (fun _ _ => False) (fun _ k => qX3_build_36b post zB k) n
def qX3_build (post : ((CS)) → Prop)  (zB : CS) (zM : CS) : Prop :=
  qJ7_fill_53178 (fun (u5 : (Nat → Int32)) => qJ7_fill_53178 (fun (u13 : (Nat → Int32)) => qJ7_fill_53178 (fun (u21 : (Nat → Int32)) => ∃ n : Nat, qX3_build_36 post zB n (0 : Int32) (st (st (sr (sr (sr zM 0 u5) 1 u13) 2 u21) 4 0 (0 : Int32)) 4 1 (0 : Int32))) 64 (0 : Int32) ((sr (sr zM 0 u5) 1 u13) 2)) 64 (0 : Int32) ((sr zM 0 u5) 1)) 5 (0 : Int32) (zM 0)
def qX5_symbolAt (post : Int32 → (Unit) → Prop) (x1 : Int32) (zT : CS) : Prop :=
  vp_in x1 2278 ∧ (post ((((zT 0) x1.toNatClampNeg) >>> ((10 : Int32) &&& 31)) >>> ((10 : Int32) &&& 31)) ())
def qX5_arityAt (post : Int32 → (Unit) → Prop) (x1 : Int32) (zT : CS) : Prop :=
  qX5_symbolAt (fun r5 (u5 : Unit) => vp_in r5 5 ∧ (post (xar r5.toNatClampNeg) ())) x1 zT
def qX5_firstAt (post : Int32 → (Unit) → Prop) (x1 : Int32) (zT : CS) : Prop :=
  vp_in x1 2278 ∧ (post ((((zT 0) x1.toNatClampNeg) >>> ((10 : Int32) &&& 31)) &&& (1023 : Int32)) ())
def qX5_secondAt (post : Int32 → (Unit) → Prop) (x1 : Int32) (zT : CS) : Prop :=
  vp_in x1 2278 ∧ (post (((zT 0) x1.toNatClampNeg) &&& (1023 : Int32)) ())
def qX4_layOut_102 (post : Int32 → ((CS)) → Prop) (x2 : Int32) (zT : CS) (k12 : (Int32) → (Int32) → (CS) → Prop) (y3 : Int32) (y4 : Int32) (y5 : Int32) (zC : CS) : Prop :=
  k12 y3 (y4 + (1 : Int32)) zC
def qX4_layOut_70 (post : Int32 → ((CS)) → Prop) (x2 : Int32) (zT : CS) (k12 : (Int32) → (Int32) → (CS) → Prop) (y3 : Int32) (y4 : Int32) (y5 : Int32) (zC : CS) : Prop :=
  (y5 ≤ (1 : Int32) → (qX4_layOut_102 post x2 zT k12 y3 y4 y5 zC)) ∧ (¬ y5 ≤ (1 : Int32) → (((7 : Int32) ≤ y3 → (qX4_layOut_102 post x2 zT k12 y3 y4 y5 zC)) ∧ (¬ (7 : Int32) ≤ y3 → (vp_in y4 7 ∧ (qX5_secondAt (fun r95 (u95 : Unit) => vp_in y3 7 ∧ (qX4_layOut_102 post x2 zT k12 (y3 + (1 : Int32)) y4 y5 (st zC 0 y3.toNatClampNeg r95))) ((zC 0) y4.toNatClampNeg) zT)))))
def qX4_layOut_12b (post : Int32 → ((CS)) → Prop) (x2 : Int32) (zT : CS)  (k12 : (Int32) → (Int32) → (CS) → Prop) (y3 : Int32) (y4 : Int32) (zC : CS) : Prop :=
  (y3 ≤ y4 → (post y3 (zC))) ∧ (¬ y3 ≤ y4 → (vp_in y4 7 ∧ (qX5_arityAt (fun r26 (u26 : Unit) => vp_in y4 7 ∧ ((r26 ≤ (0 : Int32) → (qX4_layOut_70 post x2 zT k12 y3 y4 r26 (st zC 1 y4.toNatClampNeg y3))) ∧ (¬ r26 ≤ (0 : Int32) → (((7 : Int32) ≤ y3 → (qX4_layOut_70 post x2 zT k12 y3 y4 r26 (st zC 1 y4.toNatClampNeg y3))) ∧ (¬ (7 : Int32) ≤ y3 → (vp_in y4 7 ∧ (qX5_firstAt (fun r63 (u63 : Unit) => vp_in y3 7 ∧ (qX4_layOut_70 post x2 zT k12 (y3 + (1 : Int32)) y4 r26 (st (st zC 1 y4.toNatClampNeg y3) 0 y3.toNatClampNeg r63))) (((st zC 1 y4.toNatClampNeg y3) 0) y4.toNatClampNeg) zT))))))) ((zC 0) y4.toNatClampNeg) zT)))
def qX4_layOut_12 (post : Int32 → ((CS)) → Prop) (x2 : Int32) (zT : CS)  (n : Nat) : (Int32) → (Int32) → (CS) → Prop :=
  Nat.rec (motive := fun _ => (Int32) → (Int32) → (CS) → Prop) (fun _ _ _ => False) (fun _ k => qX4_layOut_12b post x2 zT k) n
def qX4_layOut (post : Int32 → ((CS)) → Prop) (x2 : Int32) (zT : CS) (zC : CS) : Prop :=
  vp_in (0 : Int32) 7 ∧ (∃ n : Nat, qX4_layOut_12 post x2 zT n (1 : Int32) (0 : Int32) (st zC 0 (0 : Int32).toNatClampNeg x2))
def qX4_waysBelow_75 (post : Int32 → (Unit) → Prop) (x2 : Int32) (x3 : Int32) (zB : CS) (zC : CS)  (y4 : Int32) (y5 : Int32) (y6 : Int32) : Prop :=
  post y6 ()
def qX4_waysBelow_47 (post : Int32 → (Unit) → Prop) (x2 : Int32) (x3 : Int32) (zB : CS) (zC : CS)  (y4 : Int32) (y5 : Int32) (y6 : Int32) : Prop :=
  (y4 ≤ (1 : Int32) → (qX4_waysBelow_75 post x2 x3 zB zC y4 y5 y6)) ∧ (¬ y4 ≤ (1 : Int32) → (vp_in x2 16 ∧ (vp_in ((y5 + (6 : Int32)) + ((zB 2) x2.toNatClampNeg)) 42 ∧ (qX4_waysBelow_75 post x2 x3 zB zC y4 y5 (y6 * ((zC 2) ((y5 + (6 : Int32)) + ((zB 2) x2.toNatClampNeg)).toNatClampNeg))))))
def qX4_waysBelow (post : Int32 → (Unit) → Prop) (x2 : Int32) (x3 : Int32) (zB : CS) (zC : CS) : Prop :=
  vp_in x2 16 ∧ (vp_in ((zB 0) x2.toNatClampNeg) 5 ∧ (vp_in x3 7 ∧ (((xar ((zB 0) x2.toNatClampNeg).toNatClampNeg) ≤ (0 : Int32) → (qX4_waysBelow_47 post x2 x3 zB zC (xar ((zB 0) x2.toNatClampNeg).toNatClampNeg) (((zC 1) x3.toNatClampNeg) * (6 : Int32)) (1 : Int32))) ∧ (¬ (xar ((zB 0) x2.toNatClampNeg).toNatClampNeg) ≤ (0 : Int32) → (vp_in x2 16 ∧ (vp_in ((((zC 1) x3.toNatClampNeg) * (6 : Int32)) + ((zB 1) x2.toNatClampNeg)) 42 ∧ (qX4_waysBelow_47 post x2 x3 zB zC (xar ((zB 0) x2.toNatClampNeg).toNatClampNeg) (((zC 1) x3.toNatClampNeg) * (6 : Int32)) ((zC 2) ((((zC 1) x3.toNatClampNeg) * (6 : Int32)) + ((zB 1) x2.toNatClampNeg)).toNatClampNeg))))))))
def qX4_countAt_102 (post : ((CS)) → Prop) (x3 : Int32) (zT : CS) (zB : CS) (k41 : (Int32) → (Int32) → (Int32) → (Int32) → (CS) → Prop) (y4 : Int32) (y5 : Int32) (y6 : Int32) (y7 : Int32) (zC : CS) : Prop :=
  k41 y4 y5 y6 (y7 + (1 : Int32)) zC
def qX4_countAt_41b (post : ((CS)) → Prop) (x3 : Int32) (zT : CS) (zB : CS)  (k41 : (Int32) → (Int32) → (Int32) → (Int32) → (CS) → Prop) (y4 : Int32) (y5 : Int32) (y6 : Int32) (y7 : Int32) (zC : CS) : Prop :=
  ((zB 5 0) ≤ y7 → (post (zC))) ∧ (¬ (zB 5 0) ≤ y7 → (vp_in y7 16 ∧ ((((zB 0) y7.toNatClampNeg) = y5 → (vp_in y7 16 ∧ ((((zB 3) y7.toNatClampNeg) = y6 → (qX4_countAt_102 post x3 zT zB k41 y4 y5 y6 y7 zC)) ∧ (¬ ((zB 3) y7.toNatClampNeg) = y6 → (vp_in y7 16 ∧ (vp_in ((x3 * (6 : Int32)) + ((zB 4) y7.toNatClampNeg)) 42 ∧ (qX4_waysBelow (fun r97 (u97 : Unit) => vp_in ((x3 * (6 : Int32)) + ((zB 4) y7.toNatClampNeg)) 42 ∧ (qX4_countAt_102 post x3 zT zB k41 y4 y5 y6 y7 (st zC 2 ((x3 * (6 : Int32)) + ((zB 4) y7.toNatClampNeg)).toNatClampNeg (((zC 2) ((x3 * (6 : Int32)) + ((zB 4) y7.toNatClampNeg)).toNatClampNeg) + r97)))) y7 x3 zB zC))))))) ∧ (¬ ((zB 0) y7.toNatClampNeg) = y5 → (qX4_countAt_102 post x3 zT zB k41 y4 y5 y6 y7 zC)))))
def qX4_countAt_41 (post : ((CS)) → Prop) (x3 : Int32) (zT : CS) (zB : CS)  (n : Nat) : (Int32) → (Int32) → (Int32) → (Int32) → (CS) → Prop :=
  Nat.rec (motive := fun _ => (Int32) → (Int32) → (Int32) → (Int32) → (CS) → Prop) (fun _ _ _ _ _ => False) (fun _ k => qX4_countAt_41b post x3 zT zB k) n
def qX4_countAt_36 (post : ((CS)) → Prop) (x3 : Int32) (zT : CS) (zB : CS)  (y4 : Int32) (y5 : Int32) (w0 : Int32) (zC : CS) : Prop :=
  ∃ n : Nat, qX4_countAt_41 post x3 zT zB n y4 y5 w0 (0 : Int32) zC
def qX4_countAt (post : ((CS)) → Prop) (x3 : Int32) (zT : CS) (zB : CS) (zC : CS) : Prop :=
  vp_in x3 7 ∧ (qX5_symbolAt (fun r11 (u11 : Unit) => qX5_firstAt (fun r19 (u19 : Unit) => qX5_secondAt (fun r25 (u25 : Unit) => (r19 = r25 → (qX4_countAt_36 post x3 zT zB ((zC 0) x3.toNatClampNeg) r11 (2 : Int32) zC)) ∧ (¬ r19 = r25 → (qX4_countAt_36 post x3 zT zB ((zC 0) x3.toNatClampNeg) r11 (1 : Int32) zC))) ((zC 0) x3.toNatClampNeg) zT) ((zC 0) x3.toNatClampNeg) zT) ((zC 0) x3.toNatClampNeg) zT)
def qX4_count_22b (post : Int32 → ((CS)) → Prop) (x3 : Int32) (x4 : Int32) (zT : CS) (zB : CS)  (k22 : (Int32) → (Int32) → (CS) → Prop) (y5 : Int32) (y6 : Int32) (zC : CS) : Prop :=
  (y6 < (0 : Int32) → (vp_in x4 42 ∧ (post ((zC 2) x4.toNatClampNeg) (zC)))) ∧ (¬ y6 < (0 : Int32) → (qX4_countAt (fun (u32 : (CS)) => k22 y5 (y6 + (-1 : Int32)) u32) y6 zT zB zC))
def qX4_count_22 (post : Int32 → ((CS)) → Prop) (x3 : Int32) (x4 : Int32) (zT : CS) (zB : CS)  (n : Nat) : (Int32) → (Int32) → (CS) → Prop :=
  Nat.rec (motive := fun _ => (Int32) → (Int32) → (CS) → Prop) (fun _ _ _ => False) (fun _ k => qX4_count_22b post x3 x4 zT zB k) n
def qX4_count (post : Int32 → ((CS)) → Prop) (x3 : Int32) (x4 : Int32) (zT : CS) (zB : CS) (zC : CS) : Prop :=
  qX4_layOut (fun r3 (u3 : (CS)) => qJ7_fill_53178 (fun (u13 : (Nat → Int32)) => ∃ n : Nat, qX4_count_22 post x3 x4 zT zB n r3 (r3 - (1 : Int32)) (sr u3 2 u13)) 42 (0 : Int32) (u3 2)) x3 zT zC
def qX5_content (post : Int32 → (Unit) → Prop) (x0 : Int32) (x1 : Int32) (x2 : Int32)  : Prop :=
  post ((((x0 <<< ((10 : Int32) &&& 31)) ||| x1) <<< ((10 : Int32) &&& 31)) ||| x2) ()
def qX5_make_62 (post : ((CS)) → Prop) (x1 : Int32) (x2 : Int32) (x3 : Int32)  (w1 : Int32) (w2 : Int32) (zT : CS) : Prop :=
  vp_in w1 2278 ∧ (post (st (st zT 1 w1.toNatClampNeg w2) 2 0 (((st zT 1 w1.toNatClampNeg w2) 2 0) + (1 : Int32))))
def qX5_make (post : ((CS)) → Prop) (x1 : Int32) (x2 : Int32) (x3 : Int32) (zT : CS) : Prop :=
  ((2278 : Int32) ≤ (zT 2 0) → (post (zT))) ∧ (¬ (2278 : Int32) ≤ (zT 2 0) → (qX5_content (fun r21 (u21 : Unit) => vp_in (zT 2 0) 2278 ∧ (vp_in x1 5 ∧ (((xar x1.toNatClampNeg) = (0 : Int32) → (qX5_make_62 post x1 x2 x3 ((st zT 0 (zT 2 0).toNatClampNeg r21) 2 0) (0 : Int32) (st zT 0 (zT 2 0).toNatClampNeg r21))) ∧ (¬ (xar x1.toNatClampNeg) = (0 : Int32) → (vp_in x2 2278 ∧ (vp_in x3 2278 ∧ (qX5_make_62 post x1 x2 x3 ((st zT 0 (zT 2 0).toNatClampNeg r21) 2 0) ((1 : Int32) + (if (((st zT 0 (zT 2 0).toNatClampNeg r21) 1) x2.toNatClampNeg) < (((st zT 0 (zT 2 0).toNatClampNeg r21) 1) x3.toNatClampNeg) then (((st zT 0 (zT 2 0).toNatClampNeg r21) 1) x3.toNatClampNeg) else (((st zT 0 (zT 2 0).toNatClampNeg r21) 1) x2.toNatClampNeg))) (st zT 0 (zT 2 0).toNatClampNeg r21)))))))) x1 x2 x3))
def qX5_makeUnary_8b (post : ((CS)) → Prop) (x1 : Int32)  (k8 : (Int32) → (CS) → Prop) (y2 : Int32) (zT : CS) : Prop :=
  vp_in x1 9 ∧ (((xst x1.toNatClampNeg) ≤ y2 → (post (zT))) ∧ (¬ (xst x1.toNatClampNeg) ≤ y2 → (qX5_make (fun (u21 : (CS)) => k8 (y2 + (1 : Int32)) u21) (2 : Int32) y2 (0 : Int32) zT)))
def qX5_makeUnary_8 (post : ((CS)) → Prop) (x1 : Int32)  (n : Nat) : (Int32) → (CS) → Prop :=
  Nat.rec (motive := fun _ => (Int32) → (CS) → Prop) (fun _ _ => False) (fun _ k => qX5_makeUnary_8b post x1 k) n
def qX5_makeUnary (post : ((CS)) → Prop) (x1 : Int32) (zT : CS) : Prop :=
  vp_in (x1 - (1 : Int32)) 9 ∧ (∃ n : Nat, qX5_makeUnary_8 post x1 n (xst (x1 - (1 : Int32)).toNatClampNeg) zT)
def qX6_sizeAt_25 (post : Int32 → (Unit) → Prop) (x0 : Int32)  (y1 : Int32) : Prop :=
  post y1 ()
def qX6_sizeAt_2b (post : Int32 → (Unit) → Prop) (x0 : Int32)  (k2 : (Int32) → Prop) (y1 : Int32) : Prop :=
  ((7 : Int32) ≤ y1 → (qX6_sizeAt_25 post x0 y1)) ∧ (¬ (7 : Int32) ≤ y1 → (vp_in (y1 + (1 : Int32)) 9 ∧ ((x0 < (xst (y1 + (1 : Int32)).toNatClampNeg) → (qX6_sizeAt_25 post x0 y1)) ∧ (¬ x0 < (xst (y1 + (1 : Int32)).toNatClampNeg) → (k2 (y1 + (1 : Int32)))))))
def qX6_sizeAt_2 (post : Int32 → (Unit) → Prop) (x0 : Int32)  (n : Nat) : (Int32) → Prop :=
  Nat.rec (motive := fun _ => (Int32) → Prop) (fun _ => False) (fun _ k => qX6_sizeAt_2b post x0 k) n
def qX6_sizeAt (post : Int32 → (Unit) → Prop) (x0 : Int32)  : Prop :=
  ∃ n : Nat, qX6_sizeAt_2 post x0 n (1 : Int32)
def qX5_makeBinary_31b (post : ((CS)) → Prop) (x1 : Int32) (x2 : Int32) (k2 : (Int32) → (CS) → Prop) (k31 : (Int32) → (Int32) → (Int32) → (CS) → Prop) (y3 : Int32) (y4 : Int32) (y5 : Int32) (zT : CS) : Prop :=
  vp_in (y4 + (1 : Int32)) 9 ∧ (((xst (y4 + (1 : Int32)).toNatClampNeg) ≤ y5 → (k2 (y3 + (1 : Int32)) zT)) ∧ (¬ (xst (y4 + (1 : Int32)).toNatClampNeg) ≤ y5 → (qX5_make (fun (u49 : (CS)) => k31 y3 y4 (y5 + (1 : Int32)) u49) x1 y3 y5 zT)))
def qX5_makeBinary_31 (post : ((CS)) → Prop) (x1 : Int32) (x2 : Int32) (k2 : (Int32) → (CS) → Prop) (n : Nat) : (Int32) → (Int32) → (Int32) → (CS) → Prop :=
  Nat.rec (motive := fun _ => (Int32) → (Int32) → (Int32) → (CS) → Prop) (fun _ _ _ _ => False) (fun _ k => qX5_makeBinary_31b post x1 x2 k2 k) n
def qX5_makeBinary_2b (post : ((CS)) → Prop) (x1 : Int32) (x2 : Int32)  (k2 : (Int32) → (CS) → Prop) (y3 : Int32) (zT : CS) : Prop :=
  vp_in (x2 - (1 : Int32)) 9 ∧ (((xst (x2 - (1 : Int32)).toNatClampNeg) ≤ y3 → (post (zT))) ∧ (¬ (xst (x2 - (1 : Int32)).toNatClampNeg) ≤ y3 → (qX6_sizeAt (fun r17 (u17 : Unit) => vp_in ((x2 - (1 : Int32)) - r17) 9 ∧ (∃ n : Nat, qX5_makeBinary_31 post x1 x2 k2 n y3 ((x2 - (1 : Int32)) - r17) (xst ((x2 - (1 : Int32)) - r17).toNatClampNeg) zT)) y3)))
def qX5_makeBinary_2 (post : ((CS)) → Prop) (x1 : Int32) (x2 : Int32)  (n : Nat) : (Int32) → (CS) → Prop :=
  Nat.rec (motive := fun _ => (Int32) → (CS) → Prop) (fun _ _ => False) (fun _ k => qX5_makeBinary_2b post x1 x2 k) n
def qX5_makeBinary (post : ((CS)) → Prop) (x1 : Int32) (x2 : Int32) (zT : CS) : Prop :=
  ∃ n : Nat, qX5_makeBinary_2 post x1 x2 n (0 : Int32) zT
def qX5_find_64b (post : Int32 → (Unit) → Prop) (x1 : Int32) (x2 : Int32) (x3 : Int32) (zT : CS)  (k64 : (Int32) → (Int32) → (Int32) → Prop) (y4 : Int32) (y5 : Int32) (y6 : Int32) : Prop :=
  vp_in (y4 + (1 : Int32)) 9 ∧ (((xst (y4 + (1 : Int32)).toNatClampNeg) ≤ y6 → (post (-2 : Int32) ())) ∧ (¬ (xst (y4 + (1 : Int32)).toNatClampNeg) ≤ y6 → (vp_in y6 2278 ∧ ((((zT 0) y6.toNatClampNeg) = y5 → (post y6 ())) ∧ (¬ ((zT 0) y6.toNatClampNeg) = y5 → (k64 y4 y5 (y6 + (1 : Int32))))))))
def qX5_find_64 (post : Int32 → (Unit) → Prop) (x1 : Int32) (x2 : Int32) (x3 : Int32) (zT : CS)  (n : Nat) : (Int32) → (Int32) → (Int32) → Prop :=
  Nat.rec (motive := fun _ => (Int32) → (Int32) → (Int32) → Prop) (fun _ _ _ => False) (fun _ k => qX5_find_64b post x1 x2 x3 zT k) n
def qX5_find_38 (post : Int32 → (Unit) → Prop) (x1 : Int32) (x2 : Int32) (x3 : Int32) (zT : CS)  (y4 : Int32) : Prop :=
  (y4 ≤ (7 : Int32) → (qX5_content (fun r51 (u51 : Unit) => vp_in y4 9 ∧ (∃ n : Nat, qX5_find_64 post x1 x2 x3 zT n y4 r51 (xst y4.toNatClampNeg))) x1 x2 x3)) ∧ (¬ y4 ≤ (7 : Int32) → (post (-2 : Int32) ()))
def qX5_find_20 (post : Int32 → (Unit) → Prop) (x1 : Int32) (x2 : Int32) (x3 : Int32) (zT : CS)  (y4 : Int32) : Prop :=
  vp_in x1 5 ∧ (((xar x1.toNatClampNeg) ≤ (1 : Int32) → (qX5_find_38 post x1 x2 x3 zT y4)) ∧ (¬ (xar x1.toNatClampNeg) ≤ (1 : Int32) → (qX6_sizeAt (fun r32 (u32 : Unit) => qX5_find_38 post x1 x2 x3 zT (y4 + r32)) x3)))
def qX5_find (post : Int32 → (Unit) → Prop) (x1 : Int32) (x2 : Int32) (x3 : Int32) (zT : CS) : Prop :=
  vp_in x1 5 ∧ (((xar x1.toNatClampNeg) ≤ (0 : Int32) → (qX5_find_20 post x1 x2 x3 zT (1 : Int32))) ∧ (¬ (xar x1.toNatClampNeg) ≤ (0 : Int32) → (qX6_sizeAt (fun r14 (u14 : Unit) => qX5_find_20 post x1 x2 x3 zT ((1 : Int32) + r14)) x2)))
def qX6_renewRuns (post : ((CS) × (CS)) → Prop)  (zS : CS) (zB : CS) (zM : CS) : Prop :=
  qX3_build (fun (u8 : (CS)) => post (st (st zS 1 0 (0 : Int32)) 1 1 (0 : Int32), u8)) zB zM
def qX6_reset_11 (post : Int32 → ((CS) × (CS) × (CS) × (CS)) → Prop) (x1 : Int32)  (zS : CS) (zB : CS) (zH : CS) (zM : CS) : Prop :=
  post (-1 : Int32) (zS, zB, zH, zM)
def qX6_reset (post : Int32 → ((CS) × (CS) × (CS) × (CS)) → Prop) (x1 : Int32) (zS : CS) (zB : CS) (zH : CS) (zM : CS) : Prop :=
  (x1 < (1 : Int32) → (qX6_reset_11 post x1 zS zB zH zM)) ∧ (¬ x1 < (1 : Int32) → ((x1 ≤ (6 : Int32) → (qX2_clear (fun (u27 : (CS)) => qX1_forget (fun (u34 : (CS)) => qX6_renewRuns (fun (u38 : (CS) × (CS)) => post (zS 1 2) (u38.1, u27, u34, u38.2)) (st zS 1 2 x1) u27 zM) zH) zB)) ∧ (¬ x1 ≤ (6 : Int32) → (qX6_reset_11 post x1 zS zB zH zM))))
def qX6_isState_16 (post : Int32 → (Unit) → Prop) (x1 : Int32) (zS : CS)   : Prop :=
  post (0 : Int32) ()
def qX6_isState (post : Int32 → (Unit) → Prop) (x1 : Int32) (zS : CS) : Prop :=
  (x1 < (0 : Int32) → (qX6_isState_16 post x1 zS )) ∧ (¬ x1 < (0 : Int32) → (((zS 1 2) ≤ x1 → (qX6_isState_16 post x1 zS )) ∧ (¬ (zS 1 2) ≤ x1 → (post (1 : Int32) ()))))
def qJ6_bitCount_0f7a4 (post : Int32 → (Unit) → Prop) (x0 : Int32)  : Prop :=
  post ((((((((x0 - (((x0.toUInt32 >>> ((1 : Int32).toUInt32 &&& Int32.toUInt32 31)).toInt32) &&& (1431655765 : Int32))) &&& (858993459 : Int32)) + ((((x0 - (((x0.toUInt32 >>> ((1 : Int32).toUInt32 &&& Int32.toUInt32 31)).toInt32) &&& (1431655765 : Int32))).toUInt32 >>> ((2 : Int32).toUInt32 &&& Int32.toUInt32 31)).toInt32) &&& (858993459 : Int32))) + (((((x0 - (((x0.toUInt32 >>> ((1 : Int32).toUInt32 &&& Int32.toUInt32 31)).toInt32) &&& (1431655765 : Int32))) &&& (858993459 : Int32)) + ((((x0 - (((x0.toUInt32 >>> ((1 : Int32).toUInt32 &&& Int32.toUInt32 31)).toInt32) &&& (1431655765 : Int32))).toUInt32 >>> ((2 : Int32).toUInt32 &&& Int32.toUInt32 31)).toInt32) &&& (858993459 : Int32))).toUInt32 >>> ((4 : Int32).toUInt32 &&& Int32.toUInt32 31)).toInt32)) &&& (252645135 : Int32)) + (((((((x0 - (((x0.toUInt32 >>> ((1 : Int32).toUInt32 &&& Int32.toUInt32 31)).toInt32) &&& (1431655765 : Int32))) &&& (858993459 : Int32)) + ((((x0 - (((x0.toUInt32 >>> ((1 : Int32).toUInt32 &&& Int32.toUInt32 31)).toInt32) &&& (1431655765 : Int32))).toUInt32 >>> ((2 : Int32).toUInt32 &&& Int32.toUInt32 31)).toInt32) &&& (858993459 : Int32))) + (((((x0 - (((x0.toUInt32 >>> ((1 : Int32).toUInt32 &&& Int32.toUInt32 31)).toInt32) &&& (1431655765 : Int32))) &&& (858993459 : Int32)) + ((((x0 - (((x0.toUInt32 >>> ((1 : Int32).toUInt32 &&& Int32.toUInt32 31)).toInt32) &&& (1431655765 : Int32))).toUInt32 >>> ((2 : Int32).toUInt32 &&& Int32.toUInt32 31)).toInt32) &&& (858993459 : Int32))).toUInt32 >>> ((4 : Int32).toUInt32 &&& Int32.toUInt32 31)).toInt32)) &&& (252645135 : Int32)).toUInt32 >>> ((8 : Int32).toUInt32 &&& Int32.toUInt32 31)).toInt32)) + ((((((((x0 - (((x0.toUInt32 >>> ((1 : Int32).toUInt32 &&& Int32.toUInt32 31)).toInt32) &&& (1431655765 : Int32))) &&& (858993459 : Int32)) + ((((x0 - (((x0.toUInt32 >>> ((1 : Int32).toUInt32 &&& Int32.toUInt32 31)).toInt32) &&& (1431655765 : Int32))).toUInt32 >>> ((2 : Int32).toUInt32 &&& Int32.toUInt32 31)).toInt32) &&& (858993459 : Int32))) + (((((x0 - (((x0.toUInt32 >>> ((1 : Int32).toUInt32 &&& Int32.toUInt32 31)).toInt32) &&& (1431655765 : Int32))) &&& (858993459 : Int32)) + ((((x0 - (((x0.toUInt32 >>> ((1 : Int32).toUInt32 &&& Int32.toUInt32 31)).toInt32) &&& (1431655765 : Int32))).toUInt32 >>> ((2 : Int32).toUInt32 &&& Int32.toUInt32 31)).toInt32) &&& (858993459 : Int32))).toUInt32 >>> ((4 : Int32).toUInt32 &&& Int32.toUInt32 31)).toInt32)) &&& (252645135 : Int32)) + (((((((x0 - (((x0.toUInt32 >>> ((1 : Int32).toUInt32 &&& Int32.toUInt32 31)).toInt32) &&& (1431655765 : Int32))) &&& (858993459 : Int32)) + ((((x0 - (((x0.toUInt32 >>> ((1 : Int32).toUInt32 &&& Int32.toUInt32 31)).toInt32) &&& (1431655765 : Int32))).toUInt32 >>> ((2 : Int32).toUInt32 &&& Int32.toUInt32 31)).toInt32) &&& (858993459 : Int32))) + (((((x0 - (((x0.toUInt32 >>> ((1 : Int32).toUInt32 &&& Int32.toUInt32 31)).toInt32) &&& (1431655765 : Int32))) &&& (858993459 : Int32)) + ((((x0 - (((x0.toUInt32 >>> ((1 : Int32).toUInt32 &&& Int32.toUInt32 31)).toInt32) &&& (1431655765 : Int32))).toUInt32 >>> ((2 : Int32).toUInt32 &&& Int32.toUInt32 31)).toInt32) &&& (858993459 : Int32))).toUInt32 >>> ((4 : Int32).toUInt32 &&& Int32.toUInt32 31)).toInt32)) &&& (252645135 : Int32)).toUInt32 >>> ((8 : Int32).toUInt32 &&& Int32.toUInt32 31)).toInt32)).toUInt32 >>> ((16 : Int32).toUInt32 &&& Int32.toUInt32 31)).toInt32)) &&& (63 : Int32)) ()
def qX6_setFinal (post : Int32 → ((CS) × (CS) × (Nat → CS)) → Prop) (x1 : Int32) (x2 : Int32) (zS : CS) (zB : CS) (zH : CS) (zR : Nat → CS) : Prop :=
  qX6_isState (fun r2 (u2 : Unit) => (r2 = (0 : Int32) → (post (-1 : Int32) (zB, zH, zR))) ∧ (¬ r2 = (0 : Int32) → (qX1_keep (fun (u18 : (CS) × (Nat → CS)) => qX2_markFinal (fun (u27 : (CS)) => qJ6_bitCount_0f7a4 (fun r37 (u37 : Unit) => post r37 (u27, u18.1, u18.2)) (u27 5 1)) x1 x2 zB) zB zH zR))) x1 zS
def qX6_isSymbol_13 (post : Int32 → (Unit) → Prop) (x0 : Int32)   : Prop :=
  post (0 : Int32) ()
def qX6_isSymbol (post : Int32 → (Unit) → Prop) (x0 : Int32)  : Prop :=
  (x0 < (0 : Int32) → (qX6_isSymbol_13 post x0 )) ∧ (¬ x0 < (0 : Int32) → (((5 : Int32) ≤ x0 → (qX6_isSymbol_13 post x0 )) ∧ (¬ (5 : Int32) ≤ x0 → (post (1 : Int32) ()))))
def qX6_isChildState (post : Int32 → (Unit) → Prop) (x1 : Int32) (x2 : Int32) (zS : CS) : Prop :=
  (x2 = (0 : Int32) → ((x1 = (0 : Int32) → (post (1 : Int32) ())) ∧ (¬ x1 = (0 : Int32) → (post (0 : Int32) ())))) ∧ (¬ x2 = (0 : Int32) → (qX6_isState (fun r6 (u6 : Unit) => narrow .boolean (.int r6) = .int r6 ∧ post r6 ()) x1 zS))
def qX6_isConstraint_17 (post : Int32 → (Unit) → Prop) (x0 : Int32) (x1 : Int32)   : Prop :=
  post (0 : Int32) ()
def qX6_isConstraint (post : Int32 → (Unit) → Prop) (x0 : Int32) (x1 : Int32)  : Prop :=
  (x1 = (0 : Int32) → ((x0 = (0 : Int32) → (post (1 : Int32) ())) ∧ (¬ x0 = (0 : Int32) → (post (0 : Int32) ())))) ∧ (¬ x1 = (0 : Int32) → ((x0 < (0 : Int32) → (qX6_isConstraint_17 post x0 x1 )) ∧ (¬ x0 < (0 : Int32) → (((2 : Int32) < x0 → (qX6_isConstraint_17 post x0 x1 )) ∧ (¬ (2 : Int32) < x0 → (post (1 : Int32) ()))))))
def qX6_addRule_81 (post : Int32 → ((CS) × (CS) × (CS) × (Nat → CS) × (CS)) → Prop) (x1 : Int32) (x2 : Int32) (x3 : Int32) (x4 : Int32) (x5 : Int32)  (zS : CS) (zB : CS) (zH : CS) (zR : Nat → CS) (zM : CS) : Prop :=
  post (-1 : Int32) (zS, zB, zH, zR, zM)
def qX6_addRule_75 (post : Int32 → ((CS) × (CS) × (CS) × (Nat → CS) × (CS)) → Prop) (x1 : Int32) (x2 : Int32) (x3 : Int32) (x4 : Int32) (x5 : Int32)  (w0 : Int32) (w1 : Int32) (zS : CS) (zB : CS) (zH : CS) (zR : Nat → CS) (zM : CS) : Prop :=
  qX6_isConstraint (fun r75 (u75 : Unit) => (r75 = (0 : Int32) → (qX6_addRule_81 post x1 x2 x3 x4 x5 zS zB zH zR zM)) ∧ (¬ r75 = (0 : Int32) → (((zB 5 0) < (16 : Int32) → (qX1_keep (fun (u106 : (CS) × (Nat → CS)) => qX2_append (fun (u120 : (CS)) => qX6_renewRuns (fun (u124 : (CS) × (CS)) => post ((u120 5 0) - (1 : Int32)) (u124.1, u120, u106.1, u106.2, u124.2)) zS u120 zM) x1 x2 x3 x4 x5 zB) zB zH zR)) ∧ (¬ (zB 5 0) < (16 : Int32) → (post (-2 : Int32) (zS, zB, zH, zR, zM)))))) w0 w1
def qX6_addRule_53 (post : Int32 → ((CS) × (CS) × (CS) × (Nat → CS) × (CS)) → Prop) (x1 : Int32) (x2 : Int32) (x3 : Int32) (x4 : Int32) (x5 : Int32)  (w1 : Int32) (w2 : Int32) (zS : CS) (zB : CS) (zH : CS) (zR : Nat → CS) (zM : CS) : Prop :=
  qX6_isChildState (fun r53 (u53 : Unit) => (r53 = (0 : Int32) → (qX6_addRule_81 post x1 x2 x3 x4 x5 zS zB zH zR zM)) ∧ (¬ r53 = (0 : Int32) → (vp_in x1 5 ∧ (((xar x1.toNatClampNeg) ≤ (1 : Int32) → (qX6_addRule_75 post x1 x2 x3 x4 x5 x4 (0 : Int32) zS zB zH zR zM)) ∧ (¬ (xar x1.toNatClampNeg) ≤ (1 : Int32) → (qX6_addRule_75 post x1 x2 x3 x4 x5 x4 (1 : Int32) zS zB zH zR zM)))))) w1 w2 zS
def qX6_addRule_31 (post : Int32 → ((CS) × (CS) × (CS) × (Nat → CS) × (CS)) → Prop) (x1 : Int32) (x2 : Int32) (x3 : Int32) (x4 : Int32) (x5 : Int32)  (w1 : Int32) (w2 : Int32) (zS : CS) (zB : CS) (zH : CS) (zR : Nat → CS) (zM : CS) : Prop :=
  qX6_isChildState (fun r31 (u31 : Unit) => (r31 = (0 : Int32) → (qX6_addRule_81 post x1 x2 x3 x4 x5 zS zB zH zR zM)) ∧ (¬ r31 = (0 : Int32) → (vp_in x1 5 ∧ (((xar x1.toNatClampNeg) ≤ (1 : Int32) → (qX6_addRule_53 post x1 x2 x3 x4 x5 x3 (0 : Int32) zS zB zH zR zM)) ∧ (¬ (xar x1.toNatClampNeg) ≤ (1 : Int32) → (qX6_addRule_53 post x1 x2 x3 x4 x5 x3 (1 : Int32) zS zB zH zR zM)))))) w1 w2 zS
def qX6_addRule (post : Int32 → ((CS) × (CS) × (CS) × (Nat → CS) × (CS)) → Prop) (x1 : Int32) (x2 : Int32) (x3 : Int32) (x4 : Int32) (x5 : Int32) (zS : CS) (zB : CS) (zH : CS) (zR : Nat → CS) (zM : CS) : Prop :=
  qX6_isSymbol (fun r1 (u1 : Unit) => (r1 = (0 : Int32) → (qX6_addRule_81 post x1 x2 x3 x4 x5 zS zB zH zR zM)) ∧ (¬ r1 = (0 : Int32) → (qX6_isState (fun r10 (u10 : Unit) => (r10 = (0 : Int32) → (qX6_addRule_81 post x1 x2 x3 x4 x5 zS zB zH zR zM)) ∧ (¬ r10 = (0 : Int32) → (vp_in x1 5 ∧ (((xar x1.toNatClampNeg) ≤ (0 : Int32) → (qX6_addRule_31 post x1 x2 x3 x4 x5 x2 (0 : Int32) zS zB zH zR zM)) ∧ (¬ (xar x1.toNatClampNeg) ≤ (0 : Int32) → (qX6_addRule_31 post x1 x2 x3 x4 x5 x2 (1 : Int32) zS zB zH zR zM)))))) x5 zS))) x1
def qX6_removeRule_15 (post : Int32 → ((CS) × (CS) × (CS) × (Nat → CS) × (CS)) → Prop) (x1 : Int32)  (zS : CS) (zB : CS) (zH : CS) (zR : Nat → CS) (zM : CS) : Prop :=
  post (-1 : Int32) (zS, zB, zH, zR, zM)
def qX6_removeRule (post : Int32 → ((CS) × (CS) × (CS) × (Nat → CS) × (CS)) → Prop) (x1 : Int32) (zS : CS) (zB : CS) (zH : CS) (zR : Nat → CS) (zM : CS) : Prop :=
  (x1 < (0 : Int32) → (qX6_removeRule_15 post x1 zS zB zH zR zM)) ∧ (¬ x1 < (0 : Int32) → ((x1 < (zB 5 0) → (qX1_keep (fun (u25 : (CS) × (Nat → CS)) => qX2_delete (fun (u33 : (CS)) => qX6_renewRuns (fun (u37 : (CS) × (CS)) => post (u33 5 0) (u37.1, u33, u25.1, u25.2, u37.2)) zS u33 zM) x1 zB) zB zH zR)) ∧ (¬ x1 < (zB 5 0) → (qX6_removeRule_15 post x1 zS zB zH zR zM))))
def qX6_swapStates_16 (post : Int32 → ((CS) × (CS) × (CS) × (Nat → CS) × (CS)) → Prop) (x1 : Int32) (x2 : Int32)  (zS : CS) (zB : CS) (zH : CS) (zR : Nat → CS) (zM : CS) : Prop :=
  post (-1 : Int32) (zS, zB, zH, zR, zM)
def qX6_swapStates (post : Int32 → ((CS) × (CS) × (CS) × (Nat → CS) × (CS)) → Prop) (x1 : Int32) (x2 : Int32) (zS : CS) (zB : CS) (zH : CS) (zR : Nat → CS) (zM : CS) : Prop :=
  qX6_isState (fun r2 (u2 : Unit) => (r2 = (0 : Int32) → (qX6_swapStates_16 post x1 x2 zS zB zH zR zM)) ∧ (¬ r2 = (0 : Int32) → (qX6_isState (fun r10 (u10 : Unit) => (r10 = (0 : Int32) → (qX6_swapStates_16 post x1 x2 zS zB zH zR zM)) ∧ (¬ r10 = (0 : Int32) → (qX1_keep (fun (u26 : (CS) × (Nat → CS)) => qX2_rulesWith (fun r35 (u35 : Unit) => qX2_exchange (fun (u45 : (CS)) => qX6_renewRuns (fun (u49 : (CS) × (CS)) => post r35 (u49.1, u45, u26.1, u26.2, u49.2)) zS u45 zM) x1 x2 zB) x1 x2 zB) zB zH zR))) x2 zS))) x1 zS
def qX6_ruleCount (post : Int32 → (Unit) → Prop)  (zS : CS) (zB : CS) : Prop :=
  post (zB 5 0) ()
def qX6_finalStates (post : Int32 → (Unit) → Prop)  (zS : CS) (zB : CS) : Prop :=
  post (zB 5 1) ()
def qX6_isSize_15 (post : Int32 → (Unit) → Prop) (x0 : Int32)   : Prop :=
  post (0 : Int32) ()
def qX6_isSize (post : Int32 → (Unit) → Prop) (x0 : Int32)  : Prop :=
  (x0 < (1 : Int32) → (qX6_isSize_15 post x0 )) ∧ (¬ x0 < (1 : Int32) → (((7 : Int32) < x0 → (qX6_isSize_15 post x0 )) ∧ (¬ (7 : Int32) < x0 → (post (1 : Int32) ()))))
def qX6_treeCount (post : Int32 → (Unit) → Prop) (x1 : Int32)  : Prop :=
  qX6_isSize (fun r1 (u1 : Unit) => (r1 = (0 : Int32) → (post (-1 : Int32) ())) ∧ (¬ r1 = (0 : Int32) → (vp_in (x1 + (1 : Int32)) 9 ∧ (vp_in x1 9 ∧ (post ((xst (x1 + (1 : Int32)).toNatClampNeg) - (xst x1.toNatClampNeg)) ()))))) x1
def qX6_isTree_15 (post : Int32 → (Unit) → Prop) (x0 : Int32)   : Prop :=
  post (0 : Int32) ()
def qX6_isTree (post : Int32 → (Unit) → Prop) (x0 : Int32)  : Prop :=
  (x0 < (0 : Int32) → (qX6_isTree_15 post x0 )) ∧ (¬ x0 < (0 : Int32) → (((2278 : Int32) ≤ x0 → (qX6_isTree_15 post x0 )) ∧ (¬ (2278 : Int32) ≤ x0 → (post (1 : Int32) ()))))
def qX6_isChildTree (post : Int32 → (Unit) → Prop) (x0 : Int32) (x1 : Int32)  : Prop :=
  (x1 = (0 : Int32) → ((x0 = (0 : Int32) → (post (1 : Int32) ())) ∧ (¬ x0 = (0 : Int32) → (post (0 : Int32) ())))) ∧ (¬ x1 = (0 : Int32) → (qX6_isTree (fun r5 (u5 : Unit) => narrow .boolean (.int r5) = .int r5 ∧ post r5 ()) x0))
def qX6_treeOf_48 (post : Int32 → (Unit) → Prop) (x1 : Int32) (x2 : Int32) (x3 : Int32) (zS : CS) (zT : CS)   : Prop :=
  post (-1 : Int32) ()
def qX6_treeOf_42 (post : Int32 → (Unit) → Prop) (x1 : Int32) (x2 : Int32) (x3 : Int32) (zS : CS) (zT : CS)  (w0 : Int32) (w1 : Int32) : Prop :=
  qX6_isChildTree (fun r42 (u42 : Unit) => (r42 = (0 : Int32) → (qX6_treeOf_48 post x1 x2 x3 zS zT )) ∧ (¬ r42 = (0 : Int32) → (qX5_find (fun r57 (u57 : Unit) => post r57 ()) x1 x2 x3 zT))) w0 w1
def qX6_treeOf_21 (post : Int32 → (Unit) → Prop) (x1 : Int32) (x2 : Int32) (x3 : Int32) (zS : CS) (zT : CS)  (w0 : Int32) (w1 : Int32) : Prop :=
  qX6_isChildTree (fun r21 (u21 : Unit) => (r21 = (0 : Int32) → (qX6_treeOf_48 post x1 x2 x3 zS zT )) ∧ (¬ r21 = (0 : Int32) → (vp_in x1 5 ∧ (((xar x1.toNatClampNeg) ≤ (1 : Int32) → (qX6_treeOf_42 post x1 x2 x3 zS zT x3 (0 : Int32))) ∧ (¬ (xar x1.toNatClampNeg) ≤ (1 : Int32) → (qX6_treeOf_42 post x1 x2 x3 zS zT x3 (1 : Int32))))))) w0 w1
def qX6_treeOf (post : Int32 → (Unit) → Prop) (x1 : Int32) (x2 : Int32) (x3 : Int32) (zS : CS) (zT : CS) : Prop :=
  qX6_isSymbol (fun r1 (u1 : Unit) => (r1 = (0 : Int32) → (qX6_treeOf_48 post x1 x2 x3 zS zT )) ∧ (¬ r1 = (0 : Int32) → (vp_in x1 5 ∧ (((xar x1.toNatClampNeg) ≤ (0 : Int32) → (qX6_treeOf_21 post x1 x2 x3 zS zT x2 (0 : Int32))) ∧ (¬ (xar x1.toNatClampNeg) ≤ (0 : Int32) → (qX6_treeOf_21 post x1 x2 x3 zS zT x2 (1 : Int32))))))) x1
def qX6_symbolOf (post : Int32 → (Unit) → Prop) (x1 : Int32) (zS : CS) (zT : CS) : Prop :=
  qX6_isTree (fun r1 (u1 : Unit) => (r1 = (0 : Int32) → (post (-1 : Int32) ())) ∧ (¬ r1 = (0 : Int32) → (qX5_symbolAt (fun r14 (u14 : Unit) => post r14 ()) x1 zT))) x1
def qX6_childOf_16 (post : Int32 → (Unit) → Prop) (x1 : Int32) (x2 : Int32) (zS : CS) (zT : CS)   : Prop :=
  post (-1 : Int32) ()
def qX6_childOf (post : Int32 → (Unit) → Prop) (x1 : Int32) (x2 : Int32) (zS : CS) (zT : CS) : Prop :=
  qX6_isTree (fun r1 (u1 : Unit) => (r1 = (0 : Int32) → (qX6_childOf_16 post x1 x2 zS zT )) ∧ (¬ r1 = (0 : Int32) → ((x2 < (0 : Int32) → (qX6_childOf_16 post x1 x2 zS zT )) ∧ (¬ x2 < (0 : Int32) → ((x2 ≤ (1 : Int32) → (qX5_arityAt (fun r24 (u24 : Unit) => (x2 < r24 → ((x2 = (0 : Int32) → (qX5_firstAt (fun r42 (u42 : Unit) => post r42 ()) x1 zT)) ∧ (¬ x2 = (0 : Int32) → (qX5_secondAt (fun r53 (u53 : Unit) => post r53 ()) x1 zT)))) ∧ (¬ x2 < r24 → (post (-3 : Int32) ()))) x1 zT)) ∧ (¬ x2 ≤ (1 : Int32) → (qX6_childOf_16 post x1 x2 zS zT ))))))) x1
def qX6_sizeOf (post : Int32 → (Unit) → Prop) (x1 : Int32)  : Prop :=
  qX6_isTree (fun r1 (u1 : Unit) => (r1 = (0 : Int32) → (post (-1 : Int32) ())) ∧ (¬ r1 = (0 : Int32) → (qX6_sizeAt (fun r10 (u10 : Unit) => post r10 ()) x1))) x1
def qX6_heightOf (post : Int32 → (Unit) → Prop) (x1 : Int32) (zS : CS) (zT : CS) : Prop :=
  qX6_isTree (fun r1 (u1 : Unit) => (r1 = (0 : Int32) → (post (-1 : Int32) ())) ∧ (¬ r1 = (0 : Int32) → (vp_in x1 2278 ∧ (post ((zT 1) x1.toNatClampNeg) ())))) x1
def qX6_subsetAt_77 (post : Int32 → ((CS)) → Prop) (x1 : Int32) (zT : CS) (zM : CS) (k0 : (CS) → Prop) (y2 : Int32) (y3 : Int32) (w1 : Int32) (w3 : Int32) (w4 : Int32) (w5 : Int32) (w6 : Int32) (zS : CS) : Prop :=
  qX3_step (fun r77 (u77 : Unit) => vp_in w1 2278 ∧ (k0 (st (st zS 0 w1.toNatClampNeg r77) 1 0 (((st zS 0 w1.toNatClampNeg r77) 1 0) + (1 : Int32))))) w3 w4 w5 w6 zM
def qX6_subsetAt_0b (post : Int32 → ((CS)) → Prop) (x1 : Int32) (zT : CS) (zM : CS)  (k0 : (CS) → Prop) (zS : CS) : Prop :=
  (x1 < (zS 1 0) → (vp_in x1 2278 ∧ (post ((zS 0) x1.toNatClampNeg) (zS)))) ∧ (¬ x1 < (zS 1 0) → (qX5_firstAt (fun r16 (u16 : Unit) => qX5_secondAt (fun r28 (u28 : Unit) => qX5_symbolAt (fun r52 (u52 : Unit) => vp_in r16 2278 ∧ (vp_in r28 2278 ∧ ((r16 = r28 → (qX6_subsetAt_77 post x1 zT zM k0 r16 r28 (zS 1 0) r52 ((zS 0) r16.toNatClampNeg) ((zS 0) r28.toNatClampNeg) (1 : Int32) zS)) ∧ (¬ r16 = r28 → (qX6_subsetAt_77 post x1 zT zM k0 r16 r28 (zS 1 0) r52 ((zS 0) r16.toNatClampNeg) ((zS 0) r28.toNatClampNeg) (0 : Int32) zS))))) (zS 1 0) zT) (zS 1 0) zT) (zS 1 0) zT))
def qX6_subsetAt_0 (post : Int32 → ((CS)) → Prop) (x1 : Int32) (zT : CS) (zM : CS)  (n : Nat) : (CS) → Prop :=
  Nat.rec (motive := fun _ => (CS) → Prop) (fun _ => False) (fun _ k => qX6_subsetAt_0b post x1 zT zM k) n
def qX6_subsetAt (post : Int32 → ((CS)) → Prop) (x1 : Int32) (zS : CS) (zT : CS) (zM : CS) : Prop :=
  ∃ n : Nat, qX6_subsetAt_0 post x1 zT zM n zS
def qX6_subsetOf (post : Int32 → ((CS)) → Prop) (x1 : Int32) (zS : CS) (zT : CS) (zM : CS) : Prop :=
  qX6_isTree (fun r1 (u1 : Unit) => (r1 = (0 : Int32) → (post (-1 : Int32) (zS))) ∧ (¬ r1 = (0 : Int32) → (qX6_subsetAt (fun r11 (u11 : (CS)) => post r11 (u11)) x1 zS zT zM))) x1
def qX6_isAccepted (post : Int32 → ((CS)) → Prop) (x1 : Int32) (zS : CS) (zT : CS) (zB : CS) (zM : CS) : Prop :=
  qX6_subsetAt (fun r2 (u2 : (CS)) => ((r2 &&& (zB 5 1)) = (0 : Int32) → (post (0 : Int32) (u2))) ∧ (¬ (r2 &&& (zB 5 1)) = (0 : Int32) → (post (1 : Int32) (u2)))) x1 zS zT zM
def qX6_accepts (post : Int32 → ((CS)) → Prop) (x1 : Int32) (zS : CS) (zT : CS) (zB : CS) (zM : CS) : Prop :=
  qX6_isTree (fun r1 (u1 : Unit) => (r1 = (0 : Int32) → (post (-1 : Int32) (zS))) ∧ (¬ r1 = (0 : Int32) → (qX6_isAccepted (fun r11 (u11 : (CS)) => (r11 = (0 : Int32) → (post (0 : Int32) (u11))) ∧ (¬ r11 = (0 : Int32) → (post (1 : Int32) (u11)))) x1 zS zT zB zM))) x1
def qX6_runCount_15 (post : Int32 → ((CS)) → Prop) (x1 : Int32) (x2 : Int32) (zS : CS) (zT : CS) (zB : CS)  (zC : CS) : Prop :=
  post (-1 : Int32) (zC)
def qX6_runCount (post : Int32 → ((CS)) → Prop) (x1 : Int32) (x2 : Int32) (zS : CS) (zT : CS) (zB : CS) (zC : CS) : Prop :=
  qX6_isTree (fun r1 (u1 : Unit) => (r1 = (0 : Int32) → (qX6_runCount_15 post x1 x2 zS zT zB zC)) ∧ (¬ r1 = (0 : Int32) → (qX6_isState (fun r9 (u9 : Unit) => (r9 = (0 : Int32) → (qX6_runCount_15 post x1 x2 zS zT zB zC)) ∧ (¬ r9 = (0 : Int32) → (qX4_count (fun r31 (u31 : (CS)) => post r31 (u31)) x1 x2 zT zB zC))) x2 zS))) x1
def qX6_acceptedCount_39 (post : Int32 → ((CS)) → Prop) (x1 : Int32) (zT : CS) (zB : CS) (zM : CS) (k17 : (Int32) → (Int32) → (CS) → Prop) (y2 : Int32) (y3 : Int32) (zS : CS) : Prop :=
  k17 y2 (y3 + (1 : Int32)) zS
def qX6_acceptedCount_17b (post : Int32 → ((CS)) → Prop) (x1 : Int32) (zT : CS) (zB : CS) (zM : CS)  (k17 : (Int32) → (Int32) → (CS) → Prop) (y2 : Int32) (y3 : Int32) (zS : CS) : Prop :=
  vp_in (x1 + (1 : Int32)) 9 ∧ (((xst (x1 + (1 : Int32)).toNatClampNeg) ≤ y3 → (post y2 (zS))) ∧ (¬ (xst (x1 + (1 : Int32)).toNatClampNeg) ≤ y3 → (qX6_isAccepted (fun r30 (u30 : (CS)) => (r30 = (0 : Int32) → (qX6_acceptedCount_39 post x1 zT zB zM k17 y2 y3 u30)) ∧ (¬ r30 = (0 : Int32) → (qX6_acceptedCount_39 post x1 zT zB zM k17 (y2 + (1 : Int32)) y3 u30))) y3 zS zT zB zM)))
def qX6_acceptedCount_17 (post : Int32 → ((CS)) → Prop) (x1 : Int32) (zT : CS) (zB : CS) (zM : CS)  (n : Nat) : (Int32) → (Int32) → (CS) → Prop :=
  Nat.rec (motive := fun _ => (Int32) → (Int32) → (CS) → Prop) (fun _ _ _ => False) (fun _ k => qX6_acceptedCount_17b post x1 zT zB zM k) n
def qX6_acceptedCount (post : Int32 → ((CS)) → Prop) (x1 : Int32) (zS : CS) (zT : CS) (zB : CS) (zM : CS) : Prop :=
  qX6_isSize (fun r1 (u1 : Unit) => (r1 = (0 : Int32) → (post (-1 : Int32) (zS))) ∧ (¬ r1 = (0 : Int32) → (vp_in x1 9 ∧ (∃ n : Nat, qX6_acceptedCount_17 post x1 zT zB zM n (0 : Int32) (xst x1.toNatClampNeg) zS)))) x1
def qX6_acceptedTree_54 (post : Int32 → ((CS)) → Prop) (x1 : Int32) (x2 : Int32) (zT : CS) (zB : CS) (zM : CS) (k22 : (Int32) → (Int32) → (CS) → Prop) (y3 : Int32) (y4 : Int32) (zS : CS) : Prop :=
  k22 y3 (y4 + (1 : Int32)) zS
def qX6_acceptedTree_22b (post : Int32 → ((CS)) → Prop) (x1 : Int32) (x2 : Int32) (zT : CS) (zB : CS) (zM : CS)  (k22 : (Int32) → (Int32) → (CS) → Prop) (y3 : Int32) (y4 : Int32) (zS : CS) : Prop :=
  vp_in (x1 + (1 : Int32)) 9 ∧ (((xst (x1 + (1 : Int32)).toNatClampNeg) ≤ y4 → (post (-3 : Int32) (zS))) ∧ (¬ (xst (x1 + (1 : Int32)).toNatClampNeg) ≤ y4 → (qX6_isAccepted (fun r37 (u37 : (CS)) => (r37 = (0 : Int32) → (qX6_acceptedTree_54 post x1 x2 zT zB zM k22 y3 y4 u37)) ∧ (¬ r37 = (0 : Int32) → ((y3 = x2 → (post y4 (u37))) ∧ (¬ y3 = x2 → (qX6_acceptedTree_54 post x1 x2 zT zB zM k22 (y3 + (1 : Int32)) y4 u37))))) y4 zS zT zB zM)))
def qX6_acceptedTree_22 (post : Int32 → ((CS)) → Prop) (x1 : Int32) (x2 : Int32) (zT : CS) (zB : CS) (zM : CS)  (n : Nat) : (Int32) → (Int32) → (CS) → Prop :=
  Nat.rec (motive := fun _ => (Int32) → (Int32) → (CS) → Prop) (fun _ _ _ => False) (fun _ k => qX6_acceptedTree_22b post x1 x2 zT zB zM k) n
def qX6_acceptedTree_11 (post : Int32 → ((CS)) → Prop) (x1 : Int32) (x2 : Int32) (zT : CS) (zB : CS) (zM : CS)  (zS : CS) : Prop :=
  post (-1 : Int32) (zS)
def qX6_acceptedTree (post : Int32 → ((CS)) → Prop) (x1 : Int32) (x2 : Int32) (zS : CS) (zT : CS) (zB : CS) (zM : CS) : Prop :=
  qX6_isSize (fun r1 (u1 : Unit) => (r1 = (0 : Int32) → (qX6_acceptedTree_11 post x1 x2 zT zB zM zS)) ∧ (¬ r1 = (0 : Int32) → (((0 : Int32) ≤ x2 → (vp_in x1 9 ∧ (∃ n : Nat, qX6_acceptedTree_22 post x1 x2 zT zB zM n (0 : Int32) (xst x1.toNatClampNeg) zS))) ∧ (¬ (0 : Int32) ≤ x2 → (qX6_acceptedTree_11 post x1 x2 zT zB zM zS))))) x1
def qX6_setCount (post : Int32 → (Unit) → Prop)  (zS : CS) : Prop :=
  post ((1 : Int32) <<< ((zS 1 2) &&& 31)) ()
def qX6_renewCensus (post : ((CS) × (CS)) → Prop)  (zS : CS) (zM : CS) (zZ : CS) : Prop :=
  ((zS 1 1) = (0 : Int32) → (qX6_setCount (fun r16 (u16 : Unit) => qX0_take (fun (u19 : (CS)) => post (st zS 1 1 (1 : Int32), u19)) r16 zM zZ) zS)) ∧ (¬ (zS 1 1) = (0 : Int32) → (post (zS, zZ)))
def qX6_treesOfSet_12 (post : Int32 → ((CS) × (CS)) → Prop) (x1 : Int32) (zM : CS)  (zS : CS) (zZ : CS) : Prop :=
  post (-1 : Int32) (zS, zZ)
def qX6_treesOfSet (post : Int32 → ((CS) × (CS)) → Prop) (x1 : Int32) (zS : CS) (zM : CS) (zZ : CS) : Prop :=
  (x1 < (0 : Int32) → (qX6_treesOfSet_12 post x1 zM zS zZ)) ∧ (¬ x1 < (0 : Int32) → (qX6_setCount (fun r6 (u6 : Unit) => (x1 < r6 → (qX6_renewCensus (fun (u15 : (CS) × (CS)) => vp_in x1 64 ∧ (post ((u15.2 0) x1.toNatClampNeg) (u15.1, u15.2))) zS zM zZ)) ∧ (¬ x1 < r6 → (qX6_treesOfSet_12 post x1 zM zS zZ))) zS))
def qX6_reachedSets_30 (post : Int32 → ((CS) × (CS)) → Prop) (zM : CS) (k8 : (Int32) → (Int32) → (CS) → (CS) → Prop) (y1 : Int32) (y2 : Int32) (zS : CS) (zZ : CS) : Prop :=
  k8 y1 (y2 + (1 : Int32)) zS zZ
def qX6_reachedSets_8b (post : Int32 → ((CS) × (CS)) → Prop) (zM : CS)  (k8 : (Int32) → (Int32) → (CS) → (CS) → Prop) (y1 : Int32) (y2 : Int32) (zS : CS) (zZ : CS) : Prop :=
  qX6_setCount (fun r10 (u10 : Unit) => (r10 ≤ y2 → (post y1 (zS, zZ))) ∧ (¬ r10 ≤ y2 → (qX0_isReached (fun r21 (u21 : Unit) => (r21 = (0 : Int32) → (qX6_reachedSets_30 post zM k8 y1 y2 zS zZ)) ∧ (¬ r21 = (0 : Int32) → (qX6_reachedSets_30 post zM k8 (y1 + (1 : Int32)) y2 zS zZ))) y2 zZ))) zS
def qX6_reachedSets_8 (post : Int32 → ((CS) × (CS)) → Prop) (zM : CS)  (n : Nat) : (Int32) → (Int32) → (CS) → (CS) → Prop :=
  Nat.rec (motive := fun _ => (Int32) → (Int32) → (CS) → (CS) → Prop) (fun _ _ _ _ => False) (fun _ k => qX6_reachedSets_8b post zM k) n
def qX6_reachedSets (post : Int32 → ((CS) × (CS)) → Prop)  (zS : CS) (zM : CS) (zZ : CS) : Prop :=
  qX6_renewCensus (fun (u1 : (CS) × (CS)) => ∃ n : Nat, qX6_reachedSets_8 post zM n (0 : Int32) (0 : Int32) u1.1 u1.2) zS zM zZ
def qX6_meetsReachedSet_29 (post : Int32 → (Unit) → Prop) (x1 : Int32) (zS : CS) (zZ : CS) (k2 : (Int32) → Prop) (y2 : Int32) : Prop :=
  k2 (y2 + (1 : Int32))
def qX6_meetsReachedSet_2b (post : Int32 → (Unit) → Prop) (x1 : Int32) (zS : CS) (zZ : CS)  (k2 : (Int32) → Prop) (y2 : Int32) : Prop :=
  qX6_setCount (fun r4 (u4 : Unit) => (r4 ≤ y2 → (post (0 : Int32) ())) ∧ (¬ r4 ≤ y2 → (qX0_isReached (fun r15 (u15 : Unit) => (r15 = (0 : Int32) → (qX6_meetsReachedSet_29 post x1 zS zZ k2 y2)) ∧ (¬ r15 = (0 : Int32) → (((y2 &&& x1) = (0 : Int32) → (qX6_meetsReachedSet_29 post x1 zS zZ k2 y2)) ∧ (¬ (y2 &&& x1) = (0 : Int32) → (post (1 : Int32) ()))))) y2 zZ))) zS
def qX6_meetsReachedSet_2 (post : Int32 → (Unit) → Prop) (x1 : Int32) (zS : CS) (zZ : CS)  (n : Nat) : (Int32) → Prop :=
  Nat.rec (motive := fun _ => (Int32) → Prop) (fun _ => False) (fun _ k => qX6_meetsReachedSet_2b post x1 zS zZ k) n
def qX6_meetsReachedSet (post : Int32 → (Unit) → Prop) (x1 : Int32) (zS : CS) (zZ : CS) : Prop :=
  ∃ n : Nat, qX6_meetsReachedSet_2 post x1 zS zZ n (0 : Int32)
def qX6_isReachable (post : Int32 → ((CS) × (CS)) → Prop) (x1 : Int32) (zS : CS) (zM : CS) (zZ : CS) : Prop :=
  qX6_isState (fun r2 (u2 : Unit) => (r2 = (0 : Int32) → (post (-1 : Int32) (zS, zZ))) ∧ (¬ r2 = (0 : Int32) → (qX6_renewCensus (fun (u11 : (CS) × (CS)) => qX6_meetsReachedSet (fun r18 (u18 : Unit) => (r18 = (0 : Int32) → (post (0 : Int32) (u11.1, u11.2))) ∧ (¬ r18 = (0 : Int32) → (post (1 : Int32) (u11.1, u11.2)))) ((1 : Int32) <<< (x1 &&& 31)) u11.1 u11.2) zS zM zZ))) x1 zS
def qX6_isEmpty (post : Int32 → ((CS) × (CS)) → Prop)  (zS : CS) (zB : CS) (zM : CS) (zZ : CS) : Prop :=
  qX6_renewCensus (fun (u1 : (CS) × (CS)) => qX6_meetsReachedSet (fun r12 (u12 : Unit) => (r12 = (0 : Int32) → (post (1 : Int32) (u1.1, u1.2))) ∧ (¬ r12 = (0 : Int32) → (post (0 : Int32) (u1.1, u1.2)))) (zB 5 1) u1.1 u1.2) zS zM zZ
def qX6_isUniversal_39 (post : Int32 → ((CS) × (CS)) → Prop) (zB : CS) (zM : CS) (k6 : (Int32) → (CS) → (CS) → Prop) (y1 : Int32) (zS : CS) (zZ : CS) : Prop :=
  k6 (y1 + (1 : Int32)) zS zZ
def qX6_isUniversal_6b (post : Int32 → ((CS) × (CS)) → Prop) (zB : CS) (zM : CS)  (k6 : (Int32) → (CS) → (CS) → Prop) (y1 : Int32) (zS : CS) (zZ : CS) : Prop :=
  qX6_setCount (fun r8 (u8 : Unit) => (r8 ≤ y1 → (post (1 : Int32) (zS, zZ))) ∧ (¬ r8 ≤ y1 → (qX0_isReached (fun r19 (u19 : Unit) => (r19 = (0 : Int32) → (qX6_isUniversal_39 post zB zM k6 y1 zS zZ)) ∧ (¬ r19 = (0 : Int32) → (((y1 &&& (zB 5 1)) = (0 : Int32) → (post (0 : Int32) (zS, zZ))) ∧ (¬ (y1 &&& (zB 5 1)) = (0 : Int32) → (qX6_isUniversal_39 post zB zM k6 y1 zS zZ))))) y1 zZ))) zS
def qX6_isUniversal_6 (post : Int32 → ((CS) × (CS)) → Prop) (zB : CS) (zM : CS)  (n : Nat) : (Int32) → (CS) → (CS) → Prop :=
  Nat.rec (motive := fun _ => (Int32) → (CS) → (CS) → Prop) (fun _ _ _ => False) (fun _ k => qX6_isUniversal_6b post zB zM k) n
def qX6_isUniversal (post : Int32 → ((CS) × (CS)) → Prop)  (zS : CS) (zB : CS) (zM : CS) (zZ : CS) : Prop :=
  qX6_renewCensus (fun (u1 : (CS) × (CS)) => ∃ n : Nat, qX6_isUniversal_6 post zB zM n (0 : Int32) u1.1 u1.2) zS zM zZ
def qX6_isComplete (post : Int32 → ((CS) × (CS)) → Prop)  (zS : CS) (zM : CS) (zZ : CS) : Prop :=
  qX6_renewCensus (fun (u1 : (CS) × (CS)) => qX0_isReached (fun r9 (u9 : Unit) => (r9 = (0 : Int32) → (post (1 : Int32) (u1.1, u1.2))) ∧ (¬ r9 = (0 : Int32) → (post (0 : Int32) (u1.1, u1.2)))) (0 : Int32) u1.2) zS zM zZ
def qX6_isDeterministic_35 (post : Int32 → ((CS) × (CS)) → Prop) (zM : CS) (k6 : (Int32) → (CS) → (CS) → Prop) (y1 : Int32) (zS : CS) (zZ : CS) : Prop :=
  k6 (y1 + (1 : Int32)) zS zZ
def qX6_isDeterministic_6b (post : Int32 → ((CS) × (CS)) → Prop) (zM : CS)  (k6 : (Int32) → (CS) → (CS) → Prop) (y1 : Int32) (zS : CS) (zZ : CS) : Prop :=
  qX6_setCount (fun r8 (u8 : Unit) => (r8 ≤ y1 → (post (1 : Int32) (zS, zZ))) ∧ (¬ r8 ≤ y1 → (qX0_isReached (fun r19 (u19 : Unit) => (r19 = (0 : Int32) → (qX6_isDeterministic_35 post zM k6 y1 zS zZ)) ∧ (¬ r19 = (0 : Int32) → (qJ6_bitCount_0f7a4 (fun r26 (u26 : Unit) => (r26 ≤ (1 : Int32) → (qX6_isDeterministic_35 post zM k6 y1 zS zZ)) ∧ (¬ r26 ≤ (1 : Int32) → (post (0 : Int32) (zS, zZ)))) y1))) y1 zZ))) zS
def qX6_isDeterministic_6 (post : Int32 → ((CS) × (CS)) → Prop) (zM : CS)  (n : Nat) : (Int32) → (CS) → (CS) → Prop :=
  Nat.rec (motive := fun _ => (Int32) → (CS) → (CS) → Prop) (fun _ _ _ => False) (fun _ k => qX6_isDeterministic_6b post zM k) n
def qX6_isDeterministic (post : Int32 → ((CS) × (CS)) → Prop)  (zS : CS) (zM : CS) (zZ : CS) : Prop :=
  qX6_renewCensus (fun (u1 : (CS) × (CS)) => ∃ n : Nat, qX6_isDeterministic_6 post zM n (0 : Int32) u1.1 u1.2) zS zM zZ
def qX6_leastHeight_69 (post : Int32 → ((CS) × (CS)) → Prop) (zB : CS) (zM : CS) (k9 : (Int32) → (Int32) → (CS) → (CS) → Prop) (y1 : Int32) (y2 : Int32) (zS : CS) (zZ : CS) : Prop :=
  k9 y1 (y2 + (1 : Int32)) zS zZ
def qX6_leastHeight_59 (post : Int32 → ((CS) × (CS)) → Prop) (zB : CS) (zM : CS) (k9 : (Int32) → (Int32) → (CS) → (CS) → Prop) (y1 : Int32) (y2 : Int32) (zS : CS) (zZ : CS) : Prop :=
  vp_in y2 64 ∧ (qX6_leastHeight_69 post zB zM k9 ((zZ 2) y2.toNatClampNeg) y2 zS zZ)
def qX6_leastHeight_9b (post : Int32 → ((CS) × (CS)) → Prop) (zB : CS) (zM : CS)  (k9 : (Int32) → (Int32) → (CS) → (CS) → Prop) (y1 : Int32) (y2 : Int32) (zS : CS) (zZ : CS) : Prop :=
  qX6_setCount (fun r11 (u11 : Unit) => (r11 ≤ y2 → (post y1 (zS, zZ))) ∧ (¬ r11 ≤ y2 → (qX0_isReached (fun r22 (u22 : Unit) => (r22 = (0 : Int32) → (qX6_leastHeight_69 post zB zM k9 y1 y2 zS zZ)) ∧ (¬ r22 = (0 : Int32) → (((y2 &&& (zB 5 1)) = (0 : Int32) → (qX6_leastHeight_69 post zB zM k9 y1 y2 zS zZ)) ∧ (¬ (y2 &&& (zB 5 1)) = (0 : Int32) → ((y1 = (-3 : Int32) → (qX6_leastHeight_59 post zB zM k9 y1 y2 zS zZ)) ∧ (¬ y1 = (-3 : Int32) → (vp_in y2 64 ∧ ((y1 ≤ ((zZ 2) y2.toNatClampNeg) → (qX6_leastHeight_69 post zB zM k9 y1 y2 zS zZ)) ∧ (¬ y1 ≤ ((zZ 2) y2.toNatClampNeg) → (qX6_leastHeight_59 post zB zM k9 y1 y2 zS zZ)))))))))) y2 zZ))) zS
def qX6_leastHeight_9 (post : Int32 → ((CS) × (CS)) → Prop) (zB : CS) (zM : CS)  (n : Nat) : (Int32) → (Int32) → (CS) → (CS) → Prop :=
  Nat.rec (motive := fun _ => (Int32) → (Int32) → (CS) → (CS) → Prop) (fun _ _ _ _ => False) (fun _ k => qX6_leastHeight_9b post zB zM k) n
def qX6_leastHeight (post : Int32 → ((CS) × (CS)) → Prop)  (zS : CS) (zB : CS) (zM : CS) (zZ : CS) : Prop :=
  qX6_renewCensus (fun (u1 : (CS) × (CS)) => ∃ n : Nat, qX6_leastHeight_9 post zB zM n (-3 : Int32) (0 : Int32) u1.1 u1.2) zS zM zZ
def qX6_undo (post : Int32 → ((CS) × (CS) × (CS) × (CS)) → Prop)  (zS : CS) (zB : CS) (zH : CS) (zR : Nat → CS) (zM : CS) : Prop :=
  ((zH 0 1) = (0 : Int32) → (post (-3 : Int32) (zS, zB, zH, zM))) ∧ (¬ (zH 0 1) = (0 : Int32) → (qX1_giveBack (fun (u21 : (CS) × (CS)) => qX6_renewRuns (fun (u25 : (CS) × (CS)) => post (u21.2 0 1) (u25.1, u21.1, u21.2, u25.2)) zS u21.1 zM) zB zH zR))
def qX7_lays (post : ((CS)) → Prop) (x1 : Int32) (x2 : Int32) (x3 : Int32) (x4 : Int32) (x5 : Int32) (zN : CS) : Prop :=
  vp_in (zN 11 0) 2278 ∧ (vp_in ((st zN 0 (zN 11 0).toNatClampNeg x1) 11 0) 2278 ∧ (vp_in ((st (st zN 0 (zN 11 0).toNatClampNeg x1) 1 ((st zN 0 (zN 11 0).toNatClampNeg x1) 11 0).toNatClampNeg x2) 11 0) 2278 ∧ (vp_in ((st (st (st zN 0 (zN 11 0).toNatClampNeg x1) 1 ((st zN 0 (zN 11 0).toNatClampNeg x1) 11 0).toNatClampNeg x2) 2 ((st (st zN 0 (zN 11 0).toNatClampNeg x1) 1 ((st zN 0 (zN 11 0).toNatClampNeg x1) 11 0).toNatClampNeg x2) 11 0).toNatClampNeg x3) 11 0) 2278 ∧ (vp_in ((st (st (st (st zN 0 (zN 11 0).toNatClampNeg x1) 1 ((st zN 0 (zN 11 0).toNatClampNeg x1) 11 0).toNatClampNeg x2) 2 ((st (st zN 0 (zN 11 0).toNatClampNeg x1) 1 ((st zN 0 (zN 11 0).toNatClampNeg x1) 11 0).toNatClampNeg x2) 11 0).toNatClampNeg x3) 3 ((st (st (st zN 0 (zN 11 0).toNatClampNeg x1) 1 ((st zN 0 (zN 11 0).toNatClampNeg x1) 11 0).toNatClampNeg x2) 2 ((st (st zN 0 (zN 11 0).toNatClampNeg x1) 1 ((st zN 0 (zN 11 0).toNatClampNeg x1) 11 0).toNatClampNeg x2) 11 0).toNatClampNeg x3) 11 0).toNatClampNeg x4) 11 0) 2278 ∧ (post (st (st (st (st (st (st zN 0 (zN 11 0).toNatClampNeg x1) 1 ((st zN 0 (zN 11 0).toNatClampNeg x1) 11 0).toNatClampNeg x2) 2 ((st (st zN 0 (zN 11 0).toNatClampNeg x1) 1 ((st zN 0 (zN 11 0).toNatClampNeg x1) 11 0).toNatClampNeg x2) 11 0).toNatClampNeg x3) 3 ((st (st (st zN 0 (zN 11 0).toNatClampNeg x1) 1 ((st zN 0 (zN 11 0).toNatClampNeg x1) 11 0).toNatClampNeg x2) 2 ((st (st zN 0 (zN 11 0).toNatClampNeg x1) 1 ((st zN 0 (zN 11 0).toNatClampNeg x1) 11 0).toNatClampNeg x2) 11 0).toNatClampNeg x3) 11 0).toNatClampNeg x4) 4 ((st (st (st (st zN 0 (zN 11 0).toNatClampNeg x1) 1 ((st zN 0 (zN 11 0).toNatClampNeg x1) 11 0).toNatClampNeg x2) 2 ((st (st zN 0 (zN 11 0).toNatClampNeg x1) 1 ((st zN 0 (zN 11 0).toNatClampNeg x1) 11 0).toNatClampNeg x2) 11 0).toNatClampNeg x3) 3 ((st (st (st zN 0 (zN 11 0).toNatClampNeg x1) 1 ((st zN 0 (zN 11 0).toNatClampNeg x1) 11 0).toNatClampNeg x2) 2 ((st (st zN 0 (zN 11 0).toNatClampNeg x1) 1 ((st zN 0 (zN 11 0).toNatClampNeg x1) 11 0).toNatClampNeg x2) 11 0).toNatClampNeg x3) 11 0).toNatClampNeg x4) 11 0).toNatClampNeg x5) 11 0 (((st (st (st (st (st zN 0 (zN 11 0).toNatClampNeg x1) 1 ((st zN 0 (zN 11 0).toNatClampNeg x1) 11 0).toNatClampNeg x2) 2 ((st (st zN 0 (zN 11 0).toNatClampNeg x1) 1 ((st zN 0 (zN 11 0).toNatClampNeg x1) 11 0).toNatClampNeg x2) 11 0).toNatClampNeg x3) 3 ((st (st (st zN 0 (zN 11 0).toNatClampNeg x1) 1 ((st zN 0 (zN 11 0).toNatClampNeg x1) 11 0).toNatClampNeg x2) 2 ((st (st zN 0 (zN 11 0).toNatClampNeg x1) 1 ((st zN 0 (zN 11 0).toNatClampNeg x1) 11 0).toNatClampNeg x2) 11 0).toNatClampNeg x3) 11 0).toNatClampNeg x4) 4 ((st (st (st (st zN 0 (zN 11 0).toNatClampNeg x1) 1 ((st zN 0 (zN 11 0).toNatClampNeg x1) 11 0).toNatClampNeg x2) 2 ((st (st zN 0 (zN 11 0).toNatClampNeg x1) 1 ((st zN 0 (zN 11 0).toNatClampNeg x1) 11 0).toNatClampNeg x2) 11 0).toNatClampNeg x3) 3 ((st (st (st zN 0 (zN 11 0).toNatClampNeg x1) 1 ((st zN 0 (zN 11 0).toNatClampNeg x1) 11 0).toNatClampNeg x2) 2 ((st (st zN 0 (zN 11 0).toNatClampNeg x1) 1 ((st zN 0 (zN 11 0).toNatClampNeg x1) 11 0).toNatClampNeg x2) 11 0).toNatClampNeg x3) 11 0).toNatClampNeg x4) 11 0).toNatClampNeg x5) 11 0) + (1 : Int32))))))))
def qX7_grows_158 (post : ((CS)) → Prop) (x1 : Int32) (k43 : (Int32) → (Int32) → (CS) → Prop) (k51 : (Int32) → (Int32) → (Int32) → (CS) → Prop) (y2 : Int32) (y3 : Int32) (y4 : Int32) (y5 : Int32) (y6 : Int32) (zN : CS) : Prop :=
  k51 y2 y3 (y4 + (1 : Int32)) zN
def qX7_grows_147 (post : ((CS)) → Prop) (x1 : Int32) (k43 : (Int32) → (Int32) → (CS) → Prop) (k51 : (Int32) → (Int32) → (Int32) → (CS) → Prop) (k88 : (Int32) → (Int32) → (Int32) → (Int32) → (Int32) → (CS) → Prop) (y2 : Int32) (y3 : Int32) (y4 : Int32) (y5 : Int32) (y6 : Int32) (w1 : Int32) (w2 : Int32) (w3 : Int32) (w4 : Int32) (w5 : Int32) (zN : CS) : Prop :=
  qX7_lays (fun (u149 : (CS)) => k88 y2 y3 y4 y5 (y6 + (1 : Int32)) u149) w1 w2 w3 w4 (w5 + (1 : Int32)) zN
def qX7_grows_88b (post : ((CS)) → Prop) (x1 : Int32) (k43 : (Int32) → (Int32) → (CS) → Prop) (k51 : (Int32) → (Int32) → (Int32) → (CS) → Prop) (k88 : (Int32) → (Int32) → (Int32) → (Int32) → (Int32) → (CS) → Prop) (y2 : Int32) (y3 : Int32) (y4 : Int32) (y5 : Int32) (y6 : Int32) (zN : CS) : Prop :=
  (y2 ≤ y6 → (qX7_grows_158 post x1 k43 k51 y2 y3 y4 y5 y6 zN)) ∧ (¬ y2 ≤ y6 → (vp_in y6 2278 ∧ ((((zN 3) y6.toNatClampNeg) = y5 → (vp_in y4 2278 ∧ (vp_in y6 2278 ∧ ((((zN 4) y4.toNatClampNeg) ≤ ((zN 4) y6.toNatClampNeg) → (vp_in y6 2278 ∧ (qX7_grows_147 post x1 k43 k51 k88 y2 y3 y4 y5 y6 y3 y4 y6 x1 ((zN 4) y6.toNatClampNeg) zN))) ∧ (¬ ((zN 4) y4.toNatClampNeg) ≤ ((zN 4) y6.toNatClampNeg) → (vp_in y4 2278 ∧ (qX7_grows_147 post x1 k43 k51 k88 y2 y3 y4 y5 y6 y3 y4 y6 x1 ((zN 4) y4.toNatClampNeg) zN))))))) ∧ (¬ ((zN 3) y6.toNatClampNeg) = y5 → (qX7_grows_158 post x1 k43 k51 y2 y3 y4 y5 y6 zN)))))
def qX7_grows_88 (post : ((CS)) → Prop) (x1 : Int32) (k43 : (Int32) → (Int32) → (CS) → Prop) (k51 : (Int32) → (Int32) → (Int32) → (CS) → Prop) (n : Nat) : (Int32) → (Int32) → (Int32) → (Int32) → (Int32) → (CS) → Prop :=
  Nat.rec (motive := fun _ => (Int32) → (Int32) → (Int32) → (Int32) → (Int32) → (CS) → Prop) (fun _ _ _ _ _ _ => False) (fun _ k => qX7_grows_88b post x1 k43 k51 k) n
def qX7_grows_86 (post : ((CS)) → Prop) (x1 : Int32) (k43 : (Int32) → (Int32) → (CS) → Prop) (k51 : (Int32) → (Int32) → (Int32) → (CS) → Prop) (y2 : Int32) (y3 : Int32) (y4 : Int32) (y5 : Int32) (w0 : Int32) (zN : CS) : Prop :=
  ∃ n : Nat, qX7_grows_88 post x1 k43 k51 n y2 y3 y4 y5 w0 zN
def qX7_grows_51b (post : ((CS)) → Prop) (x1 : Int32) (k43 : (Int32) → (Int32) → (CS) → Prop) (k51 : (Int32) → (Int32) → (Int32) → (CS) → Prop) (y2 : Int32) (y3 : Int32) (y4 : Int32) (zN : CS) : Prop :=
  (y2 ≤ y4 → (k43 y2 (y3 + (1 : Int32)) zN)) ∧ (¬ y2 ≤ y4 → (vp_in y4 2278 ∧ ((((x1 - (1 : Int32)) - ((zN 3) y4.toNatClampNeg)) ≤ (0 : Int32) → (qX7_grows_86 post x1 k43 k51 y2 y3 y4 ((x1 - (1 : Int32)) - ((zN 3) y4.toNatClampNeg)) y2 zN)) ∧ (¬ ((x1 - (1 : Int32)) - ((zN 3) y4.toNatClampNeg)) ≤ (0 : Int32) → (vp_in ((x1 - (1 : Int32)) - ((zN 3) y4.toNatClampNeg)) 9 ∧ (qX7_grows_86 post x1 k43 k51 y2 y3 y4 ((x1 - (1 : Int32)) - ((zN 3) y4.toNatClampNeg)) ((zN 5) ((x1 - (1 : Int32)) - ((zN 3) y4.toNatClampNeg)).toNatClampNeg) zN))))))
def qX7_grows_51 (post : ((CS)) → Prop) (x1 : Int32) (k43 : (Int32) → (Int32) → (CS) → Prop) (n : Nat) : (Int32) → (Int32) → (Int32) → (CS) → Prop :=
  Nat.rec (motive := fun _ => (Int32) → (Int32) → (Int32) → (CS) → Prop) (fun _ _ _ _ => False) (fun _ k => qX7_grows_51b post x1 k43 k) n
def qX7_grows_43b (post : ((CS)) → Prop) (x1 : Int32)  (k43 : (Int32) → (Int32) → (CS) → Prop) (y2 : Int32) (y3 : Int32) (zN : CS) : Prop :=
  ((5 : Int32) ≤ y3 → (post (zN))) ∧ (¬ (5 : Int32) ≤ y3 → (∃ n : Nat, qX7_grows_51 post x1 k43 n y2 y3 (0 : Int32) zN))
def qX7_grows_43 (post : ((CS)) → Prop) (x1 : Int32)  (n : Nat) : (Int32) → (Int32) → (CS) → Prop :=
  Nat.rec (motive := fun _ => (Int32) → (Int32) → (CS) → Prop) (fun _ _ _ => False) (fun _ k => qX7_grows_43b post x1 k) n
def qX7_grows_14b (post : ((CS)) → Prop) (x1 : Int32)  (k14 : (Int32) → (Int32) → (CS) → Prop) (y2 : Int32) (y3 : Int32) (zN : CS) : Prop :=
  (y2 ≤ y3 → (∃ n : Nat, qX7_grows_43 post x1 n y2 (3 : Int32) zN)) ∧ (¬ y2 ≤ y3 → (vp_in y3 2278 ∧ (qX7_lays (fun (u32 : (CS)) => k14 y2 (y3 + (1 : Int32)) u32) (2 : Int32) y3 (0 : Int32) x1 (((zN 4) y3.toNatClampNeg) + (1 : Int32)) zN)))
def qX7_grows_14 (post : ((CS)) → Prop) (x1 : Int32)  (n : Nat) : (Int32) → (Int32) → (CS) → Prop :=
  Nat.rec (motive := fun _ => (Int32) → (Int32) → (CS) → Prop) (fun _ _ _ => False) (fun _ k => qX7_grows_14b post x1 k) n
def qX7_grows (post : ((CS)) → Prop) (x1 : Int32) (zN : CS) : Prop :=
  vp_in (x1 - (1 : Int32)) 9 ∧ (∃ n : Nat, qX7_grows_14 post x1 n (zN 11 0) ((zN 5) (x1 - (1 : Int32)).toNatClampNeg) zN)
def qX7_in_14 (post : Int32 → (Unit) → Prop) (x0 : Int32) (x1 : Int32) (x2 : Int32)   : Prop :=
  post (0 : Int32) ()
def qX7_in (post : Int32 → (Unit) → Prop) (x0 : Int32) (x1 : Int32) (x2 : Int32)  : Prop :=
  (x0 < x1 → (qX7_in_14 post x0 x1 x2 )) ∧ (¬ x0 < x1 → ((x2 < x0 → (qX7_in_14 post x0 x1 x2 )) ∧ (¬ x2 < x0 → (post (1 : Int32) ()))))
def qX7_isState (post : Int32 → (Unit) → Prop) (x1 : Int32) (zN : CS) : Prop :=
  qX7_in (fun r8 (u8 : Unit) => narrow .boolean (.int r8) = .int r8 ∧ post r8 ()) x1 (0 : Int32) ((zN 11 1) - (1 : Int32))
def qX7_arity (post : Int32 → (Unit) → Prop) (x0 : Int32)  : Prop :=
  ((2 : Int32) ≤ x0 → (((3 : Int32) ≤ x0 → (post (2 : Int32) ())) ∧ (¬ (3 : Int32) ≤ x0 → (post (1 : Int32) ())))) ∧ (¬ (2 : Int32) ≤ x0 → (post (0 : Int32) ()))
def qX7_has (post : Int32 → (Unit) → Prop) (x0 : Int32) (x1 : Int32)  : Prop :=
  (((x0 >>> (x1 &&& 31)) &&& (1 : Int32)) = (1 : Int32) → (post (1 : Int32) ())) ∧ (¬ ((x0 >>> (x1 &&& 31)) &&& (1 : Int32)) = (1 : Int32) → (post (0 : Int32) ()))
def qX7_reset (post : Int32 → ((CS)) → Prop) (x1 : Int32) (zN : CS) : Prop :=
  qX7_in (fun r4 (u4 : Unit) => (r4 = (0 : Int32) → (post (-1 : Int32) (zN))) ∧ (¬ r4 = (0 : Int32) → (vp_in (80 : Int32) 82 ∧ (vp_in (81 : Int32) 82 ∧ (post (zN 11 1) (st (st (st (st zN 11 1 x1) 7 (80 : Int32).toNatClampNeg (0 : Int32)) 7 (81 : Int32).toNatClampNeg (0 : Int32)) 11 2 (0 : Int32))))))) x1 (1 : Int32) (6 : Int32)
def qX7_edit_50b (post : ((CS)) → Prop)   (k50 : (Int32) → (CS) → Prop) (y1 : Int32) (zN : CS) : Prop :=
  ((82 : Int32) ≤ y1 → (post (st zN 11 2 ((zN 11 2) + (1 : Int32))))) ∧ (¬ (82 : Int32) ≤ y1 → (vp_in y1 82 ∧ (vp_in (((82 : Int32) * (zN 11 2)) + y1) 410 ∧ (k50 (y1 + (1 : Int32)) (st zN 8 (((82 : Int32) * (zN 11 2)) + y1).toNatClampNeg ((zN 7) y1.toNatClampNeg))))))
def qX7_edit_50 (post : ((CS)) → Prop)   (n : Nat) : (Int32) → (CS) → Prop :=
  Nat.rec (motive := fun _ => (Int32) → (CS) → Prop) (fun _ _ => False) (fun _ k => qX7_edit_50b post k) n
def qX7_edit_48 (post : ((CS)) → Prop)   (zN : CS) : Prop :=
  ∃ n : Nat, qX7_edit_50 post n (0 : Int32) zN
def qX7_edit_10b (post : ((CS)) → Prop)   (k10 : (Int32) → (CS) → Prop) (y1 : Int32) (zN : CS) : Prop :=
  ((328 : Int32) ≤ y1 → (qX7_edit_48 post (st zN 11 2 ((zN 11 2) - (1 : Int32))))) ∧ (¬ (328 : Int32) ≤ y1 → (vp_in (y1 + (82 : Int32)) 410 ∧ (vp_in y1 410 ∧ (k10 (y1 + (1 : Int32)) (st zN 8 y1.toNatClampNeg ((zN 8) (y1 + (82 : Int32)).toNatClampNeg))))))
def qX7_edit_10 (post : ((CS)) → Prop)   (n : Nat) : (Int32) → (CS) → Prop :=
  Nat.rec (motive := fun _ => (Int32) → (CS) → Prop) (fun _ _ => False) (fun _ k => qX7_edit_10b post k) n
def qX7_edit (post : ((CS)) → Prop)  (zN : CS) : Prop :=
  ((zN 11 2) = (5 : Int32) → (∃ n : Nat, qX7_edit_10 post n (0 : Int32) zN)) ∧ (¬ (zN 11 2) = (5 : Int32) → (qX7_edit_48 post zN))
def qX7_undo_22b (post : Int32 → ((CS)) → Prop)   (k22 : (Int32) → (CS) → Prop) (y1 : Int32) (zN : CS) : Prop :=
  ((82 : Int32) ≤ y1 → (post (zN 11 2) (zN))) ∧ (¬ (82 : Int32) ≤ y1 → (vp_in (((82 : Int32) * (zN 11 2)) + y1) 410 ∧ (vp_in y1 82 ∧ (k22 (y1 + (1 : Int32)) (st zN 7 y1.toNatClampNeg ((zN 8) (((82 : Int32) * (zN 11 2)) + y1).toNatClampNeg))))))
def qX7_undo_22 (post : Int32 → ((CS)) → Prop)   (n : Nat) : (Int32) → (CS) → Prop :=
  Nat.rec (motive := fun _ => (Int32) → (CS) → Prop) (fun _ _ => False) (fun _ k => qX7_undo_22b post k) n
def qX7_undo (post : Int32 → ((CS)) → Prop)  (zN : CS) : Prop :=
  ((zN 11 2) = (0 : Int32) → (post (-3 : Int32) (zN))) ∧ (¬ (zN 11 2) = (0 : Int32) → (∃ n : Nat, qX7_undo_22 post n (0 : Int32) (st zN 11 2 ((zN 11 2) - (1 : Int32)))))
def qX7_setFinal_81 (post : Int32 → ((CS)) → Prop) (x1 : Int32) (x2 : Int32) (k51 : (Int32) → (Int32) → (CS) → Prop) (y3 : Int32) (y4 : Int32) (w0 : Int32) (w1 : Int32) (zN : CS) : Prop :=
  k51 (w0 + w1) (y4 + (1 : Int32)) zN
def qX7_setFinal_51b (post : Int32 → ((CS)) → Prop) (x1 : Int32) (x2 : Int32)  (k51 : (Int32) → (Int32) → (CS) → Prop) (y3 : Int32) (y4 : Int32) (zN : CS) : Prop :=
  ((zN 11 1) ≤ y4 → (post y3 (zN))) ∧ (¬ (zN 11 1) ≤ y4 → (vp_in (81 : Int32) 82 ∧ (qX7_has (fun r70 (u70 : Unit) => (r70 = (0 : Int32) → (qX7_setFinal_81 post x1 x2 k51 y3 y4 y3 (0 : Int32) zN)) ∧ (¬ r70 = (0 : Int32) → (qX7_setFinal_81 post x1 x2 k51 y3 y4 y3 (1 : Int32) zN))) ((zN 7) (81 : Int32).toNatClampNeg) y4)))
def qX7_setFinal_51 (post : Int32 → ((CS)) → Prop) (x1 : Int32) (x2 : Int32)  (n : Nat) : (Int32) → (Int32) → (CS) → Prop :=
  Nat.rec (motive := fun _ => (Int32) → (Int32) → (CS) → Prop) (fun _ _ _ => False) (fun _ k => qX7_setFinal_51b post x1 x2 k) n
def qX7_setFinal_44 (post : Int32 → ((CS)) → Prop) (x1 : Int32) (x2 : Int32)  (w1 : Int32) (w2 : Int32) (w3 : Int32) (zN : CS) : Prop :=
  vp_in w1 82 ∧ (∃ n : Nat, qX7_setFinal_51 post x1 x2 n (0 : Int32) (0 : Int32) (st zN 7 w1.toNatClampNeg (w2 ||| w3)))
def qX7_setFinal (post : Int32 → ((CS)) → Prop) (x1 : Int32) (x2 : Int32) (zN : CS) : Prop :=
  qX7_isState (fun r2 (u2 : Unit) => (r2 = (0 : Int32) → (post (-1 : Int32) (zN))) ∧ (¬ r2 = (0 : Int32) → (qX7_edit (fun (u11 : (CS)) => vp_in (81 : Int32) 82 ∧ ((x2 = (0 : Int32) → (qX7_setFinal_44 post x1 x2 (81 : Int32) (((u11 7) (81 : Int32).toNatClampNeg) &&& (((1 : Int32) <<< (x1 &&& 31)) ^^^ (-1 : Int32))) (0 : Int32) u11)) ∧ (¬ x2 = (0 : Int32) → (qX7_setFinal_44 post x1 x2 (81 : Int32) (((u11 7) (81 : Int32).toNatClampNeg) &&& (((1 : Int32) <<< (x1 &&& 31)) ^^^ (-1 : Int32))) ((1 : Int32) <<< (x1 &&& 31)) u11)))) zN))) x1 zN
def qX7_addRule_95 (post : Int32 → ((CS)) → Prop) (x1 : Int32) (x2 : Int32) (x3 : Int32) (x4 : Int32) (x5 : Int32)  (y6 : Int32) (w0 : Int32) (zN : CS) : Prop :=
  (w0 = (0 : Int32) → (post (-1 : Int32) (zN))) ∧ (¬ w0 = (0 : Int32) → (vp_in (80 : Int32) 82 ∧ ((((zN 7) (80 : Int32).toNatClampNeg) = (16 : Int32) → (post (-2 : Int32) (zN))) ∧ (¬ ((zN 7) (80 : Int32).toNatClampNeg) = (16 : Int32) → (qX7_edit (fun (u120 : (CS)) => vp_in (80 : Int32) 82 ∧ (vp_in ((5 : Int32) * ((u120 7) (80 : Int32).toNatClampNeg)) 82 ∧ (vp_in (((5 : Int32) * ((u120 7) (80 : Int32).toNatClampNeg)) + (1 : Int32)) 82 ∧ (vp_in (((5 : Int32) * ((u120 7) (80 : Int32).toNatClampNeg)) + (2 : Int32)) 82 ∧ (vp_in (((5 : Int32) * ((u120 7) (80 : Int32).toNatClampNeg)) + (3 : Int32)) 82 ∧ (vp_in (((5 : Int32) * ((u120 7) (80 : Int32).toNatClampNeg)) + (4 : Int32)) 82 ∧ (vp_in (80 : Int32) 82 ∧ (vp_in (80 : Int32) 82 ∧ (vp_in (80 : Int32) 82 ∧ (post ((((st (st (st (st (st (st u120 7 ((5 : Int32) * ((u120 7) (80 : Int32).toNatClampNeg)).toNatClampNeg x1) 7 (((5 : Int32) * ((u120 7) (80 : Int32).toNatClampNeg)) + (1 : Int32)).toNatClampNeg x2) 7 (((5 : Int32) * ((u120 7) (80 : Int32).toNatClampNeg)) + (2 : Int32)).toNatClampNeg x3) 7 (((5 : Int32) * ((u120 7) (80 : Int32).toNatClampNeg)) + (3 : Int32)).toNatClampNeg x4) 7 (((5 : Int32) * ((u120 7) (80 : Int32).toNatClampNeg)) + (4 : Int32)).toNatClampNeg x5) 7 (80 : Int32).toNatClampNeg ((((st (st (st (st (st u120 7 ((5 : Int32) * ((u120 7) (80 : Int32).toNatClampNeg)).toNatClampNeg x1) 7 (((5 : Int32) * ((u120 7) (80 : Int32).toNatClampNeg)) + (1 : Int32)).toNatClampNeg x2) 7 (((5 : Int32) * ((u120 7) (80 : Int32).toNatClampNeg)) + (2 : Int32)).toNatClampNeg x3) 7 (((5 : Int32) * ((u120 7) (80 : Int32).toNatClampNeg)) + (3 : Int32)).toNatClampNeg x4) 7 (((5 : Int32) * ((u120 7) (80 : Int32).toNatClampNeg)) + (4 : Int32)).toNatClampNeg x5) 7) (80 : Int32).toNatClampNeg) + (1 : Int32))) 7) (80 : Int32).toNatClampNeg) - (1 : Int32)) (st (st (st (st (st (st u120 7 ((5 : Int32) * ((u120 7) (80 : Int32).toNatClampNeg)).toNatClampNeg x1) 7 (((5 : Int32) * ((u120 7) (80 : Int32).toNatClampNeg)) + (1 : Int32)).toNatClampNeg x2) 7 (((5 : Int32) * ((u120 7) (80 : Int32).toNatClampNeg)) + (2 : Int32)).toNatClampNeg x3) 7 (((5 : Int32) * ((u120 7) (80 : Int32).toNatClampNeg)) + (3 : Int32)).toNatClampNeg x4) 7 (((5 : Int32) * ((u120 7) (80 : Int32).toNatClampNeg)) + (4 : Int32)).toNatClampNeg x5) 7 (80 : Int32).toNatClampNeg ((((st (st (st (st (st u120 7 ((5 : Int32) * ((u120 7) (80 : Int32).toNatClampNeg)).toNatClampNeg x1) 7 (((5 : Int32) * ((u120 7) (80 : Int32).toNatClampNeg)) + (1 : Int32)).toNatClampNeg x2) 7 (((5 : Int32) * ((u120 7) (80 : Int32).toNatClampNeg)) + (2 : Int32)).toNatClampNeg x3) 7 (((5 : Int32) * ((u120 7) (80 : Int32).toNatClampNeg)) + (3 : Int32)).toNatClampNeg x4) 7 (((5 : Int32) * ((u120 7) (80 : Int32).toNatClampNeg)) + (4 : Int32)).toNatClampNeg x5) 7) (80 : Int32).toNatClampNeg) + (1 : Int32))))))))))))) zN)))))
def qX7_addRule_94 (post : Int32 → ((CS)) → Prop) (x1 : Int32) (x2 : Int32) (x3 : Int32) (x4 : Int32) (x5 : Int32)  (y6 : Int32) (zN : CS) : Prop :=
  qX7_addRule_95 post x1 x2 x3 x4 x5 y6 (0 : Int32) zN
def qX7_addRule_90 (post : Int32 → ((CS)) → Prop) (x1 : Int32) (x2 : Int32) (x3 : Int32) (x4 : Int32) (x5 : Int32)  (y6 : Int32) (zN : CS) : Prop :=
  qX7_addRule_95 post x1 x2 x3 x4 x5 y6 (1 : Int32) zN
def qX7_addRule_62 (post : Int32 → ((CS)) → Prop) (x1 : Int32) (x2 : Int32) (x3 : Int32) (x4 : Int32) (x5 : Int32)  (y6 : Int32) (zN : CS) : Prop :=
  qX7_arity (fun r63 (u63 : Unit) => (r63 ≤ (1 : Int32) → ((x3 = (0 : Int32) → ((x4 = (0 : Int32) → (qX7_addRule_90 post x1 x2 x3 x4 x5 y6 zN)) ∧ (¬ x4 = (0 : Int32) → (qX7_addRule_94 post x1 x2 x3 x4 x5 y6 zN)))) ∧ (¬ x3 = (0 : Int32) → (qX7_addRule_94 post x1 x2 x3 x4 x5 y6 zN)))) ∧ (¬ r63 ≤ (1 : Int32) → (qX7_isState (fun r72 (u72 : Unit) => (r72 = (0 : Int32) → (qX7_addRule_94 post x1 x2 x3 x4 x5 y6 zN)) ∧ (¬ r72 = (0 : Int32) → (qX7_addRule_90 post x1 x2 x3 x4 x5 y6 zN))) x3 zN))) x1
def qX7_addRule_33 (post : Int32 → ((CS)) → Prop) (x1 : Int32) (x2 : Int32) (x3 : Int32) (x4 : Int32) (x5 : Int32)  (w0 : Int32) (zN : CS) : Prop :=
  (w0 = (0 : Int32) → (qX7_addRule_94 post x1 x2 x3 x4 x5 w0 zN)) ∧ (¬ w0 = (0 : Int32) → (qX7_arity (fun r41 (u41 : Unit) => (r41 ≤ (0 : Int32) → ((x2 = (0 : Int32) → (qX7_addRule_62 post x1 x2 x3 x4 x5 w0 zN)) ∧ (¬ x2 = (0 : Int32) → (qX7_addRule_94 post x1 x2 x3 x4 x5 w0 zN)))) ∧ (¬ r41 ≤ (0 : Int32) → (qX7_isState (fun r49 (u49 : Unit) => (r49 = (0 : Int32) → (qX7_addRule_94 post x1 x2 x3 x4 x5 w0 zN)) ∧ (¬ r49 = (0 : Int32) → (qX7_addRule_62 post x1 x2 x3 x4 x5 w0 zN))) x2 zN))) x1))
def qX7_addRule_32 (post : Int32 → ((CS)) → Prop) (x1 : Int32) (x2 : Int32) (x3 : Int32) (x4 : Int32) (x5 : Int32)  (zN : CS) : Prop :=
  qX7_addRule_33 post x1 x2 x3 x4 x5 (0 : Int32) zN
def qX7_addRule (post : Int32 → ((CS)) → Prop) (x1 : Int32) (x2 : Int32) (x3 : Int32) (x4 : Int32) (x5 : Int32) (zN : CS) : Prop :=
  qX7_in (fun r3 (u3 : Unit) => (r3 = (0 : Int32) → (qX7_addRule_32 post x1 x2 x3 x4 x5 zN)) ∧ (¬ r3 = (0 : Int32) → (qX7_isState (fun r12 (u12 : Unit) => (r12 = (0 : Int32) → (qX7_addRule_32 post x1 x2 x3 x4 x5 zN)) ∧ (¬ r12 = (0 : Int32) → (qX7_in (fun r22 (u22 : Unit) => (r22 = (0 : Int32) → (qX7_addRule_32 post x1 x2 x3 x4 x5 zN)) ∧ (¬ r22 = (0 : Int32) → (qX7_addRule_33 post x1 x2 x3 x4 x5 (1 : Int32) zN))) x4 (0 : Int32) (2 : Int32)))) x5 zN))) x1 (0 : Int32) (4 : Int32)
def qX7_removeRule_38b (post : Int32 → ((CS)) → Prop) (x1 : Int32)  (k38 : (Int32) → (CS) → Prop) (y2 : Int32) (zN : CS) : Prop :=
  vp_in (80 : Int32) 82 ∧ ((((5 : Int32) * ((zN 7) (80 : Int32).toNatClampNeg)) ≤ y2 → (vp_in (80 : Int32) 82 ∧ (post ((zN 7) (80 : Int32).toNatClampNeg) (zN)))) ∧ (¬ ((5 : Int32) * ((zN 7) (80 : Int32).toNatClampNeg)) ≤ y2 → (vp_in (y2 + (5 : Int32)) 82 ∧ (vp_in y2 82 ∧ (k38 (y2 + (1 : Int32)) (st zN 7 y2.toNatClampNeg ((zN 7) (y2 + (5 : Int32)).toNatClampNeg)))))))
def qX7_removeRule_38 (post : Int32 → ((CS)) → Prop) (x1 : Int32)  (n : Nat) : (Int32) → (CS) → Prop :=
  Nat.rec (motive := fun _ => (Int32) → (CS) → Prop) (fun _ _ => False) (fun _ k => qX7_removeRule_38b post x1 k) n
def qX7_removeRule (post : Int32 → ((CS)) → Prop) (x1 : Int32) (zN : CS) : Prop :=
  vp_in (80 : Int32) 82 ∧ (qX7_in (fun r11 (u11 : Unit) => (r11 = (0 : Int32) → (post (-1 : Int32) (zN))) ∧ (¬ r11 = (0 : Int32) → (qX7_edit (fun (u20 : (CS)) => vp_in (80 : Int32) 82 ∧ (vp_in (80 : Int32) 82 ∧ (∃ n : Nat, qX7_removeRule_38 post x1 n ((5 : Int32) * x1) (st u20 7 (80 : Int32).toNatClampNeg (((u20 7) (80 : Int32).toNatClampNeg) - (1 : Int32)))))) zN))) x1 (0 : Int32) (((zN 7) (80 : Int32).toNatClampNeg) - (1 : Int32)))
def qX7_swapped (post : Int32 → (Unit) → Prop) (x0 : Int32) (x1 : Int32) (x2 : Int32)  : Prop :=
  (x0 = x1 → (post x2 ())) ∧ (¬ x0 = x1 → ((x0 = x2 → (post x1 ())) ∧ (¬ x0 = x2 → (post x0 ()))))
def qX7_swapStates_270 (post : Int32 → ((CS)) → Prop) (x1 : Int32) (x2 : Int32) (k231 : (Int32) → (Int32) → (Int32) → (CS) → Prop) (y3 : Int32) (y4 : Int32) (y5 : Int32) (w0 : Int32) (w1 : Int32) (zN : CS) : Prop :=
  k231 y3 (w0 ||| w1) (y5 + (1 : Int32)) zN
def qX7_swapStates_231b (post : Int32 → ((CS)) → Prop) (x1 : Int32) (x2 : Int32)  (k231 : (Int32) → (Int32) → (Int32) → (CS) → Prop) (y3 : Int32) (y4 : Int32) (y5 : Int32) (zN : CS) : Prop :=
  ((zN 11 1) ≤ y5 → (vp_in (81 : Int32) 82 ∧ (post y3 (st zN 7 (81 : Int32).toNatClampNeg y4)))) ∧ (¬ (zN 11 1) ≤ y5 → (vp_in (81 : Int32) 82 ∧ (qX7_has (fun r251 (u251 : Unit) => (r251 = (0 : Int32) → (qX7_swapStates_270 post x1 x2 k231 y3 y4 y5 y4 (0 : Int32) zN)) ∧ (¬ r251 = (0 : Int32) → (qX7_swapped (fun r262 (u262 : Unit) => qX7_swapStates_270 post x1 x2 k231 y3 y4 y5 y4 ((1 : Int32) <<< (r262 &&& 31)) zN) y5 x1 x2))) ((zN 7) (81 : Int32).toNatClampNeg) y5)))
def qX7_swapStates_231 (post : Int32 → ((CS)) → Prop) (x1 : Int32) (x2 : Int32)  (n : Nat) : (Int32) → (Int32) → (Int32) → (CS) → Prop :=
  Nat.rec (motive := fun _ => (Int32) → (Int32) → (Int32) → (CS) → Prop) (fun _ _ _ _ => False) (fun _ k => qX7_swapStates_231b post x1 x2 k) n
def qX7_swapStates_217 (post : Int32 → ((CS)) → Prop) (x1 : Int32) (x2 : Int32) (k27 : (Int32) → (Int32) → (CS) → Prop) (y3 : Int32) (y4 : Int32) (y5 : Int32) (y6 : Int32) (y7 : Int32) (w0 : Int32) (w1 : Int32) (zN : CS) : Prop :=
  k27 (w0 + w1) (y4 + (1 : Int32)) zN
def qX7_swapStates_142 (post : Int32 → ((CS)) → Prop) (x1 : Int32) (x2 : Int32) (k27 : (Int32) → (Int32) → (CS) → Prop) (k90 : (Int32) → (Int32) → (Int32) → (Int32) → (Int32) → (CS) → Prop) (y3 : Int32) (y4 : Int32) (y5 : Int32) (y6 : Int32) (y7 : Int32) (w0 : Int32) (zN : CS) : Prop :=
  vp_in (((5 : Int32) * y4) + y7) 82 ∧ (qX7_swapped (fun r169 (u169 : Unit) => vp_in (((5 : Int32) * y4) + y7) 82 ∧ (k90 y3 y4 y5 w0 (y7 + (1 : Int32)) (st zN 7 (((5 : Int32) * y4) + y7).toNatClampNeg r169))) ((zN 7) (((5 : Int32) * y4) + y7).toNatClampNeg) x1 x2)
def qX7_swapStates_137 (post : Int32 → ((CS)) → Prop) (x1 : Int32) (x2 : Int32) (k27 : (Int32) → (Int32) → (CS) → Prop) (k90 : (Int32) → (Int32) → (Int32) → (Int32) → (Int32) → (CS) → Prop) (y3 : Int32) (y4 : Int32) (y5 : Int32) (y6 : Int32) (y7 : Int32) (zN : CS) : Prop :=
  qX7_swapStates_142 post x1 x2 k27 k90 y3 y4 y5 y6 y7 (1 : Int32) zN
def qX7_swapStates_90b (post : Int32 → ((CS)) → Prop) (x1 : Int32) (x2 : Int32) (k27 : (Int32) → (Int32) → (CS) → Prop) (k90 : (Int32) → (Int32) → (Int32) → (Int32) → (Int32) → (CS) → Prop) (y3 : Int32) (y4 : Int32) (y5 : Int32) (y6 : Int32) (y7 : Int32) (zN : CS) : Prop :=
  qX7_arity (fun r94 (u94 : Unit) => (r94 < y7 → (vp_in (((5 : Int32) * y4) + (4 : Int32)) 82 ∧ (qX7_swapped (fun r202 (u202 : Unit) => vp_in (((5 : Int32) * y4) + (4 : Int32)) 82 ∧ ((y6 = (0 : Int32) → (qX7_swapStates_217 post x1 x2 k27 y3 y4 y5 y6 y7 y3 (0 : Int32) (st zN 7 (((5 : Int32) * y4) + (4 : Int32)).toNatClampNeg r202))) ∧ (¬ y6 = (0 : Int32) → (qX7_swapStates_217 post x1 x2 k27 y3 y4 y5 y6 y7 y3 (1 : Int32) (st zN 7 (((5 : Int32) * y4) + (4 : Int32)).toNatClampNeg r202))))) ((zN 7) (((5 : Int32) * y4) + (4 : Int32)).toNatClampNeg) x1 x2))) ∧ (¬ r94 < y7 → ((y6 = (0 : Int32) → (vp_in (((5 : Int32) * y4) + y7) 82 ∧ ((((zN 7) (((5 : Int32) * y4) + y7).toNatClampNeg) = x1 → (qX7_swapStates_137 post x1 x2 k27 k90 y3 y4 y5 y6 y7 zN)) ∧ (¬ ((zN 7) (((5 : Int32) * y4) + y7).toNatClampNeg) = x1 → (vp_in (((5 : Int32) * y4) + y7) 82 ∧ ((((zN 7) (((5 : Int32) * y4) + y7).toNatClampNeg) = x2 → (qX7_swapStates_137 post x1 x2 k27 k90 y3 y4 y5 y6 y7 zN)) ∧ (¬ ((zN 7) (((5 : Int32) * y4) + y7).toNatClampNeg) = x2 → (qX7_swapStates_142 post x1 x2 k27 k90 y3 y4 y5 y6 y7 (0 : Int32) zN)))))))) ∧ (¬ y6 = (0 : Int32) → (qX7_swapStates_137 post x1 x2 k27 k90 y3 y4 y5 y6 y7 zN))))) y5
def qX7_swapStates_90 (post : Int32 → ((CS)) → Prop) (x1 : Int32) (x2 : Int32) (k27 : (Int32) → (Int32) → (CS) → Prop) (n : Nat) : (Int32) → (Int32) → (Int32) → (Int32) → (Int32) → (CS) → Prop :=
  Nat.rec (motive := fun _ => (Int32) → (Int32) → (Int32) → (Int32) → (Int32) → (CS) → Prop) (fun _ _ _ _ _ _ => False) (fun _ k => qX7_swapStates_90b post x1 x2 k27 k) n
def qX7_swapStates_85 (post : Int32 → ((CS)) → Prop) (x1 : Int32) (x2 : Int32) (k27 : (Int32) → (Int32) → (CS) → Prop) (y3 : Int32) (y4 : Int32) (y5 : Int32) (w0 : Int32) (zN : CS) : Prop :=
  ∃ n : Nat, qX7_swapStates_90 post x1 x2 k27 n y3 y4 y5 w0 (1 : Int32) zN
def qX7_swapStates_80 (post : Int32 → ((CS)) → Prop) (x1 : Int32) (x2 : Int32) (k27 : (Int32) → (Int32) → (CS) → Prop) (y3 : Int32) (y4 : Int32) (y5 : Int32) (zN : CS) : Prop :=
  qX7_swapStates_85 post x1 x2 k27 y3 y4 y5 (1 : Int32) zN
def qX7_swapStates_27b (post : Int32 → ((CS)) → Prop) (x1 : Int32) (x2 : Int32)  (k27 : (Int32) → (Int32) → (CS) → Prop) (y3 : Int32) (y4 : Int32) (zN : CS) : Prop :=
  vp_in (80 : Int32) 82 ∧ ((((zN 7) (80 : Int32).toNatClampNeg) ≤ y4 → (∃ n : Nat, qX7_swapStates_231 post x1 x2 n y3 (0 : Int32) (0 : Int32) zN)) ∧ (¬ ((zN 7) (80 : Int32).toNatClampNeg) ≤ y4 → (vp_in ((5 : Int32) * y4) 82 ∧ (vp_in (((5 : Int32) * y4) + (4 : Int32)) 82 ∧ ((((zN 7) (((5 : Int32) * y4) + (4 : Int32)).toNatClampNeg) = x1 → (qX7_swapStates_80 post x1 x2 k27 y3 y4 ((zN 7) ((5 : Int32) * y4).toNatClampNeg) zN)) ∧ (¬ ((zN 7) (((5 : Int32) * y4) + (4 : Int32)).toNatClampNeg) = x1 → (vp_in (((5 : Int32) * y4) + (4 : Int32)) 82 ∧ ((((zN 7) (((5 : Int32) * y4) + (4 : Int32)).toNatClampNeg) = x2 → (qX7_swapStates_80 post x1 x2 k27 y3 y4 ((zN 7) ((5 : Int32) * y4).toNatClampNeg) zN)) ∧ (¬ ((zN 7) (((5 : Int32) * y4) + (4 : Int32)).toNatClampNeg) = x2 → (qX7_swapStates_85 post x1 x2 k27 y3 y4 ((zN 7) ((5 : Int32) * y4).toNatClampNeg) (0 : Int32) zN))))))))))
def qX7_swapStates_27 (post : Int32 → ((CS)) → Prop) (x1 : Int32) (x2 : Int32)  (n : Nat) : (Int32) → (Int32) → (CS) → Prop :=
  Nat.rec (motive := fun _ => (Int32) → (Int32) → (CS) → Prop) (fun _ _ _ => False) (fun _ k => qX7_swapStates_27b post x1 x2 k) n
def qX7_swapStates_16 (post : Int32 → ((CS)) → Prop) (x1 : Int32) (x2 : Int32)  (zN : CS) : Prop :=
  post (-1 : Int32) (zN)
def qX7_swapStates (post : Int32 → ((CS)) → Prop) (x1 : Int32) (x2 : Int32) (zN : CS) : Prop :=
  qX7_isState (fun r2 (u2 : Unit) => (r2 = (0 : Int32) → (qX7_swapStates_16 post x1 x2 zN)) ∧ (¬ r2 = (0 : Int32) → (qX7_isState (fun r10 (u10 : Unit) => (r10 = (0 : Int32) → (qX7_swapStates_16 post x1 x2 zN)) ∧ (¬ r10 = (0 : Int32) → (qX7_edit (fun (u19 : (CS)) => ∃ n : Nat, qX7_swapStates_27 post x1 x2 n (0 : Int32) (0 : Int32) u19) zN))) x2 zN))) x1 zN
def qX7_ruleCount (post : Int32 → (Unit) → Prop)  (zN : CS) : Prop :=
  vp_in (80 : Int32) 82 ∧ (post ((zN 7) (80 : Int32).toNatClampNeg) ())
def qX7_finalStates (post : Int32 → (Unit) → Prop)  (zN : CS) : Prop :=
  vp_in (81 : Int32) 82 ∧ (post ((zN 7) (81 : Int32).toNatClampNeg) ())
def qX7_isSize (post : Int32 → (Unit) → Prop) (x0 : Int32)  : Prop :=
  qX7_in (fun r4 (u4 : Unit) => narrow .boolean (.int r4) = .int r4 ∧ post r4 ()) x0 (1 : Int32) (7 : Int32)
def qX7_isTree (post : Int32 → (Unit) → Prop) (x0 : Int32)  : Prop :=
  qX7_in (fun r5 (u5 : Unit) => narrow .boolean (.int r5) = .int r5 ∧ post r5 ()) x0 (0 : Int32) (2277 : Int32)
def qX7_treeCount (post : Int32 → (Unit) → Prop) (x1 : Int32) (zN : CS) : Prop :=
  qX7_isSize (fun r1 (u1 : Unit) => (r1 = (0 : Int32) → (post (-1 : Int32) ())) ∧ (¬ r1 = (0 : Int32) → (vp_in (x1 + (1 : Int32)) 9 ∧ (vp_in x1 9 ∧ (post (((zN 5) (x1 + (1 : Int32)).toNatClampNeg) - ((zN 5) x1.toNatClampNeg)) ()))))) x1
def qX7_treeOf_158 (post : Int32 → (Unit) → Prop) (x1 : Int32) (x2 : Int32) (x3 : Int32) (zN : CS) (k125 : (Int32) → (Int32) → (Int32) → Prop) (y4 : Int32) (y5 : Int32) (y6 : Int32) : Prop :=
  k125 y4 y5 (y6 + (1 : Int32))
def qX7_treeOf_125b (post : Int32 → (Unit) → Prop) (x1 : Int32) (x2 : Int32) (x3 : Int32) (zN : CS)  (k125 : (Int32) → (Int32) → (Int32) → Prop) (y4 : Int32) (y5 : Int32) (y6 : Int32) : Prop :=
  vp_in y6 2278 ∧ ((((zN 0) y6.toNatClampNeg) = x1 → (vp_in y6 2278 ∧ ((((zN 1) y6.toNatClampNeg) = x2 → (vp_in y6 2278 ∧ ((((zN 2) y6.toNatClampNeg) = x3 → (post y6 ())) ∧ (¬ ((zN 2) y6.toNatClampNeg) = x3 → (qX7_treeOf_158 post x1 x2 x3 zN k125 y4 y5 y6))))) ∧ (¬ ((zN 1) y6.toNatClampNeg) = x2 → (qX7_treeOf_158 post x1 x2 x3 zN k125 y4 y5 y6))))) ∧ (¬ ((zN 0) y6.toNatClampNeg) = x1 → (qX7_treeOf_158 post x1 x2 x3 zN k125 y4 y5 y6)))
def qX7_treeOf_125 (post : Int32 → (Unit) → Prop) (x1 : Int32) (x2 : Int32) (x3 : Int32) (zN : CS)  (n : Nat) : (Int32) → (Int32) → (Int32) → Prop :=
  Nat.rec (motive := fun _ => (Int32) → (Int32) → (Int32) → Prop) (fun _ _ _ => False) (fun _ k => qX7_treeOf_125b post x1 x2 x3 zN k) n
def qX7_treeOf_103 (post : Int32 → (Unit) → Prop) (x1 : Int32) (x2 : Int32) (x3 : Int32) (zN : CS)  (y4 : Int32) (w0 : Int32) (w1 : Int32) : Prop :=
  ((w0 + w1) ≤ (7 : Int32) → (vp_in (w0 + w1) 9 ∧ (∃ n : Nat, qX7_treeOf_125 post x1 x2 x3 zN n y4 (w0 + w1) ((zN 5) (w0 + w1).toNatClampNeg)))) ∧ (¬ (w0 + w1) ≤ (7 : Int32) → (post (-2 : Int32) ()))
def qX7_treeOf_84 (post : Int32 → (Unit) → Prop) (x1 : Int32) (x2 : Int32) (x3 : Int32) (zN : CS)  (y4 : Int32) (w0 : Int32) (w1 : Int32) : Prop :=
  qX7_arity (fun r86 (u86 : Unit) => (r86 ≤ (1 : Int32) → (qX7_treeOf_103 post x1 x2 x3 zN y4 (w0 + w1) (0 : Int32))) ∧ (¬ r86 ≤ (1 : Int32) → (vp_in x3 2278 ∧ (qX7_treeOf_103 post x1 x2 x3 zN y4 (w0 + w1) ((zN 3) x3.toNatClampNeg))))) x1
def qX7_treeOf_57 (post : Int32 → (Unit) → Prop) (x1 : Int32) (x2 : Int32) (x3 : Int32) (zN : CS)  (w0 : Int32) : Prop :=
  (w0 = (0 : Int32) → (post (-1 : Int32) ())) ∧ (¬ w0 = (0 : Int32) → (qX7_arity (fun r68 (u68 : Unit) => (r68 ≤ (0 : Int32) → (qX7_treeOf_84 post x1 x2 x3 zN w0 (1 : Int32) (0 : Int32))) ∧ (¬ r68 ≤ (0 : Int32) → (vp_in x2 2278 ∧ (qX7_treeOf_84 post x1 x2 x3 zN w0 (1 : Int32) ((zN 3) x2.toNatClampNeg))))) x1))
def qX7_treeOf_56 (post : Int32 → (Unit) → Prop) (x1 : Int32) (x2 : Int32) (x3 : Int32) (zN : CS)   : Prop :=
  qX7_treeOf_57 post x1 x2 x3 zN (0 : Int32)
def qX7_treeOf_52 (post : Int32 → (Unit) → Prop) (x1 : Int32) (x2 : Int32) (x3 : Int32) (zN : CS)   : Prop :=
  qX7_treeOf_57 post x1 x2 x3 zN (1 : Int32)
def qX7_treeOf_30 (post : Int32 → (Unit) → Prop) (x1 : Int32) (x2 : Int32) (x3 : Int32) (zN : CS)   : Prop :=
  qX7_arity (fun r31 (u31 : Unit) => (r31 ≤ (1 : Int32) → ((x3 = (0 : Int32) → (qX7_treeOf_52 post x1 x2 x3 zN )) ∧ (¬ x3 = (0 : Int32) → (qX7_treeOf_56 post x1 x2 x3 zN )))) ∧ (¬ r31 ≤ (1 : Int32) → (qX7_isTree (fun r39 (u39 : Unit) => (r39 = (0 : Int32) → (qX7_treeOf_56 post x1 x2 x3 zN )) ∧ (¬ r39 = (0 : Int32) → (qX7_treeOf_52 post x1 x2 x3 zN ))) x3))) x1
def qX7_treeOf (post : Int32 → (Unit) → Prop) (x1 : Int32) (x2 : Int32) (x3 : Int32) (zN : CS) : Prop :=
  qX7_in (fun r3 (u3 : Unit) => (r3 = (0 : Int32) → (qX7_treeOf_56 post x1 x2 x3 zN )) ∧ (¬ r3 = (0 : Int32) → (qX7_arity (fun r10 (u10 : Unit) => (r10 ≤ (0 : Int32) → ((x2 = (0 : Int32) → (qX7_treeOf_30 post x1 x2 x3 zN )) ∧ (¬ x2 = (0 : Int32) → (qX7_treeOf_56 post x1 x2 x3 zN )))) ∧ (¬ r10 ≤ (0 : Int32) → (qX7_isTree (fun r17 (u17 : Unit) => (r17 = (0 : Int32) → (qX7_treeOf_56 post x1 x2 x3 zN )) ∧ (¬ r17 = (0 : Int32) → (qX7_treeOf_30 post x1 x2 x3 zN ))) x2))) x1))) x1 (0 : Int32) (4 : Int32)
def qX7_symbolOf (post : Int32 → (Unit) → Prop) (x1 : Int32) (zN : CS) : Prop :=
  qX7_isTree (fun r1 (u1 : Unit) => (r1 = (0 : Int32) → (post (-1 : Int32) ())) ∧ (¬ r1 = (0 : Int32) → (vp_in x1 2278 ∧ (post ((zN 0) x1.toNatClampNeg) ())))) x1
def qX7_childOf_16 (post : Int32 → (Unit) → Prop) (x1 : Int32) (x2 : Int32) (zN : CS)   : Prop :=
  post (-1 : Int32) ()
def qX7_childOf (post : Int32 → (Unit) → Prop) (x1 : Int32) (x2 : Int32) (zN : CS) : Prop :=
  qX7_isTree (fun r1 (u1 : Unit) => (r1 = (0 : Int32) → (qX7_childOf_16 post x1 x2 zN )) ∧ (¬ r1 = (0 : Int32) → (qX7_in (fun r10 (u10 : Unit) => (r10 = (0 : Int32) → (qX7_childOf_16 post x1 x2 zN )) ∧ (¬ r10 = (0 : Int32) → (vp_in x1 2278 ∧ (qX7_arity (fun r25 (u25 : Unit) => (x2 < r25 → ((x2 = (0 : Int32) → (vp_in x1 2278 ∧ (post ((zN 1) x1.toNatClampNeg) ()))) ∧ (¬ x2 = (0 : Int32) → (vp_in x1 2278 ∧ (post ((zN 2) x1.toNatClampNeg) ()))))) ∧ (¬ x2 < r25 → (post (-3 : Int32) ()))) ((zN 0) x1.toNatClampNeg))))) x2 (0 : Int32) (1 : Int32)))) x1
def qX7_sizeOf (post : Int32 → (Unit) → Prop) (x1 : Int32) (zN : CS) : Prop :=
  qX7_isTree (fun r1 (u1 : Unit) => (r1 = (0 : Int32) → (post (-1 : Int32) ())) ∧ (¬ r1 = (0 : Int32) → (vp_in x1 2278 ∧ (post ((zN 3) x1.toNatClampNeg) ())))) x1
def qX7_heightOf (post : Int32 → (Unit) → Prop) (x1 : Int32) (zN : CS) : Prop :=
  qX7_isTree (fun r1 (u1 : Unit) => (r1 = (0 : Int32) → (post (-1 : Int32) ())) ∧ (¬ r1 = (0 : Int32) → (vp_in x1 2278 ∧ (post ((zN 4) x1.toNatClampNeg) ())))) x1
def qX7_isFulfilled_18 (post : Int32 → (Unit) → Prop) (x0 : Int32) (x1 : Int32)   : Prop :=
  post (1 : Int32) ()
def qX7_isFulfilled_14 (post : Int32 → (Unit) → Prop) (x0 : Int32) (x1 : Int32)  (w0 : Int32) : Prop :=
  (w0 = x1 → (qX7_isFulfilled_18 post x0 x1 )) ∧ (¬ w0 = x1 → (post (0 : Int32) ()))
def qX7_isFulfilled (post : Int32 → (Unit) → Prop) (x0 : Int32) (x1 : Int32)  : Prop :=
  (x0 = (0 : Int32) → (qX7_isFulfilled_18 post x0 x1 )) ∧ (¬ x0 = (0 : Int32) → ((x0 = (1 : Int32) → (qX7_isFulfilled_14 post x0 x1 (1 : Int32))) ∧ (¬ x0 = (1 : Int32) → (qX7_isFulfilled_14 post x0 x1 (0 : Int32)))))
def qX7_runsTo_218 (post : ((CS)) → Prop) (x1 : Int32) (k2 : (Int32) → (CS) → Prop) (k35 : (Int32) → (Int32) → (CS) → Prop) (y2 : Int32) (y3 : Int32) (zN : CS) : Prop :=
  k35 y2 (y3 + (1 : Int32)) zN
def qX7_runsTo_216 (post : ((CS)) → Prop) (x1 : Int32) (k2 : (Int32) → (CS) → Prop) (k35 : (Int32) → (Int32) → (CS) → Prop) (y2 : Int32) (y3 : Int32) (y4 : Int32) (w1 : Int32) (w2 : Int32) (w3 : Int32) (zN : CS) : Prop :=
  vp_in w1 13668 ∧ (qX7_runsTo_218 post x1 k2 k35 y2 y3 (st zN 6 w1.toNatClampNeg (w2 + w3)))
def qX7_runsTo_204 (post : ((CS)) → Prop) (x1 : Int32) (k2 : (Int32) → (CS) → Prop) (k35 : (Int32) → (Int32) → (CS) → Prop) (y2 : Int32) (y3 : Int32) (y4 : Int32) (w1 : Int32) (w2 : Int32) (w3 : Int32) (w4 : Int32) (zN : CS) : Prop :=
  qX7_isFulfilled (fun r204 (u204 : Unit) => (r204 = (0 : Int32) → (qX7_runsTo_216 post x1 k2 k35 y2 y3 y4 w1 w2 (0 : Int32) zN)) ∧ (¬ r204 = (0 : Int32) → (qX7_runsTo_216 post x1 k2 k35 y2 y3 y4 w1 w2 y4 zN))) w3 w4
def qX7_runsTo_150 (post : ((CS)) → Prop) (x1 : Int32) (k2 : (Int32) → (CS) → Prop) (k35 : (Int32) → (Int32) → (CS) → Prop) (y2 : Int32) (y3 : Int32) (y4 : Int32) (w0 : Int32) (w1 : Int32) (zN : CS) : Prop :=
  vp_in (((5 : Int32) * y3) + (4 : Int32)) 82 ∧ (vp_in (((6 : Int32) * y2) + ((zN 7) (((5 : Int32) * y3) + (4 : Int32)).toNatClampNeg)) 13668 ∧ (vp_in (((5 : Int32) * y3) + (3 : Int32)) 82 ∧ (vp_in y2 2278 ∧ (vp_in y2 2278 ∧ ((((zN 1) y2.toNatClampNeg) = ((zN 2) y2.toNatClampNeg) → (qX7_runsTo_204 post x1 k2 k35 y2 y3 (w0 * w1) (((6 : Int32) * y2) + ((zN 7) (((5 : Int32) * y3) + (4 : Int32)).toNatClampNeg)) ((zN 6) (((6 : Int32) * y2) + ((zN 7) (((5 : Int32) * y3) + (4 : Int32)).toNatClampNeg)).toNatClampNeg) ((zN 7) (((5 : Int32) * y3) + (3 : Int32)).toNatClampNeg) (1 : Int32) zN)) ∧ (¬ ((zN 1) y2.toNatClampNeg) = ((zN 2) y2.toNatClampNeg) → (qX7_runsTo_204 post x1 k2 k35 y2 y3 (w0 * w1) (((6 : Int32) * y2) + ((zN 7) (((5 : Int32) * y3) + (4 : Int32)).toNatClampNeg)) ((zN 6) (((6 : Int32) * y2) + ((zN 7) (((5 : Int32) * y3) + (4 : Int32)).toNatClampNeg)).toNatClampNeg) ((zN 7) (((5 : Int32) * y3) + (3 : Int32)).toNatClampNeg) (0 : Int32) zN)))))))
def qX7_runsTo_104 (post : ((CS)) → Prop) (x1 : Int32) (k2 : (Int32) → (CS) → Prop) (k35 : (Int32) → (Int32) → (CS) → Prop) (y2 : Int32) (y3 : Int32) (w0 : Int32) (zN : CS) : Prop :=
  vp_in y2 2278 ∧ (qX7_arity (fun r114 (u114 : Unit) => (r114 ≤ (1 : Int32) → (qX7_runsTo_150 post x1 k2 k35 y2 y3 w0 w0 (1 : Int32) zN)) ∧ (¬ r114 ≤ (1 : Int32) → (vp_in y2 2278 ∧ (vp_in (((5 : Int32) * y3) + (2 : Int32)) 82 ∧ (vp_in (((6 : Int32) * ((zN 2) y2.toNatClampNeg)) + ((zN 7) (((5 : Int32) * y3) + (2 : Int32)).toNatClampNeg)) 13668 ∧ (qX7_runsTo_150 post x1 k2 k35 y2 y3 w0 w0 ((zN 6) (((6 : Int32) * ((zN 2) y2.toNatClampNeg)) + ((zN 7) (((5 : Int32) * y3) + (2 : Int32)).toNatClampNeg)).toNatClampNeg) zN)))))) ((zN 0) y2.toNatClampNeg))
def qX7_runsTo_35b (post : ((CS)) → Prop) (x1 : Int32) (k2 : (Int32) → (CS) → Prop) (k35 : (Int32) → (Int32) → (CS) → Prop) (y2 : Int32) (y3 : Int32) (zN : CS) : Prop :=
  vp_in (80 : Int32) 82 ∧ ((((zN 7) (80 : Int32).toNatClampNeg) ≤ y3 → (k2 (y2 + (1 : Int32)) zN)) ∧ (¬ ((zN 7) (80 : Int32).toNatClampNeg) ≤ y3 → (vp_in ((5 : Int32) * y3) 82 ∧ (vp_in y2 2278 ∧ ((((zN 7) ((5 : Int32) * y3).toNatClampNeg) = ((zN 0) y2.toNatClampNeg) → (vp_in y2 2278 ∧ (qX7_arity (fun r69 (u69 : Unit) => (r69 ≤ (0 : Int32) → (qX7_runsTo_104 post x1 k2 k35 y2 y3 (1 : Int32) zN)) ∧ (¬ r69 ≤ (0 : Int32) → (vp_in y2 2278 ∧ (vp_in (((5 : Int32) * y3) + (1 : Int32)) 82 ∧ (vp_in (((6 : Int32) * ((zN 1) y2.toNatClampNeg)) + ((zN 7) (((5 : Int32) * y3) + (1 : Int32)).toNatClampNeg)) 13668 ∧ (qX7_runsTo_104 post x1 k2 k35 y2 y3 ((zN 6) (((6 : Int32) * ((zN 1) y2.toNatClampNeg)) + ((zN 7) (((5 : Int32) * y3) + (1 : Int32)).toNatClampNeg)).toNatClampNeg) zN)))))) ((zN 0) y2.toNatClampNeg)))) ∧ (¬ ((zN 7) ((5 : Int32) * y3).toNatClampNeg) = ((zN 0) y2.toNatClampNeg) → (qX7_runsTo_218 post x1 k2 k35 y2 y3 zN)))))))
def qX7_runsTo_35 (post : ((CS)) → Prop) (x1 : Int32) (k2 : (Int32) → (CS) → Prop) (n : Nat) : (Int32) → (Int32) → (CS) → Prop :=
  Nat.rec (motive := fun _ => (Int32) → (Int32) → (CS) → Prop) (fun _ _ _ => False) (fun _ k => qX7_runsTo_35b post x1 k2 k) n
def qX7_runsTo_9b (post : ((CS)) → Prop) (x1 : Int32) (k2 : (Int32) → (CS) → Prop) (k9 : (Int32) → (Int32) → (CS) → Prop) (y2 : Int32) (y3 : Int32) (zN : CS) : Prop :=
  ((6 : Int32) ≤ y3 → (∃ n : Nat, qX7_runsTo_35 post x1 k2 n y2 (0 : Int32) zN)) ∧ (¬ (6 : Int32) ≤ y3 → (vp_in (((6 : Int32) * y2) + y3) 13668 ∧ (k9 y2 (y3 + (1 : Int32)) (st zN 6 (((6 : Int32) * y2) + y3).toNatClampNeg (0 : Int32)))))
def qX7_runsTo_9 (post : ((CS)) → Prop) (x1 : Int32) (k2 : (Int32) → (CS) → Prop) (n : Nat) : (Int32) → (Int32) → (CS) → Prop :=
  Nat.rec (motive := fun _ => (Int32) → (Int32) → (CS) → Prop) (fun _ _ _ => False) (fun _ k => qX7_runsTo_9b post x1 k2 k) n
def qX7_runsTo_2b (post : ((CS)) → Prop) (x1 : Int32)  (k2 : (Int32) → (CS) → Prop) (y2 : Int32) (zN : CS) : Prop :=
  (x1 < y2 → (post (zN))) ∧ (¬ x1 < y2 → (∃ n : Nat, qX7_runsTo_9 post x1 k2 n y2 (0 : Int32) zN))
def qX7_runsTo_2 (post : ((CS)) → Prop) (x1 : Int32)  (n : Nat) : (Int32) → (CS) → Prop :=
  Nat.rec (motive := fun _ => (Int32) → (CS) → Prop) (fun _ _ => False) (fun _ k => qX7_runsTo_2b post x1 k) n
def qX7_runsTo (post : ((CS)) → Prop) (x1 : Int32) (zN : CS) : Prop :=
  ∃ n : Nat, qX7_runsTo_2 post x1 n (0 : Int32) zN
def qX7_subset_34 (post : Int32 → (Unit) → Prop) (x1 : Int32) (zN : CS) (k4 : (Int32) → (Int32) → Prop) (y2 : Int32) (y3 : Int32) (w0 : Int32) (w1 : Int32) : Prop :=
  k4 (w0 ||| w1) (y3 + (1 : Int32))
def qX7_subset_4b (post : Int32 → (Unit) → Prop) (x1 : Int32) (zN : CS)  (k4 : (Int32) → (Int32) → Prop) (y2 : Int32) (y3 : Int32) : Prop :=
  ((zN 11 1) ≤ y3 → (post y2 ())) ∧ (¬ (zN 11 1) ≤ y3 → (vp_in (((6 : Int32) * x1) + y3) 13668 ∧ ((((zN 6) (((6 : Int32) * x1) + y3).toNatClampNeg) ≤ (0 : Int32) → (qX7_subset_34 post x1 zN k4 y2 y3 y2 (0 : Int32))) ∧ (¬ ((zN 6) (((6 : Int32) * x1) + y3).toNatClampNeg) ≤ (0 : Int32) → (qX7_subset_34 post x1 zN k4 y2 y3 y2 ((1 : Int32) <<< (y3 &&& 31)))))))
def qX7_subset_4 (post : Int32 → (Unit) → Prop) (x1 : Int32) (zN : CS)  (n : Nat) : (Int32) → (Int32) → Prop :=
  Nat.rec (motive := fun _ => (Int32) → (Int32) → Prop) (fun _ _ => False) (fun _ k => qX7_subset_4b post x1 zN k) n
def qX7_subset (post : Int32 → (Unit) → Prop) (x1 : Int32) (zN : CS) : Prop :=
  ∃ n : Nat, qX7_subset_4 post x1 zN n (0 : Int32) (0 : Int32)
def qX7_subsetOf (post : Int32 → ((CS)) → Prop) (x1 : Int32) (zN : CS) : Prop :=
  qX7_isTree (fun r1 (u1 : Unit) => (r1 = (0 : Int32) → (post (-1 : Int32) (zN))) ∧ (¬ r1 = (0 : Int32) → (qX7_runsTo (fun (u11 : (CS)) => qX7_subset (fun r16 (u16 : Unit) => post r16 (u11)) x1 u11) x1 zN))) x1
def qX7_isAccepted (post : Int32 → (Unit) → Prop) (x1 : Int32) (zN : CS) : Prop :=
  qX7_subset (fun r2 (u2 : Unit) => vp_in (81 : Int32) 82 ∧ (((r2 &&& ((zN 7) (81 : Int32).toNatClampNeg)) = (0 : Int32) → (post (0 : Int32) ())) ∧ (¬ (r2 &&& ((zN 7) (81 : Int32).toNatClampNeg)) = (0 : Int32) → (post (1 : Int32) ())))) x1 zN
def qX7_accepts (post : Int32 → ((CS)) → Prop) (x1 : Int32) (zN : CS) : Prop :=
  qX7_isTree (fun r1 (u1 : Unit) => (r1 = (0 : Int32) → (post (-1 : Int32) (zN))) ∧ (¬ r1 = (0 : Int32) → (qX7_runsTo (fun (u11 : (CS)) => qX7_isAccepted (fun r16 (u16 : Unit) => (r16 = (0 : Int32) → (post (0 : Int32) (u11))) ∧ (¬ r16 = (0 : Int32) → (post (1 : Int32) (u11)))) x1 u11) x1 zN))) x1
def qX7_runCount_15 (post : Int32 → ((CS)) → Prop) (x1 : Int32) (x2 : Int32)  (zN : CS) : Prop :=
  post (-1 : Int32) (zN)
def qX7_runCount (post : Int32 → ((CS)) → Prop) (x1 : Int32) (x2 : Int32) (zN : CS) : Prop :=
  qX7_isTree (fun r1 (u1 : Unit) => (r1 = (0 : Int32) → (qX7_runCount_15 post x1 x2 zN)) ∧ (¬ r1 = (0 : Int32) → (qX7_isState (fun r9 (u9 : Unit) => (r9 = (0 : Int32) → (qX7_runCount_15 post x1 x2 zN)) ∧ (¬ r9 = (0 : Int32) → (qX7_runsTo (fun (u19 : (CS)) => vp_in (((6 : Int32) * x1) + x2) 13668 ∧ (post ((u19 6) (((6 : Int32) * x1) + x2).toNatClampNeg) (u19))) x1 zN))) x2 zN))) x1
def qX7_acceptedCount_58 (post : Int32 → ((CS)) → Prop) (x1 : Int32) (k32 : (Int32) → (Int32) → (CS) → Prop) (y2 : Int32) (y3 : Int32) (w0 : Int32) (w1 : Int32) (zN : CS) : Prop :=
  k32 (w0 + w1) (y3 + (1 : Int32)) zN
def qX7_acceptedCount_32b (post : Int32 → ((CS)) → Prop) (x1 : Int32)  (k32 : (Int32) → (Int32) → (CS) → Prop) (y2 : Int32) (y3 : Int32) (zN : CS) : Prop :=
  vp_in (x1 + (1 : Int32)) 9 ∧ ((((zN 5) (x1 + (1 : Int32)).toNatClampNeg) ≤ y3 → (post y2 (zN))) ∧ (¬ ((zN 5) (x1 + (1 : Int32)).toNatClampNeg) ≤ y3 → (qX7_isAccepted (fun r47 (u47 : Unit) => (r47 = (0 : Int32) → (qX7_acceptedCount_58 post x1 k32 y2 y3 y2 (0 : Int32) zN)) ∧ (¬ r47 = (0 : Int32) → (qX7_acceptedCount_58 post x1 k32 y2 y3 y2 (1 : Int32) zN))) y3 zN)))
def qX7_acceptedCount_32 (post : Int32 → ((CS)) → Prop) (x1 : Int32)  (n : Nat) : (Int32) → (Int32) → (CS) → Prop :=
  Nat.rec (motive := fun _ => (Int32) → (Int32) → (CS) → Prop) (fun _ _ _ => False) (fun _ k => qX7_acceptedCount_32b post x1 k) n
def qX7_acceptedCount (post : Int32 → ((CS)) → Prop) (x1 : Int32) (zN : CS) : Prop :=
  qX7_isSize (fun r1 (u1 : Unit) => (r1 = (0 : Int32) → (post (-1 : Int32) (zN))) ∧ (¬ r1 = (0 : Int32) → (vp_in (x1 + (1 : Int32)) 9 ∧ (qX7_runsTo (fun (u20 : (CS)) => vp_in x1 9 ∧ (∃ n : Nat, qX7_acceptedCount_32 post x1 n (0 : Int32) ((u20 5) x1.toNatClampNeg) u20)) (((zN 5) (x1 + (1 : Int32)).toNatClampNeg) - (1 : Int32)) zN)))) x1
def qX7_acceptedTree_69 (post : Int32 → ((CS)) → Prop) (x1 : Int32) (x2 : Int32) (k37 : (Int32) → (Int32) → (CS) → Prop) (y3 : Int32) (y4 : Int32) (zN : CS) : Prop :=
  k37 y3 (y4 + (1 : Int32)) zN
def qX7_acceptedTree_37b (post : Int32 → ((CS)) → Prop) (x1 : Int32) (x2 : Int32)  (k37 : (Int32) → (Int32) → (CS) → Prop) (y3 : Int32) (y4 : Int32) (zN : CS) : Prop :=
  vp_in (x1 + (1 : Int32)) 9 ∧ ((((zN 5) (x1 + (1 : Int32)).toNatClampNeg) ≤ y4 → (post (-3 : Int32) (zN))) ∧ (¬ ((zN 5) (x1 + (1 : Int32)).toNatClampNeg) ≤ y4 → (qX7_isAccepted (fun r53 (u53 : Unit) => (r53 = (0 : Int32) → (qX7_acceptedTree_69 post x1 x2 k37 y3 y4 zN)) ∧ (¬ r53 = (0 : Int32) → ((y3 = (0 : Int32) → (post y4 (zN))) ∧ (¬ y3 = (0 : Int32) → (qX7_acceptedTree_69 post x1 x2 k37 (y3 + (-1 : Int32)) y4 zN))))) y4 zN)))
def qX7_acceptedTree_37 (post : Int32 → ((CS)) → Prop) (x1 : Int32) (x2 : Int32)  (n : Nat) : (Int32) → (Int32) → (CS) → Prop :=
  Nat.rec (motive := fun _ => (Int32) → (Int32) → (CS) → Prop) (fun _ _ _ => False) (fun _ k => qX7_acceptedTree_37b post x1 x2 k) n
def qX7_acceptedTree_11 (post : Int32 → ((CS)) → Prop) (x1 : Int32) (x2 : Int32)  (zN : CS) : Prop :=
  post (-1 : Int32) (zN)
def qX7_acceptedTree (post : Int32 → ((CS)) → Prop) (x1 : Int32) (x2 : Int32) (zN : CS) : Prop :=
  qX7_isSize (fun r1 (u1 : Unit) => (r1 = (0 : Int32) → (qX7_acceptedTree_11 post x1 x2 zN)) ∧ (¬ r1 = (0 : Int32) → (((0 : Int32) ≤ x2 → (vp_in (x1 + (1 : Int32)) 9 ∧ (qX7_runsTo (fun (u24 : (CS)) => vp_in x1 9 ∧ (∃ n : Nat, qX7_acceptedTree_37 post x1 x2 n x2 ((u24 5) x1.toNatClampNeg) u24)) (((zN 5) (x1 + (1 : Int32)).toNatClampNeg) - (1 : Int32)) zN))) ∧ (¬ (0 : Int32) ≤ x2 → (qX7_acceptedTree_11 post x1 x2 zN))))) x1
def qX7_leads_133 (post : Int32 → (Unit) → Prop) (x1 : Int32) (x2 : Int32) (x3 : Int32) (x4 : Int32) (zN : CS) (k6 : (Int32) → (Int32) → Prop) (y5 : Int32) (y6 : Int32) (y7 : Int32) (w0 : Int32) (w1 : Int32) : Prop :=
  k6 (w0 ||| w1) (y6 + (1 : Int32))
def qX7_leads_107 (post : Int32 → (Unit) → Prop) (x1 : Int32) (x2 : Int32) (x3 : Int32) (x4 : Int32) (zN : CS) (k6 : (Int32) → (Int32) → Prop) (y5 : Int32) (y6 : Int32) (w0 : Int32) : Prop :=
  (w0 = (0 : Int32) → (qX7_leads_133 post x1 x2 x3 x4 zN k6 y5 y6 w0 y5 (0 : Int32))) ∧ (¬ w0 = (0 : Int32) → (vp_in (((5 : Int32) * y6) + (4 : Int32)) 82 ∧ (qX7_leads_133 post x1 x2 x3 x4 zN k6 y5 y6 w0 y5 ((1 : Int32) <<< (((zN 7) (((5 : Int32) * y6) + (4 : Int32)).toNatClampNeg) &&& 31)))))
def qX7_leads_106 (post : Int32 → (Unit) → Prop) (x1 : Int32) (x2 : Int32) (x3 : Int32) (x4 : Int32) (zN : CS) (k6 : (Int32) → (Int32) → Prop) (y5 : Int32) (y6 : Int32) : Prop :=
  qX7_leads_107 post x1 x2 x3 x4 zN k6 y5 y6 (0 : Int32)
def qX7_leads_102 (post : Int32 → (Unit) → Prop) (x1 : Int32) (x2 : Int32) (x3 : Int32) (x4 : Int32) (zN : CS) (k6 : (Int32) → (Int32) → Prop) (y5 : Int32) (y6 : Int32) : Prop :=
  qX7_leads_107 post x1 x2 x3 x4 zN k6 y5 y6 (1 : Int32)
def qX7_leads_57 (post : Int32 → (Unit) → Prop) (x1 : Int32) (x2 : Int32) (x3 : Int32) (x4 : Int32) (zN : CS) (k6 : (Int32) → (Int32) → Prop) (y5 : Int32) (y6 : Int32) : Prop :=
  qX7_arity (fun r58 (u58 : Unit) => (r58 < (2 : Int32) → (qX7_leads_102 post x1 x2 x3 x4 zN k6 y5 y6)) ∧ (¬ r58 < (2 : Int32) → (vp_in (((5 : Int32) * y6) + (2 : Int32)) 82 ∧ (qX7_has (fun r77 (u77 : Unit) => (r77 = (0 : Int32) → (qX7_leads_106 post x1 x2 x3 x4 zN k6 y5 y6)) ∧ (¬ r77 = (0 : Int32) → (vp_in (((5 : Int32) * y6) + (3 : Int32)) 82 ∧ (qX7_isFulfilled (fun r96 (u96 : Unit) => (r96 = (0 : Int32) → (qX7_leads_106 post x1 x2 x3 x4 zN k6 y5 y6)) ∧ (¬ r96 = (0 : Int32) → (qX7_leads_102 post x1 x2 x3 x4 zN k6 y5 y6))) ((zN 7) (((5 : Int32) * y6) + (3 : Int32)).toNatClampNeg) x4)))) x3 ((zN 7) (((5 : Int32) * y6) + (2 : Int32)).toNatClampNeg))))) x1
def qX7_leads_6b (post : Int32 → (Unit) → Prop) (x1 : Int32) (x2 : Int32) (x3 : Int32) (x4 : Int32) (zN : CS)  (k6 : (Int32) → (Int32) → Prop) (y5 : Int32) (y6 : Int32) : Prop :=
  vp_in (80 : Int32) 82 ∧ ((((zN 7) (80 : Int32).toNatClampNeg) ≤ y6 → (post y5 ())) ∧ (¬ ((zN 7) (80 : Int32).toNatClampNeg) ≤ y6 → (vp_in ((5 : Int32) * y6) 82 ∧ ((((zN 7) ((5 : Int32) * y6).toNatClampNeg) = x1 → (qX7_arity (fun r32 (u32 : Unit) => (r32 < (1 : Int32) → (qX7_leads_57 post x1 x2 x3 x4 zN k6 y5 y6)) ∧ (¬ r32 < (1 : Int32) → (vp_in (((5 : Int32) * y6) + (1 : Int32)) 82 ∧ (qX7_has (fun r51 (u51 : Unit) => (r51 = (0 : Int32) → (qX7_leads_106 post x1 x2 x3 x4 zN k6 y5 y6)) ∧ (¬ r51 = (0 : Int32) → (qX7_leads_57 post x1 x2 x3 x4 zN k6 y5 y6))) x2 ((zN 7) (((5 : Int32) * y6) + (1 : Int32)).toNatClampNeg))))) x1)) ∧ (¬ ((zN 7) ((5 : Int32) * y6).toNatClampNeg) = x1 → (qX7_leads_106 post x1 x2 x3 x4 zN k6 y5 y6))))))
def qX7_leads_6 (post : Int32 → (Unit) → Prop) (x1 : Int32) (x2 : Int32) (x3 : Int32) (x4 : Int32) (zN : CS)  (n : Nat) : (Int32) → (Int32) → Prop :=
  Nat.rec (motive := fun _ => (Int32) → (Int32) → Prop) (fun _ _ => False) (fun _ k => qX7_leads_6b post x1 x2 x3 x4 zN k) n
def qX7_leads (post : Int32 → (Unit) → Prop) (x1 : Int32) (x2 : Int32) (x3 : Int32) (x4 : Int32) (zN : CS) : Prop :=
  ∃ n : Nat, qX7_leads_6 post x1 x2 x3 x4 zN n (0 : Int32) (0 : Int32)
def qX7_puts_29 (post : ((CS)) → Prop) (x1 : Int32) (x2 : Int32)  (w1 : Int32) (w2 : Int32) (zN : CS) : Prop :=
  vp_in w1 64 ∧ (post (st zN 10 w1.toNatClampNeg w2))
def qX7_puts (post : ((CS)) → Prop) (x1 : Int32) (x2 : Int32) (zN : CS) : Prop :=
  vp_in x1 64 ∧ (((((zN 10) x1.toNatClampNeg) + x2) ≤ (2 : Int32) → (vp_in x1 64 ∧ (qX7_puts_29 post x1 x2 x1 (((zN 10) x1.toNatClampNeg) + x2) zN))) ∧ (¬ (((zN 10) x1.toNatClampNeg) + x2) ≤ (2 : Int32) → (qX7_puts_29 post x1 x2 x1 (2 : Int32) zN)))
def qX7_steps_235 (post : Int32 → ((CS)) → Prop)  (k206 : (Int32) → (Int32) → (Int32) → (CS) → Prop) (y1 : Int32) (y2 : Int32) (y3 : Int32) (w0 : Int32) (zN : CS) : Prop :=
  vp_in y3 64 ∧ (vp_in y3 64 ∧ (k206 y1 w0 (y3 + (1 : Int32)) (st zN 9 y3.toNatClampNeg ((zN 10) y3.toNatClampNeg))))
def qX7_steps_230 (post : Int32 → ((CS)) → Prop)  (k206 : (Int32) → (Int32) → (Int32) → (CS) → Prop) (y1 : Int32) (y2 : Int32) (y3 : Int32) (zN : CS) : Prop :=
  qX7_steps_235 post k206 y1 y2 y3 (1 : Int32) zN
def qX7_steps_206b (post : Int32 → ((CS)) → Prop)   (k206 : (Int32) → (Int32) → (Int32) → (CS) → Prop) (y1 : Int32) (y2 : Int32) (y3 : Int32) (zN : CS) : Prop :=
  (y1 ≤ y3 → (narrow .boolean (.int y2) = .int y2 ∧ post y2 (zN))) ∧ (¬ y1 ≤ y3 → ((y2 = (0 : Int32) → (vp_in y3 64 ∧ (vp_in y3 64 ∧ ((((zN 10) y3.toNatClampNeg) = ((zN 9) y3.toNatClampNeg) → (qX7_steps_235 post k206 y1 y2 y3 (0 : Int32) zN)) ∧ (¬ ((zN 10) y3.toNatClampNeg) = ((zN 9) y3.toNatClampNeg) → (qX7_steps_230 post k206 y1 y2 y3 zN)))))) ∧ (¬ y2 = (0 : Int32) → (qX7_steps_230 post k206 y1 y2 y3 zN))))
def qX7_steps_206 (post : Int32 → ((CS)) → Prop)   (n : Nat) : (Int32) → (Int32) → (Int32) → (CS) → Prop :=
  Nat.rec (motive := fun _ => (Int32) → (Int32) → (Int32) → (CS) → Prop) (fun _ _ _ _ => False) (fun _ k => qX7_steps_206b post k) n
def qX7_steps_196 (post : Int32 → ((CS)) → Prop)  (k55 : (Int32) → (Int32) → (CS) → Prop) (y1 : Int32) (y2 : Int32) (zN : CS) : Prop :=
  k55 y1 (y2 + (1 : Int32)) zN
def qX7_steps_184 (post : Int32 → ((CS)) → Prop)  (k55 : (Int32) → (Int32) → (CS) → Prop) (k92 : (Int32) → (Int32) → (Int32) → (CS) → Prop) (k118 : (Int32) → (Int32) → (Int32) → (Int32) → (CS) → Prop) (y1 : Int32) (y2 : Int32) (y3 : Int32) (y4 : Int32) (y5 : Int32) (zN : CS) : Prop :=
  k118 y1 y2 y3 (y4 + (1 : Int32)) zN
def qX7_steps_162 (post : Int32 → ((CS)) → Prop)  (k55 : (Int32) → (Int32) → (CS) → Prop) (k92 : (Int32) → (Int32) → (Int32) → (CS) → Prop) (k118 : (Int32) → (Int32) → (Int32) → (Int32) → (CS) → Prop) (y1 : Int32) (y2 : Int32) (y3 : Int32) (y4 : Int32) (w0 : Int32) (zN : CS) : Prop :=
  (w0 ≤ (0 : Int32) → (qX7_steps_184 post k55 k92 k118 y1 y2 y3 y4 w0 zN)) ∧ (¬ w0 ≤ (0 : Int32) → (qX7_leads (fun r176 (u176 : Unit) => qX7_puts (fun (u181 : (CS)) => qX7_steps_184 post k55 k92 k118 y1 y2 y3 y4 w0 u181) r176 w0 zN) y3 y2 y4 (0 : Int32) zN))
def qX7_steps_118b (post : Int32 → ((CS)) → Prop)  (k55 : (Int32) → (Int32) → (CS) → Prop) (k92 : (Int32) → (Int32) → (Int32) → (CS) → Prop) (k118 : (Int32) → (Int32) → (Int32) → (Int32) → (CS) → Prop) (y1 : Int32) (y2 : Int32) (y3 : Int32) (y4 : Int32) (zN : CS) : Prop :=
  (y1 ≤ y4 → (k92 y1 y2 (y3 + (1 : Int32)) zN)) ∧ (¬ y1 ≤ y4 → ((y2 = y4 → (vp_in y2 64 ∧ (vp_in y2 64 ∧ (qX7_steps_162 post k55 k92 k118 y1 y2 y3 y4 (((zN 9) y2.toNatClampNeg) * (((zN 9) y2.toNatClampNeg) - (1 : Int32))) zN)))) ∧ (¬ y2 = y4 → (vp_in y2 64 ∧ (vp_in y4 64 ∧ (qX7_steps_162 post k55 k92 k118 y1 y2 y3 y4 (((zN 9) y2.toNatClampNeg) * ((zN 9) y4.toNatClampNeg)) zN))))))
def qX7_steps_118 (post : Int32 → ((CS)) → Prop)  (k55 : (Int32) → (Int32) → (CS) → Prop) (k92 : (Int32) → (Int32) → (Int32) → (CS) → Prop) (n : Nat) : (Int32) → (Int32) → (Int32) → (Int32) → (CS) → Prop :=
  Nat.rec (motive := fun _ => (Int32) → (Int32) → (Int32) → (Int32) → (CS) → Prop) (fun _ _ _ _ _ => False) (fun _ k => qX7_steps_118b post k55 k92 k) n
def qX7_steps_92b (post : Int32 → ((CS)) → Prop)  (k55 : (Int32) → (Int32) → (CS) → Prop) (k92 : (Int32) → (Int32) → (Int32) → (CS) → Prop) (y1 : Int32) (y2 : Int32) (y3 : Int32) (zN : CS) : Prop :=
  ((5 : Int32) ≤ y3 → (qX7_steps_196 post k55 y1 y2 zN)) ∧ (¬ (5 : Int32) ≤ y3 → (qX7_leads (fun r103 (u103 : Unit) => vp_in y2 64 ∧ (qX7_puts (fun (u112 : (CS)) => ∃ n : Nat, qX7_steps_118 post k55 k92 n y1 y2 y3 (0 : Int32) u112) r103 ((zN 9) y2.toNatClampNeg) zN)) y3 y2 y2 (1 : Int32) zN))
def qX7_steps_92 (post : Int32 → ((CS)) → Prop)  (k55 : (Int32) → (Int32) → (CS) → Prop) (n : Nat) : (Int32) → (Int32) → (Int32) → (CS) → Prop :=
  Nat.rec (motive := fun _ => (Int32) → (Int32) → (Int32) → (CS) → Prop) (fun _ _ _ _ => False) (fun _ k => qX7_steps_92b post k55 k) n
def qX7_steps_55b (post : Int32 → ((CS)) → Prop)   (k55 : (Int32) → (Int32) → (CS) → Prop) (y1 : Int32) (y2 : Int32) (zN : CS) : Prop :=
  (y1 ≤ y2 → (∃ n : Nat, qX7_steps_206 post n y1 (0 : Int32) (0 : Int32) zN)) ∧ (¬ y1 ≤ y2 → (vp_in y2 64 ∧ ((((zN 9) y2.toNatClampNeg) = (0 : Int32) → (qX7_steps_196 post k55 y1 y2 zN)) ∧ (¬ ((zN 9) y2.toNatClampNeg) = (0 : Int32) → (qX7_leads (fun r78 (u78 : Unit) => vp_in y2 64 ∧ (qX7_puts (fun (u87 : (CS)) => ∃ n : Nat, qX7_steps_92 post k55 n y1 y2 (3 : Int32) u87) r78 ((zN 9) y2.toNatClampNeg) zN)) (2 : Int32) y2 (0 : Int32) (1 : Int32) zN)))))
def qX7_steps_55 (post : Int32 → ((CS)) → Prop)   (n : Nat) : (Int32) → (Int32) → (CS) → Prop :=
  Nat.rec (motive := fun _ => (Int32) → (Int32) → (CS) → Prop) (fun _ _ _ => False) (fun _ k => qX7_steps_55b post k) n
def qX7_steps_9b (post : Int32 → ((CS)) → Prop)   (k9 : (Int32) → (Int32) → (CS) → Prop) (y1 : Int32) (y2 : Int32) (zN : CS) : Prop :=
  (y1 ≤ y2 → (qX7_leads (fun r33 (u33 : Unit) => qX7_puts (fun (u37 : (CS)) => qX7_leads (fun r46 (u46 : Unit) => qX7_puts (fun (u50 : (CS)) => ∃ n : Nat, qX7_steps_55 post n y1 (0 : Int32) u50) r46 (1 : Int32) u37) (1 : Int32) (0 : Int32) (0 : Int32) (1 : Int32) u37) r33 (1 : Int32) zN) (0 : Int32) (0 : Int32) (0 : Int32) (1 : Int32) zN)) ∧ (¬ y1 ≤ y2 → (vp_in y2 64 ∧ (k9 y1 (y2 + (1 : Int32)) (st zN 10 y2.toNatClampNeg (0 : Int32)))))
def qX7_steps_9 (post : Int32 → ((CS)) → Prop)   (n : Nat) : (Int32) → (Int32) → (CS) → Prop :=
  Nat.rec (motive := fun _ => (Int32) → (Int32) → (CS) → Prop) (fun _ _ _ => False) (fun _ k => qX7_steps_9b post k) n
def qX7_steps (post : Int32 → ((CS)) → Prop)  (zN : CS) : Prop :=
  ∃ n : Nat, qX7_steps_9 post n ((1 : Int32) <<< ((zN 11 1) &&& 31)) (0 : Int32) zN
def qX7_starts_2b (post : ((CS)) → Prop)   (k2 : (Int32) → (CS) → Prop) (y1 : Int32) (zN : CS) : Prop :=
  ((64 : Int32) ≤ y1 → (post (zN))) ∧ (¬ (64 : Int32) ≤ y1 → (vp_in y1 64 ∧ (k2 (y1 + (1 : Int32)) (st zN 9 y1.toNatClampNeg (0 : Int32)))))
def qX7_starts_2 (post : ((CS)) → Prop)   (n : Nat) : (Int32) → (CS) → Prop :=
  Nat.rec (motive := fun _ => (Int32) → (CS) → Prop) (fun _ _ => False) (fun _ k => qX7_starts_2b post k) n
def qX7_starts (post : ((CS)) → Prop)  (zN : CS) : Prop :=
  ∃ n : Nat, qX7_starts_2 post n (0 : Int32) zN
def qX7_counts_6b (post : ((CS)) → Prop)   (k6 : (Int32) → (CS) → Prop) (y1 : Int32) (zN : CS) : Prop :=
  (y1 = (0 : Int32) → (post (zN))) ∧ (¬ y1 = (0 : Int32) → (qX7_steps (fun r11 (u11 : (CS)) => k6 r11 u11) zN))
def qX7_counts_6 (post : ((CS)) → Prop)   (n : Nat) : (Int32) → (CS) → Prop :=
  Nat.rec (motive := fun _ => (Int32) → (CS) → Prop) (fun _ _ => False) (fun _ k => qX7_counts_6b post k) n
def qX7_counts (post : ((CS)) → Prop)  (zN : CS) : Prop :=
  qX7_starts (fun (u1 : (CS)) => ∃ n : Nat, qX7_counts_6 post n (1 : Int32) u1) zN
def qX7_treesOfSet (post : Int32 → ((CS)) → Prop) (x1 : Int32) (zN : CS) : Prop :=
  qX7_in (fun r10 (u10 : Unit) => (r10 = (0 : Int32) → (post (-1 : Int32) (zN))) ∧ (¬ r10 = (0 : Int32) → (qX7_counts (fun (u19 : (CS)) => vp_in x1 64 ∧ (post ((u19 9) x1.toNatClampNeg) (u19))) zN))) x1 (0 : Int32) (((1 : Int32) <<< ((zN 11 1) &&& 31)) - (1 : Int32))
def qX7_reachedSets_29 (post : Int32 → ((CS)) → Prop)  (k8 : (Int32) → (Int32) → (CS) → Prop) (y1 : Int32) (y2 : Int32) (w0 : Int32) (w1 : Int32) (zN : CS) : Prop :=
  k8 (w0 + w1) (y2 + (1 : Int32)) zN
def qX7_reachedSets_8b (post : Int32 → ((CS)) → Prop)   (k8 : (Int32) → (Int32) → (CS) → Prop) (y1 : Int32) (y2 : Int32) (zN : CS) : Prop :=
  ((64 : Int32) ≤ y2 → (post y1 (zN))) ∧ (¬ (64 : Int32) ≤ y2 → (vp_in y2 64 ∧ ((((zN 9) y2.toNatClampNeg) ≤ (0 : Int32) → (qX7_reachedSets_29 post k8 y1 y2 y1 (0 : Int32) zN)) ∧ (¬ ((zN 9) y2.toNatClampNeg) ≤ (0 : Int32) → (qX7_reachedSets_29 post k8 y1 y2 y1 (1 : Int32) zN)))))
def qX7_reachedSets_8 (post : Int32 → ((CS)) → Prop)   (n : Nat) : (Int32) → (Int32) → (CS) → Prop :=
  Nat.rec (motive := fun _ => (Int32) → (Int32) → (CS) → Prop) (fun _ _ _ => False) (fun _ k => qX7_reachedSets_8b post k) n
def qX7_reachedSets (post : Int32 → ((CS)) → Prop)  (zN : CS) : Prop :=
  qX7_counts (fun (u1 : (CS)) => ∃ n : Nat, qX7_reachedSets_8 post n (0 : Int32) (0 : Int32) u1) zN
def qX7_reached_29 (post : Int32 → ((CS)) → Prop)  (k8 : (Int32) → (Int32) → (CS) → Prop) (y1 : Int32) (y2 : Int32) (w0 : Int32) (w1 : Int32) (zN : CS) : Prop :=
  k8 (w0 ||| w1) (y2 + (1 : Int32)) zN
def qX7_reached_8b (post : Int32 → ((CS)) → Prop)   (k8 : (Int32) → (Int32) → (CS) → Prop) (y1 : Int32) (y2 : Int32) (zN : CS) : Prop :=
  ((64 : Int32) ≤ y2 → (post y1 (zN))) ∧ (¬ (64 : Int32) ≤ y2 → (vp_in y2 64 ∧ ((((zN 9) y2.toNatClampNeg) ≤ (0 : Int32) → (qX7_reached_29 post k8 y1 y2 y1 (0 : Int32) zN)) ∧ (¬ ((zN 9) y2.toNatClampNeg) ≤ (0 : Int32) → (qX7_reached_29 post k8 y1 y2 y1 y2 zN)))))
def qX7_reached_8 (post : Int32 → ((CS)) → Prop)   (n : Nat) : (Int32) → (Int32) → (CS) → Prop :=
  Nat.rec (motive := fun _ => (Int32) → (Int32) → (CS) → Prop) (fun _ _ _ => False) (fun _ k => qX7_reached_8b post k) n
def qX7_reached (post : Int32 → ((CS)) → Prop)  (zN : CS) : Prop :=
  qX7_counts (fun (u1 : (CS)) => ∃ n : Nat, qX7_reached_8 post n (0 : Int32) (0 : Int32) u1) zN
def qX7_isReachable (post : Int32 → ((CS)) → Prop) (x1 : Int32) (zN : CS) : Prop :=
  qX7_isState (fun r2 (u2 : Unit) => (r2 = (0 : Int32) → (post (-1 : Int32) (zN))) ∧ (¬ r2 = (0 : Int32) → (qX7_reached (fun r9 (u9 : (CS)) => qX7_has (fun r13 (u13 : Unit) => (r13 = (0 : Int32) → (post (0 : Int32) (u9))) ∧ (¬ r13 = (0 : Int32) → (post (1 : Int32) (u9)))) r9 x1) zN))) x1 zN
def qX7_isEmpty (post : Int32 → ((CS)) → Prop)  (zN : CS) : Prop :=
  qX7_reached (fun r1 (u1 : (CS)) => vp_in (81 : Int32) 82 ∧ (((r1 &&& ((u1 7) (81 : Int32).toNatClampNeg)) = (0 : Int32) → (post (1 : Int32) (u1))) ∧ (¬ (r1 &&& ((u1 7) (81 : Int32).toNatClampNeg)) = (0 : Int32) → (post (0 : Int32) (u1))))) zN
def qX7_isUniversal_44 (post : Int32 → ((CS)) → Prop)  (k8 : (Int32) → (Int32) → (CS) → Prop) (y1 : Int32) (y2 : Int32) (w0 : Int32) (zN : CS) : Prop :=
  k8 w0 (y2 + (1 : Int32)) zN
def qX7_isUniversal_43 (post : Int32 → ((CS)) → Prop)  (k8 : (Int32) → (Int32) → (CS) → Prop) (y1 : Int32) (y2 : Int32) (zN : CS) : Prop :=
  qX7_isUniversal_44 post k8 y1 y2 (0 : Int32) zN
def qX7_isUniversal_39 (post : Int32 → ((CS)) → Prop)  (k8 : (Int32) → (Int32) → (CS) → Prop) (y1 : Int32) (y2 : Int32) (zN : CS) : Prop :=
  qX7_isUniversal_44 post k8 y1 y2 (1 : Int32) zN
def qX7_isUniversal_8b (post : Int32 → ((CS)) → Prop)   (k8 : (Int32) → (Int32) → (CS) → Prop) (y1 : Int32) (y2 : Int32) (zN : CS) : Prop :=
  ((64 : Int32) ≤ y2 → ((y1 = (0 : Int32) → (post (0 : Int32) (zN))) ∧ (¬ y1 = (0 : Int32) → (post (1 : Int32) (zN))))) ∧ (¬ (64 : Int32) ≤ y2 → ((y1 = (0 : Int32) → (qX7_isUniversal_43 post k8 y1 y2 zN)) ∧ (¬ y1 = (0 : Int32) → (vp_in y2 64 ∧ ((((zN 9) y2.toNatClampNeg) = (0 : Int32) → (qX7_isUniversal_39 post k8 y1 y2 zN)) ∧ (¬ ((zN 9) y2.toNatClampNeg) = (0 : Int32) → (vp_in (81 : Int32) 82 ∧ (((y2 &&& ((zN 7) (81 : Int32).toNatClampNeg)) = (0 : Int32) → (qX7_isUniversal_43 post k8 y1 y2 zN)) ∧ (¬ (y2 &&& ((zN 7) (81 : Int32).toNatClampNeg)) = (0 : Int32) → (qX7_isUniversal_39 post k8 y1 y2 zN))))))))))
def qX7_isUniversal_8 (post : Int32 → ((CS)) → Prop)   (n : Nat) : (Int32) → (Int32) → (CS) → Prop :=
  Nat.rec (motive := fun _ => (Int32) → (Int32) → (CS) → Prop) (fun _ _ _ => False) (fun _ k => qX7_isUniversal_8b post k) n
def qX7_isUniversal (post : Int32 → ((CS)) → Prop)  (zN : CS) : Prop :=
  qX7_counts (fun (u1 : (CS)) => ∃ n : Nat, qX7_isUniversal_8 post n (1 : Int32) (0 : Int32) u1) zN
def qX7_isComplete (post : Int32 → ((CS)) → Prop)  (zN : CS) : Prop :=
  qX7_counts (fun (u1 : (CS)) => vp_in (0 : Int32) 64 ∧ ((((u1 9) (0 : Int32).toNatClampNeg) = (0 : Int32) → (post (1 : Int32) (u1))) ∧ (¬ ((u1 9) (0 : Int32).toNatClampNeg) = (0 : Int32) → (post (0 : Int32) (u1))))) zN
def qX7_isDeterministic_40 (post : Int32 → ((CS)) → Prop)  (k8 : (Int32) → (Int32) → (CS) → Prop) (y1 : Int32) (y2 : Int32) (w0 : Int32) (zN : CS) : Prop :=
  k8 w0 (y2 + (1 : Int32)) zN
def qX7_isDeterministic_39 (post : Int32 → ((CS)) → Prop)  (k8 : (Int32) → (Int32) → (CS) → Prop) (y1 : Int32) (y2 : Int32) (zN : CS) : Prop :=
  qX7_isDeterministic_40 post k8 y1 y2 (0 : Int32) zN
def qX7_isDeterministic_35 (post : Int32 → ((CS)) → Prop)  (k8 : (Int32) → (Int32) → (CS) → Prop) (y1 : Int32) (y2 : Int32) (zN : CS) : Prop :=
  qX7_isDeterministic_40 post k8 y1 y2 (1 : Int32) zN
def qX7_isDeterministic_8b (post : Int32 → ((CS)) → Prop)   (k8 : (Int32) → (Int32) → (CS) → Prop) (y1 : Int32) (y2 : Int32) (zN : CS) : Prop :=
  ((64 : Int32) ≤ y2 → ((y1 = (0 : Int32) → (post (0 : Int32) (zN))) ∧ (¬ y1 = (0 : Int32) → (post (1 : Int32) (zN))))) ∧ (¬ (64 : Int32) ≤ y2 → ((y1 = (0 : Int32) → (qX7_isDeterministic_39 post k8 y1 y2 zN)) ∧ (¬ y1 = (0 : Int32) → (vp_in y2 64 ∧ ((((zN 9) y2.toNatClampNeg) = (0 : Int32) → (qX7_isDeterministic_35 post k8 y1 y2 zN)) ∧ (¬ ((zN 9) y2.toNatClampNeg) = (0 : Int32) → (((y2 &&& (y2 - (1 : Int32))) = (0 : Int32) → (qX7_isDeterministic_35 post k8 y1 y2 zN)) ∧ (¬ (y2 &&& (y2 - (1 : Int32))) = (0 : Int32) → (qX7_isDeterministic_39 post k8 y1 y2 zN)))))))))
def qX7_isDeterministic_8 (post : Int32 → ((CS)) → Prop)   (n : Nat) : (Int32) → (Int32) → (CS) → Prop :=
  Nat.rec (motive := fun _ => (Int32) → (Int32) → (CS) → Prop) (fun _ _ _ => False) (fun _ k => qX7_isDeterministic_8b post k) n
def qX7_isDeterministic (post : Int32 → ((CS)) → Prop)  (zN : CS) : Prop :=
  qX7_counts (fun (u1 : (CS)) => ∃ n : Nat, qX7_isDeterministic_8 post n (1 : Int32) (0 : Int32) u1) zN
def qX7_leastHeight_48 (post : Int32 → ((CS)) → Prop)  (k8 : (Int32) → (Int32) → (CS) → Prop) (k19 : (Int32) → (Int32) → (Int32) → (CS) → Prop) (y1 : Int32) (y2 : Int32) (y3 : Int32) (zN : CS) : Prop :=
  k19 y1 y2 (y3 + (1 : Int32)) zN
def qX7_leastHeight_19b (post : Int32 → ((CS)) → Prop)  (k8 : (Int32) → (Int32) → (CS) → Prop) (k19 : (Int32) → (Int32) → (Int32) → (CS) → Prop) (y1 : Int32) (y2 : Int32) (y3 : Int32) (zN : CS) : Prop :=
  ((64 : Int32) ≤ y3 → (k8 (y1 + (1 : Int32)) y2 zN)) ∧ (¬ (64 : Int32) ≤ y3 → (vp_in y3 64 ∧ ((((zN 9) y3.toNatClampNeg) ≤ (0 : Int32) → (qX7_leastHeight_48 post k8 k19 y1 y2 y3 zN)) ∧ (¬ ((zN 9) y3.toNatClampNeg) ≤ (0 : Int32) → (vp_in (81 : Int32) 82 ∧ (((y3 &&& ((zN 7) (81 : Int32).toNatClampNeg)) = (0 : Int32) → (qX7_leastHeight_48 post k8 k19 y1 y2 y3 zN)) ∧ (¬ (y3 &&& ((zN 7) (81 : Int32).toNatClampNeg)) = (0 : Int32) → (post y1 (zN)))))))))
def qX7_leastHeight_19 (post : Int32 → ((CS)) → Prop)  (k8 : (Int32) → (Int32) → (CS) → Prop) (n : Nat) : (Int32) → (Int32) → (Int32) → (CS) → Prop :=
  Nat.rec (motive := fun _ => (Int32) → (Int32) → (Int32) → (CS) → Prop) (fun _ _ _ _ => False) (fun _ k => qX7_leastHeight_19b post k8 k) n
def qX7_leastHeight_8b (post : Int32 → ((CS)) → Prop)   (k8 : (Int32) → (Int32) → (CS) → Prop) (y1 : Int32) (y2 : Int32) (zN : CS) : Prop :=
  (y2 = (0 : Int32) → (post (-3 : Int32) (zN))) ∧ (¬ y2 = (0 : Int32) → (qX7_steps (fun r13 (u13 : (CS)) => ∃ n : Nat, qX7_leastHeight_19 post k8 n y1 r13 (0 : Int32) u13) zN))
def qX7_leastHeight_8 (post : Int32 → ((CS)) → Prop)   (n : Nat) : (Int32) → (Int32) → (CS) → Prop :=
  Nat.rec (motive := fun _ => (Int32) → (Int32) → (CS) → Prop) (fun _ _ _ => False) (fun _ k => qX7_leastHeight_8b post k) n
def qX7_leastHeight (post : Int32 → ((CS)) → Prop)  (zN : CS) : Prop :=
  qX7_starts (fun (u1 : (CS)) => ∃ n : Nat, qX7_leastHeight_8 post n (0 : Int32) (1 : Int32) u1) zN
end
section
theorem dJ7_fill_53178_0 : decode cJ7_fill_53178 0 = .ok (.iconst 0, 1) := by decide +kernel
theorem dJ7_fill_53178_1 : decode cJ7_fill_53178 1 = .ok (.istore_n 2, 1) := by decide +kernel
theorem dJ7_fill_53178_2 : decode cJ7_fill_53178 2 = .ok (.aload_n 0, 1) := by decide +kernel
theorem dJ7_fill_53178_3 : decode cJ7_fill_53178 3 = .ok (.arraylength, 1) := by decide +kernel
theorem dJ7_fill_53178_4 : decode cJ7_fill_53178 4 = .ok (.istore_n 3, 1) := by decide +kernel
theorem dJ7_fill_53178_5 : decode cJ7_fill_53178 5 = .ok (.iload_n 2, 1) := by decide +kernel
theorem dJ7_fill_53178_6 : decode cJ7_fill_53178 6 = .ok (.iload_n 3, 1) := by decide +kernel
theorem dJ7_fill_53178_7 : decode cJ7_fill_53178 7 = .ok (.if_icmp .ge 13, 3) := by decide +kernel
theorem dJ7_fill_53178_10 : decode cJ7_fill_53178 10 = .ok (.aload_n 0, 1) := by decide +kernel
theorem dJ7_fill_53178_11 : decode cJ7_fill_53178 11 = .ok (.iload_n 2, 1) := by decide +kernel
theorem dJ7_fill_53178_12 : decode cJ7_fill_53178 12 = .ok (.iload_n 1, 1) := by decide +kernel
theorem dJ7_fill_53178_13 : decode cJ7_fill_53178 13 = .ok (.iastore, 1) := by decide +kernel
theorem dJ7_fill_53178_14 : decode cJ7_fill_53178 14 = .ok (.iinc 2 1, 3) := by decide +kernel
theorem dJ7_fill_53178_17 : decode cJ7_fill_53178 17 = .ok (.goto (-12), 3) := by decide +kernel
theorem dJ7_fill_53178_20 : decode cJ7_fill_53178 20 = .ok (.return_, 1) := by decide +kernel
abbrev w_J7_fill_53178 (cI cO : ClassId) (ra : Nat) (fn : Nat)  : ((Nat → Int32)) → va_W := fun u => ([(ra, .inl (cI, fn, .inl u))])
set_option maxRecDepth 100000 in
set_option maxHeartbeats 8000000 in
theorem mJ7_fill_53178 (l : Launch) (D : va_G) (cI cO : ClassId) (tA tS : Nat) (ra : Nat) (fn : Nat) (zF : Nat → Int32) (x1 : Int32) (sz : Nat) {post : ((Nat → Int32)) → Prop} (h : qJ7_fill_53178 post fn x1 zF) : Met l yJ7_fill_53178 wsJ7_fill_53178 ({ frames := 0, cells := 0, slots := 0, locals := 0 } : Room) (xPre D cI cO tA tS [.ref ra, .int x1] ([(ra, .inl (cI, fn, .inl zF))]) sz) (va_Qv post (xB D cI cO (va_A ([(ra, .inl (cI, fn, .inl zF))]) sz) (w_J7_fill_53178 cI cO ra fn)) (va_A ([(ra, .inl (cI, fn, .inl zF))]) sz)) 0 0 (va_A ([(ra, .inl (cI, fn, .inl zF))]) sz) := by
  refine xMet D cI cO tA tS (fun A => va_Qv post (xB D cI cO A (w_J7_fill_53178 cI cO ra fn)) A) (cc := cJ7_fill_53178) (maxL := 4) (ret := none) (by decide) rfl (Nat.le_of_ble_eq_true rfl) ?_
  intro p e s m below meth c A ls hx hb hr hts hown hlocks hin hml hA hS hP hK hD hE hl
  have hown : s.vm.findClass RJ7 = some m.cls := hown
  have hl : lv_has ls 4 [(0, .ref ra), (1, .int x1)] := hl
  have g5 : ∀ (n : Nat) (y2 : Int32) (y3 : Int32) (zF : Nat → Int32) (H : Heap) (locs : List Loc) (ls : Array Slot), qJ7_fill_53178_5 post fn x1 n y2 y3 zF → va_P D vwCl ([(ra, .inl (cI, fn, .inl zF))]) H → va_D A ([(ra, .inl (cI, fn, .inl zF))]) → va_S A s.heap H locs → lv_has ls 4 [(3, .int y3), (2, .int y2), (0, .ref ra), (1, .int x1)] → W p l e ({ frames := 0, cells := 0, slots := 0, locals := 0 } : Room) s m ([.ref ra, .int x1] : List Value).toArray below meth c H locs 0 0 (MQ below (va_Qv post (xB D cI cO A (w_J7_fill_53178 cI cO ra fn)) A) ([.ref ra, .int x1] : List Value).toArray s 0 0 A) (F0 m 5 ls []) := by
    intro n
    induction n with
    | zero => intro y2 y3 zF H locs ls h; exact False.elim h
    | succ n hk5 =>
      intro y2 y3 zF H locs ls h hP hD hS hl
      have h : qJ7_fill_53178_5b post fn x1 (qJ7_fill_53178_5 post fn x1 n) y2 y3 zF := h
      refine lv_iload_n hx hb dJ7_fill_53178_5 rfl (lv_at hl 1 rfl) ?_
      refine lv_iload_n hx hb dJ7_fill_53178_6 rfl (lv_at hl 0 rfl) ?_
      obtain ⟨hh1, hh2⟩ := h
      refine lv_icmp_ge (tgt := 20) hx hb dJ7_fill_53178_7 (by decide) (fun hc => ?_) (fun hc => ?_)
      · have h := hh1 hc
        exact xvret (w := (w_J7_fill_53178 cI cO ra fn)) (zF) hx hb hr hlocks h hP hK hD hS dJ7_fill_53178_20
      · have h := hh2 hc
        refine lv_aload_n hx hb dJ7_fill_53178_10 rfl (lv_at hl 2 rfl) ?_
        refine lv_iload_n hx hb dJ7_fill_53178_11 rfl (lv_at hl 1 rfl) ?_
        refine lv_iload_n hx hb dJ7_fill_53178_12 rfl (lv_at hl 3 rfl) ?_
        obtain ⟨hi, h⟩ := h
        refine va_iast hx hb hK hP hD hS 0 0 rfl rfl hi dJ7_fill_53178_13 (fun H locs hP hD hS => ?_)
        have hP : va_P D vwCl ([(ra, .inl (cI, fn, .inl (upd zF y2.toNatClampNeg x1)))]) H := hP
        have hD : va_D A ([(ra, .inl (cI, fn, .inl (upd zF y2.toNatClampNeg x1)))]) := hD
        refine lv_iinc (v := (y2 + (1 : Int32))) (lv' := [(2, .int (y2 + (1 : Int32))), (3, .int y3), (0, .ref ra), (1, .int x1)]) hx hb dJ7_fill_53178_14 hl (k := 1) rfl rfl (by decide) rfl (fun ls hl => ?_)
        refine lv_goto (tgt := 5) hx hb dJ7_fill_53178_17 (by decide) ?_
        exact hk5 (y2 + (1 : Int32)) y3 (upd zF y2.toNatClampNeg x1) _ _ _ h hP hD hS (lv_sub hl [1, 0, 2, 3] rfl)
  refine lv_iconst (v := 0) hx hb dJ7_fill_53178_0 (by decide) ?_
  refine lv_istore_n (lv' := [(2, .int (0 : Int32)), (0, .ref ra), (1, .int x1)]) hx hb dJ7_fill_53178_1 rfl hl (by decide) rfl (fun ls hl => ?_)
  refine lv_aload_n hx hb dJ7_fill_53178_2 rfl (lv_at hl 1 rfl) ?_
  refine va_alen hx hb hK hP 0 0 rfl rfl rfl dJ7_fill_53178_3 ?_
  refine lv_istore_n (lv' := [(3, .int (Int32.ofNat fn)), (2, .int (0 : Int32)), (0, .ref ra), (1, .int x1)]) hx hb dJ7_fill_53178_4 rfl hl (by decide) rfl (fun ls hl => ?_)
  obtain ⟨n0, h⟩ := h
  exact g5 n0 (0 : Int32) (Int32.ofNat fn) zF _ _ _ h hP hD hS hl
theorem dJ6_bitCount_0f7a4_0 : decode cJ6_bitCount_0f7a4 0 = .ok (.iload_n 0, 1) := by decide +kernel
theorem dJ6_bitCount_0f7a4_1 : decode cJ6_bitCount_0f7a4 1 = .ok (.iload_n 0, 1) := by decide +kernel
theorem dJ6_bitCount_0f7a4_2 : decode cJ6_bitCount_0f7a4 2 = .ok (.iconst 1, 1) := by decide +kernel
theorem dJ6_bitCount_0f7a4_3 : decode cJ6_bitCount_0f7a4 3 = .ok (.iushr, 1) := by decide +kernel
theorem dJ6_bitCount_0f7a4_4 : decode cJ6_bitCount_0f7a4 4 = .ok (.ldc_w 265, 3) := by decide +kernel
theorem dJ6_bitCount_0f7a4_7 : decode cJ6_bitCount_0f7a4 7 = .ok (.iand, 1) := by decide +kernel
theorem dJ6_bitCount_0f7a4_8 : decode cJ6_bitCount_0f7a4 8 = .ok (.isub, 1) := by decide +kernel
theorem dJ6_bitCount_0f7a4_9 : decode cJ6_bitCount_0f7a4 9 = .ok (.istore_n 0, 1) := by decide +kernel
theorem dJ6_bitCount_0f7a4_10 : decode cJ6_bitCount_0f7a4 10 = .ok (.iload_n 0, 1) := by decide +kernel
theorem dJ6_bitCount_0f7a4_11 : decode cJ6_bitCount_0f7a4 11 = .ok (.ldc_w 266, 3) := by decide +kernel
theorem dJ6_bitCount_0f7a4_14 : decode cJ6_bitCount_0f7a4 14 = .ok (.iand, 1) := by decide +kernel
theorem dJ6_bitCount_0f7a4_15 : decode cJ6_bitCount_0f7a4 15 = .ok (.iload_n 0, 1) := by decide +kernel
theorem dJ6_bitCount_0f7a4_16 : decode cJ6_bitCount_0f7a4 16 = .ok (.iconst 2, 1) := by decide +kernel
theorem dJ6_bitCount_0f7a4_17 : decode cJ6_bitCount_0f7a4 17 = .ok (.iushr, 1) := by decide +kernel
theorem dJ6_bitCount_0f7a4_18 : decode cJ6_bitCount_0f7a4 18 = .ok (.ldc_w 266, 3) := by decide +kernel
theorem dJ6_bitCount_0f7a4_21 : decode cJ6_bitCount_0f7a4 21 = .ok (.iand, 1) := by decide +kernel
theorem dJ6_bitCount_0f7a4_22 : decode cJ6_bitCount_0f7a4 22 = .ok (.iadd, 1) := by decide +kernel
theorem dJ6_bitCount_0f7a4_23 : decode cJ6_bitCount_0f7a4 23 = .ok (.istore_n 0, 1) := by decide +kernel
theorem dJ6_bitCount_0f7a4_24 : decode cJ6_bitCount_0f7a4 24 = .ok (.iload_n 0, 1) := by decide +kernel
theorem dJ6_bitCount_0f7a4_25 : decode cJ6_bitCount_0f7a4 25 = .ok (.iload_n 0, 1) := by decide +kernel
theorem dJ6_bitCount_0f7a4_26 : decode cJ6_bitCount_0f7a4 26 = .ok (.iconst 4, 1) := by decide +kernel
theorem dJ6_bitCount_0f7a4_27 : decode cJ6_bitCount_0f7a4 27 = .ok (.iushr, 1) := by decide +kernel
theorem dJ6_bitCount_0f7a4_28 : decode cJ6_bitCount_0f7a4 28 = .ok (.iadd, 1) := by decide +kernel
theorem dJ6_bitCount_0f7a4_29 : decode cJ6_bitCount_0f7a4 29 = .ok (.ldc_w 267, 3) := by decide +kernel
theorem dJ6_bitCount_0f7a4_32 : decode cJ6_bitCount_0f7a4 32 = .ok (.iand, 1) := by decide +kernel
theorem dJ6_bitCount_0f7a4_33 : decode cJ6_bitCount_0f7a4 33 = .ok (.istore_n 0, 1) := by decide +kernel
theorem dJ6_bitCount_0f7a4_34 : decode cJ6_bitCount_0f7a4 34 = .ok (.iload_n 0, 1) := by decide +kernel
theorem dJ6_bitCount_0f7a4_35 : decode cJ6_bitCount_0f7a4 35 = .ok (.iload_n 0, 1) := by decide +kernel
theorem dJ6_bitCount_0f7a4_36 : decode cJ6_bitCount_0f7a4 36 = .ok (.bipush 8, 2) := by decide +kernel
theorem dJ6_bitCount_0f7a4_38 : decode cJ6_bitCount_0f7a4 38 = .ok (.iushr, 1) := by decide +kernel
theorem dJ6_bitCount_0f7a4_39 : decode cJ6_bitCount_0f7a4 39 = .ok (.iadd, 1) := by decide +kernel
theorem dJ6_bitCount_0f7a4_40 : decode cJ6_bitCount_0f7a4 40 = .ok (.istore_n 0, 1) := by decide +kernel
theorem dJ6_bitCount_0f7a4_41 : decode cJ6_bitCount_0f7a4 41 = .ok (.iload_n 0, 1) := by decide +kernel
theorem dJ6_bitCount_0f7a4_42 : decode cJ6_bitCount_0f7a4 42 = .ok (.iload_n 0, 1) := by decide +kernel
theorem dJ6_bitCount_0f7a4_43 : decode cJ6_bitCount_0f7a4 43 = .ok (.bipush 16, 2) := by decide +kernel
theorem dJ6_bitCount_0f7a4_45 : decode cJ6_bitCount_0f7a4 45 = .ok (.iushr, 1) := by decide +kernel
theorem dJ6_bitCount_0f7a4_46 : decode cJ6_bitCount_0f7a4 46 = .ok (.iadd, 1) := by decide +kernel
theorem dJ6_bitCount_0f7a4_47 : decode cJ6_bitCount_0f7a4 47 = .ok (.istore_n 0, 1) := by decide +kernel
theorem dJ6_bitCount_0f7a4_48 : decode cJ6_bitCount_0f7a4 48 = .ok (.iload_n 0, 1) := by decide +kernel
theorem dJ6_bitCount_0f7a4_49 : decode cJ6_bitCount_0f7a4 49 = .ok (.bipush 63, 2) := by decide +kernel
theorem dJ6_bitCount_0f7a4_51 : decode cJ6_bitCount_0f7a4 51 = .ok (.iand, 1) := by decide +kernel
theorem dJ6_bitCount_0f7a4_52 : decode cJ6_bitCount_0f7a4 52 = .ok (.ireturn, 1) := by decide +kernel
abbrev w_J6_bitCount_0f7a4 (cI cO : ClassId)   : (Unit) → va_W := fun u => ([] : va_W)
set_option maxRecDepth 100000 in
set_option maxHeartbeats 8000000 in
theorem mJ6_bitCount_0f7a4 (l : Launch) (D : va_G) (cI cO : ClassId) (tA tS : Nat)   (x0 : Int32) (sz : Nat) {post : Int32 → (Unit) → Prop} (h : qJ6_bitCount_0f7a4 post x0) : Met l yJ6_bitCount_0f7a4 wsJ6_bitCount_0f7a4 ({ frames := 0, cells := 0, slots := 0, locals := 0 } : Room) (xPre D cI cO tA tS [.int x0] ([] : va_W) sz) (va_Qi post (xB D cI cO (va_A ([] : va_W) sz) (w_J6_bitCount_0f7a4 cI cO)) (va_A ([] : va_W) sz)) 0 0 (va_A ([] : va_W) sz) := by
  refine xMet D cI cO tA tS (fun A => va_Qi post (xB D cI cO A (w_J6_bitCount_0f7a4 cI cO)) A) (cc := cJ6_bitCount_0f7a4) (maxL := 1) (ret := (some .int)) (by decide) rfl (Nat.le_of_ble_eq_true rfl) ?_
  intro p e s m below meth c A ls hx hb hr hts hown hlocks hin hml hA hS hP hK hD hE hl
  have hown : s.vm.findClass RJ6 = some m.cls := hown
  have hl : lv_has ls 1 [(0, .int x0)] := hl
  refine lv_iload_n hx hb dJ6_bitCount_0f7a4_0 rfl (lv_at hl 0 rfl) ?_
  refine lv_iload_n hx hb dJ6_bitCount_0f7a4_1 rfl (lv_at hl 0 rfl) ?_
  refine lv_iconst (v := 1) hx hb dJ6_bitCount_0f7a4_2 (by decide) ?_
  refine lv_iushr (v := (x0.toUInt32 >>> ((1 : Int32).toUInt32 &&& Int32.toUInt32 31)).toInt32) hx hb dJ6_bitCount_0f7a4_3 rfl ?_
  refine lv_ldcw (v := 1431655765) hx hb hown (hts (.constant RJ6 265 (1431655765)) (List.mem_of_getElem? (i := 1) rfl)) dJ6_bitCount_0f7a4_4 ?_
  refine lv_iand hx hb dJ6_bitCount_0f7a4_7 ?_
  refine lv_isub hx hb dJ6_bitCount_0f7a4_8 ?_
  refine lv_istore_n (lv' := [(0, .int (x0 - (((x0.toUInt32 >>> ((1 : Int32).toUInt32 &&& Int32.toUInt32 31)).toInt32) &&& (1431655765 : Int32))))]) hx hb dJ6_bitCount_0f7a4_9 rfl hl (by decide) rfl (fun ls hl => ?_)
  refine lv_iload_n hx hb dJ6_bitCount_0f7a4_10 rfl (lv_at hl 0 rfl) ?_
  refine lv_ldcw (v := 858993459) hx hb hown (hts (.constant RJ6 266 (858993459)) (List.mem_of_getElem? (i := 2) rfl)) dJ6_bitCount_0f7a4_11 ?_
  refine lv_iand hx hb dJ6_bitCount_0f7a4_14 ?_
  refine lv_iload_n hx hb dJ6_bitCount_0f7a4_15 rfl (lv_at hl 0 rfl) ?_
  refine lv_iconst (v := 2) hx hb dJ6_bitCount_0f7a4_16 (by decide) ?_
  refine lv_iushr (v := ((x0 - (((x0.toUInt32 >>> ((1 : Int32).toUInt32 &&& Int32.toUInt32 31)).toInt32) &&& (1431655765 : Int32))).toUInt32 >>> ((2 : Int32).toUInt32 &&& Int32.toUInt32 31)).toInt32) hx hb dJ6_bitCount_0f7a4_17 rfl ?_
  refine lv_ldcw (v := 858993459) hx hb hown (hts (.constant RJ6 266 (858993459)) (List.mem_of_getElem? (i := 2) rfl)) dJ6_bitCount_0f7a4_18 ?_
  refine lv_iand hx hb dJ6_bitCount_0f7a4_21 ?_
  refine lv_iadd hx hb dJ6_bitCount_0f7a4_22 ?_
  refine lv_istore_n (lv' := [(0, .int (((x0 - (((x0.toUInt32 >>> ((1 : Int32).toUInt32 &&& Int32.toUInt32 31)).toInt32) &&& (1431655765 : Int32))) &&& (858993459 : Int32)) + ((((x0 - (((x0.toUInt32 >>> ((1 : Int32).toUInt32 &&& Int32.toUInt32 31)).toInt32) &&& (1431655765 : Int32))).toUInt32 >>> ((2 : Int32).toUInt32 &&& Int32.toUInt32 31)).toInt32) &&& (858993459 : Int32))))]) hx hb dJ6_bitCount_0f7a4_23 rfl hl (by decide) rfl (fun ls hl => ?_)
  refine lv_iload_n hx hb dJ6_bitCount_0f7a4_24 rfl (lv_at hl 0 rfl) ?_
  refine lv_iload_n hx hb dJ6_bitCount_0f7a4_25 rfl (lv_at hl 0 rfl) ?_
  refine lv_iconst (v := 4) hx hb dJ6_bitCount_0f7a4_26 (by decide) ?_
  refine lv_iushr (v := ((((x0 - (((x0.toUInt32 >>> ((1 : Int32).toUInt32 &&& Int32.toUInt32 31)).toInt32) &&& (1431655765 : Int32))) &&& (858993459 : Int32)) + ((((x0 - (((x0.toUInt32 >>> ((1 : Int32).toUInt32 &&& Int32.toUInt32 31)).toInt32) &&& (1431655765 : Int32))).toUInt32 >>> ((2 : Int32).toUInt32 &&& Int32.toUInt32 31)).toInt32) &&& (858993459 : Int32))).toUInt32 >>> ((4 : Int32).toUInt32 &&& Int32.toUInt32 31)).toInt32) hx hb dJ6_bitCount_0f7a4_27 rfl ?_
  refine lv_iadd hx hb dJ6_bitCount_0f7a4_28 ?_
  refine lv_ldcw (v := 252645135) hx hb hown (hts (.constant RJ6 267 (252645135)) (List.mem_of_getElem? (i := 3) rfl)) dJ6_bitCount_0f7a4_29 ?_
  refine lv_iand hx hb dJ6_bitCount_0f7a4_32 ?_
  refine lv_istore_n (lv' := [(0, .int (((((x0 - (((x0.toUInt32 >>> ((1 : Int32).toUInt32 &&& Int32.toUInt32 31)).toInt32) &&& (1431655765 : Int32))) &&& (858993459 : Int32)) + ((((x0 - (((x0.toUInt32 >>> ((1 : Int32).toUInt32 &&& Int32.toUInt32 31)).toInt32) &&& (1431655765 : Int32))).toUInt32 >>> ((2 : Int32).toUInt32 &&& Int32.toUInt32 31)).toInt32) &&& (858993459 : Int32))) + (((((x0 - (((x0.toUInt32 >>> ((1 : Int32).toUInt32 &&& Int32.toUInt32 31)).toInt32) &&& (1431655765 : Int32))) &&& (858993459 : Int32)) + ((((x0 - (((x0.toUInt32 >>> ((1 : Int32).toUInt32 &&& Int32.toUInt32 31)).toInt32) &&& (1431655765 : Int32))).toUInt32 >>> ((2 : Int32).toUInt32 &&& Int32.toUInt32 31)).toInt32) &&& (858993459 : Int32))).toUInt32 >>> ((4 : Int32).toUInt32 &&& Int32.toUInt32 31)).toInt32)) &&& (252645135 : Int32)))]) hx hb dJ6_bitCount_0f7a4_33 rfl hl (by decide) rfl (fun ls hl => ?_)
  refine lv_iload_n hx hb dJ6_bitCount_0f7a4_34 rfl (lv_at hl 0 rfl) ?_
  refine lv_iload_n hx hb dJ6_bitCount_0f7a4_35 rfl (lv_at hl 0 rfl) ?_
  refine lv_bipush (v := 8) hx hb dJ6_bitCount_0f7a4_36 (by decide) ?_
  refine lv_iushr (v := ((((((x0 - (((x0.toUInt32 >>> ((1 : Int32).toUInt32 &&& Int32.toUInt32 31)).toInt32) &&& (1431655765 : Int32))) &&& (858993459 : Int32)) + ((((x0 - (((x0.toUInt32 >>> ((1 : Int32).toUInt32 &&& Int32.toUInt32 31)).toInt32) &&& (1431655765 : Int32))).toUInt32 >>> ((2 : Int32).toUInt32 &&& Int32.toUInt32 31)).toInt32) &&& (858993459 : Int32))) + (((((x0 - (((x0.toUInt32 >>> ((1 : Int32).toUInt32 &&& Int32.toUInt32 31)).toInt32) &&& (1431655765 : Int32))) &&& (858993459 : Int32)) + ((((x0 - (((x0.toUInt32 >>> ((1 : Int32).toUInt32 &&& Int32.toUInt32 31)).toInt32) &&& (1431655765 : Int32))).toUInt32 >>> ((2 : Int32).toUInt32 &&& Int32.toUInt32 31)).toInt32) &&& (858993459 : Int32))).toUInt32 >>> ((4 : Int32).toUInt32 &&& Int32.toUInt32 31)).toInt32)) &&& (252645135 : Int32)).toUInt32 >>> ((8 : Int32).toUInt32 &&& Int32.toUInt32 31)).toInt32) hx hb dJ6_bitCount_0f7a4_38 rfl ?_
  refine lv_iadd hx hb dJ6_bitCount_0f7a4_39 ?_
  refine lv_istore_n (lv' := [(0, .int ((((((x0 - (((x0.toUInt32 >>> ((1 : Int32).toUInt32 &&& Int32.toUInt32 31)).toInt32) &&& (1431655765 : Int32))) &&& (858993459 : Int32)) + ((((x0 - (((x0.toUInt32 >>> ((1 : Int32).toUInt32 &&& Int32.toUInt32 31)).toInt32) &&& (1431655765 : Int32))).toUInt32 >>> ((2 : Int32).toUInt32 &&& Int32.toUInt32 31)).toInt32) &&& (858993459 : Int32))) + (((((x0 - (((x0.toUInt32 >>> ((1 : Int32).toUInt32 &&& Int32.toUInt32 31)).toInt32) &&& (1431655765 : Int32))) &&& (858993459 : Int32)) + ((((x0 - (((x0.toUInt32 >>> ((1 : Int32).toUInt32 &&& Int32.toUInt32 31)).toInt32) &&& (1431655765 : Int32))).toUInt32 >>> ((2 : Int32).toUInt32 &&& Int32.toUInt32 31)).toInt32) &&& (858993459 : Int32))).toUInt32 >>> ((4 : Int32).toUInt32 &&& Int32.toUInt32 31)).toInt32)) &&& (252645135 : Int32)) + (((((((x0 - (((x0.toUInt32 >>> ((1 : Int32).toUInt32 &&& Int32.toUInt32 31)).toInt32) &&& (1431655765 : Int32))) &&& (858993459 : Int32)) + ((((x0 - (((x0.toUInt32 >>> ((1 : Int32).toUInt32 &&& Int32.toUInt32 31)).toInt32) &&& (1431655765 : Int32))).toUInt32 >>> ((2 : Int32).toUInt32 &&& Int32.toUInt32 31)).toInt32) &&& (858993459 : Int32))) + (((((x0 - (((x0.toUInt32 >>> ((1 : Int32).toUInt32 &&& Int32.toUInt32 31)).toInt32) &&& (1431655765 : Int32))) &&& (858993459 : Int32)) + ((((x0 - (((x0.toUInt32 >>> ((1 : Int32).toUInt32 &&& Int32.toUInt32 31)).toInt32) &&& (1431655765 : Int32))).toUInt32 >>> ((2 : Int32).toUInt32 &&& Int32.toUInt32 31)).toInt32) &&& (858993459 : Int32))).toUInt32 >>> ((4 : Int32).toUInt32 &&& Int32.toUInt32 31)).toInt32)) &&& (252645135 : Int32)).toUInt32 >>> ((8 : Int32).toUInt32 &&& Int32.toUInt32 31)).toInt32)))]) hx hb dJ6_bitCount_0f7a4_40 rfl hl (by decide) rfl (fun ls hl => ?_)
  refine lv_iload_n hx hb dJ6_bitCount_0f7a4_41 rfl (lv_at hl 0 rfl) ?_
  refine lv_iload_n hx hb dJ6_bitCount_0f7a4_42 rfl (lv_at hl 0 rfl) ?_
  refine lv_bipush (v := 16) hx hb dJ6_bitCount_0f7a4_43 (by decide) ?_
  refine lv_iushr (v := (((((((x0 - (((x0.toUInt32 >>> ((1 : Int32).toUInt32 &&& Int32.toUInt32 31)).toInt32) &&& (1431655765 : Int32))) &&& (858993459 : Int32)) + ((((x0 - (((x0.toUInt32 >>> ((1 : Int32).toUInt32 &&& Int32.toUInt32 31)).toInt32) &&& (1431655765 : Int32))).toUInt32 >>> ((2 : Int32).toUInt32 &&& Int32.toUInt32 31)).toInt32) &&& (858993459 : Int32))) + (((((x0 - (((x0.toUInt32 >>> ((1 : Int32).toUInt32 &&& Int32.toUInt32 31)).toInt32) &&& (1431655765 : Int32))) &&& (858993459 : Int32)) + ((((x0 - (((x0.toUInt32 >>> ((1 : Int32).toUInt32 &&& Int32.toUInt32 31)).toInt32) &&& (1431655765 : Int32))).toUInt32 >>> ((2 : Int32).toUInt32 &&& Int32.toUInt32 31)).toInt32) &&& (858993459 : Int32))).toUInt32 >>> ((4 : Int32).toUInt32 &&& Int32.toUInt32 31)).toInt32)) &&& (252645135 : Int32)) + (((((((x0 - (((x0.toUInt32 >>> ((1 : Int32).toUInt32 &&& Int32.toUInt32 31)).toInt32) &&& (1431655765 : Int32))) &&& (858993459 : Int32)) + ((((x0 - (((x0.toUInt32 >>> ((1 : Int32).toUInt32 &&& Int32.toUInt32 31)).toInt32) &&& (1431655765 : Int32))).toUInt32 >>> ((2 : Int32).toUInt32 &&& Int32.toUInt32 31)).toInt32) &&& (858993459 : Int32))) + (((((x0 - (((x0.toUInt32 >>> ((1 : Int32).toUInt32 &&& Int32.toUInt32 31)).toInt32) &&& (1431655765 : Int32))) &&& (858993459 : Int32)) + ((((x0 - (((x0.toUInt32 >>> ((1 : Int32).toUInt32 &&& Int32.toUInt32 31)).toInt32) &&& (1431655765 : Int32))).toUInt32 >>> ((2 : Int32).toUInt32 &&& Int32.toUInt32 31)).toInt32) &&& (858993459 : Int32))).toUInt32 >>> ((4 : Int32).toUInt32 &&& Int32.toUInt32 31)).toInt32)) &&& (252645135 : Int32)).toUInt32 >>> ((8 : Int32).toUInt32 &&& Int32.toUInt32 31)).toInt32)).toUInt32 >>> ((16 : Int32).toUInt32 &&& Int32.toUInt32 31)).toInt32) hx hb dJ6_bitCount_0f7a4_45 rfl ?_
  refine lv_iadd hx hb dJ6_bitCount_0f7a4_46 ?_
  refine lv_istore_n (lv' := [(0, .int (((((((x0 - (((x0.toUInt32 >>> ((1 : Int32).toUInt32 &&& Int32.toUInt32 31)).toInt32) &&& (1431655765 : Int32))) &&& (858993459 : Int32)) + ((((x0 - (((x0.toUInt32 >>> ((1 : Int32).toUInt32 &&& Int32.toUInt32 31)).toInt32) &&& (1431655765 : Int32))).toUInt32 >>> ((2 : Int32).toUInt32 &&& Int32.toUInt32 31)).toInt32) &&& (858993459 : Int32))) + (((((x0 - (((x0.toUInt32 >>> ((1 : Int32).toUInt32 &&& Int32.toUInt32 31)).toInt32) &&& (1431655765 : Int32))) &&& (858993459 : Int32)) + ((((x0 - (((x0.toUInt32 >>> ((1 : Int32).toUInt32 &&& Int32.toUInt32 31)).toInt32) &&& (1431655765 : Int32))).toUInt32 >>> ((2 : Int32).toUInt32 &&& Int32.toUInt32 31)).toInt32) &&& (858993459 : Int32))).toUInt32 >>> ((4 : Int32).toUInt32 &&& Int32.toUInt32 31)).toInt32)) &&& (252645135 : Int32)) + (((((((x0 - (((x0.toUInt32 >>> ((1 : Int32).toUInt32 &&& Int32.toUInt32 31)).toInt32) &&& (1431655765 : Int32))) &&& (858993459 : Int32)) + ((((x0 - (((x0.toUInt32 >>> ((1 : Int32).toUInt32 &&& Int32.toUInt32 31)).toInt32) &&& (1431655765 : Int32))).toUInt32 >>> ((2 : Int32).toUInt32 &&& Int32.toUInt32 31)).toInt32) &&& (858993459 : Int32))) + (((((x0 - (((x0.toUInt32 >>> ((1 : Int32).toUInt32 &&& Int32.toUInt32 31)).toInt32) &&& (1431655765 : Int32))) &&& (858993459 : Int32)) + ((((x0 - (((x0.toUInt32 >>> ((1 : Int32).toUInt32 &&& Int32.toUInt32 31)).toInt32) &&& (1431655765 : Int32))).toUInt32 >>> ((2 : Int32).toUInt32 &&& Int32.toUInt32 31)).toInt32) &&& (858993459 : Int32))).toUInt32 >>> ((4 : Int32).toUInt32 &&& Int32.toUInt32 31)).toInt32)) &&& (252645135 : Int32)).toUInt32 >>> ((8 : Int32).toUInt32 &&& Int32.toUInt32 31)).toInt32)) + ((((((((x0 - (((x0.toUInt32 >>> ((1 : Int32).toUInt32 &&& Int32.toUInt32 31)).toInt32) &&& (1431655765 : Int32))) &&& (858993459 : Int32)) + ((((x0 - (((x0.toUInt32 >>> ((1 : Int32).toUInt32 &&& Int32.toUInt32 31)).toInt32) &&& (1431655765 : Int32))).toUInt32 >>> ((2 : Int32).toUInt32 &&& Int32.toUInt32 31)).toInt32) &&& (858993459 : Int32))) + (((((x0 - (((x0.toUInt32 >>> ((1 : Int32).toUInt32 &&& Int32.toUInt32 31)).toInt32) &&& (1431655765 : Int32))) &&& (858993459 : Int32)) + ((((x0 - (((x0.toUInt32 >>> ((1 : Int32).toUInt32 &&& Int32.toUInt32 31)).toInt32) &&& (1431655765 : Int32))).toUInt32 >>> ((2 : Int32).toUInt32 &&& Int32.toUInt32 31)).toInt32) &&& (858993459 : Int32))).toUInt32 >>> ((4 : Int32).toUInt32 &&& Int32.toUInt32 31)).toInt32)) &&& (252645135 : Int32)) + (((((((x0 - (((x0.toUInt32 >>> ((1 : Int32).toUInt32 &&& Int32.toUInt32 31)).toInt32) &&& (1431655765 : Int32))) &&& (858993459 : Int32)) + ((((x0 - (((x0.toUInt32 >>> ((1 : Int32).toUInt32 &&& Int32.toUInt32 31)).toInt32) &&& (1431655765 : Int32))).toUInt32 >>> ((2 : Int32).toUInt32 &&& Int32.toUInt32 31)).toInt32) &&& (858993459 : Int32))) + (((((x0 - (((x0.toUInt32 >>> ((1 : Int32).toUInt32 &&& Int32.toUInt32 31)).toInt32) &&& (1431655765 : Int32))) &&& (858993459 : Int32)) + ((((x0 - (((x0.toUInt32 >>> ((1 : Int32).toUInt32 &&& Int32.toUInt32 31)).toInt32) &&& (1431655765 : Int32))).toUInt32 >>> ((2 : Int32).toUInt32 &&& Int32.toUInt32 31)).toInt32) &&& (858993459 : Int32))).toUInt32 >>> ((4 : Int32).toUInt32 &&& Int32.toUInt32 31)).toInt32)) &&& (252645135 : Int32)).toUInt32 >>> ((8 : Int32).toUInt32 &&& Int32.toUInt32 31)).toInt32)).toUInt32 >>> ((16 : Int32).toUInt32 &&& Int32.toUInt32 31)).toInt32)))]) hx hb dJ6_bitCount_0f7a4_47 rfl hl (by decide) rfl (fun ls hl => ?_)
  refine lv_iload_n hx hb dJ6_bitCount_0f7a4_48 rfl (lv_at hl 0 rfl) ?_
  refine lv_bipush (v := 63) hx hb dJ6_bitCount_0f7a4_49 (by decide) ?_
  refine lv_iand hx hb dJ6_bitCount_0f7a4_51 ?_
  exact xiret (w := (w_J6_bitCount_0f7a4 cI cO)) () hx hb hr hlocks h hP hK hD hS dJ6_bitCount_0f7a4_52
theorem dX2_copyFrom_0 : decode cX2_copyFrom 0 = .ok (.aload_n 0, 1) := by decide +kernel
theorem dX2_copyFrom_1 : decode cX2_copyFrom 1 = .ok (.aload_n 1, 1) := by decide +kernel
theorem dX2_copyFrom_2 : decode cX2_copyFrom 2 = .ok (.getfield 27, 3) := by decide +kernel
theorem dX2_copyFrom_5 : decode cX2_copyFrom 5 = .ok (.putfield 27, 3) := by decide +kernel
theorem dX2_copyFrom_8 : decode cX2_copyFrom 8 = .ok (.aload_n 0, 1) := by decide +kernel
theorem dX2_copyFrom_9 : decode cX2_copyFrom 9 = .ok (.aload_n 1, 1) := by decide +kernel
theorem dX2_copyFrom_10 : decode cX2_copyFrom 10 = .ok (.getfield 31, 3) := by decide +kernel
theorem dX2_copyFrom_13 : decode cX2_copyFrom 13 = .ok (.putfield 31, 3) := by decide +kernel
theorem dX2_copyFrom_16 : decode cX2_copyFrom 16 = .ok (.aload_n 1, 1) := by decide +kernel
theorem dX2_copyFrom_17 : decode cX2_copyFrom 17 = .ok (.getfield 9, 3) := by decide +kernel
theorem dX2_copyFrom_20 : decode cX2_copyFrom 20 = .ok (.iconst 0, 1) := by decide +kernel
theorem dX2_copyFrom_21 : decode cX2_copyFrom 21 = .ok (.aload_n 0, 1) := by decide +kernel
theorem dX2_copyFrom_22 : decode cX2_copyFrom 22 = .ok (.getfield 9, 3) := by decide +kernel
theorem dX2_copyFrom_25 : decode cX2_copyFrom 25 = .ok (.iconst 0, 1) := by decide +kernel
theorem dX2_copyFrom_26 : decode cX2_copyFrom 26 = .ok (.bipush 16, 2) := by decide +kernel
theorem dX2_copyFrom_28 : decode cX2_copyFrom 28 = .ok (.invokestatic 34, 3) := by decide +kernel
theorem dX2_copyFrom_31 : decode cX2_copyFrom 31 = .ok (.aload_n 1, 1) := by decide +kernel
theorem dX2_copyFrom_32 : decode cX2_copyFrom 32 = .ok (.getfield 15, 3) := by decide +kernel
theorem dX2_copyFrom_35 : decode cX2_copyFrom 35 = .ok (.iconst 0, 1) := by decide +kernel
theorem dX2_copyFrom_36 : decode cX2_copyFrom 36 = .ok (.aload_n 0, 1) := by decide +kernel
theorem dX2_copyFrom_37 : decode cX2_copyFrom 37 = .ok (.getfield 15, 3) := by decide +kernel
theorem dX2_copyFrom_40 : decode cX2_copyFrom 40 = .ok (.iconst 0, 1) := by decide +kernel
theorem dX2_copyFrom_41 : decode cX2_copyFrom 41 = .ok (.bipush 16, 2) := by decide +kernel
theorem dX2_copyFrom_43 : decode cX2_copyFrom 43 = .ok (.invokestatic 34, 3) := by decide +kernel
theorem dX2_copyFrom_46 : decode cX2_copyFrom 46 = .ok (.aload_n 1, 1) := by decide +kernel
theorem dX2_copyFrom_47 : decode cX2_copyFrom 47 = .ok (.getfield 18, 3) := by decide +kernel
theorem dX2_copyFrom_50 : decode cX2_copyFrom 50 = .ok (.iconst 0, 1) := by decide +kernel
theorem dX2_copyFrom_51 : decode cX2_copyFrom 51 = .ok (.aload_n 0, 1) := by decide +kernel
theorem dX2_copyFrom_52 : decode cX2_copyFrom 52 = .ok (.getfield 18, 3) := by decide +kernel
theorem dX2_copyFrom_55 : decode cX2_copyFrom 55 = .ok (.iconst 0, 1) := by decide +kernel
theorem dX2_copyFrom_56 : decode cX2_copyFrom 56 = .ok (.bipush 16, 2) := by decide +kernel
theorem dX2_copyFrom_58 : decode cX2_copyFrom 58 = .ok (.invokestatic 34, 3) := by decide +kernel
theorem dX2_copyFrom_61 : decode cX2_copyFrom 61 = .ok (.aload_n 1, 1) := by decide +kernel
theorem dX2_copyFrom_62 : decode cX2_copyFrom 62 = .ok (.getfield 21, 3) := by decide +kernel
theorem dX2_copyFrom_65 : decode cX2_copyFrom 65 = .ok (.iconst 0, 1) := by decide +kernel
theorem dX2_copyFrom_66 : decode cX2_copyFrom 66 = .ok (.aload_n 0, 1) := by decide +kernel
theorem dX2_copyFrom_67 : decode cX2_copyFrom 67 = .ok (.getfield 21, 3) := by decide +kernel
theorem dX2_copyFrom_70 : decode cX2_copyFrom 70 = .ok (.iconst 0, 1) := by decide +kernel
theorem dX2_copyFrom_71 : decode cX2_copyFrom 71 = .ok (.bipush 16, 2) := by decide +kernel
theorem dX2_copyFrom_73 : decode cX2_copyFrom 73 = .ok (.invokestatic 34, 3) := by decide +kernel
theorem dX2_copyFrom_76 : decode cX2_copyFrom 76 = .ok (.aload_n 1, 1) := by decide +kernel
theorem dX2_copyFrom_77 : decode cX2_copyFrom 77 = .ok (.getfield 24, 3) := by decide +kernel
theorem dX2_copyFrom_80 : decode cX2_copyFrom 80 = .ok (.iconst 0, 1) := by decide +kernel
theorem dX2_copyFrom_81 : decode cX2_copyFrom 81 = .ok (.aload_n 0, 1) := by decide +kernel
theorem dX2_copyFrom_82 : decode cX2_copyFrom 82 = .ok (.getfield 24, 3) := by decide +kernel
theorem dX2_copyFrom_85 : decode cX2_copyFrom 85 = .ok (.iconst 0, 1) := by decide +kernel
theorem dX2_copyFrom_86 : decode cX2_copyFrom 86 = .ok (.bipush 16, 2) := by decide +kernel
theorem dX2_copyFrom_88 : decode cX2_copyFrom 88 = .ok (.invokestatic 34, 3) := by decide +kernel
theorem dX2_copyFrom_91 : decode cX2_copyFrom 91 = .ok (.return_, 1) := by decide +kernel
theorem jX2_copyFrom_X2 : ∀ w ∈ wsX20, w ∈ wsX2_copyFrom := by decide +kernel
abbrev w_X2_copyFrom (cI cO : ClassId) (aB : Nat → Nat) (aO : Nat → Nat) (zO : CS) : ((CS)) → va_W := fun u => (wB cI aB u ++ (wB cI aO zO))
set_option maxRecDepth 100000 in
set_option maxHeartbeats 8000000 in
theorem mX2_copyFrom (l : Launch) (D : va_G) (cI cO : ClassId) (tA tS : Nat) (aB : Nat → Nat) (aO : Nat → Nat) (zB : CS) (zO : CS)  (sz : Nat) {post : ((CS)) → Prop} (h : qX2_copyFrom post zB zO) : Met l yX2_copyFrom wsX2_copyFrom ({ frames := 1, cells := 0, slots := 0, locals := 26 } : Room) (xPre D cI cO tA tS [.ref (aB 0), .ref (aO 0)] (wB cI aB zB ++ (wB cI aO zO)) sz) (va_Qv post (xB D cI cO (va_A (wB cI aB zB ++ (wB cI aO zO)) sz) (w_X2_copyFrom cI cO aB aO zO)) (va_A (wB cI aB zB ++ (wB cI aO zO)) sz)) 0 0 (va_A (wB cI aB zB ++ (wB cI aO zO)) sz) := by
  refine xMet D cI cO tA tS (fun A => va_Qv post (xB D cI cO A (w_X2_copyFrom cI cO aB aO zO)) A) (cc := cX2_copyFrom) (maxL := 2) (ret := none) (by decide) rfl (Nat.le_of_ble_eq_true rfl) ?_
  intro p e s m below meth c A ls hx hb hr hts hown hlocks hin hml hA hS hP hK hD hE hl
  have hown : s.vm.findClass RX2 = some m.cls := hown
  have hl : lv_has ls 2 [(0, .ref (aB 0)), (1, .ref (aO 0))] := hl
  refine lv_aload_n hx hb dX2_copyFrom_0 rfl (lv_at hl 0 rfl) ?_
  refine lv_aload_n hx hb dX2_copyFrom_1 rfl (lv_at hl 1 rfl) ?_
  refine va_get (D := D) (ci := 2) (v := .int (zO 5 0)) (C := RX2) (T := TX2) (N := 7) hx hb hts jX2_copyFrom_X2 hown hK hP 6 rfl rfl 5 (by decide) (hts (.fieldLink RX2 27 "BrotherAutomata$RuleBook" "count" "I") (List.mem_of_getElem? (i := 1) rfl)) (fun _ h9 => h9) rfl dX2_copyFrom_2 ?_
  refine va_put (D := D) (ci := 2) (v := .int (zO 5 0)) (ty := .int) (C := RX2) (T := TX2) (N := 7) hx hb hts jX2_copyFrom_X2 tyX2 tyX2_ok nmX2 hown hK hP hD hS 0 rfl rfl 5 (by decide) (hts (.fieldLink RX2 27 "BrotherAutomata$RuleBook" "count" "I") (List.mem_of_getElem? (i := 1) rfl)) (fun _ h9 => h9) rfl (by decide +kernel) rfl rfl (Nat.le_of_ble_eq_true rfl) dX2_copyFrom_5 (fun H locs hP hD hS => ?_)
  have hP : va_P D vwCl (wB cI aB (st zB 5 0 (zO 5 0)) ++ (wB cI aO zO)) H := hP
  have hD : va_D A (wB cI aB (st zB 5 0 (zO 5 0)) ++ (wB cI aO zO)) := hD
  refine lv_aload_n hx hb dX2_copyFrom_8 rfl (lv_at hl 0 rfl) ?_
  refine lv_aload_n hx hb dX2_copyFrom_9 rfl (lv_at hl 1 rfl) ?_
  refine va_get (D := D) (ci := 2) (v := .int (zO 5 1)) (C := RX2) (T := TX2) (N := 7) hx hb hts jX2_copyFrom_X2 hown hK hP 6 rfl rfl 6 (by decide) (hts (.fieldLink RX2 31 "BrotherAutomata$RuleBook" "finals" "I") (List.mem_of_getElem? (i := 2) rfl)) (fun _ h9 => h9) rfl dX2_copyFrom_10 ?_
  refine va_put (D := D) (ci := 2) (v := .int (zO 5 1)) (ty := .int) (C := RX2) (T := TX2) (N := 7) hx hb hts jX2_copyFrom_X2 tyX2 tyX2_ok nmX2 hown hK hP hD hS 0 rfl rfl 6 (by decide) (hts (.fieldLink RX2 31 "BrotherAutomata$RuleBook" "finals" "I") (List.mem_of_getElem? (i := 2) rfl)) (fun _ h9 => h9) rfl (by decide +kernel) rfl rfl (Nat.le_of_ble_eq_true rfl) dX2_copyFrom_13 (fun H locs hP hD hS => ?_)
  have hP : va_P D vwCl (wB cI aB (st (st zB 5 0 (zO 5 0)) 5 1 (zO 5 1)) ++ (wB cI aO zO)) H := hP
  have hD : va_D A (wB cI aB (st (st zB 5 0 (zO 5 0)) 5 1 (zO 5 1)) ++ (wB cI aO zO)) := hD
  refine lv_aload_n hx hb dX2_copyFrom_16 rfl (lv_at hl 1 rfl) ?_
  refine va_get (D := D) (ci := 2) (v := .ref (aO 1)) (C := RX2) (T := TX2) (N := 7) hx hb hts jX2_copyFrom_X2 hown hK hP 6 rfl rfl 0 (by decide) (hts (.fieldLink RX2 9 "BrotherAutomata$RuleBook" "symbols" "[I") (List.mem_of_getElem? (i := 3) rfl)) (fun _ h9 => h9) rfl dX2_copyFrom_17 ?_
  refine lv_iconst (v := 0) hx hb dX2_copyFrom_20 (by decide) ?_
  refine lv_aload_n hx hb dX2_copyFrom_21 rfl (lv_at hl 0 rfl) ?_
  refine va_get (D := D) (ci := 2) (v := .ref (aB 1)) (C := RX2) (T := TX2) (N := 7) hx hb hts jX2_copyFrom_X2 hown hK hP 0 rfl rfl 0 (by decide) (hts (.fieldLink RX2 9 "BrotherAutomata$RuleBook" "symbols" "[I") (List.mem_of_getElem? (i := 3) rfl)) (fun _ h9 => h9) rfl dX2_copyFrom_22 ?_
  refine lv_iconst (v := 0) hx hb dX2_copyFrom_25 (by decide) ?_
  refine lv_bipush (v := 16) hx hb dX2_copyFrom_26 (by decide) ?_
  refine va_copyi (sp := 0) (dp := 0) (n := 16) hx hb (hml.trans hl.1.symm) hown (hts (.methodLink RX2 34 arraycopyName) (List.mem_of_getElem? (i := 4) rfl)) (hts (.native arraycopyName) (List.mem_of_getElem? (i := 5) rfl)) (hts (.static arraycopyName) (List.mem_of_getElem? (i := 6) rfl)) (hts (.initialized "java/lang/System") (List.mem_of_getElem? (i := 7) rfl)) hK hP hD hS 7 1 0 0 rfl rfl rfl rfl rfl (by decide) (by decide) (by decide) (by decide) (by decide) (fun _ _ => rfl) (Nat.le_of_ble_eq_true rfl) (Nat.le_of_ble_eq_true rfl) dX2_copyFrom_28 (fun H locs hP hD hS => ?_)
  have hP : va_P D vwCl (wB cI aB (sr (st (st zB 5 0 (zO 5 0)) 5 1 (zO 5 1)) 0 (va_cpy (zO 0) ((st (st zB 5 0 (zO 5 0)) 5 1 (zO 5 1)) 0) 0 0 16)) ++ (wB cI aO zO)) H := hP
  have hD : va_D A (wB cI aB (sr (st (st zB 5 0 (zO 5 0)) 5 1 (zO 5 1)) 0 (va_cpy (zO 0) ((st (st zB 5 0 (zO 5 0)) 5 1 (zO 5 1)) 0) 0 0 16)) ++ (wB cI aO zO)) := hD
  refine lv_aload_n hx hb dX2_copyFrom_31 rfl (lv_at hl 1 rfl) ?_
  refine va_get (D := D) (ci := 2) (v := .ref (aO 2)) (C := RX2) (T := TX2) (N := 7) hx hb hts jX2_copyFrom_X2 hown hK hP 6 rfl rfl 1 (by decide) (hts (.fieldLink RX2 15 "BrotherAutomata$RuleBook" "firsts" "[I") (List.mem_of_getElem? (i := 8) rfl)) (fun _ h9 => h9) rfl dX2_copyFrom_32 ?_
  refine lv_iconst (v := 0) hx hb dX2_copyFrom_35 (by decide) ?_
  refine lv_aload_n hx hb dX2_copyFrom_36 rfl (lv_at hl 0 rfl) ?_
  refine va_get (D := D) (ci := 2) (v := .ref (aB 2)) (C := RX2) (T := TX2) (N := 7) hx hb hts jX2_copyFrom_X2 hown hK hP 0 rfl rfl 1 (by decide) (hts (.fieldLink RX2 15 "BrotherAutomata$RuleBook" "firsts" "[I") (List.mem_of_getElem? (i := 8) rfl)) (fun _ h9 => h9) rfl dX2_copyFrom_37 ?_
  refine lv_iconst (v := 0) hx hb dX2_copyFrom_40 (by decide) ?_
  refine lv_bipush (v := 16) hx hb dX2_copyFrom_41 (by decide) ?_
  refine va_copyi (sp := 0) (dp := 0) (n := 16) hx hb (hml.trans hl.1.symm) hown (hts (.methodLink RX2 34 arraycopyName) (List.mem_of_getElem? (i := 4) rfl)) (hts (.native arraycopyName) (List.mem_of_getElem? (i := 5) rfl)) (hts (.static arraycopyName) (List.mem_of_getElem? (i := 6) rfl)) (hts (.initialized "java/lang/System") (List.mem_of_getElem? (i := 7) rfl)) hK hP hD hS 8 2 0 0 rfl rfl rfl rfl rfl (by decide) (by decide) (by decide) (by decide) (by decide) (fun _ _ => rfl) (Nat.le_of_ble_eq_true rfl) (Nat.le_of_ble_eq_true rfl) dX2_copyFrom_43 (fun H locs hP hD hS => ?_)
  have hP : va_P D vwCl (wB cI aB (sr (sr (st (st zB 5 0 (zO 5 0)) 5 1 (zO 5 1)) 0 (va_cpy (zO 0) ((st (st zB 5 0 (zO 5 0)) 5 1 (zO 5 1)) 0) 0 0 16)) 1 (va_cpy (zO 1) ((sr (st (st zB 5 0 (zO 5 0)) 5 1 (zO 5 1)) 0 (va_cpy (zO 0) ((st (st zB 5 0 (zO 5 0)) 5 1 (zO 5 1)) 0) 0 0 16)) 1) 0 0 16)) ++ (wB cI aO zO)) H := hP
  have hD : va_D A (wB cI aB (sr (sr (st (st zB 5 0 (zO 5 0)) 5 1 (zO 5 1)) 0 (va_cpy (zO 0) ((st (st zB 5 0 (zO 5 0)) 5 1 (zO 5 1)) 0) 0 0 16)) 1 (va_cpy (zO 1) ((sr (st (st zB 5 0 (zO 5 0)) 5 1 (zO 5 1)) 0 (va_cpy (zO 0) ((st (st zB 5 0 (zO 5 0)) 5 1 (zO 5 1)) 0) 0 0 16)) 1) 0 0 16)) ++ (wB cI aO zO)) := hD
  refine lv_aload_n hx hb dX2_copyFrom_46 rfl (lv_at hl 1 rfl) ?_
  refine va_get (D := D) (ci := 2) (v := .ref (aO 3)) (C := RX2) (T := TX2) (N := 7) hx hb hts jX2_copyFrom_X2 hown hK hP 6 rfl rfl 2 (by decide) (hts (.fieldLink RX2 18 "BrotherAutomata$RuleBook" "seconds" "[I") (List.mem_of_getElem? (i := 9) rfl)) (fun _ h9 => h9) rfl dX2_copyFrom_47 ?_
  refine lv_iconst (v := 0) hx hb dX2_copyFrom_50 (by decide) ?_
  refine lv_aload_n hx hb dX2_copyFrom_51 rfl (lv_at hl 0 rfl) ?_
  refine va_get (D := D) (ci := 2) (v := .ref (aB 3)) (C := RX2) (T := TX2) (N := 7) hx hb hts jX2_copyFrom_X2 hown hK hP 0 rfl rfl 2 (by decide) (hts (.fieldLink RX2 18 "BrotherAutomata$RuleBook" "seconds" "[I") (List.mem_of_getElem? (i := 9) rfl)) (fun _ h9 => h9) rfl dX2_copyFrom_52 ?_
  refine lv_iconst (v := 0) hx hb dX2_copyFrom_55 (by decide) ?_
  refine lv_bipush (v := 16) hx hb dX2_copyFrom_56 (by decide) ?_
  refine va_copyi (sp := 0) (dp := 0) (n := 16) hx hb (hml.trans hl.1.symm) hown (hts (.methodLink RX2 34 arraycopyName) (List.mem_of_getElem? (i := 4) rfl)) (hts (.native arraycopyName) (List.mem_of_getElem? (i := 5) rfl)) (hts (.static arraycopyName) (List.mem_of_getElem? (i := 6) rfl)) (hts (.initialized "java/lang/System") (List.mem_of_getElem? (i := 7) rfl)) hK hP hD hS 9 3 0 0 rfl rfl rfl rfl rfl (by decide) (by decide) (by decide) (by decide) (by decide) (fun _ _ => rfl) (Nat.le_of_ble_eq_true rfl) (Nat.le_of_ble_eq_true rfl) dX2_copyFrom_58 (fun H locs hP hD hS => ?_)
  have hP : va_P D vwCl (wB cI aB (sr (sr (sr (st (st zB 5 0 (zO 5 0)) 5 1 (zO 5 1)) 0 (va_cpy (zO 0) ((st (st zB 5 0 (zO 5 0)) 5 1 (zO 5 1)) 0) 0 0 16)) 1 (va_cpy (zO 1) ((sr (st (st zB 5 0 (zO 5 0)) 5 1 (zO 5 1)) 0 (va_cpy (zO 0) ((st (st zB 5 0 (zO 5 0)) 5 1 (zO 5 1)) 0) 0 0 16)) 1) 0 0 16)) 2 (va_cpy (zO 2) ((sr (sr (st (st zB 5 0 (zO 5 0)) 5 1 (zO 5 1)) 0 (va_cpy (zO 0) ((st (st zB 5 0 (zO 5 0)) 5 1 (zO 5 1)) 0) 0 0 16)) 1 (va_cpy (zO 1) ((sr (st (st zB 5 0 (zO 5 0)) 5 1 (zO 5 1)) 0 (va_cpy (zO 0) ((st (st zB 5 0 (zO 5 0)) 5 1 (zO 5 1)) 0) 0 0 16)) 1) 0 0 16)) 2) 0 0 16)) ++ (wB cI aO zO)) H := hP
  have hD : va_D A (wB cI aB (sr (sr (sr (st (st zB 5 0 (zO 5 0)) 5 1 (zO 5 1)) 0 (va_cpy (zO 0) ((st (st zB 5 0 (zO 5 0)) 5 1 (zO 5 1)) 0) 0 0 16)) 1 (va_cpy (zO 1) ((sr (st (st zB 5 0 (zO 5 0)) 5 1 (zO 5 1)) 0 (va_cpy (zO 0) ((st (st zB 5 0 (zO 5 0)) 5 1 (zO 5 1)) 0) 0 0 16)) 1) 0 0 16)) 2 (va_cpy (zO 2) ((sr (sr (st (st zB 5 0 (zO 5 0)) 5 1 (zO 5 1)) 0 (va_cpy (zO 0) ((st (st zB 5 0 (zO 5 0)) 5 1 (zO 5 1)) 0) 0 0 16)) 1 (va_cpy (zO 1) ((sr (st (st zB 5 0 (zO 5 0)) 5 1 (zO 5 1)) 0 (va_cpy (zO 0) ((st (st zB 5 0 (zO 5 0)) 5 1 (zO 5 1)) 0) 0 0 16)) 1) 0 0 16)) 2) 0 0 16)) ++ (wB cI aO zO)) := hD
  refine lv_aload_n hx hb dX2_copyFrom_61 rfl (lv_at hl 1 rfl) ?_
  refine va_get (D := D) (ci := 2) (v := .ref (aO 4)) (C := RX2) (T := TX2) (N := 7) hx hb hts jX2_copyFrom_X2 hown hK hP 6 rfl rfl 3 (by decide) (hts (.fieldLink RX2 21 "BrotherAutomata$RuleBook" "constraints" "[I") (List.mem_of_getElem? (i := 10) rfl)) (fun _ h9 => h9) rfl dX2_copyFrom_62 ?_
  refine lv_iconst (v := 0) hx hb dX2_copyFrom_65 (by decide) ?_
  refine lv_aload_n hx hb dX2_copyFrom_66 rfl (lv_at hl 0 rfl) ?_
  refine va_get (D := D) (ci := 2) (v := .ref (aB 4)) (C := RX2) (T := TX2) (N := 7) hx hb hts jX2_copyFrom_X2 hown hK hP 0 rfl rfl 3 (by decide) (hts (.fieldLink RX2 21 "BrotherAutomata$RuleBook" "constraints" "[I") (List.mem_of_getElem? (i := 10) rfl)) (fun _ h9 => h9) rfl dX2_copyFrom_67 ?_
  refine lv_iconst (v := 0) hx hb dX2_copyFrom_70 (by decide) ?_
  refine lv_bipush (v := 16) hx hb dX2_copyFrom_71 (by decide) ?_
  refine va_copyi (sp := 0) (dp := 0) (n := 16) hx hb (hml.trans hl.1.symm) hown (hts (.methodLink RX2 34 arraycopyName) (List.mem_of_getElem? (i := 4) rfl)) (hts (.native arraycopyName) (List.mem_of_getElem? (i := 5) rfl)) (hts (.static arraycopyName) (List.mem_of_getElem? (i := 6) rfl)) (hts (.initialized "java/lang/System") (List.mem_of_getElem? (i := 7) rfl)) hK hP hD hS 10 4 0 0 rfl rfl rfl rfl rfl (by decide) (by decide) (by decide) (by decide) (by decide) (fun _ _ => rfl) (Nat.le_of_ble_eq_true rfl) (Nat.le_of_ble_eq_true rfl) dX2_copyFrom_73 (fun H locs hP hD hS => ?_)
  have hP : va_P D vwCl (wB cI aB (sr (sr (sr (sr (st (st zB 5 0 (zO 5 0)) 5 1 (zO 5 1)) 0 (va_cpy (zO 0) ((st (st zB 5 0 (zO 5 0)) 5 1 (zO 5 1)) 0) 0 0 16)) 1 (va_cpy (zO 1) ((sr (st (st zB 5 0 (zO 5 0)) 5 1 (zO 5 1)) 0 (va_cpy (zO 0) ((st (st zB 5 0 (zO 5 0)) 5 1 (zO 5 1)) 0) 0 0 16)) 1) 0 0 16)) 2 (va_cpy (zO 2) ((sr (sr (st (st zB 5 0 (zO 5 0)) 5 1 (zO 5 1)) 0 (va_cpy (zO 0) ((st (st zB 5 0 (zO 5 0)) 5 1 (zO 5 1)) 0) 0 0 16)) 1 (va_cpy (zO 1) ((sr (st (st zB 5 0 (zO 5 0)) 5 1 (zO 5 1)) 0 (va_cpy (zO 0) ((st (st zB 5 0 (zO 5 0)) 5 1 (zO 5 1)) 0) 0 0 16)) 1) 0 0 16)) 2) 0 0 16)) 3 (va_cpy (zO 3) ((sr (sr (sr (st (st zB 5 0 (zO 5 0)) 5 1 (zO 5 1)) 0 (va_cpy (zO 0) ((st (st zB 5 0 (zO 5 0)) 5 1 (zO 5 1)) 0) 0 0 16)) 1 (va_cpy (zO 1) ((sr (st (st zB 5 0 (zO 5 0)) 5 1 (zO 5 1)) 0 (va_cpy (zO 0) ((st (st zB 5 0 (zO 5 0)) 5 1 (zO 5 1)) 0) 0 0 16)) 1) 0 0 16)) 2 (va_cpy (zO 2) ((sr (sr (st (st zB 5 0 (zO 5 0)) 5 1 (zO 5 1)) 0 (va_cpy (zO 0) ((st (st zB 5 0 (zO 5 0)) 5 1 (zO 5 1)) 0) 0 0 16)) 1 (va_cpy (zO 1) ((sr (st (st zB 5 0 (zO 5 0)) 5 1 (zO 5 1)) 0 (va_cpy (zO 0) ((st (st zB 5 0 (zO 5 0)) 5 1 (zO 5 1)) 0) 0 0 16)) 1) 0 0 16)) 2) 0 0 16)) 3) 0 0 16)) ++ (wB cI aO zO)) H := hP
  have hD : va_D A (wB cI aB (sr (sr (sr (sr (st (st zB 5 0 (zO 5 0)) 5 1 (zO 5 1)) 0 (va_cpy (zO 0) ((st (st zB 5 0 (zO 5 0)) 5 1 (zO 5 1)) 0) 0 0 16)) 1 (va_cpy (zO 1) ((sr (st (st zB 5 0 (zO 5 0)) 5 1 (zO 5 1)) 0 (va_cpy (zO 0) ((st (st zB 5 0 (zO 5 0)) 5 1 (zO 5 1)) 0) 0 0 16)) 1) 0 0 16)) 2 (va_cpy (zO 2) ((sr (sr (st (st zB 5 0 (zO 5 0)) 5 1 (zO 5 1)) 0 (va_cpy (zO 0) ((st (st zB 5 0 (zO 5 0)) 5 1 (zO 5 1)) 0) 0 0 16)) 1 (va_cpy (zO 1) ((sr (st (st zB 5 0 (zO 5 0)) 5 1 (zO 5 1)) 0 (va_cpy (zO 0) ((st (st zB 5 0 (zO 5 0)) 5 1 (zO 5 1)) 0) 0 0 16)) 1) 0 0 16)) 2) 0 0 16)) 3 (va_cpy (zO 3) ((sr (sr (sr (st (st zB 5 0 (zO 5 0)) 5 1 (zO 5 1)) 0 (va_cpy (zO 0) ((st (st zB 5 0 (zO 5 0)) 5 1 (zO 5 1)) 0) 0 0 16)) 1 (va_cpy (zO 1) ((sr (st (st zB 5 0 (zO 5 0)) 5 1 (zO 5 1)) 0 (va_cpy (zO 0) ((st (st zB 5 0 (zO 5 0)) 5 1 (zO 5 1)) 0) 0 0 16)) 1) 0 0 16)) 2 (va_cpy (zO 2) ((sr (sr (st (st zB 5 0 (zO 5 0)) 5 1 (zO 5 1)) 0 (va_cpy (zO 0) ((st (st zB 5 0 (zO 5 0)) 5 1 (zO 5 1)) 0) 0 0 16)) 1 (va_cpy (zO 1) ((sr (st (st zB 5 0 (zO 5 0)) 5 1 (zO 5 1)) 0 (va_cpy (zO 0) ((st (st zB 5 0 (zO 5 0)) 5 1 (zO 5 1)) 0) 0 0 16)) 1) 0 0 16)) 2) 0 0 16)) 3) 0 0 16)) ++ (wB cI aO zO)) := hD
  refine lv_aload_n hx hb dX2_copyFrom_76 rfl (lv_at hl 1 rfl) ?_
  refine va_get (D := D) (ci := 2) (v := .ref (aO 5)) (C := RX2) (T := TX2) (N := 7) hx hb hts jX2_copyFrom_X2 hown hK hP 6 rfl rfl 4 (by decide) (hts (.fieldLink RX2 24 "BrotherAutomata$RuleBook" "targets" "[I") (List.mem_of_getElem? (i := 11) rfl)) (fun _ h9 => h9) rfl dX2_copyFrom_77 ?_
  refine lv_iconst (v := 0) hx hb dX2_copyFrom_80 (by decide) ?_
  refine lv_aload_n hx hb dX2_copyFrom_81 rfl (lv_at hl 0 rfl) ?_
  refine va_get (D := D) (ci := 2) (v := .ref (aB 5)) (C := RX2) (T := TX2) (N := 7) hx hb hts jX2_copyFrom_X2 hown hK hP 0 rfl rfl 4 (by decide) (hts (.fieldLink RX2 24 "BrotherAutomata$RuleBook" "targets" "[I") (List.mem_of_getElem? (i := 11) rfl)) (fun _ h9 => h9) rfl dX2_copyFrom_82 ?_
  refine lv_iconst (v := 0) hx hb dX2_copyFrom_85 (by decide) ?_
  refine lv_bipush (v := 16) hx hb dX2_copyFrom_86 (by decide) ?_
  refine va_copyi (sp := 0) (dp := 0) (n := 16) hx hb (hml.trans hl.1.symm) hown (hts (.methodLink RX2 34 arraycopyName) (List.mem_of_getElem? (i := 4) rfl)) (hts (.native arraycopyName) (List.mem_of_getElem? (i := 5) rfl)) (hts (.static arraycopyName) (List.mem_of_getElem? (i := 6) rfl)) (hts (.initialized "java/lang/System") (List.mem_of_getElem? (i := 7) rfl)) hK hP hD hS 11 5 0 0 rfl rfl rfl rfl rfl (by decide) (by decide) (by decide) (by decide) (by decide) (fun _ _ => rfl) (Nat.le_of_ble_eq_true rfl) (Nat.le_of_ble_eq_true rfl) dX2_copyFrom_88 (fun H locs hP hD hS => ?_)
  have hP : va_P D vwCl (wB cI aB (sr (sr (sr (sr (sr (st (st zB 5 0 (zO 5 0)) 5 1 (zO 5 1)) 0 (va_cpy (zO 0) ((st (st zB 5 0 (zO 5 0)) 5 1 (zO 5 1)) 0) 0 0 16)) 1 (va_cpy (zO 1) ((sr (st (st zB 5 0 (zO 5 0)) 5 1 (zO 5 1)) 0 (va_cpy (zO 0) ((st (st zB 5 0 (zO 5 0)) 5 1 (zO 5 1)) 0) 0 0 16)) 1) 0 0 16)) 2 (va_cpy (zO 2) ((sr (sr (st (st zB 5 0 (zO 5 0)) 5 1 (zO 5 1)) 0 (va_cpy (zO 0) ((st (st zB 5 0 (zO 5 0)) 5 1 (zO 5 1)) 0) 0 0 16)) 1 (va_cpy (zO 1) ((sr (st (st zB 5 0 (zO 5 0)) 5 1 (zO 5 1)) 0 (va_cpy (zO 0) ((st (st zB 5 0 (zO 5 0)) 5 1 (zO 5 1)) 0) 0 0 16)) 1) 0 0 16)) 2) 0 0 16)) 3 (va_cpy (zO 3) ((sr (sr (sr (st (st zB 5 0 (zO 5 0)) 5 1 (zO 5 1)) 0 (va_cpy (zO 0) ((st (st zB 5 0 (zO 5 0)) 5 1 (zO 5 1)) 0) 0 0 16)) 1 (va_cpy (zO 1) ((sr (st (st zB 5 0 (zO 5 0)) 5 1 (zO 5 1)) 0 (va_cpy (zO 0) ((st (st zB 5 0 (zO 5 0)) 5 1 (zO 5 1)) 0) 0 0 16)) 1) 0 0 16)) 2 (va_cpy (zO 2) ((sr (sr (st (st zB 5 0 (zO 5 0)) 5 1 (zO 5 1)) 0 (va_cpy (zO 0) ((st (st zB 5 0 (zO 5 0)) 5 1 (zO 5 1)) 0) 0 0 16)) 1 (va_cpy (zO 1) ((sr (st (st zB 5 0 (zO 5 0)) 5 1 (zO 5 1)) 0 (va_cpy (zO 0) ((st (st zB 5 0 (zO 5 0)) 5 1 (zO 5 1)) 0) 0 0 16)) 1) 0 0 16)) 2) 0 0 16)) 3) 0 0 16)) 4 (va_cpy (zO 4) ((sr (sr (sr (sr (st (st zB 5 0 (zO 5 0)) 5 1 (zO 5 1)) 0 (va_cpy (zO 0) ((st (st zB 5 0 (zO 5 0)) 5 1 (zO 5 1)) 0) 0 0 16)) 1 (va_cpy (zO 1) ((sr (st (st zB 5 0 (zO 5 0)) 5 1 (zO 5 1)) 0 (va_cpy (zO 0) ((st (st zB 5 0 (zO 5 0)) 5 1 (zO 5 1)) 0) 0 0 16)) 1) 0 0 16)) 2 (va_cpy (zO 2) ((sr (sr (st (st zB 5 0 (zO 5 0)) 5 1 (zO 5 1)) 0 (va_cpy (zO 0) ((st (st zB 5 0 (zO 5 0)) 5 1 (zO 5 1)) 0) 0 0 16)) 1 (va_cpy (zO 1) ((sr (st (st zB 5 0 (zO 5 0)) 5 1 (zO 5 1)) 0 (va_cpy (zO 0) ((st (st zB 5 0 (zO 5 0)) 5 1 (zO 5 1)) 0) 0 0 16)) 1) 0 0 16)) 2) 0 0 16)) 3 (va_cpy (zO 3) ((sr (sr (sr (st (st zB 5 0 (zO 5 0)) 5 1 (zO 5 1)) 0 (va_cpy (zO 0) ((st (st zB 5 0 (zO 5 0)) 5 1 (zO 5 1)) 0) 0 0 16)) 1 (va_cpy (zO 1) ((sr (st (st zB 5 0 (zO 5 0)) 5 1 (zO 5 1)) 0 (va_cpy (zO 0) ((st (st zB 5 0 (zO 5 0)) 5 1 (zO 5 1)) 0) 0 0 16)) 1) 0 0 16)) 2 (va_cpy (zO 2) ((sr (sr (st (st zB 5 0 (zO 5 0)) 5 1 (zO 5 1)) 0 (va_cpy (zO 0) ((st (st zB 5 0 (zO 5 0)) 5 1 (zO 5 1)) 0) 0 0 16)) 1 (va_cpy (zO 1) ((sr (st (st zB 5 0 (zO 5 0)) 5 1 (zO 5 1)) 0 (va_cpy (zO 0) ((st (st zB 5 0 (zO 5 0)) 5 1 (zO 5 1)) 0) 0 0 16)) 1) 0 0 16)) 2) 0 0 16)) 3) 0 0 16)) 4) 0 0 16)) ++ (wB cI aO zO)) H := hP
  have hD : va_D A (wB cI aB (sr (sr (sr (sr (sr (st (st zB 5 0 (zO 5 0)) 5 1 (zO 5 1)) 0 (va_cpy (zO 0) ((st (st zB 5 0 (zO 5 0)) 5 1 (zO 5 1)) 0) 0 0 16)) 1 (va_cpy (zO 1) ((sr (st (st zB 5 0 (zO 5 0)) 5 1 (zO 5 1)) 0 (va_cpy (zO 0) ((st (st zB 5 0 (zO 5 0)) 5 1 (zO 5 1)) 0) 0 0 16)) 1) 0 0 16)) 2 (va_cpy (zO 2) ((sr (sr (st (st zB 5 0 (zO 5 0)) 5 1 (zO 5 1)) 0 (va_cpy (zO 0) ((st (st zB 5 0 (zO 5 0)) 5 1 (zO 5 1)) 0) 0 0 16)) 1 (va_cpy (zO 1) ((sr (st (st zB 5 0 (zO 5 0)) 5 1 (zO 5 1)) 0 (va_cpy (zO 0) ((st (st zB 5 0 (zO 5 0)) 5 1 (zO 5 1)) 0) 0 0 16)) 1) 0 0 16)) 2) 0 0 16)) 3 (va_cpy (zO 3) ((sr (sr (sr (st (st zB 5 0 (zO 5 0)) 5 1 (zO 5 1)) 0 (va_cpy (zO 0) ((st (st zB 5 0 (zO 5 0)) 5 1 (zO 5 1)) 0) 0 0 16)) 1 (va_cpy (zO 1) ((sr (st (st zB 5 0 (zO 5 0)) 5 1 (zO 5 1)) 0 (va_cpy (zO 0) ((st (st zB 5 0 (zO 5 0)) 5 1 (zO 5 1)) 0) 0 0 16)) 1) 0 0 16)) 2 (va_cpy (zO 2) ((sr (sr (st (st zB 5 0 (zO 5 0)) 5 1 (zO 5 1)) 0 (va_cpy (zO 0) ((st (st zB 5 0 (zO 5 0)) 5 1 (zO 5 1)) 0) 0 0 16)) 1 (va_cpy (zO 1) ((sr (st (st zB 5 0 (zO 5 0)) 5 1 (zO 5 1)) 0 (va_cpy (zO 0) ((st (st zB 5 0 (zO 5 0)) 5 1 (zO 5 1)) 0) 0 0 16)) 1) 0 0 16)) 2) 0 0 16)) 3) 0 0 16)) 4 (va_cpy (zO 4) ((sr (sr (sr (sr (st (st zB 5 0 (zO 5 0)) 5 1 (zO 5 1)) 0 (va_cpy (zO 0) ((st (st zB 5 0 (zO 5 0)) 5 1 (zO 5 1)) 0) 0 0 16)) 1 (va_cpy (zO 1) ((sr (st (st zB 5 0 (zO 5 0)) 5 1 (zO 5 1)) 0 (va_cpy (zO 0) ((st (st zB 5 0 (zO 5 0)) 5 1 (zO 5 1)) 0) 0 0 16)) 1) 0 0 16)) 2 (va_cpy (zO 2) ((sr (sr (st (st zB 5 0 (zO 5 0)) 5 1 (zO 5 1)) 0 (va_cpy (zO 0) ((st (st zB 5 0 (zO 5 0)) 5 1 (zO 5 1)) 0) 0 0 16)) 1 (va_cpy (zO 1) ((sr (st (st zB 5 0 (zO 5 0)) 5 1 (zO 5 1)) 0 (va_cpy (zO 0) ((st (st zB 5 0 (zO 5 0)) 5 1 (zO 5 1)) 0) 0 0 16)) 1) 0 0 16)) 2) 0 0 16)) 3 (va_cpy (zO 3) ((sr (sr (sr (st (st zB 5 0 (zO 5 0)) 5 1 (zO 5 1)) 0 (va_cpy (zO 0) ((st (st zB 5 0 (zO 5 0)) 5 1 (zO 5 1)) 0) 0 0 16)) 1 (va_cpy (zO 1) ((sr (st (st zB 5 0 (zO 5 0)) 5 1 (zO 5 1)) 0 (va_cpy (zO 0) ((st (st zB 5 0 (zO 5 0)) 5 1 (zO 5 1)) 0) 0 0 16)) 1) 0 0 16)) 2 (va_cpy (zO 2) ((sr (sr (st (st zB 5 0 (zO 5 0)) 5 1 (zO 5 1)) 0 (va_cpy (zO 0) ((st (st zB 5 0 (zO 5 0)) 5 1 (zO 5 1)) 0) 0 0 16)) 1 (va_cpy (zO 1) ((sr (st (st zB 5 0 (zO 5 0)) 5 1 (zO 5 1)) 0 (va_cpy (zO 0) ((st (st zB 5 0 (zO 5 0)) 5 1 (zO 5 1)) 0) 0 0 16)) 1) 0 0 16)) 2) 0 0 16)) 3) 0 0 16)) 4) 0 0 16)) ++ (wB cI aO zO)) := hD
  exact xvret (w := (w_X2_copyFrom cI cO aB aO zO)) (sr (sr (sr (sr (sr (st (st zB 5 0 (zO 5 0)) 5 1 (zO 5 1)) 0 (va_cpy (zO 0) ((st (st zB 5 0 (zO 5 0)) 5 1 (zO 5 1)) 0) 0 0 16)) 1 (va_cpy (zO 1) ((sr (st (st zB 5 0 (zO 5 0)) 5 1 (zO 5 1)) 0 (va_cpy (zO 0) ((st (st zB 5 0 (zO 5 0)) 5 1 (zO 5 1)) 0) 0 0 16)) 1) 0 0 16)) 2 (va_cpy (zO 2) ((sr (sr (st (st zB 5 0 (zO 5 0)) 5 1 (zO 5 1)) 0 (va_cpy (zO 0) ((st (st zB 5 0 (zO 5 0)) 5 1 (zO 5 1)) 0) 0 0 16)) 1 (va_cpy (zO 1) ((sr (st (st zB 5 0 (zO 5 0)) 5 1 (zO 5 1)) 0 (va_cpy (zO 0) ((st (st zB 5 0 (zO 5 0)) 5 1 (zO 5 1)) 0) 0 0 16)) 1) 0 0 16)) 2) 0 0 16)) 3 (va_cpy (zO 3) ((sr (sr (sr (st (st zB 5 0 (zO 5 0)) 5 1 (zO 5 1)) 0 (va_cpy (zO 0) ((st (st zB 5 0 (zO 5 0)) 5 1 (zO 5 1)) 0) 0 0 16)) 1 (va_cpy (zO 1) ((sr (st (st zB 5 0 (zO 5 0)) 5 1 (zO 5 1)) 0 (va_cpy (zO 0) ((st (st zB 5 0 (zO 5 0)) 5 1 (zO 5 1)) 0) 0 0 16)) 1) 0 0 16)) 2 (va_cpy (zO 2) ((sr (sr (st (st zB 5 0 (zO 5 0)) 5 1 (zO 5 1)) 0 (va_cpy (zO 0) ((st (st zB 5 0 (zO 5 0)) 5 1 (zO 5 1)) 0) 0 0 16)) 1 (va_cpy (zO 1) ((sr (st (st zB 5 0 (zO 5 0)) 5 1 (zO 5 1)) 0 (va_cpy (zO 0) ((st (st zB 5 0 (zO 5 0)) 5 1 (zO 5 1)) 0) 0 0 16)) 1) 0 0 16)) 2) 0 0 16)) 3) 0 0 16)) 4 (va_cpy (zO 4) ((sr (sr (sr (sr (st (st zB 5 0 (zO 5 0)) 5 1 (zO 5 1)) 0 (va_cpy (zO 0) ((st (st zB 5 0 (zO 5 0)) 5 1 (zO 5 1)) 0) 0 0 16)) 1 (va_cpy (zO 1) ((sr (st (st zB 5 0 (zO 5 0)) 5 1 (zO 5 1)) 0 (va_cpy (zO 0) ((st (st zB 5 0 (zO 5 0)) 5 1 (zO 5 1)) 0) 0 0 16)) 1) 0 0 16)) 2 (va_cpy (zO 2) ((sr (sr (st (st zB 5 0 (zO 5 0)) 5 1 (zO 5 1)) 0 (va_cpy (zO 0) ((st (st zB 5 0 (zO 5 0)) 5 1 (zO 5 1)) 0) 0 0 16)) 1 (va_cpy (zO 1) ((sr (st (st zB 5 0 (zO 5 0)) 5 1 (zO 5 1)) 0 (va_cpy (zO 0) ((st (st zB 5 0 (zO 5 0)) 5 1 (zO 5 1)) 0) 0 0 16)) 1) 0 0 16)) 2) 0 0 16)) 3 (va_cpy (zO 3) ((sr (sr (sr (st (st zB 5 0 (zO 5 0)) 5 1 (zO 5 1)) 0 (va_cpy (zO 0) ((st (st zB 5 0 (zO 5 0)) 5 1 (zO 5 1)) 0) 0 0 16)) 1 (va_cpy (zO 1) ((sr (st (st zB 5 0 (zO 5 0)) 5 1 (zO 5 1)) 0 (va_cpy (zO 0) ((st (st zB 5 0 (zO 5 0)) 5 1 (zO 5 1)) 0) 0 0 16)) 1) 0 0 16)) 2 (va_cpy (zO 2) ((sr (sr (st (st zB 5 0 (zO 5 0)) 5 1 (zO 5 1)) 0 (va_cpy (zO 0) ((st (st zB 5 0 (zO 5 0)) 5 1 (zO 5 1)) 0) 0 0 16)) 1 (va_cpy (zO 1) ((sr (st (st zB 5 0 (zO 5 0)) 5 1 (zO 5 1)) 0 (va_cpy (zO 0) ((st (st zB 5 0 (zO 5 0)) 5 1 (zO 5 1)) 0) 0 0 16)) 1) 0 0 16)) 2) 0 0 16)) 3) 0 0 16)) 4) 0 0 16)) hx hb hr hlocks h hP hK hD hS dX2_copyFrom_91
theorem dX2_clear_0 : decode cX2_clear 0 = .ok (.aload_n 0, 1) := by decide +kernel
theorem dX2_clear_1 : decode cX2_clear 1 = .ok (.iconst 0, 1) := by decide +kernel
theorem dX2_clear_2 : decode cX2_clear 2 = .ok (.putfield 27, 3) := by decide +kernel
theorem dX2_clear_5 : decode cX2_clear 5 = .ok (.aload_n 0, 1) := by decide +kernel
theorem dX2_clear_6 : decode cX2_clear 6 = .ok (.iconst 0, 1) := by decide +kernel
theorem dX2_clear_7 : decode cX2_clear 7 = .ok (.putfield 31, 3) := by decide +kernel
theorem dX2_clear_10 : decode cX2_clear 10 = .ok (.return_, 1) := by decide +kernel
theorem jX2_clear_X2 : ∀ w ∈ wsX20, w ∈ wsX2_clear := by decide +kernel
abbrev w_X2_clear (cI cO : ClassId) (aB : Nat → Nat)  : ((CS)) → va_W := fun u => (wB cI aB u)
set_option maxRecDepth 100000 in
set_option maxHeartbeats 8000000 in
theorem mX2_clear (l : Launch) (D : va_G) (cI cO : ClassId) (tA tS : Nat) (aB : Nat → Nat) (zB : CS)  (sz : Nat) {post : ((CS)) → Prop} (h : qX2_clear post zB) : Met l yX2_clear wsX2_clear ({ frames := 0, cells := 0, slots := 0, locals := 0 } : Room) (xPre D cI cO tA tS [.ref (aB 0)] (wB cI aB zB) sz) (va_Qv post (xB D cI cO (va_A (wB cI aB zB) sz) (w_X2_clear cI cO aB)) (va_A (wB cI aB zB) sz)) 0 0 (va_A (wB cI aB zB) sz) := by
  refine xMet D cI cO tA tS (fun A => va_Qv post (xB D cI cO A (w_X2_clear cI cO aB)) A) (cc := cX2_clear) (maxL := 1) (ret := none) (by decide) rfl (Nat.le_of_ble_eq_true rfl) ?_
  intro p e s m below meth c A ls hx hb hr hts hown hlocks hin hml hA hS hP hK hD hE hl
  have hown : s.vm.findClass RX2 = some m.cls := hown
  have hl : lv_has ls 1 [(0, .ref (aB 0))] := hl
  refine lv_aload_n hx hb dX2_clear_0 rfl (lv_at hl 0 rfl) ?_
  refine lv_iconst (v := 0) hx hb dX2_clear_1 (by decide) ?_
  refine va_put (D := D) (ci := 2) (v := .int (0 : Int32)) (ty := .int) (C := RX2) (T := TX2) (N := 7) hx hb hts jX2_clear_X2 tyX2 tyX2_ok nmX2 hown hK hP hD hS 0 rfl rfl 5 (by decide) (hts (.fieldLink RX2 27 "BrotherAutomata$RuleBook" "count" "I") (List.mem_of_getElem? (i := 1) rfl)) (fun _ h9 => h9) rfl (by decide +kernel) rfl rfl (Nat.le_of_ble_eq_true rfl) dX2_clear_2 (fun H locs hP hD hS => ?_)
  have hP : va_P D vwCl (wB cI aB (st zB 5 0 (0 : Int32))) H := hP
  have hD : va_D A (wB cI aB (st zB 5 0 (0 : Int32))) := hD
  refine lv_aload_n hx hb dX2_clear_5 rfl (lv_at hl 0 rfl) ?_
  refine lv_iconst (v := 0) hx hb dX2_clear_6 (by decide) ?_
  refine va_put (D := D) (ci := 2) (v := .int (0 : Int32)) (ty := .int) (C := RX2) (T := TX2) (N := 7) hx hb hts jX2_clear_X2 tyX2 tyX2_ok nmX2 hown hK hP hD hS 0 rfl rfl 6 (by decide) (hts (.fieldLink RX2 31 "BrotherAutomata$RuleBook" "finals" "I") (List.mem_of_getElem? (i := 2) rfl)) (fun _ h9 => h9) rfl (by decide +kernel) rfl rfl (Nat.le_of_ble_eq_true rfl) dX2_clear_7 (fun H locs hP hD hS => ?_)
  have hP : va_P D vwCl (wB cI aB (st (st zB 5 0 (0 : Int32)) 5 1 (0 : Int32))) H := hP
  have hD : va_D A (wB cI aB (st (st zB 5 0 (0 : Int32)) 5 1 (0 : Int32))) := hD
  exact xvret (w := (w_X2_clear cI cO aB)) (st (st zB 5 0 (0 : Int32)) 5 1 (0 : Int32)) hx hb hr hlocks h hP hK hD hS dX2_clear_10
theorem dX2_markFinal_0 : decode cX2_markFinal 0 = .ok (.aload_n 0, 1) := by decide +kernel
theorem dX2_markFinal_1 : decode cX2_markFinal 1 = .ok (.iload_n 2, 1) := by decide +kernel
theorem dX2_markFinal_2 : decode cX2_markFinal 2 = .ok (.ifCond .eq 14, 3) := by decide +kernel
theorem dX2_markFinal_5 : decode cX2_markFinal 5 = .ok (.aload_n 0, 1) := by decide +kernel
theorem dX2_markFinal_6 : decode cX2_markFinal 6 = .ok (.getfield 31, 3) := by decide +kernel
theorem dX2_markFinal_9 : decode cX2_markFinal 9 = .ok (.iconst 1, 1) := by decide +kernel
theorem dX2_markFinal_10 : decode cX2_markFinal 10 = .ok (.iload_n 1, 1) := by decide +kernel
theorem dX2_markFinal_11 : decode cX2_markFinal 11 = .ok (.ishl, 1) := by decide +kernel
theorem dX2_markFinal_12 : decode cX2_markFinal 12 = .ok (.ior, 1) := by decide +kernel
theorem dX2_markFinal_13 : decode cX2_markFinal 13 = .ok (.goto 13, 3) := by decide +kernel
theorem dX2_markFinal_16 : decode cX2_markFinal 16 = .ok (.aload_n 0, 1) := by decide +kernel
theorem dX2_markFinal_17 : decode cX2_markFinal 17 = .ok (.getfield 31, 3) := by decide +kernel
theorem dX2_markFinal_20 : decode cX2_markFinal 20 = .ok (.iconst 1, 1) := by decide +kernel
theorem dX2_markFinal_21 : decode cX2_markFinal 21 = .ok (.iload_n 1, 1) := by decide +kernel
theorem dX2_markFinal_22 : decode cX2_markFinal 22 = .ok (.ishl, 1) := by decide +kernel
theorem dX2_markFinal_23 : decode cX2_markFinal 23 = .ok (.iconst (-1), 1) := by decide +kernel
theorem dX2_markFinal_24 : decode cX2_markFinal 24 = .ok (.ixor, 1) := by decide +kernel
theorem dX2_markFinal_25 : decode cX2_markFinal 25 = .ok (.iand, 1) := by decide +kernel
theorem dX2_markFinal_26 : decode cX2_markFinal 26 = .ok (.putfield 31, 3) := by decide +kernel
theorem dX2_markFinal_29 : decode cX2_markFinal 29 = .ok (.return_, 1) := by decide +kernel
theorem jX2_markFinal_X2 : ∀ w ∈ wsX20, w ∈ wsX2_markFinal := by decide +kernel
abbrev w_X2_markFinal (cI cO : ClassId) (aB : Nat → Nat)  : ((CS)) → va_W := fun u => (wB cI aB u)
set_option maxRecDepth 100000 in
set_option maxHeartbeats 8000000 in
theorem mX2_markFinal (l : Launch) (D : va_G) (cI cO : ClassId) (tA tS : Nat) (aB : Nat → Nat) (zB : CS) (x1 : Int32) (x2 : Int32) (sz : Nat) {post : ((CS)) → Prop} (h : qX2_markFinal post x1 x2 zB) : Met l yX2_markFinal wsX2_markFinal ({ frames := 0, cells := 0, slots := 0, locals := 0 } : Room) (xPre D cI cO tA tS [.ref (aB 0), .int x1, .int x2] (wB cI aB zB) sz) (va_Qv post (xB D cI cO (va_A (wB cI aB zB) sz) (w_X2_markFinal cI cO aB)) (va_A (wB cI aB zB) sz)) 0 0 (va_A (wB cI aB zB) sz) := by
  refine xMet D cI cO tA tS (fun A => va_Qv post (xB D cI cO A (w_X2_markFinal cI cO aB)) A) (cc := cX2_markFinal) (maxL := 3) (ret := none) (by decide) rfl (Nat.le_of_ble_eq_true rfl) ?_
  intro p e s m below meth c A ls hx hb hr hts hown hlocks hin hml hA hS hP hK hD hE hl
  have hown : s.vm.findClass RX2 = some m.cls := hown
  have hl : lv_has ls 3 [(0, .ref (aB 0)), (1, .int x1), (2, .int x2)] := hl
  have g26 : ∀ (w1 : Int32) (zB : CS) (H : Heap) (locs : List Loc) (ls : Array Slot), qX2_markFinal_26 post x1 x2 w1 zB → va_P D vwCl (wB cI aB zB) H → va_D A (wB cI aB zB) → va_S A s.heap H locs → lv_has ls 3 [(0, .ref (aB 0)), (1, .int x1), (2, .int x2)] → W p l e ({ frames := 0, cells := 0, slots := 0, locals := 0 } : Room) s m ([.ref (aB 0), .int x1, .int x2] : List Value).toArray below meth c H locs 0 0 (MQ below (va_Qv post (xB D cI cO A (w_X2_markFinal cI cO aB)) A) ([.ref (aB 0), .int x1, .int x2] : List Value).toArray s 0 0 A) (F0 m 26 ls [.int w1, .ref (aB 0)]) := by
    intro w1 zB H locs ls h hP hD hS hl
    refine va_put (D := D) (ci := 2) (v := .int w1) (ty := .int) (C := RX2) (T := TX2) (N := 7) hx hb hts jX2_markFinal_X2 tyX2 tyX2_ok nmX2 hown hK hP hD hS 0 rfl rfl 6 (by decide) (hts (.fieldLink RX2 31 "BrotherAutomata$RuleBook" "finals" "I") (List.mem_of_getElem? (i := 1) rfl)) (fun _ h9 => h9) rfl (by decide +kernel) rfl rfl (Nat.le_of_ble_eq_true rfl) dX2_markFinal_26 (fun H locs hP hD hS => ?_)
    have hP : va_P D vwCl (wB cI aB (st zB 5 1 w1)) H := hP
    have hD : va_D A (wB cI aB (st zB 5 1 w1)) := hD
    exact xvret (w := (w_X2_markFinal cI cO aB)) (st zB 5 1 w1) hx hb hr hlocks h hP hK hD hS dX2_markFinal_29
  refine lv_aload_n hx hb dX2_markFinal_0 rfl (lv_at hl 0 rfl) ?_
  refine lv_iload_n hx hb dX2_markFinal_1 rfl (lv_at hl 2 rfl) ?_
  obtain ⟨hh1, hh2⟩ := h
  refine lv_if_eq (tgt := 16) hx hb dX2_markFinal_2 (by decide) (fun hc => ?_) (fun hc => ?_)
  · have h := hh1 hc
    refine lv_aload_n hx hb dX2_markFinal_16 rfl (lv_at hl 0 rfl) ?_
    refine va_get (D := D) (ci := 2) (v := .int (zB 5 1)) (C := RX2) (T := TX2) (N := 7) hx hb hts jX2_markFinal_X2 hown hK hP 0 rfl rfl 6 (by decide) (hts (.fieldLink RX2 31 "BrotherAutomata$RuleBook" "finals" "I") (List.mem_of_getElem? (i := 1) rfl)) (fun _ h9 => h9) rfl dX2_markFinal_17 ?_
    refine lv_iconst (v := 1) hx hb dX2_markFinal_20 (by decide) ?_
    refine lv_iload_n hx hb dX2_markFinal_21 rfl (lv_at hl 1 rfl) ?_
    refine lv_ishl hx hb dX2_markFinal_22 ?_
    refine lv_iconst (v := -1) hx hb dX2_markFinal_23 (by decide) ?_
    refine lv_ixor hx hb dX2_markFinal_24 ?_
    refine lv_iand hx hb dX2_markFinal_25 ?_
    exact g26 ((zB 5 1) &&& (((1 : Int32) <<< (x1 &&& 31)) ^^^ (-1 : Int32))) zB _ _ _ h hP hD hS hl
  · have h := hh2 hc
    refine lv_aload_n hx hb dX2_markFinal_5 rfl (lv_at hl 0 rfl) ?_
    refine va_get (D := D) (ci := 2) (v := .int (zB 5 1)) (C := RX2) (T := TX2) (N := 7) hx hb hts jX2_markFinal_X2 hown hK hP 0 rfl rfl 6 (by decide) (hts (.fieldLink RX2 31 "BrotherAutomata$RuleBook" "finals" "I") (List.mem_of_getElem? (i := 1) rfl)) (fun _ h9 => h9) rfl dX2_markFinal_6 ?_
    refine lv_iconst (v := 1) hx hb dX2_markFinal_9 (by decide) ?_
    refine lv_iload_n hx hb dX2_markFinal_10 rfl (lv_at hl 1 rfl) ?_
    refine lv_ishl hx hb dX2_markFinal_11 ?_
    refine lv_ior hx hb dX2_markFinal_12 ?_
    refine lv_goto (tgt := 26) hx hb dX2_markFinal_13 (by decide) ?_
    exact g26 ((zB 5 1) ||| ((1 : Int32) <<< (x1 &&& 31))) zB _ _ _ h hP hD hS hl
theorem dX2_append_0 : decode cX2_append 0 = .ok (.aload_n 0, 1) := by decide +kernel
theorem dX2_append_1 : decode cX2_append 1 = .ok (.getfield 27, 3) := by decide +kernel
theorem dX2_append_4 : decode cX2_append 4 = .ok (.bipush 16, 2) := by decide +kernel
theorem dX2_append_6 : decode cX2_append 6 = .ok (.if_icmp .ge 65, 3) := by decide +kernel
theorem dX2_append_9 : decode cX2_append 9 = .ok (.aload_n 0, 1) := by decide +kernel
theorem dX2_append_10 : decode cX2_append 10 = .ok (.getfield 9, 3) := by decide +kernel
theorem dX2_append_13 : decode cX2_append 13 = .ok (.aload_n 0, 1) := by decide +kernel
theorem dX2_append_14 : decode cX2_append 14 = .ok (.getfield 27, 3) := by decide +kernel
theorem dX2_append_17 : decode cX2_append 17 = .ok (.iload_n 1, 1) := by decide +kernel
theorem dX2_append_18 : decode cX2_append 18 = .ok (.iastore, 1) := by decide +kernel
theorem dX2_append_19 : decode cX2_append 19 = .ok (.aload_n 0, 1) := by decide +kernel
theorem dX2_append_20 : decode cX2_append 20 = .ok (.getfield 15, 3) := by decide +kernel
theorem dX2_append_23 : decode cX2_append 23 = .ok (.aload_n 0, 1) := by decide +kernel
theorem dX2_append_24 : decode cX2_append 24 = .ok (.getfield 27, 3) := by decide +kernel
theorem dX2_append_27 : decode cX2_append 27 = .ok (.iload_n 2, 1) := by decide +kernel
theorem dX2_append_28 : decode cX2_append 28 = .ok (.iastore, 1) := by decide +kernel
theorem dX2_append_29 : decode cX2_append 29 = .ok (.aload_n 0, 1) := by decide +kernel
theorem dX2_append_30 : decode cX2_append 30 = .ok (.getfield 18, 3) := by decide +kernel
theorem dX2_append_33 : decode cX2_append 33 = .ok (.aload_n 0, 1) := by decide +kernel
theorem dX2_append_34 : decode cX2_append 34 = .ok (.getfield 27, 3) := by decide +kernel
theorem dX2_append_37 : decode cX2_append 37 = .ok (.iload_n 3, 1) := by decide +kernel
theorem dX2_append_38 : decode cX2_append 38 = .ok (.iastore, 1) := by decide +kernel
theorem dX2_append_39 : decode cX2_append 39 = .ok (.aload_n 0, 1) := by decide +kernel
theorem dX2_append_40 : decode cX2_append 40 = .ok (.getfield 21, 3) := by decide +kernel
theorem dX2_append_43 : decode cX2_append 43 = .ok (.aload_n 0, 1) := by decide +kernel
theorem dX2_append_44 : decode cX2_append 44 = .ok (.getfield 27, 3) := by decide +kernel
theorem dX2_append_47 : decode cX2_append 47 = .ok (.iload 4, 2) := by decide +kernel
theorem dX2_append_49 : decode cX2_append 49 = .ok (.iastore, 1) := by decide +kernel
theorem dX2_append_50 : decode cX2_append 50 = .ok (.aload_n 0, 1) := by decide +kernel
theorem dX2_append_51 : decode cX2_append 51 = .ok (.getfield 24, 3) := by decide +kernel
theorem dX2_append_54 : decode cX2_append 54 = .ok (.aload_n 0, 1) := by decide +kernel
theorem dX2_append_55 : decode cX2_append 55 = .ok (.getfield 27, 3) := by decide +kernel
theorem dX2_append_58 : decode cX2_append 58 = .ok (.iload 5, 2) := by decide +kernel
theorem dX2_append_60 : decode cX2_append 60 = .ok (.iastore, 1) := by decide +kernel
theorem dX2_append_61 : decode cX2_append 61 = .ok (.aload_n 0, 1) := by decide +kernel
theorem dX2_append_62 : decode cX2_append 62 = .ok (.dup, 1) := by decide +kernel
theorem dX2_append_63 : decode cX2_append 63 = .ok (.getfield 27, 3) := by decide +kernel
theorem dX2_append_66 : decode cX2_append 66 = .ok (.iconst 1, 1) := by decide +kernel
theorem dX2_append_67 : decode cX2_append 67 = .ok (.iadd, 1) := by decide +kernel
theorem dX2_append_68 : decode cX2_append 68 = .ok (.putfield 27, 3) := by decide +kernel
theorem dX2_append_71 : decode cX2_append 71 = .ok (.return_, 1) := by decide +kernel
theorem jX2_append_X2 : ∀ w ∈ wsX20, w ∈ wsX2_append := by decide +kernel
abbrev w_X2_append (cI cO : ClassId) (aB : Nat → Nat)  : ((CS)) → va_W := fun u => (wB cI aB u)
set_option maxRecDepth 100000 in
set_option maxHeartbeats 8000000 in
theorem mX2_append (l : Launch) (D : va_G) (cI cO : ClassId) (tA tS : Nat) (aB : Nat → Nat) (zB : CS) (x1 : Int32) (x2 : Int32) (x3 : Int32) (x4 : Int32) (x5 : Int32) (sz : Nat) {post : ((CS)) → Prop} (h : qX2_append post x1 x2 x3 x4 x5 zB) : Met l yX2_append wsX2_append ({ frames := 0, cells := 0, slots := 0, locals := 0 } : Room) (xPre D cI cO tA tS [.ref (aB 0), .int x1, .int x2, .int x3, .int x4, .int x5] (wB cI aB zB) sz) (va_Qv post (xB D cI cO (va_A (wB cI aB zB) sz) (w_X2_append cI cO aB)) (va_A (wB cI aB zB) sz)) 0 0 (va_A (wB cI aB zB) sz) := by
  refine xMet D cI cO tA tS (fun A => va_Qv post (xB D cI cO A (w_X2_append cI cO aB)) A) (cc := cX2_append) (maxL := 6) (ret := none) (by decide) rfl (Nat.le_of_ble_eq_true rfl) ?_
  intro p e s m below meth c A ls hx hb hr hts hown hlocks hin hml hA hS hP hK hD hE hl
  have hown : s.vm.findClass RX2 = some m.cls := hown
  have hl : lv_has ls 6 [(0, .ref (aB 0)), (1, .int x1), (2, .int x2), (3, .int x3), (4, .int x4), (5, .int x5)] := hl
  refine lv_aload_n hx hb dX2_append_0 rfl (lv_at hl 0 rfl) ?_
  refine va_get (D := D) (ci := 2) (v := .int (zB 5 0)) (C := RX2) (T := TX2) (N := 7) hx hb hts jX2_append_X2 hown hK hP 0 rfl rfl 5 (by decide) (hts (.fieldLink RX2 27 "BrotherAutomata$RuleBook" "count" "I") (List.mem_of_getElem? (i := 1) rfl)) (fun _ h9 => h9) rfl dX2_append_1 ?_
  refine lv_bipush (v := 16) hx hb dX2_append_4 (by decide) ?_
  obtain ⟨hh1, hh2⟩ := h
  refine lv_icmp_ge (tgt := 71) hx hb dX2_append_6 (by decide) (fun hc => ?_) (fun hc => ?_)
  · have h := hh1 hc
    exact xvret (w := (w_X2_append cI cO aB)) (zB) hx hb hr hlocks h hP hK hD hS dX2_append_71
  · have h := hh2 hc
    refine lv_aload_n hx hb dX2_append_9 rfl (lv_at hl 0 rfl) ?_
    refine va_get (D := D) (ci := 2) (v := .ref (aB 1)) (C := RX2) (T := TX2) (N := 7) hx hb hts jX2_append_X2 hown hK hP 0 rfl rfl 0 (by decide) (hts (.fieldLink RX2 9 "BrotherAutomata$RuleBook" "symbols" "[I") (List.mem_of_getElem? (i := 2) rfl)) (fun _ h9 => h9) rfl dX2_append_10 ?_
    refine lv_aload_n hx hb dX2_append_13 rfl (lv_at hl 0 rfl) ?_
    refine va_get (D := D) (ci := 2) (v := .int (zB 5 0)) (C := RX2) (T := TX2) (N := 7) hx hb hts jX2_append_X2 hown hK hP 0 rfl rfl 5 (by decide) (hts (.fieldLink RX2 27 "BrotherAutomata$RuleBook" "count" "I") (List.mem_of_getElem? (i := 1) rfl)) (fun _ h9 => h9) rfl dX2_append_14 ?_
    refine lv_iload_n hx hb dX2_append_17 rfl (lv_at hl 1 rfl) ?_
    obtain ⟨hi, h⟩ := h
    refine va_iast hx hb hK hP hD hS 1 0 rfl rfl hi dX2_append_18 (fun H locs hP hD hS => ?_)
    have hP : va_P D vwCl (wB cI aB (st zB 0 (zB 5 0).toNatClampNeg x1)) H := hP
    have hD : va_D A (wB cI aB (st zB 0 (zB 5 0).toNatClampNeg x1)) := hD
    refine lv_aload_n hx hb dX2_append_19 rfl (lv_at hl 0 rfl) ?_
    refine va_get (D := D) (ci := 2) (v := .ref (aB 2)) (C := RX2) (T := TX2) (N := 7) hx hb hts jX2_append_X2 hown hK hP 0 rfl rfl 1 (by decide) (hts (.fieldLink RX2 15 "BrotherAutomata$RuleBook" "firsts" "[I") (List.mem_of_getElem? (i := 3) rfl)) (fun _ h9 => h9) rfl dX2_append_20 ?_
    refine lv_aload_n hx hb dX2_append_23 rfl (lv_at hl 0 rfl) ?_
    refine va_get (D := D) (ci := 2) (v := .int ((st zB 0 (zB 5 0).toNatClampNeg x1) 5 0)) (C := RX2) (T := TX2) (N := 7) hx hb hts jX2_append_X2 hown hK hP 0 rfl rfl 5 (by decide) (hts (.fieldLink RX2 27 "BrotherAutomata$RuleBook" "count" "I") (List.mem_of_getElem? (i := 1) rfl)) (fun _ h9 => h9) rfl dX2_append_24 ?_
    refine lv_iload_n hx hb dX2_append_27 rfl (lv_at hl 2 rfl) ?_
    obtain ⟨hi, h⟩ := h
    refine va_iast hx hb hK hP hD hS 2 0 rfl rfl hi dX2_append_28 (fun H locs hP hD hS => ?_)
    have hP : va_P D vwCl (wB cI aB (st (st zB 0 (zB 5 0).toNatClampNeg x1) 1 ((st zB 0 (zB 5 0).toNatClampNeg x1) 5 0).toNatClampNeg x2)) H := hP
    have hD : va_D A (wB cI aB (st (st zB 0 (zB 5 0).toNatClampNeg x1) 1 ((st zB 0 (zB 5 0).toNatClampNeg x1) 5 0).toNatClampNeg x2)) := hD
    refine lv_aload_n hx hb dX2_append_29 rfl (lv_at hl 0 rfl) ?_
    refine va_get (D := D) (ci := 2) (v := .ref (aB 3)) (C := RX2) (T := TX2) (N := 7) hx hb hts jX2_append_X2 hown hK hP 0 rfl rfl 2 (by decide) (hts (.fieldLink RX2 18 "BrotherAutomata$RuleBook" "seconds" "[I") (List.mem_of_getElem? (i := 4) rfl)) (fun _ h9 => h9) rfl dX2_append_30 ?_
    refine lv_aload_n hx hb dX2_append_33 rfl (lv_at hl 0 rfl) ?_
    refine va_get (D := D) (ci := 2) (v := .int ((st (st zB 0 (zB 5 0).toNatClampNeg x1) 1 ((st zB 0 (zB 5 0).toNatClampNeg x1) 5 0).toNatClampNeg x2) 5 0)) (C := RX2) (T := TX2) (N := 7) hx hb hts jX2_append_X2 hown hK hP 0 rfl rfl 5 (by decide) (hts (.fieldLink RX2 27 "BrotherAutomata$RuleBook" "count" "I") (List.mem_of_getElem? (i := 1) rfl)) (fun _ h9 => h9) rfl dX2_append_34 ?_
    refine lv_iload_n hx hb dX2_append_37 rfl (lv_at hl 3 rfl) ?_
    obtain ⟨hi, h⟩ := h
    refine va_iast hx hb hK hP hD hS 3 0 rfl rfl hi dX2_append_38 (fun H locs hP hD hS => ?_)
    have hP : va_P D vwCl (wB cI aB (st (st (st zB 0 (zB 5 0).toNatClampNeg x1) 1 ((st zB 0 (zB 5 0).toNatClampNeg x1) 5 0).toNatClampNeg x2) 2 ((st (st zB 0 (zB 5 0).toNatClampNeg x1) 1 ((st zB 0 (zB 5 0).toNatClampNeg x1) 5 0).toNatClampNeg x2) 5 0).toNatClampNeg x3)) H := hP
    have hD : va_D A (wB cI aB (st (st (st zB 0 (zB 5 0).toNatClampNeg x1) 1 ((st zB 0 (zB 5 0).toNatClampNeg x1) 5 0).toNatClampNeg x2) 2 ((st (st zB 0 (zB 5 0).toNatClampNeg x1) 1 ((st zB 0 (zB 5 0).toNatClampNeg x1) 5 0).toNatClampNeg x2) 5 0).toNatClampNeg x3)) := hD
    refine lv_aload_n hx hb dX2_append_39 rfl (lv_at hl 0 rfl) ?_
    refine va_get (D := D) (ci := 2) (v := .ref (aB 4)) (C := RX2) (T := TX2) (N := 7) hx hb hts jX2_append_X2 hown hK hP 0 rfl rfl 3 (by decide) (hts (.fieldLink RX2 21 "BrotherAutomata$RuleBook" "constraints" "[I") (List.mem_of_getElem? (i := 5) rfl)) (fun _ h9 => h9) rfl dX2_append_40 ?_
    refine lv_aload_n hx hb dX2_append_43 rfl (lv_at hl 0 rfl) ?_
    refine va_get (D := D) (ci := 2) (v := .int ((st (st (st zB 0 (zB 5 0).toNatClampNeg x1) 1 ((st zB 0 (zB 5 0).toNatClampNeg x1) 5 0).toNatClampNeg x2) 2 ((st (st zB 0 (zB 5 0).toNatClampNeg x1) 1 ((st zB 0 (zB 5 0).toNatClampNeg x1) 5 0).toNatClampNeg x2) 5 0).toNatClampNeg x3) 5 0)) (C := RX2) (T := TX2) (N := 7) hx hb hts jX2_append_X2 hown hK hP 0 rfl rfl 5 (by decide) (hts (.fieldLink RX2 27 "BrotherAutomata$RuleBook" "count" "I") (List.mem_of_getElem? (i := 1) rfl)) (fun _ h9 => h9) rfl dX2_append_44 ?_
    refine lv_iload hx hb dX2_append_47 (lv_at hl 4 rfl) ?_
    obtain ⟨hi, h⟩ := h
    refine va_iast hx hb hK hP hD hS 4 0 rfl rfl hi dX2_append_49 (fun H locs hP hD hS => ?_)
    have hP : va_P D vwCl (wB cI aB (st (st (st (st zB 0 (zB 5 0).toNatClampNeg x1) 1 ((st zB 0 (zB 5 0).toNatClampNeg x1) 5 0).toNatClampNeg x2) 2 ((st (st zB 0 (zB 5 0).toNatClampNeg x1) 1 ((st zB 0 (zB 5 0).toNatClampNeg x1) 5 0).toNatClampNeg x2) 5 0).toNatClampNeg x3) 3 ((st (st (st zB 0 (zB 5 0).toNatClampNeg x1) 1 ((st zB 0 (zB 5 0).toNatClampNeg x1) 5 0).toNatClampNeg x2) 2 ((st (st zB 0 (zB 5 0).toNatClampNeg x1) 1 ((st zB 0 (zB 5 0).toNatClampNeg x1) 5 0).toNatClampNeg x2) 5 0).toNatClampNeg x3) 5 0).toNatClampNeg x4)) H := hP
    have hD : va_D A (wB cI aB (st (st (st (st zB 0 (zB 5 0).toNatClampNeg x1) 1 ((st zB 0 (zB 5 0).toNatClampNeg x1) 5 0).toNatClampNeg x2) 2 ((st (st zB 0 (zB 5 0).toNatClampNeg x1) 1 ((st zB 0 (zB 5 0).toNatClampNeg x1) 5 0).toNatClampNeg x2) 5 0).toNatClampNeg x3) 3 ((st (st (st zB 0 (zB 5 0).toNatClampNeg x1) 1 ((st zB 0 (zB 5 0).toNatClampNeg x1) 5 0).toNatClampNeg x2) 2 ((st (st zB 0 (zB 5 0).toNatClampNeg x1) 1 ((st zB 0 (zB 5 0).toNatClampNeg x1) 5 0).toNatClampNeg x2) 5 0).toNatClampNeg x3) 5 0).toNatClampNeg x4)) := hD
    refine lv_aload_n hx hb dX2_append_50 rfl (lv_at hl 0 rfl) ?_
    refine va_get (D := D) (ci := 2) (v := .ref (aB 5)) (C := RX2) (T := TX2) (N := 7) hx hb hts jX2_append_X2 hown hK hP 0 rfl rfl 4 (by decide) (hts (.fieldLink RX2 24 "BrotherAutomata$RuleBook" "targets" "[I") (List.mem_of_getElem? (i := 6) rfl)) (fun _ h9 => h9) rfl dX2_append_51 ?_
    refine lv_aload_n hx hb dX2_append_54 rfl (lv_at hl 0 rfl) ?_
    refine va_get (D := D) (ci := 2) (v := .int ((st (st (st (st zB 0 (zB 5 0).toNatClampNeg x1) 1 ((st zB 0 (zB 5 0).toNatClampNeg x1) 5 0).toNatClampNeg x2) 2 ((st (st zB 0 (zB 5 0).toNatClampNeg x1) 1 ((st zB 0 (zB 5 0).toNatClampNeg x1) 5 0).toNatClampNeg x2) 5 0).toNatClampNeg x3) 3 ((st (st (st zB 0 (zB 5 0).toNatClampNeg x1) 1 ((st zB 0 (zB 5 0).toNatClampNeg x1) 5 0).toNatClampNeg x2) 2 ((st (st zB 0 (zB 5 0).toNatClampNeg x1) 1 ((st zB 0 (zB 5 0).toNatClampNeg x1) 5 0).toNatClampNeg x2) 5 0).toNatClampNeg x3) 5 0).toNatClampNeg x4) 5 0)) (C := RX2) (T := TX2) (N := 7) hx hb hts jX2_append_X2 hown hK hP 0 rfl rfl 5 (by decide) (hts (.fieldLink RX2 27 "BrotherAutomata$RuleBook" "count" "I") (List.mem_of_getElem? (i := 1) rfl)) (fun _ h9 => h9) rfl dX2_append_55 ?_
    refine lv_iload hx hb dX2_append_58 (lv_at hl 5 rfl) ?_
    obtain ⟨hi, h⟩ := h
    refine va_iast hx hb hK hP hD hS 5 0 rfl rfl hi dX2_append_60 (fun H locs hP hD hS => ?_)
    have hP : va_P D vwCl (wB cI aB (st (st (st (st (st zB 0 (zB 5 0).toNatClampNeg x1) 1 ((st zB 0 (zB 5 0).toNatClampNeg x1) 5 0).toNatClampNeg x2) 2 ((st (st zB 0 (zB 5 0).toNatClampNeg x1) 1 ((st zB 0 (zB 5 0).toNatClampNeg x1) 5 0).toNatClampNeg x2) 5 0).toNatClampNeg x3) 3 ((st (st (st zB 0 (zB 5 0).toNatClampNeg x1) 1 ((st zB 0 (zB 5 0).toNatClampNeg x1) 5 0).toNatClampNeg x2) 2 ((st (st zB 0 (zB 5 0).toNatClampNeg x1) 1 ((st zB 0 (zB 5 0).toNatClampNeg x1) 5 0).toNatClampNeg x2) 5 0).toNatClampNeg x3) 5 0).toNatClampNeg x4) 4 ((st (st (st (st zB 0 (zB 5 0).toNatClampNeg x1) 1 ((st zB 0 (zB 5 0).toNatClampNeg x1) 5 0).toNatClampNeg x2) 2 ((st (st zB 0 (zB 5 0).toNatClampNeg x1) 1 ((st zB 0 (zB 5 0).toNatClampNeg x1) 5 0).toNatClampNeg x2) 5 0).toNatClampNeg x3) 3 ((st (st (st zB 0 (zB 5 0).toNatClampNeg x1) 1 ((st zB 0 (zB 5 0).toNatClampNeg x1) 5 0).toNatClampNeg x2) 2 ((st (st zB 0 (zB 5 0).toNatClampNeg x1) 1 ((st zB 0 (zB 5 0).toNatClampNeg x1) 5 0).toNatClampNeg x2) 5 0).toNatClampNeg x3) 5 0).toNatClampNeg x4) 5 0).toNatClampNeg x5)) H := hP
    have hD : va_D A (wB cI aB (st (st (st (st (st zB 0 (zB 5 0).toNatClampNeg x1) 1 ((st zB 0 (zB 5 0).toNatClampNeg x1) 5 0).toNatClampNeg x2) 2 ((st (st zB 0 (zB 5 0).toNatClampNeg x1) 1 ((st zB 0 (zB 5 0).toNatClampNeg x1) 5 0).toNatClampNeg x2) 5 0).toNatClampNeg x3) 3 ((st (st (st zB 0 (zB 5 0).toNatClampNeg x1) 1 ((st zB 0 (zB 5 0).toNatClampNeg x1) 5 0).toNatClampNeg x2) 2 ((st (st zB 0 (zB 5 0).toNatClampNeg x1) 1 ((st zB 0 (zB 5 0).toNatClampNeg x1) 5 0).toNatClampNeg x2) 5 0).toNatClampNeg x3) 5 0).toNatClampNeg x4) 4 ((st (st (st (st zB 0 (zB 5 0).toNatClampNeg x1) 1 ((st zB 0 (zB 5 0).toNatClampNeg x1) 5 0).toNatClampNeg x2) 2 ((st (st zB 0 (zB 5 0).toNatClampNeg x1) 1 ((st zB 0 (zB 5 0).toNatClampNeg x1) 5 0).toNatClampNeg x2) 5 0).toNatClampNeg x3) 3 ((st (st (st zB 0 (zB 5 0).toNatClampNeg x1) 1 ((st zB 0 (zB 5 0).toNatClampNeg x1) 5 0).toNatClampNeg x2) 2 ((st (st zB 0 (zB 5 0).toNatClampNeg x1) 1 ((st zB 0 (zB 5 0).toNatClampNeg x1) 5 0).toNatClampNeg x2) 5 0).toNatClampNeg x3) 5 0).toNatClampNeg x4) 5 0).toNatClampNeg x5)) := hD
    refine lv_aload_n hx hb dX2_append_61 rfl (lv_at hl 0 rfl) ?_
    refine lv_dup hx hb dX2_append_62 rfl ?_
    refine va_get (D := D) (ci := 2) (v := .int ((st (st (st (st (st zB 0 (zB 5 0).toNatClampNeg x1) 1 ((st zB 0 (zB 5 0).toNatClampNeg x1) 5 0).toNatClampNeg x2) 2 ((st (st zB 0 (zB 5 0).toNatClampNeg x1) 1 ((st zB 0 (zB 5 0).toNatClampNeg x1) 5 0).toNatClampNeg x2) 5 0).toNatClampNeg x3) 3 ((st (st (st zB 0 (zB 5 0).toNatClampNeg x1) 1 ((st zB 0 (zB 5 0).toNatClampNeg x1) 5 0).toNatClampNeg x2) 2 ((st (st zB 0 (zB 5 0).toNatClampNeg x1) 1 ((st zB 0 (zB 5 0).toNatClampNeg x1) 5 0).toNatClampNeg x2) 5 0).toNatClampNeg x3) 5 0).toNatClampNeg x4) 4 ((st (st (st (st zB 0 (zB 5 0).toNatClampNeg x1) 1 ((st zB 0 (zB 5 0).toNatClampNeg x1) 5 0).toNatClampNeg x2) 2 ((st (st zB 0 (zB 5 0).toNatClampNeg x1) 1 ((st zB 0 (zB 5 0).toNatClampNeg x1) 5 0).toNatClampNeg x2) 5 0).toNatClampNeg x3) 3 ((st (st (st zB 0 (zB 5 0).toNatClampNeg x1) 1 ((st zB 0 (zB 5 0).toNatClampNeg x1) 5 0).toNatClampNeg x2) 2 ((st (st zB 0 (zB 5 0).toNatClampNeg x1) 1 ((st zB 0 (zB 5 0).toNatClampNeg x1) 5 0).toNatClampNeg x2) 5 0).toNatClampNeg x3) 5 0).toNatClampNeg x4) 5 0).toNatClampNeg x5) 5 0)) (C := RX2) (T := TX2) (N := 7) hx hb hts jX2_append_X2 hown hK hP 0 rfl rfl 5 (by decide) (hts (.fieldLink RX2 27 "BrotherAutomata$RuleBook" "count" "I") (List.mem_of_getElem? (i := 1) rfl)) (fun _ h9 => h9) rfl dX2_append_63 ?_
    refine lv_iconst (v := 1) hx hb dX2_append_66 (by decide) ?_
    refine lv_iadd hx hb dX2_append_67 ?_
    refine va_put (D := D) (ci := 2) (v := .int (((st (st (st (st (st zB 0 (zB 5 0).toNatClampNeg x1) 1 ((st zB 0 (zB 5 0).toNatClampNeg x1) 5 0).toNatClampNeg x2) 2 ((st (st zB 0 (zB 5 0).toNatClampNeg x1) 1 ((st zB 0 (zB 5 0).toNatClampNeg x1) 5 0).toNatClampNeg x2) 5 0).toNatClampNeg x3) 3 ((st (st (st zB 0 (zB 5 0).toNatClampNeg x1) 1 ((st zB 0 (zB 5 0).toNatClampNeg x1) 5 0).toNatClampNeg x2) 2 ((st (st zB 0 (zB 5 0).toNatClampNeg x1) 1 ((st zB 0 (zB 5 0).toNatClampNeg x1) 5 0).toNatClampNeg x2) 5 0).toNatClampNeg x3) 5 0).toNatClampNeg x4) 4 ((st (st (st (st zB 0 (zB 5 0).toNatClampNeg x1) 1 ((st zB 0 (zB 5 0).toNatClampNeg x1) 5 0).toNatClampNeg x2) 2 ((st (st zB 0 (zB 5 0).toNatClampNeg x1) 1 ((st zB 0 (zB 5 0).toNatClampNeg x1) 5 0).toNatClampNeg x2) 5 0).toNatClampNeg x3) 3 ((st (st (st zB 0 (zB 5 0).toNatClampNeg x1) 1 ((st zB 0 (zB 5 0).toNatClampNeg x1) 5 0).toNatClampNeg x2) 2 ((st (st zB 0 (zB 5 0).toNatClampNeg x1) 1 ((st zB 0 (zB 5 0).toNatClampNeg x1) 5 0).toNatClampNeg x2) 5 0).toNatClampNeg x3) 5 0).toNatClampNeg x4) 5 0).toNatClampNeg x5) 5 0) + (1 : Int32))) (ty := .int) (C := RX2) (T := TX2) (N := 7) hx hb hts jX2_append_X2 tyX2 tyX2_ok nmX2 hown hK hP hD hS 0 rfl rfl 5 (by decide) (hts (.fieldLink RX2 27 "BrotherAutomata$RuleBook" "count" "I") (List.mem_of_getElem? (i := 1) rfl)) (fun _ h9 => h9) rfl (by decide +kernel) rfl rfl (Nat.le_of_ble_eq_true rfl) dX2_append_68 (fun H locs hP hD hS => ?_)
    have hP : va_P D vwCl (wB cI aB (st (st (st (st (st (st zB 0 (zB 5 0).toNatClampNeg x1) 1 ((st zB 0 (zB 5 0).toNatClampNeg x1) 5 0).toNatClampNeg x2) 2 ((st (st zB 0 (zB 5 0).toNatClampNeg x1) 1 ((st zB 0 (zB 5 0).toNatClampNeg x1) 5 0).toNatClampNeg x2) 5 0).toNatClampNeg x3) 3 ((st (st (st zB 0 (zB 5 0).toNatClampNeg x1) 1 ((st zB 0 (zB 5 0).toNatClampNeg x1) 5 0).toNatClampNeg x2) 2 ((st (st zB 0 (zB 5 0).toNatClampNeg x1) 1 ((st zB 0 (zB 5 0).toNatClampNeg x1) 5 0).toNatClampNeg x2) 5 0).toNatClampNeg x3) 5 0).toNatClampNeg x4) 4 ((st (st (st (st zB 0 (zB 5 0).toNatClampNeg x1) 1 ((st zB 0 (zB 5 0).toNatClampNeg x1) 5 0).toNatClampNeg x2) 2 ((st (st zB 0 (zB 5 0).toNatClampNeg x1) 1 ((st zB 0 (zB 5 0).toNatClampNeg x1) 5 0).toNatClampNeg x2) 5 0).toNatClampNeg x3) 3 ((st (st (st zB 0 (zB 5 0).toNatClampNeg x1) 1 ((st zB 0 (zB 5 0).toNatClampNeg x1) 5 0).toNatClampNeg x2) 2 ((st (st zB 0 (zB 5 0).toNatClampNeg x1) 1 ((st zB 0 (zB 5 0).toNatClampNeg x1) 5 0).toNatClampNeg x2) 5 0).toNatClampNeg x3) 5 0).toNatClampNeg x4) 5 0).toNatClampNeg x5) 5 0 (((st (st (st (st (st zB 0 (zB 5 0).toNatClampNeg x1) 1 ((st zB 0 (zB 5 0).toNatClampNeg x1) 5 0).toNatClampNeg x2) 2 ((st (st zB 0 (zB 5 0).toNatClampNeg x1) 1 ((st zB 0 (zB 5 0).toNatClampNeg x1) 5 0).toNatClampNeg x2) 5 0).toNatClampNeg x3) 3 ((st (st (st zB 0 (zB 5 0).toNatClampNeg x1) 1 ((st zB 0 (zB 5 0).toNatClampNeg x1) 5 0).toNatClampNeg x2) 2 ((st (st zB 0 (zB 5 0).toNatClampNeg x1) 1 ((st zB 0 (zB 5 0).toNatClampNeg x1) 5 0).toNatClampNeg x2) 5 0).toNatClampNeg x3) 5 0).toNatClampNeg x4) 4 ((st (st (st (st zB 0 (zB 5 0).toNatClampNeg x1) 1 ((st zB 0 (zB 5 0).toNatClampNeg x1) 5 0).toNatClampNeg x2) 2 ((st (st zB 0 (zB 5 0).toNatClampNeg x1) 1 ((st zB 0 (zB 5 0).toNatClampNeg x1) 5 0).toNatClampNeg x2) 5 0).toNatClampNeg x3) 3 ((st (st (st zB 0 (zB 5 0).toNatClampNeg x1) 1 ((st zB 0 (zB 5 0).toNatClampNeg x1) 5 0).toNatClampNeg x2) 2 ((st (st zB 0 (zB 5 0).toNatClampNeg x1) 1 ((st zB 0 (zB 5 0).toNatClampNeg x1) 5 0).toNatClampNeg x2) 5 0).toNatClampNeg x3) 5 0).toNatClampNeg x4) 5 0).toNatClampNeg x5) 5 0) + (1 : Int32)))) H := hP
    have hD : va_D A (wB cI aB (st (st (st (st (st (st zB 0 (zB 5 0).toNatClampNeg x1) 1 ((st zB 0 (zB 5 0).toNatClampNeg x1) 5 0).toNatClampNeg x2) 2 ((st (st zB 0 (zB 5 0).toNatClampNeg x1) 1 ((st zB 0 (zB 5 0).toNatClampNeg x1) 5 0).toNatClampNeg x2) 5 0).toNatClampNeg x3) 3 ((st (st (st zB 0 (zB 5 0).toNatClampNeg x1) 1 ((st zB 0 (zB 5 0).toNatClampNeg x1) 5 0).toNatClampNeg x2) 2 ((st (st zB 0 (zB 5 0).toNatClampNeg x1) 1 ((st zB 0 (zB 5 0).toNatClampNeg x1) 5 0).toNatClampNeg x2) 5 0).toNatClampNeg x3) 5 0).toNatClampNeg x4) 4 ((st (st (st (st zB 0 (zB 5 0).toNatClampNeg x1) 1 ((st zB 0 (zB 5 0).toNatClampNeg x1) 5 0).toNatClampNeg x2) 2 ((st (st zB 0 (zB 5 0).toNatClampNeg x1) 1 ((st zB 0 (zB 5 0).toNatClampNeg x1) 5 0).toNatClampNeg x2) 5 0).toNatClampNeg x3) 3 ((st (st (st zB 0 (zB 5 0).toNatClampNeg x1) 1 ((st zB 0 (zB 5 0).toNatClampNeg x1) 5 0).toNatClampNeg x2) 2 ((st (st zB 0 (zB 5 0).toNatClampNeg x1) 1 ((st zB 0 (zB 5 0).toNatClampNeg x1) 5 0).toNatClampNeg x2) 5 0).toNatClampNeg x3) 5 0).toNatClampNeg x4) 5 0).toNatClampNeg x5) 5 0 (((st (st (st (st (st zB 0 (zB 5 0).toNatClampNeg x1) 1 ((st zB 0 (zB 5 0).toNatClampNeg x1) 5 0).toNatClampNeg x2) 2 ((st (st zB 0 (zB 5 0).toNatClampNeg x1) 1 ((st zB 0 (zB 5 0).toNatClampNeg x1) 5 0).toNatClampNeg x2) 5 0).toNatClampNeg x3) 3 ((st (st (st zB 0 (zB 5 0).toNatClampNeg x1) 1 ((st zB 0 (zB 5 0).toNatClampNeg x1) 5 0).toNatClampNeg x2) 2 ((st (st zB 0 (zB 5 0).toNatClampNeg x1) 1 ((st zB 0 (zB 5 0).toNatClampNeg x1) 5 0).toNatClampNeg x2) 5 0).toNatClampNeg x3) 5 0).toNatClampNeg x4) 4 ((st (st (st (st zB 0 (zB 5 0).toNatClampNeg x1) 1 ((st zB 0 (zB 5 0).toNatClampNeg x1) 5 0).toNatClampNeg x2) 2 ((st (st zB 0 (zB 5 0).toNatClampNeg x1) 1 ((st zB 0 (zB 5 0).toNatClampNeg x1) 5 0).toNatClampNeg x2) 5 0).toNatClampNeg x3) 3 ((st (st (st zB 0 (zB 5 0).toNatClampNeg x1) 1 ((st zB 0 (zB 5 0).toNatClampNeg x1) 5 0).toNatClampNeg x2) 2 ((st (st zB 0 (zB 5 0).toNatClampNeg x1) 1 ((st zB 0 (zB 5 0).toNatClampNeg x1) 5 0).toNatClampNeg x2) 5 0).toNatClampNeg x3) 5 0).toNatClampNeg x4) 5 0).toNatClampNeg x5) 5 0) + (1 : Int32)))) := hD
    exact xvret (w := (w_X2_append cI cO aB)) (st (st (st (st (st (st zB 0 (zB 5 0).toNatClampNeg x1) 1 ((st zB 0 (zB 5 0).toNatClampNeg x1) 5 0).toNatClampNeg x2) 2 ((st (st zB 0 (zB 5 0).toNatClampNeg x1) 1 ((st zB 0 (zB 5 0).toNatClampNeg x1) 5 0).toNatClampNeg x2) 5 0).toNatClampNeg x3) 3 ((st (st (st zB 0 (zB 5 0).toNatClampNeg x1) 1 ((st zB 0 (zB 5 0).toNatClampNeg x1) 5 0).toNatClampNeg x2) 2 ((st (st zB 0 (zB 5 0).toNatClampNeg x1) 1 ((st zB 0 (zB 5 0).toNatClampNeg x1) 5 0).toNatClampNeg x2) 5 0).toNatClampNeg x3) 5 0).toNatClampNeg x4) 4 ((st (st (st (st zB 0 (zB 5 0).toNatClampNeg x1) 1 ((st zB 0 (zB 5 0).toNatClampNeg x1) 5 0).toNatClampNeg x2) 2 ((st (st zB 0 (zB 5 0).toNatClampNeg x1) 1 ((st zB 0 (zB 5 0).toNatClampNeg x1) 5 0).toNatClampNeg x2) 5 0).toNatClampNeg x3) 3 ((st (st (st zB 0 (zB 5 0).toNatClampNeg x1) 1 ((st zB 0 (zB 5 0).toNatClampNeg x1) 5 0).toNatClampNeg x2) 2 ((st (st zB 0 (zB 5 0).toNatClampNeg x1) 1 ((st zB 0 (zB 5 0).toNatClampNeg x1) 5 0).toNatClampNeg x2) 5 0).toNatClampNeg x3) 5 0).toNatClampNeg x4) 5 0).toNatClampNeg x5) 5 0 (((st (st (st (st (st zB 0 (zB 5 0).toNatClampNeg x1) 1 ((st zB 0 (zB 5 0).toNatClampNeg x1) 5 0).toNatClampNeg x2) 2 ((st (st zB 0 (zB 5 0).toNatClampNeg x1) 1 ((st zB 0 (zB 5 0).toNatClampNeg x1) 5 0).toNatClampNeg x2) 5 0).toNatClampNeg x3) 3 ((st (st (st zB 0 (zB 5 0).toNatClampNeg x1) 1 ((st zB 0 (zB 5 0).toNatClampNeg x1) 5 0).toNatClampNeg x2) 2 ((st (st zB 0 (zB 5 0).toNatClampNeg x1) 1 ((st zB 0 (zB 5 0).toNatClampNeg x1) 5 0).toNatClampNeg x2) 5 0).toNatClampNeg x3) 5 0).toNatClampNeg x4) 4 ((st (st (st (st zB 0 (zB 5 0).toNatClampNeg x1) 1 ((st zB 0 (zB 5 0).toNatClampNeg x1) 5 0).toNatClampNeg x2) 2 ((st (st zB 0 (zB 5 0).toNatClampNeg x1) 1 ((st zB 0 (zB 5 0).toNatClampNeg x1) 5 0).toNatClampNeg x2) 5 0).toNatClampNeg x3) 3 ((st (st (st zB 0 (zB 5 0).toNatClampNeg x1) 1 ((st zB 0 (zB 5 0).toNatClampNeg x1) 5 0).toNatClampNeg x2) 2 ((st (st zB 0 (zB 5 0).toNatClampNeg x1) 1 ((st zB 0 (zB 5 0).toNatClampNeg x1) 5 0).toNatClampNeg x2) 5 0).toNatClampNeg x3) 5 0).toNatClampNeg x4) 5 0).toNatClampNeg x5) 5 0) + (1 : Int32))) hx hb hr hlocks h hP hK hD hS dX2_append_71
theorem dX2_closeGap_0 : decode cX2_closeGap 0 = .ok (.iload_n 2, 1) := by decide +kernel
theorem dX2_closeGap_1 : decode cX2_closeGap 1 = .ok (.istore_n 3, 1) := by decide +kernel
theorem dX2_closeGap_2 : decode cX2_closeGap 2 = .ok (.iload_n 3, 1) := by decide +kernel
theorem dX2_closeGap_3 : decode cX2_closeGap 3 = .ok (.aload_n 0, 1) := by decide +kernel
theorem dX2_closeGap_4 : decode cX2_closeGap 4 = .ok (.getfield 27, 3) := by decide +kernel
theorem dX2_closeGap_7 : decode cX2_closeGap 7 = .ok (.if_icmp .ge 17, 3) := by decide +kernel
theorem dX2_closeGap_10 : decode cX2_closeGap 10 = .ok (.aload_n 1, 1) := by decide +kernel
theorem dX2_closeGap_11 : decode cX2_closeGap 11 = .ok (.iload_n 3, 1) := by decide +kernel
theorem dX2_closeGap_12 : decode cX2_closeGap 12 = .ok (.aload_n 1, 1) := by decide +kernel
theorem dX2_closeGap_13 : decode cX2_closeGap 13 = .ok (.iload_n 3, 1) := by decide +kernel
theorem dX2_closeGap_14 : decode cX2_closeGap 14 = .ok (.iconst 1, 1) := by decide +kernel
theorem dX2_closeGap_15 : decode cX2_closeGap 15 = .ok (.iadd, 1) := by decide +kernel
theorem dX2_closeGap_16 : decode cX2_closeGap 16 = .ok (.iaload, 1) := by decide +kernel
theorem dX2_closeGap_17 : decode cX2_closeGap 17 = .ok (.iastore, 1) := by decide +kernel
theorem dX2_closeGap_18 : decode cX2_closeGap 18 = .ok (.iinc 3 1, 3) := by decide +kernel
theorem dX2_closeGap_21 : decode cX2_closeGap 21 = .ok (.goto (-19), 3) := by decide +kernel
theorem dX2_closeGap_24 : decode cX2_closeGap 24 = .ok (.return_, 1) := by decide +kernel
theorem jX2_closeGap_X2 : ∀ w ∈ wsX20, w ∈ wsX2_closeGap := by decide +kernel
abbrev w_X2_closeGap (cI cO : ClassId) (aB : Nat → Nat) (ra : Nat) (zB0 : CS) : ((Nat → Int32)) → va_W := fun u => (wB0 aB zB0 ++ ([(ra, .inl (cI, 16, .inl u))]))
set_option maxRecDepth 100000 in
set_option maxHeartbeats 8000000 in
theorem mX2_closeGap (l : Launch) (D : va_G) (cI cO : ClassId) (tA tS : Nat) (aB : Nat → Nat) (ra : Nat) (zB0 : CS) (zF : Nat → Int32) (x2 : Int32) (sz : Nat) {post : ((Nat → Int32)) → Prop} (h : qX2_closeGap post x2 zB0 zF) : Met l yX2_closeGap wsX2_closeGap ({ frames := 0, cells := 0, slots := 0, locals := 0 } : Room) (xPre D cI cO tA tS [.ref (aB 0), .ref ra, .int x2] (wB0 aB zB0 ++ ([(ra, .inl (cI, 16, .inl zF))])) sz) (va_Qv post (xB D cI cO (va_A (wB0 aB zB0 ++ ([(ra, .inl (cI, 16, .inl zF))])) sz) (w_X2_closeGap cI cO aB ra zB0)) (va_A (wB0 aB zB0 ++ ([(ra, .inl (cI, 16, .inl zF))])) sz)) 0 0 (va_A (wB0 aB zB0 ++ ([(ra, .inl (cI, 16, .inl zF))])) sz) := by
  refine xMet D cI cO tA tS (fun A => va_Qv post (xB D cI cO A (w_X2_closeGap cI cO aB ra zB0)) A) (cc := cX2_closeGap) (maxL := 4) (ret := none) (by decide) rfl (Nat.le_of_ble_eq_true rfl) ?_
  intro p e s m below meth c A ls hx hb hr hts hown hlocks hin hml hA hS hP hK hD hE hl
  have hown : s.vm.findClass RX2 = some m.cls := hown
  have hl : lv_has ls 4 [(0, .ref (aB 0)), (1, .ref ra), (2, .int x2)] := hl
  have g2 : ∀ (n : Nat) (y3 : Int32) (zF : Nat → Int32) (H : Heap) (locs : List Loc) (ls : Array Slot), qX2_closeGap_2 post x2 zB0 n y3 zF → va_P D vwCl (wB0 aB zB0 ++ ([(ra, .inl (cI, 16, .inl zF))])) H → va_D A (wB0 aB zB0 ++ ([(ra, .inl (cI, 16, .inl zF))])) → va_S A s.heap H locs → lv_has ls 4 [(3, .int y3), (0, .ref (aB 0)), (1, .ref ra), (2, .int x2)] → W p l e ({ frames := 0, cells := 0, slots := 0, locals := 0 } : Room) s m ([.ref (aB 0), .ref ra, .int x2] : List Value).toArray below meth c H locs 0 0 (MQ below (va_Qv post (xB D cI cO A (w_X2_closeGap cI cO aB ra zB0)) A) ([.ref (aB 0), .ref ra, .int x2] : List Value).toArray s 0 0 A) (F0 m 2 ls []) := by
    intro n
    induction n with
    | zero => intro y3 zF H locs ls h; exact False.elim h
    | succ n hk2 =>
      intro y3 zF H locs ls h hP hD hS hl
      have h : qX2_closeGap_2b post x2 zB0 (qX2_closeGap_2 post x2 zB0 n) y3 zF := h
      refine lv_iload_n hx hb dX2_closeGap_2 rfl (lv_at hl 0 rfl) ?_
      refine lv_aload_n hx hb dX2_closeGap_3 rfl (lv_at hl 1 rfl) ?_
      refine va_get (D := D) (ci := 2) (v := .int (zB0 5 0)) (C := RX2) (T := TX2) (N := 7) hx hb hts jX2_closeGap_X2 hown hK hP 0 rfl rfl 5 (by decide) (hts (.fieldLink RX2 27 "BrotherAutomata$RuleBook" "count" "I") (List.mem_of_getElem? (i := 1) rfl)) (fun _ h9 => h9) rfl dX2_closeGap_4 ?_
      obtain ⟨hh1, hh2⟩ := h
      refine lv_icmp_ge (tgt := 24) hx hb dX2_closeGap_7 (by decide) (fun hc => ?_) (fun hc => ?_)
      · have h := hh1 hc
        exact xvret (w := (w_X2_closeGap cI cO aB ra zB0)) (zF) hx hb hr hlocks h hP hK hD hS dX2_closeGap_24
      · have h := hh2 hc
        refine lv_aload_n hx hb dX2_closeGap_10 rfl (lv_at hl 2 rfl) ?_
        refine lv_iload_n hx hb dX2_closeGap_11 rfl (lv_at hl 0 rfl) ?_
        refine lv_aload_n hx hb dX2_closeGap_12 rfl (lv_at hl 2 rfl) ?_
        refine lv_iload_n hx hb dX2_closeGap_13 rfl (lv_at hl 0 rfl) ?_
        refine lv_iconst (v := 1) hx hb dX2_closeGap_14 (by decide) ?_
        refine lv_iadd hx hb dX2_closeGap_15 ?_
        obtain ⟨hi, h⟩ := h
        refine va_iald hx hb hK hP 1 0 rfl rfl hi dX2_closeGap_16 ?_
        obtain ⟨hi, h⟩ := h
        refine va_iast hx hb hK hP hD hS 1 0 rfl rfl hi dX2_closeGap_17 (fun H locs hP hD hS => ?_)
        have hP : va_P D vwCl (wB0 aB zB0 ++ ([(ra, .inl (cI, 16, .inl (upd zF y3.toNatClampNeg (zF (y3 + (1 : Int32)).toNatClampNeg))))])) H := hP
        have hD : va_D A (wB0 aB zB0 ++ ([(ra, .inl (cI, 16, .inl (upd zF y3.toNatClampNeg (zF (y3 + (1 : Int32)).toNatClampNeg))))])) := hD
        refine lv_iinc (v := (y3 + (1 : Int32))) (lv' := [(3, .int (y3 + (1 : Int32))), (0, .ref (aB 0)), (1, .ref ra), (2, .int x2)]) hx hb dX2_closeGap_18 hl (k := 0) rfl rfl (by decide) rfl (fun ls hl => ?_)
        refine lv_goto (tgt := 2) hx hb dX2_closeGap_21 (by decide) ?_
        exact hk2 (y3 + (1 : Int32)) (upd zF y3.toNatClampNeg (zF (y3 + (1 : Int32)).toNatClampNeg)) _ _ _ h hP hD hS hl
  refine lv_iload_n hx hb dX2_closeGap_0 rfl (lv_at hl 2 rfl) ?_
  refine lv_istore_n (lv' := [(3, .int x2), (0, .ref (aB 0)), (1, .ref ra), (2, .int x2)]) hx hb dX2_closeGap_1 rfl hl (by decide) rfl (fun ls hl => ?_)
  obtain ⟨n0, h⟩ := h
  exact g2 n0 x2 zF _ _ _ h hP hD hS hl
set_option maxRecDepth 20000 in
theorem ggX2_delete_X2_closeGap : GoodIn wsX2_delete wsX2_closeGap := goodIn_r _ [11, 1, 12, 13, 14, 15, 16, 17, 18] (by decide +kernel) (by decide +kernel)
set_option maxRecDepth 20000 in
theorem gX2_delete_X2_closeGap : GoodIn wsX2_delete (wsV RX2 40 RX2 yX2_closeGap wsX2_closeGap) := goodIn_app (goodIn_of _ (by decide +kernel)) ggX2_delete_X2_closeGap
theorem dX2_delete_0 : decode cX2_delete 0 = .ok (.iload_n 1, 1) := by decide +kernel
theorem dX2_delete_1 : decode cX2_delete 1 = .ok (.aload_n 0, 1) := by decide +kernel
theorem dX2_delete_2 : decode cX2_delete 2 = .ok (.getfield 27, 3) := by decide +kernel
theorem dX2_delete_5 : decode cX2_delete 5 = .ok (.if_icmp .ge 58, 3) := by decide +kernel
theorem dX2_delete_8 : decode cX2_delete 8 = .ok (.aload_n 0, 1) := by decide +kernel
theorem dX2_delete_9 : decode cX2_delete 9 = .ok (.dup, 1) := by decide +kernel
theorem dX2_delete_10 : decode cX2_delete 10 = .ok (.getfield 27, 3) := by decide +kernel
theorem dX2_delete_13 : decode cX2_delete 13 = .ok (.iconst 1, 1) := by decide +kernel
theorem dX2_delete_14 : decode cX2_delete 14 = .ok (.isub, 1) := by decide +kernel
theorem dX2_delete_15 : decode cX2_delete 15 = .ok (.putfield 27, 3) := by decide +kernel
theorem dX2_delete_18 : decode cX2_delete 18 = .ok (.aload_n 0, 1) := by decide +kernel
theorem dX2_delete_19 : decode cX2_delete 19 = .ok (.aload_n 0, 1) := by decide +kernel
theorem dX2_delete_20 : decode cX2_delete 20 = .ok (.getfield 9, 3) := by decide +kernel
theorem dX2_delete_23 : decode cX2_delete 23 = .ok (.iload_n 1, 1) := by decide +kernel
theorem dX2_delete_24 : decode cX2_delete 24 = .ok (.invokevirtual 40, 3) := by decide +kernel
theorem dX2_delete_27 : decode cX2_delete 27 = .ok (.aload_n 0, 1) := by decide +kernel
theorem dX2_delete_28 : decode cX2_delete 28 = .ok (.aload_n 0, 1) := by decide +kernel
theorem dX2_delete_29 : decode cX2_delete 29 = .ok (.getfield 15, 3) := by decide +kernel
theorem dX2_delete_32 : decode cX2_delete 32 = .ok (.iload_n 1, 1) := by decide +kernel
theorem dX2_delete_33 : decode cX2_delete 33 = .ok (.invokevirtual 40, 3) := by decide +kernel
theorem dX2_delete_36 : decode cX2_delete 36 = .ok (.aload_n 0, 1) := by decide +kernel
theorem dX2_delete_37 : decode cX2_delete 37 = .ok (.aload_n 0, 1) := by decide +kernel
theorem dX2_delete_38 : decode cX2_delete 38 = .ok (.getfield 18, 3) := by decide +kernel
theorem dX2_delete_41 : decode cX2_delete 41 = .ok (.iload_n 1, 1) := by decide +kernel
theorem dX2_delete_42 : decode cX2_delete 42 = .ok (.invokevirtual 40, 3) := by decide +kernel
theorem dX2_delete_45 : decode cX2_delete 45 = .ok (.aload_n 0, 1) := by decide +kernel
theorem dX2_delete_46 : decode cX2_delete 46 = .ok (.aload_n 0, 1) := by decide +kernel
theorem dX2_delete_47 : decode cX2_delete 47 = .ok (.getfield 21, 3) := by decide +kernel
theorem dX2_delete_50 : decode cX2_delete 50 = .ok (.iload_n 1, 1) := by decide +kernel
theorem dX2_delete_51 : decode cX2_delete 51 = .ok (.invokevirtual 40, 3) := by decide +kernel
theorem dX2_delete_54 : decode cX2_delete 54 = .ok (.aload_n 0, 1) := by decide +kernel
theorem dX2_delete_55 : decode cX2_delete 55 = .ok (.aload_n 0, 1) := by decide +kernel
theorem dX2_delete_56 : decode cX2_delete 56 = .ok (.getfield 24, 3) := by decide +kernel
theorem dX2_delete_59 : decode cX2_delete 59 = .ok (.iload_n 1, 1) := by decide +kernel
theorem dX2_delete_60 : decode cX2_delete 60 = .ok (.invokevirtual 40, 3) := by decide +kernel
theorem dX2_delete_63 : decode cX2_delete 63 = .ok (.return_, 1) := by decide +kernel
theorem jX2_delete_X2 : ∀ w ∈ wsX20, w ∈ wsX2_delete := by decide +kernel
abbrev w_X2_delete (cI cO : ClassId) (aB : Nat → Nat)  : ((CS)) → va_W := fun u => (wB cI aB u)
set_option maxRecDepth 100000 in
set_option maxHeartbeats 8000000 in
theorem mX2_delete (l : Launch) (D : va_G) (cI cO : ClassId) (tA tS : Nat) (aB : Nat → Nat) (zB : CS) (x1 : Int32) (sz : Nat) {post : ((CS)) → Prop} (h : qX2_delete post x1 zB) : Met l yX2_delete wsX2_delete ({ frames := 1, cells := 0, slots := 0, locals := 23 } : Room) (xPre D cI cO tA tS [.ref (aB 0), .int x1] (wB cI aB zB) sz) (va_Qv post (xB D cI cO (va_A (wB cI aB zB) sz) (w_X2_delete cI cO aB)) (va_A (wB cI aB zB) sz)) 0 0 (va_A (wB cI aB zB) sz) := by
  refine xMet D cI cO tA tS (fun A => va_Qv post (xB D cI cO A (w_X2_delete cI cO aB)) A) (cc := cX2_delete) (maxL := 2) (ret := none) (by decide) rfl (Nat.le_of_ble_eq_true rfl) ?_
  intro p e s m below meth c A ls hx hb hr hts hown hlocks hin hml hA hS hP hK hD hE hl
  have hown : s.vm.findClass RX2 = some m.cls := hown
  have hl : lv_has ls 2 [(0, .ref (aB 0)), (1, .int x1)] := hl
  refine lv_iload_n hx hb dX2_delete_0 rfl (lv_at hl 1 rfl) ?_
  refine lv_aload_n hx hb dX2_delete_1 rfl (lv_at hl 0 rfl) ?_
  refine va_get (D := D) (ci := 2) (v := .int (zB 5 0)) (C := RX2) (T := TX2) (N := 7) hx hb hts jX2_delete_X2 hown hK hP 0 rfl rfl 5 (by decide) (hts (.fieldLink RX2 27 "BrotherAutomata$RuleBook" "count" "I") (List.mem_of_getElem? (i := 1) rfl)) (fun _ h9 => h9) rfl dX2_delete_2 ?_
  obtain ⟨hh1, hh2⟩ := h
  refine lv_icmp_ge (tgt := 63) hx hb dX2_delete_5 (by decide) (fun hc => ?_) (fun hc => ?_)
  · have h := hh1 hc
    exact xvret (w := (w_X2_delete cI cO aB)) (zB) hx hb hr hlocks h hP hK hD hS dX2_delete_63
  · have h := hh2 hc
    refine lv_aload_n hx hb dX2_delete_8 rfl (lv_at hl 0 rfl) ?_
    refine lv_dup hx hb dX2_delete_9 rfl ?_
    refine va_get (D := D) (ci := 2) (v := .int (zB 5 0)) (C := RX2) (T := TX2) (N := 7) hx hb hts jX2_delete_X2 hown hK hP 0 rfl rfl 5 (by decide) (hts (.fieldLink RX2 27 "BrotherAutomata$RuleBook" "count" "I") (List.mem_of_getElem? (i := 1) rfl)) (fun _ h9 => h9) rfl dX2_delete_10 ?_
    refine lv_iconst (v := 1) hx hb dX2_delete_13 (by decide) ?_
    refine lv_isub hx hb dX2_delete_14 ?_
    refine va_put (D := D) (ci := 2) (v := .int ((zB 5 0) - (1 : Int32))) (ty := .int) (C := RX2) (T := TX2) (N := 7) hx hb hts jX2_delete_X2 tyX2 tyX2_ok nmX2 hown hK hP hD hS 0 rfl rfl 5 (by decide) (hts (.fieldLink RX2 27 "BrotherAutomata$RuleBook" "count" "I") (List.mem_of_getElem? (i := 1) rfl)) (fun _ h9 => h9) rfl (by decide +kernel) rfl rfl (Nat.le_of_ble_eq_true rfl) dX2_delete_15 (fun H locs hP hD hS => ?_)
    have hP : va_P D vwCl (wB cI aB (st zB 5 0 ((zB 5 0) - (1 : Int32)))) H := hP
    have hD : va_D A (wB cI aB (st zB 5 0 ((zB 5 0) - (1 : Int32)))) := hD
    refine lv_aload_n hx hb dX2_delete_18 rfl (lv_at hl 0 rfl) ?_
    refine lv_aload_n hx hb dX2_delete_19 rfl (lv_at hl 0 rfl) ?_
    refine va_get (D := D) (ci := 2) (v := .ref (aB 1)) (C := RX2) (T := TX2) (N := 7) hx hb hts jX2_delete_X2 hown hK hP 0 rfl rfl 0 (by decide) (hts (.fieldLink RX2 9 "BrotherAutomata$RuleBook" "symbols" "[I") (List.mem_of_getElem? (i := 2) rfl)) (fun _ h9 => h9) rfl dX2_delete_20 ?_
    refine lv_iload_n hx hb dX2_delete_23 rfl (lv_at hl 1 rfl) ?_
    refine xcallv (wr := ([(aB 2, .inl (cI, 16, .inl ((st zB 5 0 ((zB 5 0) - (1 : Int32))) 1))), (aB 3, .inl (cI, 16, .inl ((st zB 5 0 ((zB 5 0) - (1 : Int32))) 2))), (aB 4, .inl (cI, 16, .inl ((st zB 5 0 ((zB 5 0) - (1 : Int32))) 3))), (aB 5, .inl (cI, 16, .inl ((st zB 5 0 ((zB 5 0) - (1 : Int32))) 4)))])) (w2 := fun (u24 : (Nat → Int32)) => (wB cI aB (sr (st zB 5 0 ((zB 5 0) - (1 : Int32))) 0 u24))) (va_runV (As := [.ref (aB 1), .int x1]) (rest := []) ⟨hx, hb, hml, hown, hts⟩ (mX2_closeGap l D cI cO tA tS aB (aB 1) (st zB 5 0 ((zB 5 0) - (1 : Int32))) ((st zB 5 0 ((zB 5 0) - (1 : Int32))) 0) x1 H.size h) (cwV 2 hts gX2_delete_X2_closeGap rfl rfl rfl (by decide +kernel) ⟨Nat.le_of_ble_eq_true rfl, Nat.le_of_ble_eq_true rfl⟩) (xpreV hP hD hS hA hK hE [0, 1] rfl rfl 2 0 rfl rfl) rfl rfl hl.1 rfl (lv_room (Nat.le_of_ble_eq_true rfl)) dX2_delete_24 ⟨Nat.le_refl 0, Nat.le_refl 0⟩) hP hD hS hA [0, 1] [2, 3, 4, 5] [4, 5, 0, 1, 2, 3] rfl rfl rfl (by decide) rfl (fun _ => rfl) (fun u24 H locs h hP hD hS => ?_)
    refine lv_aload_n hx hb dX2_delete_27 rfl (lv_at hl 0 rfl) ?_
    refine lv_aload_n hx hb dX2_delete_28 rfl (lv_at hl 0 rfl) ?_
    refine va_get (D := D) (ci := 2) (v := .ref (aB 2)) (C := RX2) (T := TX2) (N := 7) hx hb hts jX2_delete_X2 hown hK hP 0 rfl rfl 1 (by decide) (hts (.fieldLink RX2 15 "BrotherAutomata$RuleBook" "firsts" "[I") (List.mem_of_getElem? (i := 3) rfl)) (fun _ h9 => h9) rfl dX2_delete_29 ?_
    refine lv_iload_n hx hb dX2_delete_32 rfl (lv_at hl 1 rfl) ?_
    refine xcallv (wr := ([(aB 1, .inl (cI, 16, .inl ((sr (st zB 5 0 ((zB 5 0) - (1 : Int32))) 0 u24) 0))), (aB 3, .inl (cI, 16, .inl ((sr (st zB 5 0 ((zB 5 0) - (1 : Int32))) 0 u24) 2))), (aB 4, .inl (cI, 16, .inl ((sr (st zB 5 0 ((zB 5 0) - (1 : Int32))) 0 u24) 3))), (aB 5, .inl (cI, 16, .inl ((sr (st zB 5 0 ((zB 5 0) - (1 : Int32))) 0 u24) 4)))])) (w2 := fun (u33 : (Nat → Int32)) => (wB cI aB (sr (sr (st zB 5 0 ((zB 5 0) - (1 : Int32))) 0 u24) 1 u33))) (va_runV (As := [.ref (aB 2), .int x1]) (rest := []) ⟨hx, hb, hml, hown, hts⟩ (mX2_closeGap l D cI cO tA tS aB (aB 2) (sr (st zB 5 0 ((zB 5 0) - (1 : Int32))) 0 u24) ((sr (st zB 5 0 ((zB 5 0) - (1 : Int32))) 0 u24) 1) x1 H.size h) (cwV 2 hts gX2_delete_X2_closeGap rfl rfl rfl (by decide +kernel) ⟨Nat.le_of_ble_eq_true rfl, Nat.le_of_ble_eq_true rfl⟩) (xpreV hP hD hS hA hK hE [0, 2] rfl rfl 2 0 rfl rfl) rfl rfl hl.1 rfl (lv_room (Nat.le_of_ble_eq_true rfl)) dX2_delete_33 ⟨Nat.le_refl 0, Nat.le_refl 0⟩) hP hD hS hA [0, 2] [1, 3, 4, 5] [4, 0, 5, 1, 2, 3] rfl rfl rfl (by decide) rfl (fun _ => rfl) (fun u33 H locs h hP hD hS => ?_)
    refine lv_aload_n hx hb dX2_delete_36 rfl (lv_at hl 0 rfl) ?_
    refine lv_aload_n hx hb dX2_delete_37 rfl (lv_at hl 0 rfl) ?_
    refine va_get (D := D) (ci := 2) (v := .ref (aB 3)) (C := RX2) (T := TX2) (N := 7) hx hb hts jX2_delete_X2 hown hK hP 0 rfl rfl 2 (by decide) (hts (.fieldLink RX2 18 "BrotherAutomata$RuleBook" "seconds" "[I") (List.mem_of_getElem? (i := 4) rfl)) (fun _ h9 => h9) rfl dX2_delete_38 ?_
    refine lv_iload_n hx hb dX2_delete_41 rfl (lv_at hl 1 rfl) ?_
    refine xcallv (wr := ([(aB 1, .inl (cI, 16, .inl ((sr (sr (st zB 5 0 ((zB 5 0) - (1 : Int32))) 0 u24) 1 u33) 0))), (aB 2, .inl (cI, 16, .inl ((sr (sr (st zB 5 0 ((zB 5 0) - (1 : Int32))) 0 u24) 1 u33) 1))), (aB 4, .inl (cI, 16, .inl ((sr (sr (st zB 5 0 ((zB 5 0) - (1 : Int32))) 0 u24) 1 u33) 3))), (aB 5, .inl (cI, 16, .inl ((sr (sr (st zB 5 0 ((zB 5 0) - (1 : Int32))) 0 u24) 1 u33) 4)))])) (w2 := fun (u42 : (Nat → Int32)) => (wB cI aB (sr (sr (sr (st zB 5 0 ((zB 5 0) - (1 : Int32))) 0 u24) 1 u33) 2 u42))) (va_runV (As := [.ref (aB 3), .int x1]) (rest := []) ⟨hx, hb, hml, hown, hts⟩ (mX2_closeGap l D cI cO tA tS aB (aB 3) (sr (sr (st zB 5 0 ((zB 5 0) - (1 : Int32))) 0 u24) 1 u33) ((sr (sr (st zB 5 0 ((zB 5 0) - (1 : Int32))) 0 u24) 1 u33) 2) x1 H.size h) (cwV 2 hts gX2_delete_X2_closeGap rfl rfl rfl (by decide +kernel) ⟨Nat.le_of_ble_eq_true rfl, Nat.le_of_ble_eq_true rfl⟩) (xpreV hP hD hS hA hK hE [0, 3] rfl rfl 2 0 rfl rfl) rfl rfl hl.1 rfl (lv_room (Nat.le_of_ble_eq_true rfl)) dX2_delete_42 ⟨Nat.le_refl 0, Nat.le_refl 0⟩) hP hD hS hA [0, 3] [1, 2, 4, 5] [4, 0, 1, 5, 2, 3] rfl rfl rfl (by decide) rfl (fun _ => rfl) (fun u42 H locs h hP hD hS => ?_)
    refine lv_aload_n hx hb dX2_delete_45 rfl (lv_at hl 0 rfl) ?_
    refine lv_aload_n hx hb dX2_delete_46 rfl (lv_at hl 0 rfl) ?_
    refine va_get (D := D) (ci := 2) (v := .ref (aB 4)) (C := RX2) (T := TX2) (N := 7) hx hb hts jX2_delete_X2 hown hK hP 0 rfl rfl 3 (by decide) (hts (.fieldLink RX2 21 "BrotherAutomata$RuleBook" "constraints" "[I") (List.mem_of_getElem? (i := 5) rfl)) (fun _ h9 => h9) rfl dX2_delete_47 ?_
    refine lv_iload_n hx hb dX2_delete_50 rfl (lv_at hl 1 rfl) ?_
    refine xcallv (wr := ([(aB 1, .inl (cI, 16, .inl ((sr (sr (sr (st zB 5 0 ((zB 5 0) - (1 : Int32))) 0 u24) 1 u33) 2 u42) 0))), (aB 2, .inl (cI, 16, .inl ((sr (sr (sr (st zB 5 0 ((zB 5 0) - (1 : Int32))) 0 u24) 1 u33) 2 u42) 1))), (aB 3, .inl (cI, 16, .inl ((sr (sr (sr (st zB 5 0 ((zB 5 0) - (1 : Int32))) 0 u24) 1 u33) 2 u42) 2))), (aB 5, .inl (cI, 16, .inl ((sr (sr (sr (st zB 5 0 ((zB 5 0) - (1 : Int32))) 0 u24) 1 u33) 2 u42) 4)))])) (w2 := fun (u51 : (Nat → Int32)) => (wB cI aB (sr (sr (sr (sr (st zB 5 0 ((zB 5 0) - (1 : Int32))) 0 u24) 1 u33) 2 u42) 3 u51))) (va_runV (As := [.ref (aB 4), .int x1]) (rest := []) ⟨hx, hb, hml, hown, hts⟩ (mX2_closeGap l D cI cO tA tS aB (aB 4) (sr (sr (sr (st zB 5 0 ((zB 5 0) - (1 : Int32))) 0 u24) 1 u33) 2 u42) ((sr (sr (sr (st zB 5 0 ((zB 5 0) - (1 : Int32))) 0 u24) 1 u33) 2 u42) 3) x1 H.size h) (cwV 2 hts gX2_delete_X2_closeGap rfl rfl rfl (by decide +kernel) ⟨Nat.le_of_ble_eq_true rfl, Nat.le_of_ble_eq_true rfl⟩) (xpreV hP hD hS hA hK hE [0, 4] rfl rfl 2 0 rfl rfl) rfl rfl hl.1 rfl (lv_room (Nat.le_of_ble_eq_true rfl)) dX2_delete_51 ⟨Nat.le_refl 0, Nat.le_refl 0⟩) hP hD hS hA [0, 4] [1, 2, 3, 5] [4, 0, 1, 2, 5, 3] rfl rfl rfl (by decide) rfl (fun _ => rfl) (fun u51 H locs h hP hD hS => ?_)
    refine lv_aload_n hx hb dX2_delete_54 rfl (lv_at hl 0 rfl) ?_
    refine lv_aload_n hx hb dX2_delete_55 rfl (lv_at hl 0 rfl) ?_
    refine va_get (D := D) (ci := 2) (v := .ref (aB 5)) (C := RX2) (T := TX2) (N := 7) hx hb hts jX2_delete_X2 hown hK hP 0 rfl rfl 4 (by decide) (hts (.fieldLink RX2 24 "BrotherAutomata$RuleBook" "targets" "[I") (List.mem_of_getElem? (i := 6) rfl)) (fun _ h9 => h9) rfl dX2_delete_56 ?_
    refine lv_iload_n hx hb dX2_delete_59 rfl (lv_at hl 1 rfl) ?_
    refine xcallv (wr := ([(aB 1, .inl (cI, 16, .inl ((sr (sr (sr (sr (st zB 5 0 ((zB 5 0) - (1 : Int32))) 0 u24) 1 u33) 2 u42) 3 u51) 0))), (aB 2, .inl (cI, 16, .inl ((sr (sr (sr (sr (st zB 5 0 ((zB 5 0) - (1 : Int32))) 0 u24) 1 u33) 2 u42) 3 u51) 1))), (aB 3, .inl (cI, 16, .inl ((sr (sr (sr (sr (st zB 5 0 ((zB 5 0) - (1 : Int32))) 0 u24) 1 u33) 2 u42) 3 u51) 2))), (aB 4, .inl (cI, 16, .inl ((sr (sr (sr (sr (st zB 5 0 ((zB 5 0) - (1 : Int32))) 0 u24) 1 u33) 2 u42) 3 u51) 3)))])) (w2 := fun (u60 : (Nat → Int32)) => (wB cI aB (sr (sr (sr (sr (sr (st zB 5 0 ((zB 5 0) - (1 : Int32))) 0 u24) 1 u33) 2 u42) 3 u51) 4 u60))) (va_runV (As := [.ref (aB 5), .int x1]) (rest := []) ⟨hx, hb, hml, hown, hts⟩ (mX2_closeGap l D cI cO tA tS aB (aB 5) (sr (sr (sr (sr (st zB 5 0 ((zB 5 0) - (1 : Int32))) 0 u24) 1 u33) 2 u42) 3 u51) ((sr (sr (sr (sr (st zB 5 0 ((zB 5 0) - (1 : Int32))) 0 u24) 1 u33) 2 u42) 3 u51) 4) x1 H.size h) (cwV 2 hts gX2_delete_X2_closeGap rfl rfl rfl (by decide +kernel) ⟨Nat.le_of_ble_eq_true rfl, Nat.le_of_ble_eq_true rfl⟩) (xpreV hP hD hS hA hK hE [0, 5] rfl rfl 2 0 rfl rfl) rfl rfl hl.1 rfl (lv_room (Nat.le_of_ble_eq_true rfl)) dX2_delete_60 ⟨Nat.le_refl 0, Nat.le_refl 0⟩) hP hD hS hA [0, 5] [1, 2, 3, 4] [4, 0, 1, 2, 3, 5] rfl rfl rfl (by decide) rfl (fun _ => rfl) (fun u60 H locs h hP hD hS => ?_)
    exact xvret (w := (w_X2_delete cI cO aB)) (sr (sr (sr (sr (sr (st zB 5 0 ((zB 5 0) - (1 : Int32))) 0 u24) 1 u33) 2 u42) 3 u51) 4 u60) hx hb hr hlocks h hP hK hD hS dX2_delete_63
theorem dX2_contains_0 : decode cX2_contains 0 = .ok (.getstatic 48, 3) := by decide +kernel
theorem dX2_contains_3 : decode cX2_contains 3 = .ok (.aload_n 0, 1) := by decide +kernel
theorem dX2_contains_4 : decode cX2_contains 4 = .ok (.getfield 9, 3) := by decide +kernel
theorem dX2_contains_7 : decode cX2_contains 7 = .ok (.iload_n 1, 1) := by decide +kernel
theorem dX2_contains_8 : decode cX2_contains 8 = .ok (.iaload, 1) := by decide +kernel
theorem dX2_contains_9 : decode cX2_contains 9 = .ok (.iaload, 1) := by decide +kernel
theorem dX2_contains_10 : decode cX2_contains 10 = .ok (.istore_n 3, 1) := by decide +kernel
theorem dX2_contains_11 : decode cX2_contains 11 = .ok (.aload_n 0, 1) := by decide +kernel
theorem dX2_contains_12 : decode cX2_contains 12 = .ok (.getfield 24, 3) := by decide +kernel
theorem dX2_contains_15 : decode cX2_contains 15 = .ok (.iload_n 1, 1) := by decide +kernel
theorem dX2_contains_16 : decode cX2_contains 16 = .ok (.iaload, 1) := by decide +kernel
theorem dX2_contains_17 : decode cX2_contains 17 = .ok (.iload_n 2, 1) := by decide +kernel
theorem dX2_contains_18 : decode cX2_contains 18 = .ok (.if_icmp .eq 32, 3) := by decide +kernel
theorem dX2_contains_21 : decode cX2_contains 21 = .ok (.iload_n 3, 1) := by decide +kernel
theorem dX2_contains_22 : decode cX2_contains 22 = .ok (.ifCond .le 13, 3) := by decide +kernel
theorem dX2_contains_25 : decode cX2_contains 25 = .ok (.aload_n 0, 1) := by decide +kernel
theorem dX2_contains_26 : decode cX2_contains 26 = .ok (.getfield 15, 3) := by decide +kernel
theorem dX2_contains_29 : decode cX2_contains 29 = .ok (.iload_n 1, 1) := by decide +kernel
theorem dX2_contains_30 : decode cX2_contains 30 = .ok (.iaload, 1) := by decide +kernel
theorem dX2_contains_31 : decode cX2_contains 31 = .ok (.iload_n 2, 1) := by decide +kernel
theorem dX2_contains_32 : decode cX2_contains 32 = .ok (.if_icmp .eq 18, 3) := by decide +kernel
theorem dX2_contains_35 : decode cX2_contains 35 = .ok (.iload_n 3, 1) := by decide +kernel
theorem dX2_contains_36 : decode cX2_contains 36 = .ok (.iconst 1, 1) := by decide +kernel
theorem dX2_contains_37 : decode cX2_contains 37 = .ok (.if_icmp .le 17, 3) := by decide +kernel
theorem dX2_contains_40 : decode cX2_contains 40 = .ok (.aload_n 0, 1) := by decide +kernel
theorem dX2_contains_41 : decode cX2_contains 41 = .ok (.getfield 18, 3) := by decide +kernel
theorem dX2_contains_44 : decode cX2_contains 44 = .ok (.iload_n 1, 1) := by decide +kernel
theorem dX2_contains_45 : decode cX2_contains 45 = .ok (.iaload, 1) := by decide +kernel
theorem dX2_contains_46 : decode cX2_contains 46 = .ok (.iload_n 2, 1) := by decide +kernel
theorem dX2_contains_47 : decode cX2_contains 47 = .ok (.if_icmp .ne 7, 3) := by decide +kernel
theorem dX2_contains_50 : decode cX2_contains 50 = .ok (.iconst 1, 1) := by decide +kernel
theorem dX2_contains_51 : decode cX2_contains 51 = .ok (.goto 4, 3) := by decide +kernel
theorem dX2_contains_54 : decode cX2_contains 54 = .ok (.iconst 0, 1) := by decide +kernel
theorem dX2_contains_55 : decode cX2_contains 55 = .ok (.ireturn, 1) := by decide +kernel
theorem jX2_contains_X2 : ∀ w ∈ wsX20, w ∈ wsX2_contains := by decide +kernel
abbrev w_X2_contains (cI cO : ClassId) (aB : Nat → Nat) (zB : CS) : (Unit) → va_W := fun u => (wB cI aB zB)
set_option maxRecDepth 100000 in
set_option maxHeartbeats 8000000 in
theorem mX2_contains (l : Launch) (D : va_G) (cI cO : ClassId) (tA tS : Nat) (aB : Nat → Nat) (zB : CS) (x1 : Int32) (x2 : Int32) (sz : Nat) {post : Int32 → (Unit) → Prop} (h : qX2_contains post x1 x2 zB) : Met l yX2_contains wsX2_contains ({ frames := 0, cells := 0, slots := 0, locals := 0 } : Room) (xPre D cI cO tA tS [.ref (aB 0), .int x1, .int x2] (wB cI aB zB) sz) (va_Qi post (xB D cI cO (va_A (wB cI aB zB) sz) (w_X2_contains cI cO aB zB)) (va_A (wB cI aB zB) sz)) 0 0 (va_A (wB cI aB zB) sz) := by
  refine xMet D cI cO tA tS (fun A => va_Qi post (xB D cI cO A (w_X2_contains cI cO aB zB)) A) (cc := cX2_contains) (maxL := 4) (ret := (some .boolean)) (by decide) rfl (Nat.le_of_ble_eq_true rfl) ?_
  intro p e s m below meth c A ls hx hb hr hts hown hlocks hin hml hA hS hP hK hD hE hl
  have hown : s.vm.findClass RX2 = some m.cls := hown
  have hl : lv_has ls 4 [(0, .ref (aB 0)), (1, .int x1), (2, .int x2)] := hl
  have g54 : ∀ (y3 : Int32) (H : Heap) (locs : List Loc) (ls : Array Slot), qX2_contains_54 post x1 x2 zB y3 → va_P D vwCl (wB cI aB zB) H → va_D A (wB cI aB zB) → va_S A s.heap H locs → lv_has ls 4 [(3, .int y3), (0, .ref (aB 0)), (1, .int x1), (2, .int x2)] → W p l e ({ frames := 0, cells := 0, slots := 0, locals := 0 } : Room) s m ([.ref (aB 0), .int x1, .int x2] : List Value).toArray below meth c H locs 0 0 (MQ below (va_Qi post (xB D cI cO A (w_X2_contains cI cO aB zB)) A) ([.ref (aB 0), .int x1, .int x2] : List Value).toArray s 0 0 A) (F0 m 54 ls []) := by
    intro y3 H locs ls h hP hD hS hl
    refine lv_iconst (v := 0) hx hb dX2_contains_54 (by decide) ?_
    exact xzret (w := (w_X2_contains cI cO aB zB)) () hx hb hr hlocks rfl h hP hK hD hS dX2_contains_55
  have g50 : ∀ (y3 : Int32) (H : Heap) (locs : List Loc) (ls : Array Slot), qX2_contains_50 post x1 x2 zB y3 → va_P D vwCl (wB cI aB zB) H → va_D A (wB cI aB zB) → va_S A s.heap H locs → lv_has ls 4 [(3, .int y3), (0, .ref (aB 0)), (1, .int x1), (2, .int x2)] → W p l e ({ frames := 0, cells := 0, slots := 0, locals := 0 } : Room) s m ([.ref (aB 0), .int x1, .int x2] : List Value).toArray below meth c H locs 0 0 (MQ below (va_Qi post (xB D cI cO A (w_X2_contains cI cO aB zB)) A) ([.ref (aB 0), .int x1, .int x2] : List Value).toArray s 0 0 A) (F0 m 50 ls []) := by
    intro y3 H locs ls h hP hD hS hl
    refine lv_iconst (v := 1) hx hb dX2_contains_50 (by decide) ?_
    refine lv_goto (tgt := 55) hx hb dX2_contains_51 (by decide) ?_
    exact xzret (w := (w_X2_contains cI cO aB zB)) () hx hb hr hlocks rfl h hP hK hD hS dX2_contains_55
  have g35 : ∀ (y3 : Int32) (H : Heap) (locs : List Loc) (ls : Array Slot), qX2_contains_35 post x1 x2 zB y3 → va_P D vwCl (wB cI aB zB) H → va_D A (wB cI aB zB) → va_S A s.heap H locs → lv_has ls 4 [(3, .int y3), (0, .ref (aB 0)), (1, .int x1), (2, .int x2)] → W p l e ({ frames := 0, cells := 0, slots := 0, locals := 0 } : Room) s m ([.ref (aB 0), .int x1, .int x2] : List Value).toArray below meth c H locs 0 0 (MQ below (va_Qi post (xB D cI cO A (w_X2_contains cI cO aB zB)) A) ([.ref (aB 0), .int x1, .int x2] : List Value).toArray s 0 0 A) (F0 m 35 ls []) := by
    intro y3 H locs ls h hP hD hS hl
    refine lv_iload_n hx hb dX2_contains_35 rfl (lv_at hl 0 rfl) ?_
    refine lv_iconst (v := 1) hx hb dX2_contains_36 (by decide) ?_
    obtain ⟨hh1, hh2⟩ := h
    refine lv_icmp_le (tgt := 54) hx hb dX2_contains_37 (by decide) (fun hc => ?_) (fun hc => ?_)
    · have h := hh1 hc
      exact g54 y3 _ _ _ h hP hD hS hl
    · have h := hh2 hc
      refine lv_aload_n hx hb dX2_contains_40 rfl (lv_at hl 1 rfl) ?_
      refine va_get (D := D) (ci := 2) (v := .ref (aB 3)) (C := RX2) (T := TX2) (N := 7) hx hb hts jX2_contains_X2 hown hK hP 0 rfl rfl 2 (by decide) (hts (.fieldLink RX2 18 "BrotherAutomata$RuleBook" "seconds" "[I") (List.mem_of_getElem? (i := 4) rfl)) (fun _ h9 => h9) rfl dX2_contains_41 ?_
      refine lv_iload_n hx hb dX2_contains_44 rfl (lv_at hl 2 rfl) ?_
      obtain ⟨hi, h⟩ := h
      refine va_iald hx hb hK hP 3 0 rfl rfl hi dX2_contains_45 ?_
      refine lv_iload_n hx hb dX2_contains_46 rfl (lv_at hl 3 rfl) ?_
      obtain ⟨hh1, hh2⟩ := h
      refine lv_icmp_ne (tgt := 54) hx hb dX2_contains_47 (by decide) (fun hc => ?_) (fun hc => ?_)
      · have h := hh2 hc
        exact g54 y3 _ _ _ h hP hD hS hl
      · have h := hh1 hc
        exact g50 y3 _ _ _ h hP hD hS hl
  refine va_getsN hx hb hE.2.1 hS hown (va_Nw.use (w := .fieldLinkNest RX2 48 "BrotherAutomata" "ARITY" "[I" "BrotherAutomata") rfl (hE.1 _ (List.mem_of_getElem? (i := 17) rfl))) (fun _ h9 => h9) dX2_contains_0 ?_
  refine lv_aload_n hx hb dX2_contains_3 rfl (lv_at hl 0 rfl) ?_
  refine va_get (D := D) (ci := 2) (v := .ref (aB 1)) (C := RX2) (T := TX2) (N := 7) hx hb hts jX2_contains_X2 hown hK hP 0 rfl rfl 0 (by decide) (hts (.fieldLink RX2 9 "BrotherAutomata$RuleBook" "symbols" "[I") (List.mem_of_getElem? (i := 1) rfl)) (fun _ h9 => h9) rfl dX2_contains_4 ?_
  refine lv_iload_n hx hb dX2_contains_7 rfl (lv_at hl 1 rfl) ?_
  obtain ⟨hi, h⟩ := h
  refine va_iald hx hb hK hP 1 0 rfl rfl hi dX2_contains_8 ?_
  obtain ⟨hi, h⟩ := h
  refine va_ti (v := .int (xar ((zB 0) x1.toNatClampNeg).toNatClampNeg)) hx hb hE.2.2.1 hS hi rfl dX2_contains_9 ?_
  refine lv_istore_n (lv' := [(3, .int (xar ((zB 0) x1.toNatClampNeg).toNatClampNeg)), (0, .ref (aB 0)), (1, .int x1), (2, .int x2)]) hx hb dX2_contains_10 rfl hl (by decide) rfl (fun ls hl => ?_)
  refine lv_aload_n hx hb dX2_contains_11 rfl (lv_at hl 1 rfl) ?_
  refine va_get (D := D) (ci := 2) (v := .ref (aB 5)) (C := RX2) (T := TX2) (N := 7) hx hb hts jX2_contains_X2 hown hK hP 0 rfl rfl 4 (by decide) (hts (.fieldLink RX2 24 "BrotherAutomata$RuleBook" "targets" "[I") (List.mem_of_getElem? (i := 2) rfl)) (fun _ h9 => h9) rfl dX2_contains_12 ?_
  refine lv_iload_n hx hb dX2_contains_15 rfl (lv_at hl 2 rfl) ?_
  obtain ⟨hi, h⟩ := h
  refine va_iald hx hb hK hP 5 0 rfl rfl hi dX2_contains_16 ?_
  refine lv_iload_n hx hb dX2_contains_17 rfl (lv_at hl 3 rfl) ?_
  obtain ⟨hh1, hh2⟩ := h
  refine lv_icmp_eq (tgt := 50) hx hb dX2_contains_18 (by decide) (fun hc => ?_) (fun hc => ?_)
  · have h := hh1 hc
    exact g50 (xar ((zB 0) x1.toNatClampNeg).toNatClampNeg) _ _ _ h hP hD hS hl
  · have h := hh2 hc
    refine lv_iload_n hx hb dX2_contains_21 rfl (lv_at hl 0 rfl) ?_
    obtain ⟨hh1, hh2⟩ := h
    refine lv_if_le (tgt := 35) hx hb dX2_contains_22 (by decide) (fun hc => ?_) (fun hc => ?_)
    · have h := hh1 hc
      exact g35 (xar ((zB 0) x1.toNatClampNeg).toNatClampNeg) _ _ _ h hP hD hS hl
    · have h := hh2 hc
      refine lv_aload_n hx hb dX2_contains_25 rfl (lv_at hl 1 rfl) ?_
      refine va_get (D := D) (ci := 2) (v := .ref (aB 2)) (C := RX2) (T := TX2) (N := 7) hx hb hts jX2_contains_X2 hown hK hP 0 rfl rfl 1 (by decide) (hts (.fieldLink RX2 15 "BrotherAutomata$RuleBook" "firsts" "[I") (List.mem_of_getElem? (i := 3) rfl)) (fun _ h9 => h9) rfl dX2_contains_26 ?_
      refine lv_iload_n hx hb dX2_contains_29 rfl (lv_at hl 2 rfl) ?_
      obtain ⟨hi, h⟩ := h
      refine va_iald hx hb hK hP 2 0 rfl rfl hi dX2_contains_30 ?_
      refine lv_iload_n hx hb dX2_contains_31 rfl (lv_at hl 3 rfl) ?_
      obtain ⟨hh1, hh2⟩ := h
      refine lv_icmp_eq (tgt := 50) hx hb dX2_contains_32 (by decide) (fun hc => ?_) (fun hc => ?_)
      · have h := hh1 hc
        exact g50 (xar ((zB 0) x1.toNatClampNeg).toNatClampNeg) _ _ _ h hP hD hS hl
      · have h := hh2 hc
        exact g35 (xar ((zB 0) x1.toNatClampNeg).toNatClampNeg) _ _ _ h hP hD hS hl
set_option maxRecDepth 20000 in
theorem ggX2_rulesWith_X2_contains : GoodIn wsX2_rulesWith wsX2_contains := goodIn_r _ [6, 7, 8, 9, 10, 11, 12, 13, 14, 15, 16, 17] (by decide +kernel) (by decide +kernel)
set_option maxRecDepth 20000 in
theorem gX2_rulesWith_X2_contains : GoodIn wsX2_rulesWith (wsV RX2 44 RX2 yX2_contains wsX2_contains) := goodIn_app (goodIn_of _ (by decide +kernel)) ggX2_rulesWith_X2_contains
theorem dX2_rulesWith_0 : decode cX2_rulesWith 0 = .ok (.iconst 0, 1) := by decide +kernel
theorem dX2_rulesWith_1 : decode cX2_rulesWith 1 = .ok (.istore_n 3, 1) := by decide +kernel
theorem dX2_rulesWith_2 : decode cX2_rulesWith 2 = .ok (.iconst 0, 1) := by decide +kernel
theorem dX2_rulesWith_3 : decode cX2_rulesWith 3 = .ok (.istore 4, 2) := by decide +kernel
theorem dX2_rulesWith_5 : decode cX2_rulesWith 5 = .ok (.iload 4, 2) := by decide +kernel
theorem dX2_rulesWith_7 : decode cX2_rulesWith 7 = .ok (.aload_n 0, 1) := by decide +kernel
theorem dX2_rulesWith_8 : decode cX2_rulesWith 8 = .ok (.getfield 27, 3) := by decide +kernel
theorem dX2_rulesWith_11 : decode cX2_rulesWith 11 = .ok (.if_icmp .ge 32, 3) := by decide +kernel
theorem dX2_rulesWith_14 : decode cX2_rulesWith 14 = .ok (.aload_n 0, 1) := by decide +kernel
theorem dX2_rulesWith_15 : decode cX2_rulesWith 15 = .ok (.iload 4, 2) := by decide +kernel
theorem dX2_rulesWith_17 : decode cX2_rulesWith 17 = .ok (.iload_n 1, 1) := by decide +kernel
theorem dX2_rulesWith_18 : decode cX2_rulesWith 18 = .ok (.invokevirtual 44, 3) := by decide +kernel
theorem dX2_rulesWith_21 : decode cX2_rulesWith 21 = .ok (.ifCond .ne 13, 3) := by decide +kernel
theorem dX2_rulesWith_24 : decode cX2_rulesWith 24 = .ok (.aload_n 0, 1) := by decide +kernel
theorem dX2_rulesWith_25 : decode cX2_rulesWith 25 = .ok (.iload 4, 2) := by decide +kernel
theorem dX2_rulesWith_27 : decode cX2_rulesWith 27 = .ok (.iload_n 2, 1) := by decide +kernel
theorem dX2_rulesWith_28 : decode cX2_rulesWith 28 = .ok (.invokevirtual 44, 3) := by decide +kernel
theorem dX2_rulesWith_31 : decode cX2_rulesWith 31 = .ok (.ifCond .eq 6, 3) := by decide +kernel
theorem dX2_rulesWith_34 : decode cX2_rulesWith 34 = .ok (.iinc 3 1, 3) := by decide +kernel
theorem dX2_rulesWith_37 : decode cX2_rulesWith 37 = .ok (.iinc 4 1, 3) := by decide +kernel
theorem dX2_rulesWith_40 : decode cX2_rulesWith 40 = .ok (.goto (-35), 3) := by decide +kernel
theorem dX2_rulesWith_43 : decode cX2_rulesWith 43 = .ok (.iload_n 3, 1) := by decide +kernel
theorem dX2_rulesWith_44 : decode cX2_rulesWith 44 = .ok (.ireturn, 1) := by decide +kernel
theorem jX2_rulesWith_X2 : ∀ w ∈ wsX20, w ∈ wsX2_rulesWith := by decide +kernel
abbrev w_X2_rulesWith (cI cO : ClassId) (aB : Nat → Nat) (zB : CS) : (Unit) → va_W := fun u => (wB cI aB zB)
set_option maxRecDepth 100000 in
set_option maxHeartbeats 8000000 in
theorem mX2_rulesWith (l : Launch) (D : va_G) (cI cO : ClassId) (tA tS : Nat) (aB : Nat → Nat) (zB : CS) (x1 : Int32) (x2 : Int32) (sz : Nat) {post : Int32 → (Unit) → Prop} (h : qX2_rulesWith post x1 x2 zB) : Met l yX2_rulesWith wsX2_rulesWith ({ frames := 1, cells := 0, slots := 0, locals := 23 } : Room) (xPre D cI cO tA tS [.ref (aB 0), .int x1, .int x2] (wB cI aB zB) sz) (va_Qi post (xB D cI cO (va_A (wB cI aB zB) sz) (w_X2_rulesWith cI cO aB zB)) (va_A (wB cI aB zB) sz)) 0 0 (va_A (wB cI aB zB) sz) := by
  refine xMet D cI cO tA tS (fun A => va_Qi post (xB D cI cO A (w_X2_rulesWith cI cO aB zB)) A) (cc := cX2_rulesWith) (maxL := 5) (ret := (some .int)) (by decide) rfl (Nat.le_of_ble_eq_true rfl) ?_
  intro p e s m below meth c A ls hx hb hr hts hown hlocks hin hml hA hS hP hK hD hE hl
  have hown : s.vm.findClass RX2 = some m.cls := hown
  have hl : lv_has ls 5 [(0, .ref (aB 0)), (1, .int x1), (2, .int x2)] := hl
  have g37 : ∀ (k5 : (Int32) → (Int32) → Prop), (∀ (y3 : Int32) (y4 : Int32) (H : Heap) (locs : List Loc) (ls : Array Slot), k5 y3 y4 → va_P D vwCl (wB cI aB zB) H → va_D A (wB cI aB zB) → va_S A s.heap H locs → lv_has ls 5 [(4, .int y4), (3, .int y3), (0, .ref (aB 0)), (1, .int x1), (2, .int x2)] → W p l e ({ frames := 1, cells := 0, slots := 0, locals := 23 } : Room) s m ([.ref (aB 0), .int x1, .int x2] : List Value).toArray below meth c H locs 0 0 (MQ below (va_Qi post (xB D cI cO A (w_X2_rulesWith cI cO aB zB)) A) ([.ref (aB 0), .int x1, .int x2] : List Value).toArray s 0 0 A) (F0 m 5 ls [])) → ∀ (y3 : Int32) (y4 : Int32) (H : Heap) (locs : List Loc) (ls : Array Slot), qX2_rulesWith_37 post x1 x2 zB k5 y3 y4 → va_P D vwCl (wB cI aB zB) H → va_D A (wB cI aB zB) → va_S A s.heap H locs → lv_has ls 5 [(4, .int y4), (3, .int y3), (0, .ref (aB 0)), (1, .int x1), (2, .int x2)] → W p l e ({ frames := 1, cells := 0, slots := 0, locals := 23 } : Room) s m ([.ref (aB 0), .int x1, .int x2] : List Value).toArray below meth c H locs 0 0 (MQ below (va_Qi post (xB D cI cO A (w_X2_rulesWith cI cO aB zB)) A) ([.ref (aB 0), .int x1, .int x2] : List Value).toArray s 0 0 A) (F0 m 37 ls []) := by
    intro k5 hk5 y3 y4 H locs ls h hP hD hS hl
    refine lv_iinc (v := (y4 + (1 : Int32))) (lv' := [(4, .int (y4 + (1 : Int32))), (3, .int y3), (0, .ref (aB 0)), (1, .int x1), (2, .int x2)]) hx hb dX2_rulesWith_37 hl (k := 0) rfl rfl (by decide) rfl (fun ls hl => ?_)
    refine lv_goto (tgt := 5) hx hb dX2_rulesWith_40 (by decide) ?_
    exact hk5 y3 (y4 + (1 : Int32)) _ _ _ h hP hD hS hl
  have g34 : ∀ (k5 : (Int32) → (Int32) → Prop), (∀ (y3 : Int32) (y4 : Int32) (H : Heap) (locs : List Loc) (ls : Array Slot), k5 y3 y4 → va_P D vwCl (wB cI aB zB) H → va_D A (wB cI aB zB) → va_S A s.heap H locs → lv_has ls 5 [(4, .int y4), (3, .int y3), (0, .ref (aB 0)), (1, .int x1), (2, .int x2)] → W p l e ({ frames := 1, cells := 0, slots := 0, locals := 23 } : Room) s m ([.ref (aB 0), .int x1, .int x2] : List Value).toArray below meth c H locs 0 0 (MQ below (va_Qi post (xB D cI cO A (w_X2_rulesWith cI cO aB zB)) A) ([.ref (aB 0), .int x1, .int x2] : List Value).toArray s 0 0 A) (F0 m 5 ls [])) → ∀ (y3 : Int32) (y4 : Int32) (H : Heap) (locs : List Loc) (ls : Array Slot), qX2_rulesWith_34 post x1 x2 zB k5 y3 y4 → va_P D vwCl (wB cI aB zB) H → va_D A (wB cI aB zB) → va_S A s.heap H locs → lv_has ls 5 [(4, .int y4), (3, .int y3), (0, .ref (aB 0)), (1, .int x1), (2, .int x2)] → W p l e ({ frames := 1, cells := 0, slots := 0, locals := 23 } : Room) s m ([.ref (aB 0), .int x1, .int x2] : List Value).toArray below meth c H locs 0 0 (MQ below (va_Qi post (xB D cI cO A (w_X2_rulesWith cI cO aB zB)) A) ([.ref (aB 0), .int x1, .int x2] : List Value).toArray s 0 0 A) (F0 m 34 ls []) := by
    intro k5 hk5 y3 y4 H locs ls h hP hD hS hl
    refine lv_iinc (v := (y3 + (1 : Int32))) (lv' := [(3, .int (y3 + (1 : Int32))), (4, .int y4), (0, .ref (aB 0)), (1, .int x1), (2, .int x2)]) hx hb dX2_rulesWith_34 hl (k := 1) rfl rfl (by decide) rfl (fun ls hl => ?_)
    exact g37 k5 hk5 (y3 + (1 : Int32)) y4 _ _ _ h hP hD hS (lv_sub hl [1, 0, 2, 3, 4] rfl)
  have g5 : ∀ (n : Nat) (y3 : Int32) (y4 : Int32) (H : Heap) (locs : List Loc) (ls : Array Slot), qX2_rulesWith_5 post x1 x2 zB n y3 y4 → va_P D vwCl (wB cI aB zB) H → va_D A (wB cI aB zB) → va_S A s.heap H locs → lv_has ls 5 [(4, .int y4), (3, .int y3), (0, .ref (aB 0)), (1, .int x1), (2, .int x2)] → W p l e ({ frames := 1, cells := 0, slots := 0, locals := 23 } : Room) s m ([.ref (aB 0), .int x1, .int x2] : List Value).toArray below meth c H locs 0 0 (MQ below (va_Qi post (xB D cI cO A (w_X2_rulesWith cI cO aB zB)) A) ([.ref (aB 0), .int x1, .int x2] : List Value).toArray s 0 0 A) (F0 m 5 ls []) := by
    intro n
    induction n with
    | zero => intro y3 y4 H locs ls h; exact False.elim h
    | succ n hk5 =>
      intro y3 y4 H locs ls h hP hD hS hl
      have h : qX2_rulesWith_5b post x1 x2 zB (qX2_rulesWith_5 post x1 x2 zB n) y3 y4 := h
      refine lv_iload hx hb dX2_rulesWith_5 (lv_at hl 0 rfl) ?_
      refine lv_aload_n hx hb dX2_rulesWith_7 rfl (lv_at hl 2 rfl) ?_
      refine va_get (D := D) (ci := 2) (v := .int (zB 5 0)) (C := RX2) (T := TX2) (N := 7) hx hb hts jX2_rulesWith_X2 hown hK hP 0 rfl rfl 5 (by decide) (hts (.fieldLink RX2 27 "BrotherAutomata$RuleBook" "count" "I") (List.mem_of_getElem? (i := 1) rfl)) (fun _ h9 => h9) rfl dX2_rulesWith_8 ?_
      obtain ⟨hh1, hh2⟩ := h
      refine lv_icmp_ge (tgt := 43) hx hb dX2_rulesWith_11 (by decide) (fun hc => ?_) (fun hc => ?_)
      · have h := hh1 hc
        refine lv_iload_n hx hb dX2_rulesWith_43 rfl (lv_at hl 1 rfl) ?_
        exact xiret (w := (w_X2_rulesWith cI cO aB zB)) () hx hb hr hlocks h hP hK hD hS dX2_rulesWith_44
      · have h := hh2 hc
        refine lv_aload_n hx hb dX2_rulesWith_14 rfl (lv_at hl 2 rfl) ?_
        refine lv_iload hx hb dX2_rulesWith_15 (lv_at hl 0 rfl) ?_
        refine lv_iload_n hx hb dX2_rulesWith_17 rfl (lv_at hl 3 rfl) ?_
        refine xcalli (wr := ([] : va_W)) (w2 := fun (u18 : Unit) => (wB cI aB zB)) (va_runV (As := [.int y4, .int x1]) (rest := []) ⟨hx, hb, hml, hown, hts⟩ (mX2_contains l D cI cO tA tS aB zB y4 x1 H.size h) (cwV 2 hts gX2_rulesWith_X2_contains rfl rfl rfl (by decide +kernel) ⟨Nat.le_of_ble_eq_true rfl, Nat.le_of_ble_eq_true rfl⟩) (xpreV hP hD hS hA hK hE [0, 1, 2, 3, 4, 5] rfl rfl 2 0 rfl rfl) rfl rfl hl.1 rfl (lv_room (Nat.le_of_ble_eq_true rfl)) dX2_rulesWith_18 ⟨Nat.le_refl 0, Nat.le_refl 0⟩) hP hD hS hA [0, 1, 2, 3, 4, 5] [] [0, 1, 2, 3, 4, 5] rfl rfl rfl (by decide) rfl (fun _ => rfl) (fun r18 u18 H locs h hP hD hS => ?_)
        obtain ⟨hh1, hh2⟩ := h
        refine lv_if_ne (tgt := 34) hx hb dX2_rulesWith_21 (by decide) (fun hc => ?_) (fun hc => ?_)
        · have h := hh2 hc
          exact g34 (qX2_rulesWith_5 post x1 x2 zB n) hk5 y3 y4 _ _ _ h hP hD hS hl
        · have h := hh1 hc
          refine lv_aload_n hx hb dX2_rulesWith_24 rfl (lv_at hl 2 rfl) ?_
          refine lv_iload hx hb dX2_rulesWith_25 (lv_at hl 0 rfl) ?_
          refine lv_iload_n hx hb dX2_rulesWith_27 rfl (lv_at hl 4 rfl) ?_
          refine xcalli (wr := ([] : va_W)) (w2 := fun (u28 : Unit) => (wB cI aB zB)) (va_runV (As := [.int y4, .int x2]) (rest := []) ⟨hx, hb, hml, hown, hts⟩ (mX2_contains l D cI cO tA tS aB zB y4 x2 H.size h) (cwV 2 hts gX2_rulesWith_X2_contains rfl rfl rfl (by decide +kernel) ⟨Nat.le_of_ble_eq_true rfl, Nat.le_of_ble_eq_true rfl⟩) (xpreV hP hD hS hA hK hE [0, 1, 2, 3, 4, 5] rfl rfl 2 0 rfl rfl) rfl rfl hl.1 rfl (lv_room (Nat.le_of_ble_eq_true rfl)) dX2_rulesWith_28 ⟨Nat.le_refl 0, Nat.le_refl 0⟩) hP hD hS hA [0, 1, 2, 3, 4, 5] [] [0, 1, 2, 3, 4, 5] rfl rfl rfl (by decide) rfl (fun _ => rfl) (fun r28 u28 H locs h hP hD hS => ?_)
          obtain ⟨hh1, hh2⟩ := h
          refine lv_if_eq (tgt := 37) hx hb dX2_rulesWith_31 (by decide) (fun hc => ?_) (fun hc => ?_)
          · have h := hh1 hc
            exact g37 (qX2_rulesWith_5 post x1 x2 zB n) hk5 y3 y4 _ _ _ h hP hD hS hl
          · have h := hh2 hc
            exact g34 (qX2_rulesWith_5 post x1 x2 zB n) hk5 y3 y4 _ _ _ h hP hD hS hl
  refine lv_iconst (v := 0) hx hb dX2_rulesWith_0 (by decide) ?_
  refine lv_istore_n (lv' := [(3, .int (0 : Int32)), (0, .ref (aB 0)), (1, .int x1), (2, .int x2)]) hx hb dX2_rulesWith_1 rfl hl (by decide) rfl (fun ls hl => ?_)
  refine lv_iconst (v := 0) hx hb dX2_rulesWith_2 (by decide) ?_
  refine lv_istore (lv' := [(4, .int (0 : Int32)), (3, .int (0 : Int32)), (0, .ref (aB 0)), (1, .int x1), (2, .int x2)]) hx hb dX2_rulesWith_3 hl (by decide) rfl (fun ls hl => ?_)
  obtain ⟨n0, h⟩ := h
  exact g5 n0 (0 : Int32) (0 : Int32) _ _ _ h hP hD hS hl
theorem dX2_swapped_0 : decode cX2_swapped 0 = .ok (.iload_n 0, 1) := by decide +kernel
theorem dX2_swapped_1 : decode cX2_swapped 1 = .ok (.iload_n 1, 1) := by decide +kernel
theorem dX2_swapped_2 : decode cX2_swapped 2 = .ok (.if_icmp .ne 5, 3) := by decide +kernel
theorem dX2_swapped_5 : decode cX2_swapped 5 = .ok (.iload_n 2, 1) := by decide +kernel
theorem dX2_swapped_6 : decode cX2_swapped 6 = .ok (.ireturn, 1) := by decide +kernel
theorem dX2_swapped_7 : decode cX2_swapped 7 = .ok (.iload_n 0, 1) := by decide +kernel
theorem dX2_swapped_8 : decode cX2_swapped 8 = .ok (.iload_n 2, 1) := by decide +kernel
theorem dX2_swapped_9 : decode cX2_swapped 9 = .ok (.if_icmp .ne 7, 3) := by decide +kernel
theorem dX2_swapped_12 : decode cX2_swapped 12 = .ok (.iload_n 1, 1) := by decide +kernel
theorem dX2_swapped_13 : decode cX2_swapped 13 = .ok (.goto 4, 3) := by decide +kernel
theorem dX2_swapped_16 : decode cX2_swapped 16 = .ok (.iload_n 0, 1) := by decide +kernel
theorem dX2_swapped_17 : decode cX2_swapped 17 = .ok (.ireturn, 1) := by decide +kernel
abbrev w_X2_swapped (cI cO : ClassId)   : (Unit) → va_W := fun u => ([] : va_W)
set_option maxRecDepth 100000 in
set_option maxHeartbeats 8000000 in
theorem mX2_swapped (l : Launch) (D : va_G) (cI cO : ClassId) (tA tS : Nat)   (x0 : Int32) (x1 : Int32) (x2 : Int32) (sz : Nat) {post : Int32 → (Unit) → Prop} (h : qX2_swapped post x0 x1 x2) : Met l yX2_swapped wsX2_swapped ({ frames := 0, cells := 0, slots := 0, locals := 0 } : Room) (xPre D cI cO tA tS [.int x0, .int x1, .int x2] ([] : va_W) sz) (va_Qi post (xB D cI cO (va_A ([] : va_W) sz) (w_X2_swapped cI cO)) (va_A ([] : va_W) sz)) 0 0 (va_A ([] : va_W) sz) := by
  refine xMet D cI cO tA tS (fun A => va_Qi post (xB D cI cO A (w_X2_swapped cI cO)) A) (cc := cX2_swapped) (maxL := 3) (ret := (some .int)) (by decide) rfl (Nat.le_of_ble_eq_true rfl) ?_
  intro p e s m below meth c A ls hx hb hr hts hown hlocks hin hml hA hS hP hK hD hE hl
  have hown : s.vm.findClass RX2 = some m.cls := hown
  have hl : lv_has ls 3 [(0, .int x0), (1, .int x1), (2, .int x2)] := hl
  refine lv_iload_n hx hb dX2_swapped_0 rfl (lv_at hl 0 rfl) ?_
  refine lv_iload_n hx hb dX2_swapped_1 rfl (lv_at hl 1 rfl) ?_
  obtain ⟨hh1, hh2⟩ := h
  refine lv_icmp_ne (tgt := 7) hx hb dX2_swapped_2 (by decide) (fun hc => ?_) (fun hc => ?_)
  · have h := hh2 hc
    refine lv_iload_n hx hb dX2_swapped_7 rfl (lv_at hl 0 rfl) ?_
    refine lv_iload_n hx hb dX2_swapped_8 rfl (lv_at hl 2 rfl) ?_
    obtain ⟨hh1, hh2⟩ := h
    refine lv_icmp_ne (tgt := 16) hx hb dX2_swapped_9 (by decide) (fun hc => ?_) (fun hc => ?_)
    · have h := hh2 hc
      refine lv_iload_n hx hb dX2_swapped_16 rfl (lv_at hl 0 rfl) ?_
      exact xiret (w := (w_X2_swapped cI cO)) () hx hb hr hlocks h hP hK hD hS dX2_swapped_17
    · have h := hh1 hc
      refine lv_iload_n hx hb dX2_swapped_12 rfl (lv_at hl 1 rfl) ?_
      refine lv_goto (tgt := 17) hx hb dX2_swapped_13 (by decide) ?_
      exact xiret (w := (w_X2_swapped cI cO)) () hx hb hr hlocks h hP hK hD hS dX2_swapped_17
  · have h := hh1 hc
    refine lv_iload_n hx hb dX2_swapped_5 rfl (lv_at hl 2 rfl) ?_
    exact xiret (w := (w_X2_swapped cI cO)) () hx hb hr hlocks h hP hK hD hS dX2_swapped_6
set_option maxRecDepth 20000 in
theorem ggX2_exchange_X2_swapped : GoodIn wsX2_exchange wsX2_swapped := goodIn_r _ [10] (by decide +kernel) (by decide +kernel)
set_option maxRecDepth 20000 in
theorem gX2_exchange_X2_swapped : GoodIn wsX2_exchange (va_wsS RX2 51 yX2_swapped wsX2_swapped) := goodIn_app (goodIn_of _ (by decide +kernel)) ggX2_exchange_X2_swapped
set_option maxRecDepth 20000 in
theorem ggX2_exchange_X2_markFinal : GoodIn wsX2_exchange wsX2_markFinal := goodIn_r _ [14, 6, 15, 16, 17, 18, 19, 20, 21] (by decide +kernel) (by decide +kernel)
set_option maxRecDepth 20000 in
theorem gX2_exchange_X2_markFinal : GoodIn wsX2_exchange (wsV RX2 55 RX2 yX2_markFinal wsX2_markFinal) := goodIn_app (goodIn_of _ (by decide +kernel)) ggX2_exchange_X2_markFinal
theorem dX2_exchange_0 : decode cX2_exchange 0 = .ok (.iconst 0, 1) := by decide +kernel
theorem dX2_exchange_1 : decode cX2_exchange 1 = .ok (.istore_n 3, 1) := by decide +kernel
theorem dX2_exchange_2 : decode cX2_exchange 2 = .ok (.iload_n 3, 1) := by decide +kernel
theorem dX2_exchange_3 : decode cX2_exchange 3 = .ok (.aload_n 0, 1) := by decide +kernel
theorem dX2_exchange_4 : decode cX2_exchange 4 = .ok (.getfield 27, 3) := by decide +kernel
theorem dX2_exchange_7 : decode cX2_exchange 7 = .ok (.if_icmp .ge 83, 3) := by decide +kernel
theorem dX2_exchange_10 : decode cX2_exchange 10 = .ok (.getstatic 48, 3) := by decide +kernel
theorem dX2_exchange_13 : decode cX2_exchange 13 = .ok (.aload_n 0, 1) := by decide +kernel
theorem dX2_exchange_14 : decode cX2_exchange 14 = .ok (.getfield 9, 3) := by decide +kernel
theorem dX2_exchange_17 : decode cX2_exchange 17 = .ok (.iload_n 3, 1) := by decide +kernel
theorem dX2_exchange_18 : decode cX2_exchange 18 = .ok (.iaload, 1) := by decide +kernel
theorem dX2_exchange_19 : decode cX2_exchange 19 = .ok (.iaload, 1) := by decide +kernel
theorem dX2_exchange_20 : decode cX2_exchange 20 = .ok (.istore 4, 2) := by decide +kernel
theorem dX2_exchange_22 : decode cX2_exchange 22 = .ok (.aload_n 0, 1) := by decide +kernel
theorem dX2_exchange_23 : decode cX2_exchange 23 = .ok (.getfield 24, 3) := by decide +kernel
theorem dX2_exchange_26 : decode cX2_exchange 26 = .ok (.iload_n 3, 1) := by decide +kernel
theorem dX2_exchange_27 : decode cX2_exchange 27 = .ok (.aload_n 0, 1) := by decide +kernel
theorem dX2_exchange_28 : decode cX2_exchange 28 = .ok (.getfield 24, 3) := by decide +kernel
theorem dX2_exchange_31 : decode cX2_exchange 31 = .ok (.iload_n 3, 1) := by decide +kernel
theorem dX2_exchange_32 : decode cX2_exchange 32 = .ok (.iaload, 1) := by decide +kernel
theorem dX2_exchange_33 : decode cX2_exchange 33 = .ok (.iload_n 1, 1) := by decide +kernel
theorem dX2_exchange_34 : decode cX2_exchange 34 = .ok (.iload_n 2, 1) := by decide +kernel
theorem dX2_exchange_35 : decode cX2_exchange 35 = .ok (.invokestatic 51, 3) := by decide +kernel
theorem dX2_exchange_38 : decode cX2_exchange 38 = .ok (.iastore, 1) := by decide +kernel
theorem dX2_exchange_39 : decode cX2_exchange 39 = .ok (.iload 4, 2) := by decide +kernel
theorem dX2_exchange_41 : decode cX2_exchange 41 = .ok (.ifCond .le 20, 3) := by decide +kernel
theorem dX2_exchange_44 : decode cX2_exchange 44 = .ok (.aload_n 0, 1) := by decide +kernel
theorem dX2_exchange_45 : decode cX2_exchange 45 = .ok (.getfield 15, 3) := by decide +kernel
theorem dX2_exchange_48 : decode cX2_exchange 48 = .ok (.iload_n 3, 1) := by decide +kernel
theorem dX2_exchange_49 : decode cX2_exchange 49 = .ok (.aload_n 0, 1) := by decide +kernel
theorem dX2_exchange_50 : decode cX2_exchange 50 = .ok (.getfield 15, 3) := by decide +kernel
theorem dX2_exchange_53 : decode cX2_exchange 53 = .ok (.iload_n 3, 1) := by decide +kernel
theorem dX2_exchange_54 : decode cX2_exchange 54 = .ok (.iaload, 1) := by decide +kernel
theorem dX2_exchange_55 : decode cX2_exchange 55 = .ok (.iload_n 1, 1) := by decide +kernel
theorem dX2_exchange_56 : decode cX2_exchange 56 = .ok (.iload_n 2, 1) := by decide +kernel
theorem dX2_exchange_57 : decode cX2_exchange 57 = .ok (.invokestatic 51, 3) := by decide +kernel
theorem dX2_exchange_60 : decode cX2_exchange 60 = .ok (.iastore, 1) := by decide +kernel
theorem dX2_exchange_61 : decode cX2_exchange 61 = .ok (.iload 4, 2) := by decide +kernel
theorem dX2_exchange_63 : decode cX2_exchange 63 = .ok (.iconst 1, 1) := by decide +kernel
theorem dX2_exchange_64 : decode cX2_exchange 64 = .ok (.if_icmp .le 20, 3) := by decide +kernel
theorem dX2_exchange_67 : decode cX2_exchange 67 = .ok (.aload_n 0, 1) := by decide +kernel
theorem dX2_exchange_68 : decode cX2_exchange 68 = .ok (.getfield 18, 3) := by decide +kernel
theorem dX2_exchange_71 : decode cX2_exchange 71 = .ok (.iload_n 3, 1) := by decide +kernel
theorem dX2_exchange_72 : decode cX2_exchange 72 = .ok (.aload_n 0, 1) := by decide +kernel
theorem dX2_exchange_73 : decode cX2_exchange 73 = .ok (.getfield 18, 3) := by decide +kernel
theorem dX2_exchange_76 : decode cX2_exchange 76 = .ok (.iload_n 3, 1) := by decide +kernel
theorem dX2_exchange_77 : decode cX2_exchange 77 = .ok (.iaload, 1) := by decide +kernel
theorem dX2_exchange_78 : decode cX2_exchange 78 = .ok (.iload_n 1, 1) := by decide +kernel
theorem dX2_exchange_79 : decode cX2_exchange 79 = .ok (.iload_n 2, 1) := by decide +kernel
theorem dX2_exchange_80 : decode cX2_exchange 80 = .ok (.invokestatic 51, 3) := by decide +kernel
theorem dX2_exchange_83 : decode cX2_exchange 83 = .ok (.iastore, 1) := by decide +kernel
theorem dX2_exchange_84 : decode cX2_exchange 84 = .ok (.iinc 3 1, 3) := by decide +kernel
theorem dX2_exchange_87 : decode cX2_exchange 87 = .ok (.goto (-85), 3) := by decide +kernel
theorem dX2_exchange_90 : decode cX2_exchange 90 = .ok (.aload_n 0, 1) := by decide +kernel
theorem dX2_exchange_91 : decode cX2_exchange 91 = .ok (.getfield 31, 3) := by decide +kernel
theorem dX2_exchange_94 : decode cX2_exchange 94 = .ok (.iload_n 1, 1) := by decide +kernel
theorem dX2_exchange_95 : decode cX2_exchange 95 = .ok (.ishr, 1) := by decide +kernel
theorem dX2_exchange_96 : decode cX2_exchange 96 = .ok (.iconst 1, 1) := by decide +kernel
theorem dX2_exchange_97 : decode cX2_exchange 97 = .ok (.iand, 1) := by decide +kernel
theorem dX2_exchange_98 : decode cX2_exchange 98 = .ok (.ifCond .eq 7, 3) := by decide +kernel
theorem dX2_exchange_101 : decode cX2_exchange 101 = .ok (.iconst 1, 1) := by decide +kernel
theorem dX2_exchange_102 : decode cX2_exchange 102 = .ok (.goto 4, 3) := by decide +kernel
theorem dX2_exchange_105 : decode cX2_exchange 105 = .ok (.iconst 0, 1) := by decide +kernel
theorem dX2_exchange_106 : decode cX2_exchange 106 = .ok (.istore_n 3, 1) := by decide +kernel
theorem dX2_exchange_107 : decode cX2_exchange 107 = .ok (.aload_n 0, 1) := by decide +kernel
theorem dX2_exchange_108 : decode cX2_exchange 108 = .ok (.getfield 31, 3) := by decide +kernel
theorem dX2_exchange_111 : decode cX2_exchange 111 = .ok (.iload_n 2, 1) := by decide +kernel
theorem dX2_exchange_112 : decode cX2_exchange 112 = .ok (.ishr, 1) := by decide +kernel
theorem dX2_exchange_113 : decode cX2_exchange 113 = .ok (.iconst 1, 1) := by decide +kernel
theorem dX2_exchange_114 : decode cX2_exchange 114 = .ok (.iand, 1) := by decide +kernel
theorem dX2_exchange_115 : decode cX2_exchange 115 = .ok (.ifCond .eq 7, 3) := by decide +kernel
theorem dX2_exchange_118 : decode cX2_exchange 118 = .ok (.iconst 1, 1) := by decide +kernel
theorem dX2_exchange_119 : decode cX2_exchange 119 = .ok (.goto 4, 3) := by decide +kernel
theorem dX2_exchange_122 : decode cX2_exchange 122 = .ok (.iconst 0, 1) := by decide +kernel
theorem dX2_exchange_123 : decode cX2_exchange 123 = .ok (.istore 4, 2) := by decide +kernel
theorem dX2_exchange_125 : decode cX2_exchange 125 = .ok (.aload_n 0, 1) := by decide +kernel
theorem dX2_exchange_126 : decode cX2_exchange 126 = .ok (.iload_n 1, 1) := by decide +kernel
theorem dX2_exchange_127 : decode cX2_exchange 127 = .ok (.iload 4, 2) := by decide +kernel
theorem dX2_exchange_129 : decode cX2_exchange 129 = .ok (.invokevirtual 55, 3) := by decide +kernel
theorem dX2_exchange_132 : decode cX2_exchange 132 = .ok (.aload_n 0, 1) := by decide +kernel
theorem dX2_exchange_133 : decode cX2_exchange 133 = .ok (.iload_n 2, 1) := by decide +kernel
theorem dX2_exchange_134 : decode cX2_exchange 134 = .ok (.iload_n 3, 1) := by decide +kernel
theorem dX2_exchange_135 : decode cX2_exchange 135 = .ok (.invokevirtual 55, 3) := by decide +kernel
theorem dX2_exchange_138 : decode cX2_exchange 138 = .ok (.return_, 1) := by decide +kernel
theorem jX2_exchange_X2 : ∀ w ∈ wsX20, w ∈ wsX2_exchange := by decide +kernel
abbrev w_X2_exchange (cI cO : ClassId) (aB : Nat → Nat)  : ((CS)) → va_W := fun u => (wB cI aB u)
set_option maxRecDepth 100000 in
set_option maxHeartbeats 8000000 in
theorem mX2_exchange (l : Launch) (D : va_G) (cI cO : ClassId) (tA tS : Nat) (aB : Nat → Nat) (zB : CS) (x1 : Int32) (x2 : Int32) (sz : Nat) {post : ((CS)) → Prop} (h : qX2_exchange post x1 x2 zB) : Met l yX2_exchange wsX2_exchange ({ frames := 1, cells := 0, slots := 0, locals := 22 } : Room) (xPre D cI cO tA tS [.ref (aB 0), .int x1, .int x2] (wB cI aB zB) sz) (va_Qv post (xB D cI cO (va_A (wB cI aB zB) sz) (w_X2_exchange cI cO aB)) (va_A (wB cI aB zB) sz)) 0 0 (va_A (wB cI aB zB) sz) := by
  refine xMet D cI cO tA tS (fun A => va_Qv post (xB D cI cO A (w_X2_exchange cI cO aB)) A) (cc := cX2_exchange) (maxL := 5) (ret := none) (by decide) rfl (Nat.le_of_ble_eq_true rfl) ?_
  intro p e s m below meth c A ls hx hb hr hts hown hlocks hin hml hA hS hP hK hD hE hl
  have hown : s.vm.findClass RX2 = some m.cls := hown
  have hl : lv_has ls 5 [(0, .ref (aB 0)), (1, .int x1), (2, .int x2)] := hl
  have g123 : ∀ (y3 : Int32) (w0 : Int32) (zB : CS) (H : Heap) (locs : List Loc) (ls : Array Slot), qX2_exchange_123 post x1 x2 y3 w0 zB → va_P D vwCl (wB cI aB zB) H → va_D A (wB cI aB zB) → va_S A s.heap H locs → lv_has ls 5 [(3, .int y3), (0, .ref (aB 0)), (1, .int x1), (2, .int x2)] → W p l e ({ frames := 1, cells := 0, slots := 0, locals := 22 } : Room) s m ([.ref (aB 0), .int x1, .int x2] : List Value).toArray below meth c H locs 0 0 (MQ below (va_Qv post (xB D cI cO A (w_X2_exchange cI cO aB)) A) ([.ref (aB 0), .int x1, .int x2] : List Value).toArray s 0 0 A) (F0 m 123 ls [.int w0]) := by
    intro y3 w0 zB H locs ls h hP hD hS hl
    refine lv_istore (lv' := [(4, .int w0), (3, .int y3), (0, .ref (aB 0)), (1, .int x1), (2, .int x2)]) hx hb dX2_exchange_123 hl (by decide) rfl (fun ls hl => ?_)
    refine lv_aload_n hx hb dX2_exchange_125 rfl (lv_at hl 2 rfl) ?_
    refine lv_iload_n hx hb dX2_exchange_126 rfl (lv_at hl 3 rfl) ?_
    refine lv_iload hx hb dX2_exchange_127 (lv_at hl 0 rfl) ?_
    refine xcallv (wr := ([] : va_W)) (w2 := fun (u129 : (CS)) => (wB cI aB u129)) (va_runV (As := [.int x1, .int w0]) (rest := []) ⟨hx, hb, hml, hown, hts⟩ (mX2_markFinal l D cI cO tA tS aB zB x1 w0 H.size h) (cwV 2 hts gX2_exchange_X2_markFinal rfl rfl rfl (by decide +kernel) ⟨Nat.le_of_ble_eq_true rfl, Nat.le_of_ble_eq_true rfl⟩) (xpreV hP hD hS hA hK hE [0, 1, 2, 3, 4, 5] rfl rfl 2 0 rfl rfl) rfl rfl hl.1 rfl (lv_room (Nat.le_of_ble_eq_true rfl)) dX2_exchange_129 ⟨Nat.le_refl 0, Nat.le_refl 0⟩) hP hD hS hA [0, 1, 2, 3, 4, 5] [] [0, 1, 2, 3, 4, 5] rfl rfl rfl (by decide) rfl (fun _ => rfl) (fun u129 H locs h hP hD hS => ?_)
    refine lv_aload_n hx hb dX2_exchange_132 rfl (lv_at hl 2 rfl) ?_
    refine lv_iload_n hx hb dX2_exchange_133 rfl (lv_at hl 4 rfl) ?_
    refine lv_iload_n hx hb dX2_exchange_134 rfl (lv_at hl 1 rfl) ?_
    refine xcallv (wr := ([] : va_W)) (w2 := fun (u135 : (CS)) => (wB cI aB u135)) (va_runV (As := [.int x2, .int y3]) (rest := []) ⟨hx, hb, hml, hown, hts⟩ (mX2_markFinal l D cI cO tA tS aB u129 x2 y3 H.size h) (cwV 2 hts gX2_exchange_X2_markFinal rfl rfl rfl (by decide +kernel) ⟨Nat.le_of_ble_eq_true rfl, Nat.le_of_ble_eq_true rfl⟩) (xpreV hP hD hS hA hK hE [0, 1, 2, 3, 4, 5] rfl rfl 2 0 rfl rfl) rfl rfl hl.1 rfl (lv_room (Nat.le_of_ble_eq_true rfl)) dX2_exchange_135 ⟨Nat.le_refl 0, Nat.le_refl 0⟩) hP hD hS hA [0, 1, 2, 3, 4, 5] [] [0, 1, 2, 3, 4, 5] rfl rfl rfl (by decide) rfl (fun _ => rfl) (fun u135 H locs h hP hD hS => ?_)
    exact xvret (w := (w_X2_exchange cI cO aB)) (u135) hx hb hr hlocks h hP hK hD hS dX2_exchange_138
  have g106 : ∀ (y3 : Int32) (w0 : Int32) (zB : CS) (H : Heap) (locs : List Loc) (ls : Array Slot), qX2_exchange_106 post x1 x2 y3 w0 zB → va_P D vwCl (wB cI aB zB) H → va_D A (wB cI aB zB) → va_S A s.heap H locs → lv_has ls 5 [(3, .int y3), (0, .ref (aB 0)), (1, .int x1), (2, .int x2)] → W p l e ({ frames := 1, cells := 0, slots := 0, locals := 22 } : Room) s m ([.ref (aB 0), .int x1, .int x2] : List Value).toArray below meth c H locs 0 0 (MQ below (va_Qv post (xB D cI cO A (w_X2_exchange cI cO aB)) A) ([.ref (aB 0), .int x1, .int x2] : List Value).toArray s 0 0 A) (F0 m 106 ls [.int w0]) := by
    intro y3 w0 zB H locs ls h hP hD hS hl
    refine lv_istore_n (lv' := [(3, .int w0), (0, .ref (aB 0)), (1, .int x1), (2, .int x2)]) hx hb dX2_exchange_106 rfl hl (by decide) rfl (fun ls hl => ?_)
    refine lv_aload_n hx hb dX2_exchange_107 rfl (lv_at hl 1 rfl) ?_
    refine va_get (D := D) (ci := 2) (v := .int (zB 5 1)) (C := RX2) (T := TX2) (N := 7) hx hb hts jX2_exchange_X2 hown hK hP 0 rfl rfl 6 (by decide) (hts (.fieldLink RX2 31 "BrotherAutomata$RuleBook" "finals" "I") (List.mem_of_getElem? (i := 6) rfl)) (fun _ h9 => h9) rfl dX2_exchange_108 ?_
    refine lv_iload_n hx hb dX2_exchange_111 rfl (lv_at hl 3 rfl) ?_
    refine lv_ishr hx hb dX2_exchange_112 ?_
    refine lv_iconst (v := 1) hx hb dX2_exchange_113 (by decide) ?_
    refine lv_iand hx hb dX2_exchange_114 ?_
    obtain ⟨hh1, hh2⟩ := h
    refine lv_if_eq (tgt := 122) hx hb dX2_exchange_115 (by decide) (fun hc => ?_) (fun hc => ?_)
    · have h := hh1 hc
      refine lv_iconst (v := 0) hx hb dX2_exchange_122 (by decide) ?_
      exact g123 w0 (0 : Int32) zB _ _ _ h hP hD hS hl
    · have h := hh2 hc
      refine lv_iconst (v := 1) hx hb dX2_exchange_118 (by decide) ?_
      refine lv_goto (tgt := 123) hx hb dX2_exchange_119 (by decide) ?_
      exact g123 w0 (1 : Int32) zB _ _ _ h hP hD hS hl
  have g84 : ∀ (k2 : (Int32) → (CS) → Prop), (∀ (y3 : Int32) (zB : CS) (H : Heap) (locs : List Loc) (ls : Array Slot), k2 y3 zB → va_P D vwCl (wB cI aB zB) H → va_D A (wB cI aB zB) → va_S A s.heap H locs → lv_has ls 5 [(3, .int y3), (0, .ref (aB 0)), (1, .int x1), (2, .int x2)] → W p l e ({ frames := 1, cells := 0, slots := 0, locals := 22 } : Room) s m ([.ref (aB 0), .int x1, .int x2] : List Value).toArray below meth c H locs 0 0 (MQ below (va_Qv post (xB D cI cO A (w_X2_exchange cI cO aB)) A) ([.ref (aB 0), .int x1, .int x2] : List Value).toArray s 0 0 A) (F0 m 2 ls [])) → ∀ (y3 : Int32) (y4 : Int32) (zB : CS) (H : Heap) (locs : List Loc) (ls : Array Slot), qX2_exchange_84 post x1 x2 k2 y3 y4 zB → va_P D vwCl (wB cI aB zB) H → va_D A (wB cI aB zB) → va_S A s.heap H locs → lv_has ls 5 [(4, .int y4), (3, .int y3), (0, .ref (aB 0)), (1, .int x1), (2, .int x2)] → W p l e ({ frames := 1, cells := 0, slots := 0, locals := 22 } : Room) s m ([.ref (aB 0), .int x1, .int x2] : List Value).toArray below meth c H locs 0 0 (MQ below (va_Qv post (xB D cI cO A (w_X2_exchange cI cO aB)) A) ([.ref (aB 0), .int x1, .int x2] : List Value).toArray s 0 0 A) (F0 m 84 ls []) := by
    intro k2 hk2 y3 y4 zB H locs ls h hP hD hS hl
    refine lv_iinc (v := (y3 + (1 : Int32))) (lv' := [(3, .int (y3 + (1 : Int32))), (4, .int y4), (0, .ref (aB 0)), (1, .int x1), (2, .int x2)]) hx hb dX2_exchange_84 hl (k := 1) rfl rfl (by decide) rfl (fun ls hl => ?_)
    refine lv_goto (tgt := 2) hx hb dX2_exchange_87 (by decide) ?_
    exact hk2 (y3 + (1 : Int32)) zB _ _ _ h hP hD hS (lv_sub hl [0, 2, 3, 4] rfl)
  have g61 : ∀ (k2 : (Int32) → (CS) → Prop), (∀ (y3 : Int32) (zB : CS) (H : Heap) (locs : List Loc) (ls : Array Slot), k2 y3 zB → va_P D vwCl (wB cI aB zB) H → va_D A (wB cI aB zB) → va_S A s.heap H locs → lv_has ls 5 [(3, .int y3), (0, .ref (aB 0)), (1, .int x1), (2, .int x2)] → W p l e ({ frames := 1, cells := 0, slots := 0, locals := 22 } : Room) s m ([.ref (aB 0), .int x1, .int x2] : List Value).toArray below meth c H locs 0 0 (MQ below (va_Qv post (xB D cI cO A (w_X2_exchange cI cO aB)) A) ([.ref (aB 0), .int x1, .int x2] : List Value).toArray s 0 0 A) (F0 m 2 ls [])) → ∀ (y3 : Int32) (y4 : Int32) (zB : CS) (H : Heap) (locs : List Loc) (ls : Array Slot), qX2_exchange_61 post x1 x2 k2 y3 y4 zB → va_P D vwCl (wB cI aB zB) H → va_D A (wB cI aB zB) → va_S A s.heap H locs → lv_has ls 5 [(4, .int y4), (3, .int y3), (0, .ref (aB 0)), (1, .int x1), (2, .int x2)] → W p l e ({ frames := 1, cells := 0, slots := 0, locals := 22 } : Room) s m ([.ref (aB 0), .int x1, .int x2] : List Value).toArray below meth c H locs 0 0 (MQ below (va_Qv post (xB D cI cO A (w_X2_exchange cI cO aB)) A) ([.ref (aB 0), .int x1, .int x2] : List Value).toArray s 0 0 A) (F0 m 61 ls []) := by
    intro k2 hk2 y3 y4 zB H locs ls h hP hD hS hl
    refine lv_iload hx hb dX2_exchange_61 (lv_at hl 0 rfl) ?_
    refine lv_iconst (v := 1) hx hb dX2_exchange_63 (by decide) ?_
    obtain ⟨hh1, hh2⟩ := h
    refine lv_icmp_le (tgt := 84) hx hb dX2_exchange_64 (by decide) (fun hc => ?_) (fun hc => ?_)
    · have h := hh1 hc
      exact g84 k2 hk2 y3 y4 zB _ _ _ h hP hD hS hl
    · have h := hh2 hc
      refine lv_aload_n hx hb dX2_exchange_67 rfl (lv_at hl 2 rfl) ?_
      refine va_get (D := D) (ci := 2) (v := .ref (aB 3)) (C := RX2) (T := TX2) (N := 7) hx hb hts jX2_exchange_X2 hown hK hP 0 rfl rfl 2 (by decide) (hts (.fieldLink RX2 18 "BrotherAutomata$RuleBook" "seconds" "[I") (List.mem_of_getElem? (i := 5) rfl)) (fun _ h9 => h9) rfl dX2_exchange_68 ?_
      refine lv_iload_n hx hb dX2_exchange_71 rfl (lv_at hl 1 rfl) ?_
      refine lv_aload_n hx hb dX2_exchange_72 rfl (lv_at hl 2 rfl) ?_
      refine va_get (D := D) (ci := 2) (v := .ref (aB 3)) (C := RX2) (T := TX2) (N := 7) hx hb hts jX2_exchange_X2 hown hK hP 0 rfl rfl 2 (by decide) (hts (.fieldLink RX2 18 "BrotherAutomata$RuleBook" "seconds" "[I") (List.mem_of_getElem? (i := 5) rfl)) (fun _ h9 => h9) rfl dX2_exchange_73 ?_
      refine lv_iload_n hx hb dX2_exchange_76 rfl (lv_at hl 1 rfl) ?_
      obtain ⟨hi, h⟩ := h
      refine va_iald hx hb hK hP 3 0 rfl rfl hi dX2_exchange_77 ?_
      refine lv_iload_n hx hb dX2_exchange_78 rfl (lv_at hl 3 rfl) ?_
      refine lv_iload_n hx hb dX2_exchange_79 rfl (lv_at hl 4 rfl) ?_
      refine xcalli (wr := (wB cI aB zB)) (w2 := fun (u80 : Unit) => (wB cI aB zB)) (va_runS (As := [.int ((zB 2) y3.toNatClampNeg), .int x1, .int x2]) (rest := [.int y3, .ref (aB 3)]) ⟨hx, hb, hml, hown, hts⟩ (mX2_swapped l D cI cO tA tS ((zB 2) y3.toNatClampNeg) x1 x2 H.size h) (va_cwS 3 hts gX2_exchange_X2_swapped rfl rfl rfl (by decide +kernel) ⟨Nat.le_of_ble_eq_true rfl, Nat.le_of_ble_eq_true rfl⟩) (xpreP hP hD hS hA hK hE [] rfl rfl) rfl rfl hl.1 rfl (lv_room (Nat.le_of_ble_eq_true rfl)) dX2_exchange_80 ⟨Nat.le_refl 0, Nat.le_refl 0⟩) hP hD hS hA [] [0, 1, 2, 3, 4, 5] [0, 1, 2, 3, 4, 5] rfl rfl rfl (by decide) rfl (fun _ => rfl) (fun r80 u80 H locs h hP hD hS => ?_)
      obtain ⟨hi, h⟩ := h
      refine va_iast hx hb hK hP hD hS 3 0 rfl rfl hi dX2_exchange_83 (fun H locs hP hD hS => ?_)
      have hP : va_P D vwCl (wB cI aB (st zB 2 y3.toNatClampNeg r80)) H := hP
      have hD : va_D A (wB cI aB (st zB 2 y3.toNatClampNeg r80)) := hD
      exact g84 k2 hk2 y3 y4 (st zB 2 y3.toNatClampNeg r80) _ _ _ h hP hD hS hl
  have g2 : ∀ (n : Nat) (y3 : Int32) (zB : CS) (H : Heap) (locs : List Loc) (ls : Array Slot), qX2_exchange_2 post x1 x2 n y3 zB → va_P D vwCl (wB cI aB zB) H → va_D A (wB cI aB zB) → va_S A s.heap H locs → lv_has ls 5 [(3, .int y3), (0, .ref (aB 0)), (1, .int x1), (2, .int x2)] → W p l e ({ frames := 1, cells := 0, slots := 0, locals := 22 } : Room) s m ([.ref (aB 0), .int x1, .int x2] : List Value).toArray below meth c H locs 0 0 (MQ below (va_Qv post (xB D cI cO A (w_X2_exchange cI cO aB)) A) ([.ref (aB 0), .int x1, .int x2] : List Value).toArray s 0 0 A) (F0 m 2 ls []) := by
    intro n
    induction n with
    | zero => intro y3 zB H locs ls h; exact False.elim h
    | succ n hk2 =>
      intro y3 zB H locs ls h hP hD hS hl
      have h : qX2_exchange_2b post x1 x2 (qX2_exchange_2 post x1 x2 n) y3 zB := h
      refine lv_iload_n hx hb dX2_exchange_2 rfl (lv_at hl 0 rfl) ?_
      refine lv_aload_n hx hb dX2_exchange_3 rfl (lv_at hl 1 rfl) ?_
      refine va_get (D := D) (ci := 2) (v := .int (zB 5 0)) (C := RX2) (T := TX2) (N := 7) hx hb hts jX2_exchange_X2 hown hK hP 0 rfl rfl 5 (by decide) (hts (.fieldLink RX2 27 "BrotherAutomata$RuleBook" "count" "I") (List.mem_of_getElem? (i := 1) rfl)) (fun _ h9 => h9) rfl dX2_exchange_4 ?_
      obtain ⟨hh1, hh2⟩ := h
      refine lv_icmp_ge (tgt := 90) hx hb dX2_exchange_7 (by decide) (fun hc => ?_) (fun hc => ?_)
      · have h := hh1 hc
        refine lv_aload_n hx hb dX2_exchange_90 rfl (lv_at hl 1 rfl) ?_
        refine va_get (D := D) (ci := 2) (v := .int (zB 5 1)) (C := RX2) (T := TX2) (N := 7) hx hb hts jX2_exchange_X2 hown hK hP 0 rfl rfl 6 (by decide) (hts (.fieldLink RX2 31 "BrotherAutomata$RuleBook" "finals" "I") (List.mem_of_getElem? (i := 6) rfl)) (fun _ h9 => h9) rfl dX2_exchange_91 ?_
        refine lv_iload_n hx hb dX2_exchange_94 rfl (lv_at hl 2 rfl) ?_
        refine lv_ishr hx hb dX2_exchange_95 ?_
        refine lv_iconst (v := 1) hx hb dX2_exchange_96 (by decide) ?_
        refine lv_iand hx hb dX2_exchange_97 ?_
        obtain ⟨hh1, hh2⟩ := h
        refine lv_if_eq (tgt := 105) hx hb dX2_exchange_98 (by decide) (fun hc => ?_) (fun hc => ?_)
        · have h := hh1 hc
          refine lv_iconst (v := 0) hx hb dX2_exchange_105 (by decide) ?_
          exact g106 y3 (0 : Int32) zB _ _ _ h hP hD hS hl
        · have h := hh2 hc
          refine lv_iconst (v := 1) hx hb dX2_exchange_101 (by decide) ?_
          refine lv_goto (tgt := 106) hx hb dX2_exchange_102 (by decide) ?_
          exact g106 y3 (1 : Int32) zB _ _ _ h hP hD hS hl
      · have h := hh2 hc
        refine va_getsN hx hb hE.2.1 hS hown (va_Nw.use (w := .fieldLinkNest RX2 48 "BrotherAutomata" "ARITY" "[I" "BrotherAutomata") rfl (hE.1 _ (List.mem_of_getElem? (i := 17) rfl))) (fun _ h9 => h9) dX2_exchange_10 ?_
        refine lv_aload_n hx hb dX2_exchange_13 rfl (lv_at hl 1 rfl) ?_
        refine va_get (D := D) (ci := 2) (v := .ref (aB 1)) (C := RX2) (T := TX2) (N := 7) hx hb hts jX2_exchange_X2 hown hK hP 0 rfl rfl 0 (by decide) (hts (.fieldLink RX2 9 "BrotherAutomata$RuleBook" "symbols" "[I") (List.mem_of_getElem? (i := 2) rfl)) (fun _ h9 => h9) rfl dX2_exchange_14 ?_
        refine lv_iload_n hx hb dX2_exchange_17 rfl (lv_at hl 0 rfl) ?_
        obtain ⟨hi, h⟩ := h
        refine va_iald hx hb hK hP 1 0 rfl rfl hi dX2_exchange_18 ?_
        obtain ⟨hi, h⟩ := h
        refine va_ti (v := .int (xar ((zB 0) y3.toNatClampNeg).toNatClampNeg)) hx hb hE.2.2.1 hS hi rfl dX2_exchange_19 ?_
        refine lv_istore (lv' := [(4, .int (xar ((zB 0) y3.toNatClampNeg).toNatClampNeg)), (3, .int y3), (0, .ref (aB 0)), (1, .int x1), (2, .int x2)]) hx hb dX2_exchange_20 hl (by decide) rfl (fun ls hl => ?_)
        refine lv_aload_n hx hb dX2_exchange_22 rfl (lv_at hl 2 rfl) ?_
        refine va_get (D := D) (ci := 2) (v := .ref (aB 5)) (C := RX2) (T := TX2) (N := 7) hx hb hts jX2_exchange_X2 hown hK hP 0 rfl rfl 4 (by decide) (hts (.fieldLink RX2 24 "BrotherAutomata$RuleBook" "targets" "[I") (List.mem_of_getElem? (i := 3) rfl)) (fun _ h9 => h9) rfl dX2_exchange_23 ?_
        refine lv_iload_n hx hb dX2_exchange_26 rfl (lv_at hl 1 rfl) ?_
        refine lv_aload_n hx hb dX2_exchange_27 rfl (lv_at hl 2 rfl) ?_
        refine va_get (D := D) (ci := 2) (v := .ref (aB 5)) (C := RX2) (T := TX2) (N := 7) hx hb hts jX2_exchange_X2 hown hK hP 0 rfl rfl 4 (by decide) (hts (.fieldLink RX2 24 "BrotherAutomata$RuleBook" "targets" "[I") (List.mem_of_getElem? (i := 3) rfl)) (fun _ h9 => h9) rfl dX2_exchange_28 ?_
        refine lv_iload_n hx hb dX2_exchange_31 rfl (lv_at hl 1 rfl) ?_
        obtain ⟨hi, h⟩ := h
        refine va_iald hx hb hK hP 5 0 rfl rfl hi dX2_exchange_32 ?_
        refine lv_iload_n hx hb dX2_exchange_33 rfl (lv_at hl 3 rfl) ?_
        refine lv_iload_n hx hb dX2_exchange_34 rfl (lv_at hl 4 rfl) ?_
        refine xcalli (wr := (wB cI aB zB)) (w2 := fun (u35 : Unit) => (wB cI aB zB)) (va_runS (As := [.int ((zB 4) y3.toNatClampNeg), .int x1, .int x2]) (rest := [.int y3, .ref (aB 5)]) ⟨hx, hb, hml, hown, hts⟩ (mX2_swapped l D cI cO tA tS ((zB 4) y3.toNatClampNeg) x1 x2 H.size h) (va_cwS 3 hts gX2_exchange_X2_swapped rfl rfl rfl (by decide +kernel) ⟨Nat.le_of_ble_eq_true rfl, Nat.le_of_ble_eq_true rfl⟩) (xpreP hP hD hS hA hK hE [] rfl rfl) rfl rfl hl.1 rfl (lv_room (Nat.le_of_ble_eq_true rfl)) dX2_exchange_35 ⟨Nat.le_refl 0, Nat.le_refl 0⟩) hP hD hS hA [] [0, 1, 2, 3, 4, 5] [0, 1, 2, 3, 4, 5] rfl rfl rfl (by decide) rfl (fun _ => rfl) (fun r35 u35 H locs h hP hD hS => ?_)
        obtain ⟨hi, h⟩ := h
        refine va_iast hx hb hK hP hD hS 5 0 rfl rfl hi dX2_exchange_38 (fun H locs hP hD hS => ?_)
        have hP : va_P D vwCl (wB cI aB (st zB 4 y3.toNatClampNeg r35)) H := hP
        have hD : va_D A (wB cI aB (st zB 4 y3.toNatClampNeg r35)) := hD
        refine lv_iload hx hb dX2_exchange_39 (lv_at hl 0 rfl) ?_
        obtain ⟨hh1, hh2⟩ := h
        refine lv_if_le (tgt := 61) hx hb dX2_exchange_41 (by decide) (fun hc => ?_) (fun hc => ?_)
        · have h := hh1 hc
          exact g61 (qX2_exchange_2 post x1 x2 n) hk2 y3 (xar ((zB 0) y3.toNatClampNeg).toNatClampNeg) (st zB 4 y3.toNatClampNeg r35) _ _ _ h hP hD hS hl
        · have h := hh2 hc
          refine lv_aload_n hx hb dX2_exchange_44 rfl (lv_at hl 2 rfl) ?_
          refine va_get (D := D) (ci := 2) (v := .ref (aB 2)) (C := RX2) (T := TX2) (N := 7) hx hb hts jX2_exchange_X2 hown hK hP 0 rfl rfl 1 (by decide) (hts (.fieldLink RX2 15 "BrotherAutomata$RuleBook" "firsts" "[I") (List.mem_of_getElem? (i := 4) rfl)) (fun _ h9 => h9) rfl dX2_exchange_45 ?_
          refine lv_iload_n hx hb dX2_exchange_48 rfl (lv_at hl 1 rfl) ?_
          refine lv_aload_n hx hb dX2_exchange_49 rfl (lv_at hl 2 rfl) ?_
          refine va_get (D := D) (ci := 2) (v := .ref (aB 2)) (C := RX2) (T := TX2) (N := 7) hx hb hts jX2_exchange_X2 hown hK hP 0 rfl rfl 1 (by decide) (hts (.fieldLink RX2 15 "BrotherAutomata$RuleBook" "firsts" "[I") (List.mem_of_getElem? (i := 4) rfl)) (fun _ h9 => h9) rfl dX2_exchange_50 ?_
          refine lv_iload_n hx hb dX2_exchange_53 rfl (lv_at hl 1 rfl) ?_
          obtain ⟨hi, h⟩ := h
          refine va_iald hx hb hK hP 2 0 rfl rfl hi dX2_exchange_54 ?_
          refine lv_iload_n hx hb dX2_exchange_55 rfl (lv_at hl 3 rfl) ?_
          refine lv_iload_n hx hb dX2_exchange_56 rfl (lv_at hl 4 rfl) ?_
          refine xcalli (wr := (wB cI aB (st zB 4 y3.toNatClampNeg r35))) (w2 := fun (u57 : Unit) => (wB cI aB (st zB 4 y3.toNatClampNeg r35))) (va_runS (As := [.int (((st zB 4 y3.toNatClampNeg r35) 1) y3.toNatClampNeg), .int x1, .int x2]) (rest := [.int y3, .ref (aB 2)]) ⟨hx, hb, hml, hown, hts⟩ (mX2_swapped l D cI cO tA tS (((st zB 4 y3.toNatClampNeg r35) 1) y3.toNatClampNeg) x1 x2 H.size h) (va_cwS 3 hts gX2_exchange_X2_swapped rfl rfl rfl (by decide +kernel) ⟨Nat.le_of_ble_eq_true rfl, Nat.le_of_ble_eq_true rfl⟩) (xpreP hP hD hS hA hK hE [] rfl rfl) rfl rfl hl.1 rfl (lv_room (Nat.le_of_ble_eq_true rfl)) dX2_exchange_57 ⟨Nat.le_refl 0, Nat.le_refl 0⟩) hP hD hS hA [] [0, 1, 2, 3, 4, 5] [0, 1, 2, 3, 4, 5] rfl rfl rfl (by decide) rfl (fun _ => rfl) (fun r57 u57 H locs h hP hD hS => ?_)
          obtain ⟨hi, h⟩ := h
          refine va_iast hx hb hK hP hD hS 2 0 rfl rfl hi dX2_exchange_60 (fun H locs hP hD hS => ?_)
          have hP : va_P D vwCl (wB cI aB (st (st zB 4 y3.toNatClampNeg r35) 1 y3.toNatClampNeg r57)) H := hP
          have hD : va_D A (wB cI aB (st (st zB 4 y3.toNatClampNeg r35) 1 y3.toNatClampNeg r57)) := hD
          exact g61 (qX2_exchange_2 post x1 x2 n) hk2 y3 (xar ((zB 0) y3.toNatClampNeg).toNatClampNeg) (st (st zB 4 y3.toNatClampNeg r35) 1 y3.toNatClampNeg r57) _ _ _ h hP hD hS hl
  refine lv_iconst (v := 0) hx hb dX2_exchange_0 (by decide) ?_
  refine lv_istore_n (lv' := [(3, .int (0 : Int32)), (0, .ref (aB 0)), (1, .int x1), (2, .int x2)]) hx hb dX2_exchange_1 rfl hl (by decide) rfl (fun ls hl => ?_)
  obtain ⟨n0, h⟩ := h
  exact g2 n0 (0 : Int32) zB _ _ _ h hP hD hS hl
end
section
theorem zz_dummy : True := trivial
end
