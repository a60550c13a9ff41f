theorem dX6_isTree_0 : decode cX6_isTree 0 = .ok (.iload_n 0, 1) := by decide +kernel
theorem dX6_isTree_1 : decode cX6_isTree 1 = .ok (.ifCond .lt 14, 3) := by decide +kernel
theorem dX6_isTree_4 : decode cX6_isTree 4 = .ok (.iload_n 0, 1) := by decide +kernel
theorem dX6_isTree_5 : decode cX6_isTree 5 = .ok (.sipush 2278, 3) := by decide +kernel
theorem dX6_isTree_8 : decode cX6_isTree 8 = .ok (.if_icmp .ge 7, 3) := by decide +kernel
theorem dX6_isTree_11 : decode cX6_isTree 11 = .ok (.iconst 1, 1) := by decide +kernel
theorem dX6_isTree_12 : decode cX6_isTree 12 = .ok (.goto 4, 3) := by decide +kernel
theorem dX6_isTree_15 : decode cX6_isTree 15 = .ok (.iconst 0, 1) := by decide +kernel
theorem dX6_isTree_16 : decode cX6_isTree 16 = .ok (.ireturn, 1) := by decide +kernel
abbrev w_X6_isTree (cI cO : ClassId)   : (Unit) → va_W := fun u => ([] : va_W)
set_option maxRecDepth 100000 in
set_option maxHeartbeats 8000000 in
theorem mX6_isTree (l : Launch) (D : va_G) (cI cO : ClassId) (tA tS : Nat)   (x0 : Int32) (sz : Nat) {post : Int32 → (Unit) → Prop} (h : qX6_isTree post x0) : Met l yX6_isTree wsX6_isTree ({ frames := 0, cells := 0, slots := 0, locals := 0 } : Room) (xPre D cI cO tA tS [.int x0] ([] : va_W) sz) (va_Qi post (xB D cI cO (va_A ([] : va_W) sz) (w_X6_isTree cI cO)) (va_A ([] : va_W) sz)) 0 0 (va_A ([] : va_W) sz) := by
  refine xMet D cI cO tA tS (fun A => va_Qi post (xB D cI cO A (w_X6_isTree cI cO)) A) (cc := cX6_isTree) (maxL := 1) (ret := (some .boolean)) (by decide) rfl (Nat.le_of_ble_eq_true rfl) ?_
  intro p e s m below meth c A ls hx hb hr hts hown hlocks hin hml hA hS hP hK hD hE hl
  have hown : s.vm.findClass RX6 = some m.cls := hown
  have hl : lv_has ls 1 [(0, .int x0)] := hl
  have g15 : ∀  (H : Heap) (locs : List Loc) (ls : Array Slot), qX6_isTree_15 post x0  → va_P D vwCl ([] : va_W) H → va_D A ([] : va_W) → va_S A s.heap H locs → lv_has ls 1 [(0, .int x0)] → W p l e ({ frames := 0, cells := 0, slots := 0, locals := 0 } : Room) s m ([.int x0] : List Value).toArray below meth c H locs 0 0 (MQ below (va_Qi post (xB D cI cO A (w_X6_isTree cI cO)) A) ([.int x0] : List Value).toArray s 0 0 A) (F0 m 15 ls []) := by
    intro  H locs ls h hP hD hS hl
    refine lv_iconst (v := 0) hx hb dX6_isTree_15 (by decide) ?_
    exact xzret (w := (w_X6_isTree cI cO)) () hx hb hr hlocks rfl h hP hK hD hS dX6_isTree_16
  refine lv_iload_n hx hb dX6_isTree_0 rfl (lv_at hl 0 rfl) ?_
  obtain ⟨hh1, hh2⟩ := h
  refine lv_if_lt (tgt := 15) hx hb dX6_isTree_1 (by decide) (fun hc => ?_) (fun hc => ?_)
  · have h := hh1 hc
    exact g15  _ _ _ h hP hD hS hl
  · have h := hh2 hc
    refine lv_iload_n hx hb dX6_isTree_4 rfl (lv_at hl 0 rfl) ?_
    refine lv_sipush (v := 2278) hx hb dX6_isTree_5 (by decide) ?_
    obtain ⟨hh1, hh2⟩ := h
    refine lv_icmp_ge (tgt := 15) hx hb dX6_isTree_8 (by decide) (fun hc => ?_) (fun hc => ?_)
    · have h := hh1 hc
      exact g15  _ _ _ h hP hD hS hl
    · have h := hh2 hc
      refine lv_iconst (v := 1) hx hb dX6_isTree_11 (by decide) ?_
      refine lv_goto (tgt := 16) hx hb dX6_isTree_12 (by decide) ?_
      exact xzret (w := (w_X6_isTree cI cO)) () hx hb hr hlocks rfl h hP hK hD hS dX6_isTree_16
set_option maxRecDepth 20000 in
theorem ggX6_isChildTree_X6_isTree : GoodIn wsX6_isChildTree wsX6_isTree := goodIn_r _ [4] (by decide +kernel) (by decide +kernel)
set_option maxRecDepth 20000 in
theorem gX6_isChildTree_X6_isTree : GoodIn wsX6_isChildTree (va_wsS RX6 141 yX6_isTree wsX6_isTree) := goodIn_app (goodIn_of _ (by decide +kernel)) ggX6_isChildTree_X6_isTree
theorem dX6_isChildTree_0 : decode cX6_isChildTree 0 = .ok (.iload_n 1, 1) := by decide +kernel
theorem dX6_isChildTree_1 : decode cX6_isChildTree 1 = .ok (.ifCond .eq 10, 3) := by decide +kernel
theorem dX6_isChildTree_4 : decode cX6_isChildTree 4 = .ok (.iload_n 0, 1) := by decide +kernel
theorem dX6_isChildTree_5 : decode cX6_isChildTree 5 = .ok (.invokestatic 141, 3) := by decide +kernel
theorem dX6_isChildTree_8 : decode cX6_isChildTree 8 = .ok (.goto 12, 3) := by decide +kernel
theorem dX6_isChildTree_11 : decode cX6_isChildTree 11 = .ok (.iload_n 0, 1) := by decide +kernel
theorem dX6_isChildTree_12 : decode cX6_isChildTree 12 = .ok (.ifCond .ne 7, 3) := by decide +kernel
theorem dX6_isChildTree_15 : decode cX6_isChildTree 15 = .ok (.iconst 1, 1) := by decide +kernel
theorem dX6_isChildTree_16 : decode cX6_isChildTree 16 = .ok (.goto 4, 3) := by decide +kernel
theorem dX6_isChildTree_19 : decode cX6_isChildTree 19 = .ok (.iconst 0, 1) := by decide +kernel
theorem dX6_isChildTree_20 : decode cX6_isChildTree 20 = .ok (.ireturn, 1) := by decide +kernel
abbrev w_X6_isChildTree (cI cO : ClassId)   : (Unit) → va_W := fun u => ([] : va_W)
set_option maxRecDepth 100000 in
set_option maxHeartbeats 8000000 in
theorem mX6_isChildTree (l : Launch) (D : va_G) (cI cO : ClassId) (tA tS : Nat)   (x0 : Int32) (x1 : Int32) (sz : Nat) {post : Int32 → (Unit) → Prop} (h : qX6_isChildTree post x0 x1) : Met l yX6_isChildTree wsX6_isChildTree ({ frames := 1, cells := 0, slots := 0, locals := 20 } : Room) (xPre D cI cO tA tS [.int x0, .int x1] ([] : va_W) sz) (va_Qi post (xB D cI cO (va_A ([] : va_W) sz) (w_X6_isChildTree cI cO)) (va_A ([] : va_W) sz)) 0 0 (va_A ([] : va_W) sz) := by
  refine xMet D cI cO tA tS (fun A => va_Qi post (xB D cI cO A (w_X6_isChildTree cI cO)) A) (cc := cX6_isChildTree) (maxL := 2) (ret := (some .boolean)) (by decide) rfl (Nat.le_of_ble_eq_true rfl) ?_
  intro p e s m below meth c A ls hx hb hr hts hown hlocks hin hml hA hS hP hK hD hE hl
  have hown : s.vm.findClass RX6 = some m.cls := hown
  have hl : lv_has ls 2 [(0, .int x0), (1, .int x1)] := hl
  refine lv_iload_n hx hb dX6_isChildTree_0 rfl (lv_at hl 1 rfl) ?_
  obtain ⟨hh1, hh2⟩ := h
  refine lv_if_eq (tgt := 11) hx hb dX6_isChildTree_1 (by decide) (fun hc => ?_) (fun hc => ?_)
  · have h := hh1 hc
    refine lv_iload_n hx hb dX6_isChildTree_11 rfl (lv_at hl 0 rfl) ?_
    obtain ⟨hh1, hh2⟩ := h
    refine lv_if_ne (tgt := 19) hx hb dX6_isChildTree_12 (by decide) (fun hc => ?_) (fun hc => ?_)
    · have h := hh2 hc
      refine lv_iconst (v := 0) hx hb dX6_isChildTree_19 (by decide) ?_
      exact xzret (w := (w_X6_isChildTree cI cO)) () hx hb hr hlocks rfl h hP hK hD hS dX6_isChildTree_20
    · have h := hh1 hc
      refine lv_iconst (v := 1) hx hb dX6_isChildTree_15 (by decide) ?_
      refine lv_goto (tgt := 20) hx hb dX6_isChildTree_16 (by decide) ?_
      exact xzret (w := (w_X6_isChildTree cI cO)) () hx hb hr hlocks rfl h hP hK hD hS dX6_isChildTree_20
  · have h := hh2 hc
    refine lv_iload_n hx hb dX6_isChildTree_4 rfl (lv_at hl 0 rfl) ?_
    refine xcalli (wr := ([] : va_W)) (w2 := fun (u5 : Unit) => ([] : va_W)) (va_runS (As := [.int x0]) (rest := []) ⟨hx, hb, hml, hown, hts⟩ (mX6_isTree l D cI cO tA tS x0 _ h) (va_cwS 1 hts gX6_isChildTree_X6_isTree rfl rfl rfl (by decide +kernel) ⟨Nat.le_of_ble_eq_true rfl, Nat.le_of_ble_eq_true rfl⟩) (xpreP hP hD hS hA hK hE [] rfl rfl) rfl rfl hl.1 rfl (lv_room (Nat.le_of_ble_eq_true rfl)) dX6_isChildTree_5 ⟨Nat.le_refl 0, Nat.le_refl 0⟩) hP hD hS hA [] [] [] rfl rfl rfl (by decide) rfl (fun _ => rfl) (fun r5 u5 H locs h hP hD hS => ?_)
    refine lv_goto (tgt := 20) hx hb dX6_isChildTree_8 (by decide) ?_
    obtain ⟨hn, h⟩ := h
    exact xzret (w := (w_X6_isChildTree cI cO)) () hx hb hr hlocks hn h hP hK hD hS dX6_isChildTree_20
set_option maxRecDepth 20000 in
theorem ggX6_treeOf_X6_isSymbol : GoodIn wsX6_treeOf wsX6_isSymbol := goodIn_r _ [6] (by decide +kernel) (by decide +kernel)
set_option maxRecDepth 20000 in
theorem gX6_treeOf_X6_isSymbol : GoodIn wsX6_treeOf (va_wsS RX6 96 yX6_isSymbol wsX6_isSymbol) := goodIn_app (goodIn_of _ (by decide +kernel)) ggX6_treeOf_X6_isSymbol
set_option maxRecDepth 20000 in
theorem ggX6_treeOf_X6_isChildTree : GoodIn wsX6_treeOf wsX6_isChildTree := goodIn_r _ [9, 10, 11, 5, 12] (by decide +kernel) (by decide +kernel)
set_option maxRecDepth 20000 in
theorem gX6_treeOf_X6_isChildTree : GoodIn wsX6_treeOf (va_wsS RX6 134 yX6_isChildTree wsX6_isChildTree) := goodIn_app (goodIn_of _ (by decide +kernel)) ggX6_treeOf_X6_isChildTree
set_option maxRecDepth 20000 in
theorem ggX6_treeOf_X5_find : GoodIn wsX6_treeOf wsX5_find := goodIn_r _ [17, 18, 19, 5, 20, 21, 22, 23, 16, 24, 35, 36, 37] (by decide +kernel) (by decide +kernel)
set_option maxRecDepth 20000 in
theorem gX6_treeOf_X5_find : GoodIn wsX6_treeOf (wsV RX6 137 RX5 yX5_find wsX5_find) := goodIn_app (goodIn_of _ (by decide +kernel)) ggX6_treeOf_X5_find
theorem dX6_treeOf_0 : decode cX6_treeOf 0 = .ok (.iload_n 1, 1) := by decide +kernel
theorem dX6_treeOf_1 : decode cX6_treeOf 1 = .ok (.invokestatic 96, 3) := by decide +kernel
theorem dX6_treeOf_4 : decode cX6_treeOf 4 = .ok (.ifCond .eq 44, 3) := by decide +kernel
theorem dX6_treeOf_7 : decode cX6_treeOf 7 = .ok (.iload_n 2, 1) := by decide +kernel
theorem dX6_treeOf_8 : decode cX6_treeOf 8 = .ok (.getstatic 99, 3) := by decide +kernel
theorem dX6_treeOf_11 : decode cX6_treeOf 11 = .ok (.iload_n 1, 1) := by decide +kernel
theorem dX6_treeOf_12 : decode cX6_treeOf 12 = .ok (.iaload, 1) := by decide +kernel
theorem dX6_treeOf_13 : decode cX6_treeOf 13 = .ok (.ifCond .le 7, 3) := by decide +kernel
theorem dX6_treeOf_16 : decode cX6_treeOf 16 = .ok (.iconst 1, 1) := by decide +kernel
theorem dX6_treeOf_17 : decode cX6_treeOf 17 = .ok (.goto 4, 3) := by decide +kernel
theorem dX6_treeOf_20 : decode cX6_treeOf 20 = .ok (.iconst 0, 1) := by decide +kernel
theorem dX6_treeOf_21 : decode cX6_treeOf 21 = .ok (.invokestatic 134, 3) := by decide +kernel
theorem dX6_treeOf_24 : decode cX6_treeOf 24 = .ok (.ifCond .eq 24, 3) := by decide +kernel
theorem dX6_treeOf_27 : decode cX6_treeOf 27 = .ok (.iload_n 3, 1) := by decide +kernel
theorem dX6_treeOf_28 : decode cX6_treeOf 28 = .ok (.getstatic 99, 3) := by decide +kernel
theorem dX6_treeOf_31 : decode cX6_treeOf 31 = .ok (.iload_n 1, 1) := by decide +kernel
theorem dX6_treeOf_32 : decode cX6_treeOf 32 = .ok (.iaload, 1) := by decide +kernel
theorem dX6_treeOf_33 : decode cX6_treeOf 33 = .ok (.iconst 1, 1) := by decide +kernel
theorem dX6_treeOf_34 : decode cX6_treeOf 34 = .ok (.if_icmp .le 7, 3) := by decide +kernel
theorem dX6_treeOf_37 : decode cX6_treeOf 37 = .ok (.iconst 1, 1) := by decide +kernel
theorem dX6_treeOf_38 : decode cX6_treeOf 38 = .ok (.goto 4, 3) := by decide +kernel
theorem dX6_treeOf_41 : decode cX6_treeOf 41 = .ok (.iconst 0, 1) := by decide +kernel
theorem dX6_treeOf_42 : decode cX6_treeOf 42 = .ok (.invokestatic 134, 3) := by decide +kernel
theorem dX6_treeOf_45 : decode cX6_treeOf 45 = .ok (.ifCond .ne 5, 3) := by decide +kernel
theorem dX6_treeOf_48 : decode cX6_treeOf 48 = .ok (.iconst (-1), 1) := by decide +kernel
theorem dX6_treeOf_49 : decode cX6_treeOf 49 = .ok (.ireturn, 1) := by decide +kernel
theorem dX6_treeOf_50 : decode cX6_treeOf 50 = .ok (.aload_n 0, 1) := by decide +kernel
theorem dX6_treeOf_51 : decode cX6_treeOf 51 = .ok (.getfield 10, 3) := by decide +kernel
theorem dX6_treeOf_54 : decode cX6_treeOf 54 = .ok (.iload_n 1, 1) := by decide +kernel
theorem dX6_treeOf_55 : decode cX6_treeOf 55 = .ok (.iload_n 2, 1) := by decide +kernel
theorem dX6_treeOf_56 : decode cX6_treeOf 56 = .ok (.iload_n 3, 1) := by decide +kernel
theorem dX6_treeOf_57 : decode cX6_treeOf 57 = .ok (.invokevirtual 137, 3) := by decide +kernel
theorem dX6_treeOf_60 : decode cX6_treeOf 60 = .ok (.ireturn, 1) := by decide +kernel
theorem jX6_treeOf_X6 : ∀ w ∈ wsX60, w ∈ wsX6_treeOf := by decide +kernel
abbrev w_X6_treeOf (cI cO : ClassId) (aS : Nat → Nat) (aT : Nat → Nat) (aB : Nat → Nat) (aH : Nat → Nat) (aM : Nat → Nat) (aC : Nat → Nat) (aZ : Nat → Nat) (zS : CS) (zT : CS) : (Unit) → va_W := fun u => (wS cI aS aT aB aH aM aC aZ zS ++ (wT cI aT zT))
set_option maxRecDepth 100000 in
set_option maxHeartbeats 8000000 in
theorem mX6_treeOf (l : Launch) (D : va_G) (cI cO : ClassId) (tA tS : Nat) (aS : Nat → Nat) (aT : Nat → Nat) (aB : Nat → Nat) (aH : Nat → Nat) (aM : Nat → Nat) (aC : Nat → Nat) (aZ : Nat → Nat) (zS : CS) (zT : CS) (x1 : Int32) (x2 : Int32) (x3 : Int32) (sz : Nat) {post : Int32 → (Unit) → Prop} (h : qX6_treeOf post x1 x2 x3 zS zT) : Met l yX6_treeOf wsX6_treeOf ({ frames := 2, cells := 0, slots := 0, locals := 48 } : Room) (xPre D cI cO tA tS [.ref (aS 0), .int x1, .int x2, .int x3] (wS cI aS aT aB aH aM aC aZ zS ++ (wT cI aT zT)) sz) (va_Qi post (xB D cI cO (va_A (wS cI aS aT aB aH aM aC aZ zS ++ (wT cI aT zT)) sz) (w_X6_treeOf cI cO aS aT aB aH aM aC aZ zS zT)) (va_A (wS cI aS aT aB aH aM aC aZ zS ++ (wT cI aT zT)) sz)) 0 0 (va_A (wS cI aS aT aB aH aM aC aZ zS ++ (wT cI aT zT)) sz) := by
  refine xMet D cI cO tA tS (fun A => va_Qi post (xB D cI cO A (w_X6_treeOf cI cO aS aT aB aH aM aC aZ zS zT)) A) (cc := cX6_treeOf) (maxL := 4) (ret := (some .int)) (by decide) rfl (Nat.le_of_ble_eq_true rfl) ?_
  intro p e s m below meth c A ls hx hb hr hts hown hlocks hin hml hA hS hP hK hD hE hl
  have hown : s.vm.findClass RX6 = some m.cls := hown
  have hl : lv_has ls 4 [(0, .ref (aS 0)), (1, .int x1), (2, .int x2), (3, .int x3)] := hl
  have g48 : ∀  (H : Heap) (locs : List Loc) (ls : Array Slot), qX6_treeOf_48 post x1 x2 x3 zS zT  → va_P D vwCl (wS cI aS aT aB aH aM aC aZ zS ++ (wT cI aT zT)) H → va_D A (wS cI aS aT aB aH aM aC aZ zS ++ (wT cI aT zT)) → va_S A s.heap H locs → lv_has ls 4 [(0, .ref (aS 0)), (1, .int x1), (2, .int x2), (3, .int x3)] → W p l e ({ frames := 2, cells := 0, slots := 0, locals := 48 } : Room) s m ([.ref (aS 0), .int x1, .int x2, .int x3] : List Value).toArray below meth c H locs 0 0 (MQ below (va_Qi post (xB D cI cO A (w_X6_treeOf cI cO aS aT aB aH aM aC aZ zS zT)) A) ([.ref (aS 0), .int x1, .int x2, .int x3] : List Value).toArray s 0 0 A) (F0 m 48 ls []) := by
    intro  H locs ls h hP hD hS hl
    refine lv_iconst (v := -1) hx hb dX6_treeOf_48 (by decide) ?_
    exact xiret (w := (w_X6_treeOf cI cO aS aT aB aH aM aC aZ zS zT)) () hx hb hr hlocks h hP hK hD hS dX6_treeOf_49
  have g42 : ∀ (w0 : Int32) (w1 : Int32) (H : Heap) (locs : List Loc) (ls : Array Slot), qX6_treeOf_42 post x1 x2 x3 zS zT w0 w1 → va_P D vwCl (wS cI aS aT aB aH aM aC aZ zS ++ (wT cI aT zT)) H → va_D A (wS cI aS aT aB aH aM aC aZ zS ++ (wT cI aT zT)) → va_S A s.heap H locs → lv_has ls 4 [(0, .ref (aS 0)), (1, .int x1), (2, .int x2), (3, .int x3)] → W p l e ({ frames := 2, cells := 0, slots := 0, locals := 48 } : Room) s m ([.ref (aS 0), .int x1, .int x2, .int x3] : List Value).toArray below meth c H locs 0 0 (MQ below (va_Qi post (xB D cI cO A (w_X6_treeOf cI cO aS aT aB aH aM aC aZ zS zT)) A) ([.ref (aS 0), .int x1, .int x2, .int x3] : List Value).toArray s 0 0 A) (F0 m 42 ls [.int w1, .int w0]) := by
    intro w0 w1 H locs ls h hP hD hS hl
    refine xcalli (wr := (wS cI aS aT aB aH aM aC aZ zS ++ (wT cI aT zT))) (w2 := fun (u42 : Unit) => (wS cI aS aT aB aH aM aC aZ zS ++ (wT cI aT zT))) (va_runS (As := [.int w0, .int w1]) (rest := []) ⟨hx, hb, hml, hown, hts⟩ (mX6_isChildTree l D cI cO tA tS w0 w1 _ h) (va_cwS 2 hts gX6_treeOf_X6_isChildTree rfl rfl rfl (by decide +kernel) ⟨Nat.le_of_ble_eq_true rfl, Nat.le_of_ble_eq_true rfl⟩) (xpreP hP hD hS hA hK hE [] rfl rfl) rfl rfl hl.1 rfl (lv_room (Nat.le_of_ble_eq_true rfl)) dX6_treeOf_42 ⟨Nat.le_refl 0, Nat.le_refl 0⟩) hP hD hS hA [] [0, 1, 2, 3, 4] [0, 1, 2, 3, 4] rfl rfl rfl (by decide) rfl (fun _ => rfl) (fun r42 u42 H locs h hP hD hS => ?_)
    obtain ⟨hh1, hh2⟩ := h
    refine lv_if_ne (tgt := 50) hx hb dX6_treeOf_45 (by decide) (fun hc => ?_) (fun hc => ?_)
    · have h := hh2 hc
      refine lv_aload_n hx hb dX6_treeOf_50 rfl (lv_at hl 0 rfl) ?_
      refine va_get (D := D) (ci := 6) (v := .ref (aT 0)) (C := RX6) (T := TX6) (N := 10) hx hb hts jX6_treeOf_X6 hown hK hP 0 rfl rfl 0 (by decide) (hts (.fieldLink RX6 10 "BrotherAutomata" "trees" "LBrotherAutomata$SmallTrees;") (List.mem_of_getElem? (i := 2) rfl)) (fun _ h9 => h9) rfl dX6_treeOf_51 ?_
      refine lv_iload_n hx hb dX6_treeOf_54 rfl (lv_at hl 1 rfl) ?_
      refine lv_iload_n hx hb dX6_treeOf_55 rfl (lv_at hl 2 rfl) ?_
      refine lv_iload_n hx hb dX6_treeOf_56 rfl (lv_at hl 3 rfl) ?_
      refine xcalli (wr := (wS cI aS aT aB aH aM aC aZ zS)) (w2 := fun (u57 : Unit) => (wS cI aS aT aB aH aM aC aZ zS ++ (wT cI aT zT))) (va_runV (As := [.int x1, .int x2, .int x3]) (rest := []) ⟨hx, hb, hml, hown, hts⟩ (mX5_find l D cI cO tA tS aT zT x1 x2 x3 _ h) (cwV 3 hts gX6_treeOf_X5_find rfl rfl rfl (by decide +kernel) ⟨Nat.le_of_ble_eq_true rfl, Nat.le_of_ble_eq_true rfl⟩) (xpreV hP hD hS hA hK hE [2, 3, 4] rfl rfl 5 2 rfl rfl) rfl rfl hl.1 rfl (lv_room (Nat.le_of_ble_eq_true rfl)) dX6_treeOf_57 ⟨Nat.le_refl 0, Nat.le_refl 0⟩) hP hD hS hA [2, 3, 4] [0, 1] [0, 1, 2, 3, 4] rfl rfl rfl (by decide) rfl (fun _ => rfl) (fun r57 u57 H locs h hP hD hS => ?_)
      exact xiret (w := (w_X6_treeOf cI cO aS aT aB aH aM aC aZ zS zT)) () hx hb hr hlocks h hP hK hD hS dX6_treeOf_60
    · have h := hh1 hc
      exact g48  _ _ _ h hP hD hS hl
  have g21 : ∀ (w0 : Int32) (w1 : Int32) (H : Heap) (locs : List Loc) (ls : Array Slot), qX6_treeOf_21 post x1 x2 x3 zS zT w0 w1 → va_P D vwCl (wS cI aS aT aB aH aM aC aZ zS ++ (wT cI aT zT)) H → va_D A (wS cI aS aT aB aH aM aC aZ zS ++ (wT cI aT zT)) → va_S A s.heap H locs → lv_has ls 4 [(0, .ref (aS 0)), (1, .int x1), (2, .int x2), (3, .int x3)] → W p l e ({ frames := 2, cells := 0, slots := 0, locals := 48 } : Room) s m ([.ref (aS 0), .int x1, .int x2, .int x3] : List Value).toArray below meth c H locs 0 0 (MQ below (va_Qi post (xB D cI cO A (w_X6_treeOf cI cO aS aT aB aH aM aC aZ zS zT)) A) ([.ref (aS 0), .int x1, .int x2, .int x3] : List Value).toArray s 0 0 A) (F0 m 21 ls [.int w1, .int w0]) := by
    intro w0 w1 H locs ls h hP hD hS hl
    refine xcalli (wr := (wS cI aS aT aB aH aM aC aZ zS ++ (wT cI aT zT))) (w2 := fun (u21 : Unit) => (wS cI aS aT aB aH aM aC aZ zS ++ (wT cI aT zT))) (va_runS (As := [.int w0, .int w1]) (rest := []) ⟨hx, hb, hml, hown, hts⟩ (mX6_isChildTree l D cI cO tA tS w0 w1 _ h) (va_cwS 2 hts gX6_treeOf_X6_isChildTree rfl rfl rfl (by decide +kernel) ⟨Nat.le_of_ble_eq_true rfl, Nat.le_of_ble_eq_true rfl⟩) (xpreP hP hD hS hA hK hE [] rfl rfl) rfl rfl hl.1 rfl (lv_room (Nat.le_of_ble_eq_true rfl)) dX6_treeOf_21 ⟨Nat.le_refl 0, Nat.le_refl 0⟩) hP hD hS hA [] [0, 1, 2, 3, 4] [0, 1, 2, 3, 4] rfl rfl rfl (by decide) rfl (fun _ => rfl) (fun r21 u21 H locs h hP hD hS => ?_)
    obtain ⟨hh1, hh2⟩ := h
    refine lv_if_eq (tgt := 48) hx hb dX6_treeOf_24 (by decide) (fun hc => ?_) (fun hc => ?_)
    · have h := hh1 hc
      exact g48  _ _ _ h hP hD hS hl
    · have h := hh2 hc
      refine lv_iload_n hx hb dX6_treeOf_27 rfl (lv_at hl 3 rfl) ?_
      refine va_gets hx hb hE.2.1 hS hown (hts (.fieldLink RX6 99 "BrotherAutomata" "ARITY" "[I") (List.mem_of_getElem? (i := 1) rfl)) (fun _ h9 => h9) dX6_treeOf_28 ?_
      refine lv_iload_n hx hb dX6_treeOf_31 rfl (lv_at hl 1 rfl) ?_
      obtain ⟨hi, h⟩ := h
      refine va_ti (v := .int (xar x1.toNatClampNeg)) hx hb hE.2.2.1 hS hi rfl dX6_treeOf_32 ?_
      refine lv_iconst (v := 1) hx hb dX6_treeOf_33 (by decide) ?_
      obtain ⟨hh1, hh2⟩ := h
      refine lv_icmp_le (tgt := 41) hx hb dX6_treeOf_34 (by decide) (fun hc => ?_) (fun hc => ?_)
      · have h := hh1 hc
        refine lv_iconst (v := 0) hx hb dX6_treeOf_41 (by decide) ?_
        exact g42 x3 (0 : Int32) _ _ _ h hP hD hS hl
      · have h := hh2 hc
        refine lv_iconst (v := 1) hx hb dX6_treeOf_37 (by decide) ?_
        refine lv_goto (tgt := 42) hx hb dX6_treeOf_38 (by decide) ?_
        exact g42 x3 (1 : Int32) _ _ _ h hP hD hS hl
  refine lv_iload_n hx hb dX6_treeOf_0 rfl (lv_at hl 1 rfl) ?_
  refine xcalli (wr := (wS cI aS aT aB aH aM aC aZ zS ++ (wT cI aT zT))) (w2 := fun (u1 : Unit) => (wS cI aS aT aB aH aM aC aZ zS ++ (wT cI aT zT))) (va_runS (As := [.int x1]) (rest := []) ⟨hx, hb, hml, hown, hts⟩ (mX6_isSymbol l D cI cO tA tS x1 _ h) (va_cwS 1 hts gX6_treeOf_X6_isSymbol rfl rfl rfl (by decide +kernel) ⟨Nat.le_of_ble_eq_true rfl, Nat.le_of_ble_eq_true rfl⟩) (xpreP hP hD hS hA hK hE [] rfl rfl) rfl rfl hl.1 rfl (lv_room (Nat.le_of_ble_eq_true rfl)) dX6_treeOf_1 ⟨Nat.le_refl 0, Nat.le_refl 0⟩) hP hD hS hA [] [0, 1, 2, 3, 4] [0, 1, 2, 3, 4] rfl rfl rfl (by decide) rfl (fun _ => rfl) (fun r1 u1 H locs h hP hD hS => ?_)
  obtain ⟨hh1, hh2⟩ := h
  refine lv_if_eq (tgt := 48) hx hb dX6_treeOf_4 (by decide) (fun hc => ?_) (fun hc => ?_)
  · have h := hh1 hc
    exact g48  _ _ _ h hP hD hS hl
  · have h := hh2 hc
    refine lv_iload_n hx hb dX6_treeOf_7 rfl (lv_at hl 2 rfl) ?_
    refine va_gets hx hb hE.2.1 hS hown (hts (.fieldLink RX6 99 "BrotherAutomata" "ARITY" "[I") (List.mem_of_getElem? (i := 1) rfl)) (fun _ h9 => h9) dX6_treeOf_8 ?_
    refine lv_iload_n hx hb dX6_treeOf_11 rfl (lv_at hl 1 rfl) ?_
    obtain ⟨hi, h⟩ := h
    refine va_ti (v := .int (xar x1.toNatClampNeg)) hx hb hE.2.2.1 hS hi rfl dX6_treeOf_12 ?_
    obtain ⟨hh1, hh2⟩ := h
    refine lv_if_le (tgt := 20) hx hb dX6_treeOf_13 (by decide) (fun hc => ?_) (fun hc => ?_)
    · have h := hh1 hc
      refine lv_iconst (v := 0) hx hb dX6_treeOf_20 (by decide) ?_
      exact g21 x2 (0 : Int32) _ _ _ h hP hD hS hl
    · have h := hh2 hc
      refine lv_iconst (v := 1) hx hb dX6_treeOf_16 (by decide) ?_
      refine lv_goto (tgt := 21) hx hb dX6_treeOf_17 (by decide) ?_
      exact g21 x2 (1 : Int32) _ _ _ h hP hD hS hl
set_option maxRecDepth 20000 in
theorem ggX6_symbolOf_X6_isTree : GoodIn wsX6_symbolOf wsX6_isTree := goodIn_r _ [5] (by decide +kernel) (by decide +kernel)
set_option maxRecDepth 20000 in
theorem gX6_symbolOf_X6_isTree : GoodIn wsX6_symbolOf (va_wsS RX6 141 yX6_isTree wsX6_isTree) := goodIn_app (goodIn_of _ (by decide +kernel)) ggX6_symbolOf_X6_isTree
set_option maxRecDepth 20000 in
theorem ggX6_symbolOf_X5_symbolAt : GoodIn wsX6_symbolOf wsX5_symbolAt := goodIn_r _ [10, 11, 22, 23, 24] (by decide +kernel) (by decide +kernel)
set_option maxRecDepth 20000 in
theorem gX6_symbolOf_X5_symbolAt : GoodIn wsX6_symbolOf (wsV RX6 144 RX5 yX5_symbolAt wsX5_symbolAt) := goodIn_app (goodIn_of _ (by decide +kernel)) ggX6_symbolOf_X5_symbolAt
theorem dX6_symbolOf_0 : decode cX6_symbolOf 0 = .ok (.iload_n 1, 1) := by decide +kernel
theorem dX6_symbolOf_1 : decode cX6_symbolOf 1 = .ok (.invokestatic 141, 3) := by decide +kernel
theorem dX6_symbolOf_4 : decode cX6_symbolOf 4 = .ok (.ifCond .ne 5, 3) := by decide +kernel
theorem dX6_symbolOf_7 : decode cX6_symbolOf 7 = .ok (.iconst (-1), 1) := by decide +kernel
theorem dX6_symbolOf_8 : decode cX6_symbolOf 8 = .ok (.ireturn, 1) := by decide +kernel
theorem dX6_symbolOf_9 : decode cX6_symbolOf 9 = .ok (.aload_n 0, 1) := by decide +kernel
theorem dX6_symbolOf_10 : decode cX6_symbolOf 10 = .ok (.getfield 10, 3) := by decide +kernel
theorem dX6_symbolOf_13 : decode cX6_symbolOf 13 = .ok (.iload_n 1, 1) := by decide +kernel
theorem dX6_symbolOf_14 : decode cX6_symbolOf 14 = .ok (.invokevirtual 144, 3) := by decide +kernel
theorem dX6_symbolOf_17 : decode cX6_symbolOf 17 = .ok (.ireturn, 1) := by decide +kernel
theorem jX6_symbolOf_X6 : ∀ w ∈ wsX60, w ∈ wsX6_symbolOf := by decide +kernel
abbrev w_X6_symbolOf (cI cO : ClassId) (aS : Nat → Nat) (aT : Nat → Nat) (aB : Nat → Nat) (aH : Nat → Nat) (aM : Nat → Nat) (aC : Nat → Nat) (aZ : Nat → Nat) (zS : CS) (zT : CS) : (Unit) → va_W := fun u => (wS cI aS aT aB aH aM aC aZ zS ++ (wT cI aT zT))
set_option maxRecDepth 100000 in
set_option maxHeartbeats 8000000 in
theorem mX6_symbolOf (l : Launch) (D : va_G) (cI cO : ClassId) (tA tS : Nat) (aS : Nat → Nat) (aT : Nat → Nat) (aB : Nat → Nat) (aH : Nat → Nat) (aM : Nat → Nat) (aC : Nat → Nat) (aZ : Nat → Nat) (zS : CS) (zT : CS) (x1 : Int32) (sz : Nat) {post : Int32 → (Unit) → Prop} (h : qX6_symbolOf post x1 zS zT) : Met l yX6_symbolOf wsX6_symbolOf ({ frames := 1, cells := 0, slots := 0, locals := 21 } : Room) (xPre D cI cO tA tS [.ref (aS 0), .int x1] (wS cI aS aT aB aH aM aC aZ zS ++ (wT cI aT zT)) sz) (va_Qi post (xB D cI cO (va_A (wS cI aS aT aB aH aM aC aZ zS ++ (wT cI aT zT)) sz) (w_X6_symbolOf cI cO aS aT aB aH aM aC aZ zS zT)) (va_A (wS cI aS aT aB aH aM aC aZ zS ++ (wT cI aT zT)) sz)) 0 0 (va_A (wS cI aS aT aB aH aM aC aZ zS ++ (wT cI aT zT)) sz) := by
  refine xMet D cI cO tA tS (fun A => va_Qi post (xB D cI cO A (w_X6_symbolOf cI cO aS aT aB aH aM aC aZ zS zT)) A) (cc := cX6_symbolOf) (maxL := 2) (ret := (some .int)) (by decide) rfl (Nat.le_of_ble_eq_true rfl) ?_
  intro p e s m below meth c A ls hx hb hr hts hown hlocks hin hml hA hS hP hK hD hE hl
  have hown : s.vm.findClass RX6 = some m.cls := hown
  have hl : lv_has ls 2 [(0, .ref (aS 0)), (1, .int x1)] := hl
  refine lv_iload_n hx hb dX6_symbolOf_0 rfl (lv_at hl 1 rfl) ?_
  refine xcalli (wr := (wS cI aS aT aB aH aM aC aZ zS ++ (wT cI aT zT))) (w2 := fun (u1 : Unit) => (wS cI aS aT aB aH aM aC aZ zS ++ (wT cI aT zT))) (va_runS (As := [.int x1]) (rest := []) ⟨hx, hb, hml, hown, hts⟩ (mX6_isTree l D cI cO tA tS x1 _ h) (va_cwS 1 hts gX6_symbolOf_X6_isTree rfl rfl rfl (by decide +kernel) ⟨Nat.le_of_ble_eq_true rfl, Nat.le_of_ble_eq_true rfl⟩) (xpreP hP hD hS hA hK hE [] rfl rfl) rfl rfl hl.1 rfl (lv_room (Nat.le_of_ble_eq_true rfl)) dX6_symbolOf_1 ⟨Nat.le_refl 0, Nat.le_refl 0⟩) hP hD hS hA [] [0, 1, 2, 3, 4] [0, 1, 2, 3, 4] rfl rfl rfl (by decide) rfl (fun _ => rfl) (fun r1 u1 H locs h hP hD hS => ?_)
  obtain ⟨hh1, hh2⟩ := h
  refine lv_if_ne (tgt := 9) hx hb dX6_symbolOf_4 (by decide) (fun hc => ?_) (fun hc => ?_)
  · have h := hh2 hc
    refine lv_aload_n hx hb dX6_symbolOf_9 rfl (lv_at hl 0 rfl) ?_
    refine va_get (D := D) (ci := 6) (v := .ref (aT 0)) (C := RX6) (T := TX6) (N := 10) hx hb hts jX6_symbolOf_X6 hown hK hP 0 rfl rfl 0 (by decide) (hts (.fieldLink RX6 10 "BrotherAutomata" "trees" "LBrotherAutomata$SmallTrees;") (List.mem_of_getElem? (i := 1) rfl)) (fun _ h9 => h9) rfl dX6_symbolOf_10 ?_
    refine lv_iload_n hx hb dX6_symbolOf_13 rfl (lv_at hl 1 rfl) ?_
    refine xcalli (wr := (wS cI aS aT aB aH aM aC aZ zS)) (w2 := fun (u14 : Unit) => (wS cI aS aT aB aH aM aC aZ zS ++ (wT cI aT zT))) (va_runV (As := [.int x1]) (rest := []) ⟨hx, hb, hml, hown, hts⟩ (mX5_symbolAt l D cI cO tA tS aT zT x1 _ h) (cwV 1 hts gX6_symbolOf_X5_symbolAt rfl rfl rfl (by decide +kernel) ⟨Nat.le_of_ble_eq_true rfl, Nat.le_of_ble_eq_true rfl⟩) (xpreV hP hD hS hA hK hE [2, 3, 4] rfl rfl 5 2 rfl rfl) rfl rfl hl.1 rfl (lv_room (Nat.le_of_ble_eq_true rfl)) dX6_symbolOf_14 ⟨Nat.le_refl 0, Nat.le_refl 0⟩) hP hD hS hA [2, 3, 4] [0, 1] [0, 1, 2, 3, 4] rfl rfl rfl (by decide) rfl (fun _ => rfl) (fun r14 u14 H locs h hP hD hS => ?_)
    exact xiret (w := (w_X6_symbolOf cI cO aS aT aB aH aM aC aZ zS zT)) () hx hb hr hlocks h hP hK hD hS dX6_symbolOf_17
  · have h := hh1 hc
    refine lv_iconst (v := -1) hx hb dX6_symbolOf_7 (by decide) ?_
    exact xiret (w := (w_X6_symbolOf cI cO aS aT aB aH aM aC aZ zS zT)) () hx hb hr hlocks h hP hK hD hS dX6_symbolOf_8
set_option maxRecDepth 20000 in
theorem ggX6_childOf_X6_isTree : GoodIn wsX6_childOf wsX6_isTree := goodIn_r _ [5] (by decide +kernel) (by decide +kernel)
set_option maxRecDepth 20000 in
theorem gX6_childOf_X6_isTree : GoodIn wsX6_childOf (va_wsS RX6 141 yX6_isTree wsX6_isTree) := goodIn_app (goodIn_of _ (by decide +kernel)) ggX6_childOf_X6_isTree
set_option maxRecDepth 20000 in
theorem ggX6_childOf_X5_arityAt : GoodIn wsX6_childOf wsX5_arityAt := goodIn_r _ [10, 11, 12, 13, 9, 14, 15, 34, 35, 36] (by decide +kernel) (by decide +kernel)
set_option maxRecDepth 20000 in
theorem gX6_childOf_X5_arityAt : GoodIn wsX6_childOf (wsV RX6 147 RX5 yX5_arityAt wsX5_arityAt) := goodIn_app (goodIn_of _ (by decide +kernel)) ggX6_childOf_X5_arityAt
set_option maxRecDepth 20000 in
theorem ggX6_childOf_X5_firstAt : GoodIn wsX6_childOf wsX5_firstAt := goodIn_r _ [19, 15, 34, 35, 36] (by decide +kernel) (by decide +kernel)
set_option maxRecDepth 20000 in
theorem gX6_childOf_X5_firstAt : GoodIn wsX6_childOf (wsV RX6 150 RX5 yX5_firstAt wsX5_firstAt) := goodIn_app (goodIn_of _ (by decide +kernel)) ggX6_childOf_X5_firstAt
set_option maxRecDepth 20000 in
theorem ggX6_childOf_X5_secondAt : GoodIn wsX6_childOf wsX5_secondAt := goodIn_r _ [23, 15, 34, 35, 36] (by decide +kernel) (by decide +kernel)
set_option maxRecDepth 20000 in
theorem gX6_childOf_X5_secondAt : GoodIn wsX6_childOf (wsV RX6 153 RX5 yX5_secondAt wsX5_secondAt) := goodIn_app (goodIn_of _ (by decide +kernel)) ggX6_childOf_X5_secondAt
theorem dX6_childOf_0 : decode cX6_childOf 0 = .ok (.iload_n 1, 1) := by decide +kernel
theorem dX6_childOf_1 : decode cX6_childOf 1 = .ok (.invokestatic 141, 3) := by decide +kernel
theorem dX6_childOf_4 : decode cX6_childOf 4 = .ok (.ifCond .eq 12, 3) := by decide +kernel
theorem dX6_childOf_7 : decode cX6_childOf 7 = .ok (.iload_n 2, 1) := by decide +kernel
theorem dX6_childOf_8 : decode cX6_childOf 8 = .ok (.ifCond .lt 8, 3) := by decide +kernel
theorem dX6_childOf_11 : decode cX6_childOf 11 = .ok (.iload_n 2, 1) := by decide +kernel
theorem dX6_childOf_12 : decode cX6_childOf 12 = .ok (.iconst 1, 1) := by decide +kernel
theorem dX6_childOf_13 : decode cX6_childOf 13 = .ok (.if_icmp .le 5, 3) := by decide +kernel
theorem dX6_childOf_16 : decode cX6_childOf 16 = .ok (.iconst (-1), 1) := by decide +kernel
theorem dX6_childOf_17 : decode cX6_childOf 17 = .ok (.ireturn, 1) := by decide +kernel
theorem dX6_childOf_18 : decode cX6_childOf 18 = .ok (.iload_n 2, 1) := by decide +kernel
theorem dX6_childOf_19 : decode cX6_childOf 19 = .ok (.aload_n 0, 1) := by decide +kernel
theorem dX6_childOf_20 : decode cX6_childOf 20 = .ok (.getfield 10, 3) := by decide +kernel
theorem dX6_childOf_23 : decode cX6_childOf 23 = .ok (.iload_n 1, 1) := by decide +kernel
theorem dX6_childOf_24 : decode cX6_childOf 24 = .ok (.invokevirtual 147, 3) := by decide +kernel
theorem dX6_childOf_27 : decode cX6_childOf 27 = .ok (.if_icmp .lt 6, 3) := by decide +kernel
theorem dX6_childOf_30 : decode cX6_childOf 30 = .ok (.bipush (-3), 2) := by decide +kernel
theorem dX6_childOf_32 : decode cX6_childOf 32 = .ok (.ireturn, 1) := by decide +kernel
theorem dX6_childOf_33 : decode cX6_childOf 33 = .ok (.iload_n 2, 1) := by decide +kernel
theorem dX6_childOf_34 : decode cX6_childOf 34 = .ok (.ifCond .ne 14, 3) := by decide +kernel
theorem dX6_childOf_37 : decode cX6_childOf 37 = .ok (.aload_n 0, 1) := by decide +kernel
theorem dX6_childOf_38 : decode cX6_childOf 38 = .ok (.getfield 10, 3) := by decide +kernel
theorem dX6_childOf_41 : decode cX6_childOf 41 = .ok (.iload_n 1, 1) := by decide +kernel
theorem dX6_childOf_42 : decode cX6_childOf 42 = .ok (.invokevirtual 150, 3) := by decide +kernel
theorem dX6_childOf_45 : decode cX6_childOf 45 = .ok (.goto 11, 3) := by decide +kernel
theorem dX6_childOf_48 : decode cX6_childOf 48 = .ok (.aload_n 0, 1) := by decide +kernel
theorem dX6_childOf_49 : decode cX6_childOf 49 = .ok (.getfield 10, 3) := by decide +kernel
theorem dX6_childOf_52 : decode cX6_childOf 52 = .ok (.iload_n 1, 1) := by decide +kernel
theorem dX6_childOf_53 : decode cX6_childOf 53 = .ok (.invokevirtual 153, 3) := by decide +kernel
theorem dX6_childOf_56 : decode cX6_childOf 56 = .ok (.ireturn, 1) := by decide +kernel
theorem jX6_childOf_X6 : ∀ w ∈ wsX60, w ∈ wsX6_childOf := by decide +kernel
abbrev w_X6_childOf (cI cO : ClassId) (aS : Nat → Nat) (aT : Nat → Nat) (aB : Nat → Nat) (aH : Nat → Nat) (aM : Nat → Nat) (aC : Nat → Nat) (aZ : Nat → Nat) (zS : CS) (zT : CS) : (Unit) → va_W := fun u => (wS cI aS aT aB aH aM aC aZ zS ++ (wT cI aT zT))
set_option maxRecDepth 100000 in
set_option maxHeartbeats 8000000 in
theorem mX6_childOf (l : Launch) (D : va_G) (cI cO : ClassId) (tA tS : Nat) (aS : Nat → Nat) (aT : Nat → Nat) (aB : Nat → Nat) (aH : Nat → Nat) (aM : Nat → Nat) (aC : Nat → Nat) (aZ : Nat → Nat) (zS : CS) (zT : CS) (x1 : Int32) (x2 : Int32) (sz : Nat) {post : Int32 → (Unit) → Prop} (h : qX6_childOf post x1 x2 zS zT) : Met l yX6_childOf wsX6_childOf ({ frames := 2, cells := 0, slots := 0, locals := 42 } : Room) (xPre D cI cO tA tS [.ref (aS 0), .int x1, .int x2] (wS cI aS aT aB aH aM aC aZ zS ++ (wT cI aT zT)) sz) (va_Qi post (xB D cI cO (va_A (wS cI aS aT aB aH aM aC aZ zS ++ (wT cI aT zT)) sz) (w_X6_childOf cI cO aS aT aB aH aM aC aZ zS zT)) (va_A (wS cI aS aT aB aH aM aC aZ zS ++ (wT cI aT zT)) sz)) 0 0 (va_A (wS cI aS aT aB aH aM aC aZ zS ++ (wT cI aT zT)) sz) := by
  refine xMet D cI cO tA tS (fun A => va_Qi post (xB D cI cO A (w_X6_childOf cI cO aS aT aB aH aM aC aZ zS zT)) A) (cc := cX6_childOf) (maxL := 3) (ret := (some .int)) (by decide) rfl (Nat.le_of_ble_eq_true rfl) ?_
  intro p e s m below meth c A ls hx hb hr hts hown hlocks hin hml hA hS hP hK hD hE hl
  have hown : s.vm.findClass RX6 = some m.cls := hown
  have hl : lv_has ls 3 [(0, .ref (aS 0)), (1, .int x1), (2, .int x2)] := hl
  have g16 : ∀  (H : Heap) (locs : List Loc) (ls : Array Slot), qX6_childOf_16 post x1 x2 zS zT  → va_P D vwCl (wS cI aS aT aB aH aM aC aZ zS ++ (wT cI aT zT)) H → va_D A (wS cI aS aT aB aH aM aC aZ zS ++ (wT cI aT zT)) → va_S A s.heap H locs → lv_has ls 3 [(0, .ref (aS 0)), (1, .int x1), (2, .int x2)] → W p l e ({ frames := 2, cells := 0, slots := 0, locals := 42 } : Room) s m ([.ref (aS 0), .int x1, .int x2] : List Value).toArray below meth c H locs 0 0 (MQ below (va_Qi post (xB D cI cO A (w_X6_childOf cI cO aS aT aB aH aM aC aZ zS zT)) A) ([.ref (aS 0), .int x1, .int x2] : List Value).toArray s 0 0 A) (F0 m 16 ls []) := by
    intro  H locs ls h hP hD hS hl
    refine lv_iconst (v := -1) hx hb dX6_childOf_16 (by decide) ?_
    exact xiret (w := (w_X6_childOf cI cO aS aT aB aH aM aC aZ zS zT)) () hx hb hr hlocks h hP hK hD hS dX6_childOf_17
  refine lv_iload_n hx hb dX6_childOf_0 rfl (lv_at hl 1 rfl) ?_
  refine xcalli (wr := (wS cI aS aT aB aH aM aC aZ zS ++ (wT cI aT zT))) (w2 := fun (u1 : Unit) => (wS cI aS aT aB aH aM aC aZ zS ++ (wT cI aT zT))) (va_runS (As := [.int x1]) (rest := []) ⟨hx, hb, hml, hown, hts⟩ (mX6_isTree l D cI cO tA tS x1 _ h) (va_cwS 1 hts gX6_childOf_X6_isTree rfl rfl rfl (by decide +kernel) ⟨Nat.le_of_ble_eq_true rfl, Nat.le_of_ble_eq_true rfl⟩) (xpreP hP hD hS hA hK hE [] rfl rfl) rfl rfl hl.1 rfl (lv_room (Nat.le_of_ble_eq_true rfl)) dX6_childOf_1 ⟨Nat.le_refl 0, Nat.le_refl 0⟩) hP hD hS hA [] [0, 1, 2, 3, 4] [0, 1, 2, 3, 4] rfl rfl rfl (by decide) rfl (fun _ => rfl) (fun r1 u1 H locs h hP hD hS => ?_)
  obtain ⟨hh1, hh2⟩ := h
  refine lv_if_eq (tgt := 16) hx hb dX6_childOf_4 (by decide) (fun hc => ?_) (fun hc => ?_)
  · have h := hh1 hc
    exact g16  _ _ _ h hP hD hS hl
  · have h := hh2 hc
    refine lv_iload_n hx hb dX6_childOf_7 rfl (lv_at hl 2 rfl) ?_
    obtain ⟨hh1, hh2⟩ := h
    refine lv_if_lt (tgt := 16) hx hb dX6_childOf_8 (by decide) (fun hc => ?_) (fun hc => ?_)
    · have h := hh1 hc
      exact g16  _ _ _ h hP hD hS hl
    · have h := hh2 hc
      refine lv_iload_n hx hb dX6_childOf_11 rfl (lv_at hl 2 rfl) ?_
      refine lv_iconst (v := 1) hx hb dX6_childOf_12 (by decide) ?_
      obtain ⟨hh1, hh2⟩ := h
      refine lv_icmp_le (tgt := 18) hx hb dX6_childOf_13 (by decide) (fun hc => ?_) (fun hc => ?_)
      · have h := hh1 hc
        refine lv_iload_n hx hb dX6_childOf_18 rfl (lv_at hl 2 rfl) ?_
        refine lv_aload_n hx hb dX6_childOf_19 rfl (lv_at hl 0 rfl) ?_
        refine va_get (D := D) (ci := 6) (v := .ref (aT 0)) (C := RX6) (T := TX6) (N := 10) hx hb hts jX6_childOf_X6 hown hK hP 0 rfl rfl 0 (by decide) (hts (.fieldLink RX6 10 "BrotherAutomata" "trees" "LBrotherAutomata$SmallTrees;") (List.mem_of_getElem? (i := 1) rfl)) (fun _ h9 => h9) rfl dX6_childOf_20 ?_
        refine lv_iload_n hx hb dX6_childOf_23 rfl (lv_at hl 1 rfl) ?_
        refine xcalli (wr := (wS cI aS aT aB aH aM aC aZ zS)) (w2 := fun (u24 : Unit) => (wS cI aS aT aB aH aM aC aZ zS ++ (wT cI aT zT))) (va_runV (As := [.int x1]) (rest := [.int x2]) ⟨hx, hb, hml, hown, hts⟩ (mX5_arityAt l D cI cO tA tS aT zT x1 _ h) (cwV 1 hts gX6_childOf_X5_arityAt rfl rfl rfl (by decide +kernel) ⟨Nat.le_of_ble_eq_true rfl, Nat.le_of_ble_eq_true rfl⟩) (xpreV hP hD hS hA hK hE [2, 3, 4] rfl rfl 5 2 rfl rfl) rfl rfl hl.1 rfl (lv_room (Nat.le_of_ble_eq_true rfl)) dX6_childOf_24 ⟨Nat.le_refl 0, Nat.le_refl 0⟩) hP hD hS hA [2, 3, 4] [0, 1] [0, 1, 2, 3, 4] rfl rfl rfl (by decide) rfl (fun _ => rfl) (fun r24 u24 H locs h hP hD hS => ?_)
        obtain ⟨hh1, hh2⟩ := h
        refine lv_icmp_lt (tgt := 33) hx hb dX6_childOf_27 (by decide) (fun hc => ?_) (fun hc => ?_)
        · have h := hh1 hc
          refine lv_iload_n hx hb dX6_childOf_33 rfl (lv_at hl 2 rfl) ?_
          obtain ⟨hh1, hh2⟩ := h
          refine lv_if_ne (tgt := 48) hx hb dX6_childOf_34 (by decide) (fun hc => ?_) (fun hc => ?_)
          · have h := hh2 hc
            refine lv_aload_n hx hb dX6_childOf_48 rfl (lv_at hl 0 rfl) ?_
            refine va_get (D := D) (ci := 6) (v := .ref (aT 0)) (C := RX6) (T := TX6) (N := 10) hx hb hts jX6_childOf_X6 hown hK hP 0 rfl rfl 0 (by decide) (hts (.fieldLink RX6 10 "BrotherAutomata" "trees" "LBrotherAutomata$SmallTrees;") (List.mem_of_getElem? (i := 1) rfl)) (fun _ h9 => h9) rfl dX6_childOf_49 ?_
            refine lv_iload_n hx hb dX6_childOf_52 rfl (lv_at hl 1 rfl) ?_
            refine xcalli (wr := (wS cI aS aT aB aH aM aC aZ zS)) (w2 := fun (u53 : Unit) => (wS cI aS aT aB aH aM aC aZ zS ++ (wT cI aT zT))) (va_runV (As := [.int x1]) (rest := []) ⟨hx, hb, hml, hown, hts⟩ (mX5_secondAt l D cI cO tA tS aT zT x1 _ h) (cwV 1 hts gX6_childOf_X5_secondAt rfl rfl rfl (by decide +kernel) ⟨Nat.le_of_ble_eq_true rfl, Nat.le_of_ble_eq_true rfl⟩) (xpreV hP hD hS hA hK hE [2, 3, 4] rfl rfl 5 2 rfl rfl) rfl rfl hl.1 rfl (lv_room (Nat.le_of_ble_eq_true rfl)) dX6_childOf_53 ⟨Nat.le_refl 0, Nat.le_refl 0⟩) hP hD hS hA [2, 3, 4] [0, 1] [0, 1, 2, 3, 4] rfl rfl rfl (by decide) rfl (fun _ => rfl) (fun r53 u53 H locs h hP hD hS => ?_)
            exact xiret (w := (w_X6_childOf cI cO aS aT aB aH aM aC aZ zS zT)) () hx hb hr hlocks h hP hK hD hS dX6_childOf_56
          · have h := hh1 hc
            refine lv_aload_n hx hb dX6_childOf_37 rfl (lv_at hl 0 rfl) ?_
            refine va_get (D := D) (ci := 6) (v := .ref (aT 0)) (C := RX6) (T := TX6) (N := 10) hx hb hts jX6_childOf_X6 hown hK hP 0 rfl rfl 0 (by decide) (hts (.fieldLink RX6 10 "BrotherAutomata" "trees" "LBrotherAutomata$SmallTrees;") (List.mem_of_getElem? (i := 1) rfl)) (fun _ h9 => h9) rfl dX6_childOf_38 ?_
            refine lv_iload_n hx hb dX6_childOf_41 rfl (lv_at hl 1 rfl) ?_
            refine xcalli (wr := (wS cI aS aT aB aH aM aC aZ zS)) (w2 := fun (u42 : Unit) => (wS cI aS aT aB aH aM aC aZ zS ++ (wT cI aT zT))) (va_runV (As := [.int x1]) (rest := []) ⟨hx, hb, hml, hown, hts⟩ (mX5_firstAt l D cI cO tA tS aT zT x1 _ h) (cwV 1 hts gX6_childOf_X5_firstAt rfl rfl rfl (by decide +kernel) ⟨Nat.le_of_ble_eq_true rfl, Nat.le_of_ble_eq_true rfl⟩) (xpreV hP hD hS hA hK hE [2, 3, 4] rfl rfl 5 2 rfl rfl) rfl rfl hl.1 rfl (lv_room (Nat.le_of_ble_eq_true rfl)) dX6_childOf_42 ⟨Nat.le_refl 0, Nat.le_refl 0⟩) hP hD hS hA [2, 3, 4] [0, 1] [0, 1, 2, 3, 4] rfl rfl rfl (by decide) rfl (fun _ => rfl) (fun r42 u42 H locs h hP hD hS => ?_)
            refine lv_goto (tgt := 56) hx hb dX6_childOf_45 (by decide) ?_
            exact xiret (w := (w_X6_childOf cI cO aS aT aB aH aM aC aZ zS zT)) () hx hb hr hlocks h hP hK hD hS dX6_childOf_56
        · have h := hh2 hc
          refine lv_bipush (v := -3) hx hb dX6_childOf_30 (by decide) ?_
          exact xiret (w := (w_X6_childOf cI cO aS aT aB aH aM aC aZ zS zT)) () hx hb hr hlocks h hP hK hD hS dX6_childOf_32
      · have h := hh2 hc
        exact g16  _ _ _ h hP hD hS hl
set_option maxRecDepth 20000 in
theorem ggX6_sizeOf_X6_isTree : GoodIn wsX6_sizeOf wsX6_isTree := goodIn_r _ [4] (by decide +kernel) (by decide +kernel)
set_option maxRecDepth 20000 in
theorem gX6_sizeOf_X6_isTree : GoodIn wsX6_sizeOf (va_wsS RX6 141 yX6_isTree wsX6_isTree) := goodIn_app (goodIn_of _ (by decide +kernel)) ggX6_sizeOf_X6_isTree
set_option maxRecDepth 20000 in
theorem ggX6_sizeOf_X6_sizeAt : GoodIn wsX6_sizeOf wsX6_sizeAt := goodIn_r _ [7, 8] (by decide +kernel) (by decide +kernel)
set_option maxRecDepth 20000 in
theorem gX6_sizeOf_X6_sizeAt : GoodIn wsX6_sizeOf (va_wsS RX6 156 yX6_sizeAt wsX6_sizeAt) := goodIn_app (goodIn_of _ (by decide +kernel)) ggX6_sizeOf_X6_sizeAt
theorem dX6_sizeOf_0 : decode cX6_sizeOf 0 = .ok (.iload_n 1, 1) := by decide +kernel
theorem dX6_sizeOf_1 : decode cX6_sizeOf 1 = .ok (.invokestatic 141, 3) := by decide +kernel
theorem dX6_sizeOf_4 : decode cX6_sizeOf 4 = .ok (.ifCond .ne 5, 3) := by decide +kernel
theorem dX6_sizeOf_7 : decode cX6_sizeOf 7 = .ok (.iconst (-1), 1) := by decide +kernel
theorem dX6_sizeOf_8 : decode cX6_sizeOf 8 = .ok (.ireturn, 1) := by decide +kernel
theorem dX6_sizeOf_9 : decode cX6_sizeOf 9 = .ok (.iload_n 1, 1) := by decide +kernel
theorem dX6_sizeOf_10 : decode cX6_sizeOf 10 = .ok (.invokestatic 156, 3) := by decide +kernel
theorem dX6_sizeOf_13 : decode cX6_sizeOf 13 = .ok (.ireturn, 1) := by decide +kernel
abbrev w_X6_sizeOf (cI cO : ClassId) (aS : Nat → Nat) (aT : Nat → Nat) (aB : Nat → Nat) (aH : Nat → Nat) (aM : Nat → Nat) (aC : Nat → Nat) (aZ : Nat → Nat) (zS : CS) : (Unit) → va_W := fun u => (wS cI aS aT aB aH aM aC aZ zS)
set_option maxRecDepth 100000 in
set_option maxHeartbeats 8000000 in
theorem mX6_sizeOf (l : Launch) (D : va_G) (cI cO : ClassId) (tA tS : Nat) (aS : Nat → Nat) (aT : Nat → Nat) (aB : Nat → Nat) (aH : Nat → Nat) (aM : Nat → Nat) (aC : Nat → Nat) (aZ : Nat → Nat) (zS : CS) (x1 : Int32) (sz : Nat) {post : Int32 → (Unit) → Prop} (h : qX6_sizeOf post x1 zS) : Met l yX6_sizeOf wsX6_sizeOf ({ frames := 1, cells := 0, slots := 0, locals := 21 } : Room) (xPre D cI cO tA tS [.ref (aS 0), .int x1] (wS cI aS aT aB aH aM aC aZ zS) sz) (va_Qi post (xB D cI cO (va_A (wS cI aS aT aB aH aM aC aZ zS) sz) (w_X6_sizeOf cI cO aS aT aB aH aM aC aZ zS)) (va_A (wS cI aS aT aB aH aM aC aZ zS) sz)) 0 0 (va_A (wS cI aS aT aB aH aM aC aZ zS) sz) := by
  refine xMet D cI cO tA tS (fun A => va_Qi post (xB D cI cO A (w_X6_sizeOf cI cO aS aT aB aH aM aC aZ zS)) A) (cc := cX6_sizeOf) (maxL := 2) (ret := (some .int)) (by decide) rfl (Nat.le_of_ble_eq_true rfl) ?_
  intro p e s m below meth c A ls hx hb hr hts hown hlocks hin hml hA hS hP hK hD hE hl
  have hown : s.vm.findClass RX6 = some m.cls := hown
  have hl : lv_has ls 2 [(0, .ref (aS 0)), (1, .int x1)] := hl
  refine lv_iload_n hx hb dX6_sizeOf_0 rfl (lv_at hl 1 rfl) ?_
  refine xcalli (wr := (wS cI aS aT aB aH aM aC aZ zS)) (w2 := fun (u1 : Unit) => (wS cI aS aT aB aH aM aC aZ zS)) (va_runS (As := [.int x1]) (rest := []) ⟨hx, hb, hml, hown, hts⟩ (mX6_isTree l D cI cO tA tS x1 _ h) (va_cwS 1 hts gX6_sizeOf_X6_isTree rfl rfl rfl (by decide +kernel) ⟨Nat.le_of_ble_eq_true rfl, Nat.le_of_ble_eq_true rfl⟩) (xpreP hP hD hS hA hK hE [] rfl rfl) rfl rfl hl.1 rfl (lv_room (Nat.le_of_ble_eq_true rfl)) dX6_sizeOf_1 ⟨Nat.le_refl 0, Nat.le_refl 0⟩) hP hD hS hA [] [0, 1] [0, 1] rfl rfl rfl (by decide) rfl (fun _ => rfl) (fun r1 u1 H locs h hP hD hS => ?_)
  obtain ⟨hh1, hh2⟩ := h
  refine lv_if_ne (tgt := 9) hx hb dX6_sizeOf_4 (by decide) (fun hc => ?_) (fun hc => ?_)
  · have h := hh2 hc
    refine lv_iload_n hx hb dX6_sizeOf_9 rfl (lv_at hl 1 rfl) ?_
    refine xcalli (wr := (wS cI aS aT aB aH aM aC aZ zS)) (w2 := fun (u10 : Unit) => (wS cI aS aT aB aH aM aC aZ zS)) (va_runS (As := [.int x1]) (rest := []) ⟨hx, hb, hml, hown, hts⟩ (mX6_sizeAt l D cI cO tA tS x1 _ h) (va_cwS 1 hts gX6_sizeOf_X6_sizeAt rfl rfl rfl (by decide +kernel) ⟨Nat.le_of_ble_eq_true rfl, Nat.le_of_ble_eq_true rfl⟩) (xpreP hP hD hS hA hK hE [] rfl rfl) rfl rfl hl.1 rfl (lv_room (Nat.le_of_ble_eq_true rfl)) dX6_sizeOf_10 ⟨Nat.le_refl 0, Nat.le_refl 0⟩) hP hD hS hA [] [0, 1] [0, 1] rfl rfl rfl (by decide) rfl (fun _ => rfl) (fun r10 u10 H locs h hP hD hS => ?_)
    exact xiret (w := (w_X6_sizeOf cI cO aS aT aB aH aM aC aZ zS)) () hx hb hr hlocks h hP hK hD hS dX6_sizeOf_13
  · have h := hh1 hc
    refine lv_iconst (v := -1) hx hb dX6_sizeOf_7 (by decide) ?_
    exact xiret (w := (w_X6_sizeOf cI cO aS aT aB aH aM aC aZ zS)) () hx hb hr hlocks h hP hK hD hS dX6_sizeOf_8
set_option maxRecDepth 20000 in
theorem ggX6_heightOf_X6_isTree : GoodIn wsX6_heightOf wsX6_isTree := goodIn_r _ [5] (by decide +kernel) (by decide +kernel)
set_option maxRecDepth 20000 in
theorem gX6_heightOf_X6_isTree : GoodIn wsX6_heightOf (va_wsS RX6 141 yX6_isTree wsX6_isTree) := goodIn_app (goodIn_of _ (by decide +kernel)) ggX6_heightOf_X6_isTree
theorem dX6_heightOf_0 : decode cX6_heightOf 0 = .ok (.iload_n 1, 1) := by decide +kernel
theorem dX6_heightOf_1 : decode cX6_heightOf 1 = .ok (.invokestatic 141, 3) := by decide +kernel
theorem dX6_heightOf_4 : decode cX6_heightOf 4 = .ok (.ifCond .ne 5, 3) := by decide +kernel
theorem dX6_heightOf_7 : decode cX6_heightOf 7 = .ok (.iconst (-1), 1) := by decide +kernel
theorem dX6_heightOf_8 : decode cX6_heightOf 8 = .ok (.ireturn, 1) := by decide +kernel
theorem dX6_heightOf_9 : decode cX6_heightOf 9 = .ok (.aload_n 0, 1) := by decide +kernel
theorem dX6_heightOf_10 : decode cX6_heightOf 10 = .ok (.getfield 10, 3) := by decide +kernel
theorem dX6_heightOf_13 : decode cX6_heightOf 13 = .ok (.getfield 159, 3) := by decide +kernel
theorem dX6_heightOf_16 : decode cX6_heightOf 16 = .ok (.iload_n 1, 1) := by decide +kernel
theorem dX6_heightOf_17 : decode cX6_heightOf 17 = .ok (.iaload, 1) := by decide +kernel
theorem dX6_heightOf_18 : decode cX6_heightOf 18 = .ok (.ireturn, 1) := by decide +kernel
theorem jX6_heightOf_X6 : ∀ w ∈ wsX60, w ∈ wsX6_heightOf := by decide +kernel
theorem jX6_heightOf_X5 : ∀ w ∈ wsX50, w ∈ wsX6_heightOf := by decide +kernel
abbrev w_X6_heightOf (cI cO : ClassId) (aS : Nat → Nat) (aT : Nat → Nat) (aB : Nat → Nat) (aH : Nat → Nat) (aM : Nat → Nat) (aC : Nat → Nat) (aZ : Nat → Nat) (zS : CS) (zT : CS) : (Unit) → va_W := fun u => (wS cI aS aT aB aH aM aC aZ zS ++ (wT cI aT zT))
set_option maxRecDepth 100000 in
set_option maxHeartbeats 8000000 in
theorem mX6_heightOf (l : Launch) (D : va_G) (cI cO : ClassId) (tA tS : Nat) (aS : Nat → Nat) (aT : Nat → Nat) (aB : Nat → Nat) (aH : Nat → Nat) (aM : Nat → Nat) (aC : Nat → Nat) (aZ : Nat → Nat) (zS : CS) (zT : CS) (x1 : Int32) (sz : Nat) {post : Int32 → (Unit) → Prop} (h : qX6_heightOf post x1 zS zT) : Met l yX6_heightOf wsX6_heightOf ({ frames := 1, cells := 0, slots := 0, locals := 20 } : Room) (xPre D cI cO tA tS [.ref (aS 0), .int x1] (wS cI aS aT aB aH aM aC aZ zS ++ (wT cI aT zT)) sz) (va_Qi post (xB D cI cO (va_A (wS cI aS aT aB aH aM aC aZ zS ++ (wT cI aT zT)) sz) (w_X6_heightOf cI cO aS aT aB aH aM aC aZ zS zT)) (va_A (wS cI aS aT aB aH aM aC aZ zS ++ (wT cI aT zT)) sz)) 0 0 (va_A (wS cI aS aT aB aH aM aC aZ zS ++ (wT cI aT zT)) sz) := by
  refine xMet D cI cO tA tS (fun A => va_Qi post (xB D cI cO A (w_X6_heightOf cI cO aS aT aB aH aM aC aZ zS zT)) A) (cc := cX6_heightOf) (maxL := 2) (ret := (some .int)) (by decide) rfl (Nat.le_of_ble_eq_true rfl) ?_
  intro p e s m below meth c A ls hx hb hr hts hown hlocks hin hml hA hS hP hK hD hE hl
  have hown : s.vm.findClass RX6 = some m.cls := hown
  have hl : lv_has ls 2 [(0, .ref (aS 0)), (1, .int x1)] := hl
  refine lv_iload_n hx hb dX6_heightOf_0 rfl (lv_at hl 1 rfl) ?_
  refine xcalli (wr := (wS cI aS aT aB aH aM aC aZ zS ++ (wT cI aT zT))) (w2 := fun (u1 : Unit) => (wS cI aS aT aB aH aM aC aZ zS ++ (wT cI aT zT))) (va_runS (As := [.int x1]) (rest := []) ⟨hx, hb, hml, hown, hts⟩ (mX6_isTree l D cI cO tA tS x1 _ h) (va_cwS 1 hts gX6_heightOf_X6_isTree rfl rfl rfl (by decide +kernel) ⟨Nat.le_of_ble_eq_true rfl, Nat.le_of_ble_eq_true rfl⟩) (xpreP hP hD hS hA hK hE [] rfl rfl) rfl rfl hl.1 rfl (lv_room (Nat.le_of_ble_eq_true rfl)) dX6_heightOf_1 ⟨Nat.le_refl 0, Nat.le_refl 0⟩) hP hD hS hA [] [0, 1, 2, 3, 4] [0, 1, 2, 3, 4] rfl rfl rfl (by decide) rfl (fun _ => rfl) (fun r1 u1 H locs h hP hD hS => ?_)
  obtain ⟨hh1, hh2⟩ := h
  refine lv_if_ne (tgt := 9) hx hb dX6_heightOf_4 (by decide) (fun hc => ?_) (fun hc => ?_)
  · have h := hh2 hc
    refine lv_aload_n hx hb dX6_heightOf_9 rfl (lv_at hl 0 rfl) ?_
    refine va_get (D := D) (ci := 6) (v := .ref (aT 0)) (C := RX6) (T := TX6) (N := 10) hx hb hts jX6_heightOf_X6 hown hK hP 0 rfl rfl 0 (by decide) (hts (.fieldLink RX6 10 "BrotherAutomata" "trees" "LBrotherAutomata$SmallTrees;") (List.mem_of_getElem? (i := 1) rfl)) (fun _ h9 => h9) rfl dX6_heightOf_10 ?_
    refine va_getN (D := D) (ci := 5) (v := .ref (aT 2)) (C := RX5) (T := TX5) (N := 3) hx hb hts jX6_heightOf_X5 hown hK hP 2 rfl rfl 1 (by decide) (va_Nw.use (w := .fieldLinkNest RX6 159 "BrotherAutomata$SmallTrees" "heights" "[I" "BrotherAutomata") rfl (hE.1 _ (List.mem_of_getElem? (i := 22) rfl))) (fun _ h9 => h9) rfl dX6_heightOf_13 ?_
    refine lv_iload_n hx hb dX6_heightOf_16 rfl (lv_at hl 1 rfl) ?_
    obtain ⟨hi, h⟩ := h
    refine va_iald hx hb hK hP 4 0 rfl rfl hi dX6_heightOf_17 ?_
    exact xiret (w := (w_X6_heightOf cI cO aS aT aB aH aM aC aZ zS zT)) () hx hb hr hlocks h hP hK hD hS dX6_heightOf_18
  · have h := hh1 hc
    refine lv_iconst (v := -1) hx hb dX6_heightOf_7 (by decide) ?_
    exact xiret (w := (w_X6_heightOf cI cO aS aT aB aH aM aC aZ zS zT)) () hx hb hr hlocks h hP hK hD hS dX6_heightOf_8
set_option maxRecDepth 20000 in
theorem ggX6_subsetAt_X5_firstAt : GoodIn wsX6_subsetAt wsX5_firstAt := goodIn_r _ [9, 10, 40, 41, 42] (by decide +kernel) (by decide +kernel)
set_option maxRecDepth 20000 in
theorem gX6_subsetAt_X5_firstAt : GoodIn wsX6_subsetAt (wsV RX6 150 RX5 yX5_firstAt wsX5_firstAt) := goodIn_app (goodIn_of _ (by decide +kernel)) ggX6_subsetAt_X5_firstAt
set_option maxRecDepth 20000 in
theorem ggX6_subsetAt_X5_secondAt : GoodIn wsX6_subsetAt wsX5_secondAt := goodIn_r _ [14, 10, 40, 41, 42] (by decide +kernel) (by decide +kernel)
set_option maxRecDepth 20000 in
theorem gX6_subsetAt_X5_secondAt : GoodIn wsX6_subsetAt (wsV RX6 153 RX5 yX5_secondAt wsX5_secondAt) := goodIn_app (goodIn_of _ (by decide +kernel)) ggX6_subsetAt_X5_secondAt
set_option maxRecDepth 20000 in
theorem ggX6_subsetAt_X5_symbolAt : GoodIn wsX6_subsetAt wsX5_symbolAt := goodIn_r _ [18, 10, 40, 41, 42] (by decide +kernel) (by decide +kernel)
set_option maxRecDepth 20000 in
theorem gX6_subsetAt_X5_symbolAt : GoodIn wsX6_subsetAt (wsV RX6 144 RX5 yX5_symbolAt wsX5_symbolAt) := goodIn_app (goodIn_of _ (by decide +kernel)) ggX6_subsetAt_X5_symbolAt
set_option maxRecDepth 20000 in
theorem ggX6_subsetAt_X3_step : GoodIn wsX6_subsetAt wsX3_step := goodIn_r _ [23, 24, 25, 26, 27, 28, 29, 43, 44, 45, 46, 47, 48] (by decide +kernel) (by decide +kernel)
set_option maxRecDepth 20000 in
theorem gX6_subsetAt_X3_step : GoodIn wsX6_subsetAt (wsV RX6 201 RX3 yX3_step wsX3_step) := goodIn_app (goodIn_of _ (by decide +kernel)) ggX6_subsetAt_X3_step
theorem dX6_subsetAt_0 : decode cX6_subsetAt 0 = .ok (.aload_n 0, 1) := by decide +kernel
theorem dX6_subsetAt_1 : decode cX6_subsetAt 1 = .ok (.getfield 55, 3) := by decide +kernel
theorem dX6_subsetAt_4 : decode cX6_subsetAt 4 = .ok (.iload_n 1, 1) := by decide +kernel
theorem dX6_subsetAt_5 : decode cX6_subsetAt 5 = .ok (.if_icmp .gt 89, 3) := by decide +kernel
theorem dX6_subsetAt_8 : decode cX6_subsetAt 8 = .ok (.aload_n 0, 1) := by decide +kernel
theorem dX6_subsetAt_9 : decode cX6_subsetAt 9 = .ok (.getfield 10, 3) := by decide +kernel
theorem dX6_subsetAt_12 : decode cX6_subsetAt 12 = .ok (.aload_n 0, 1) := by decide +kernel
theorem dX6_subsetAt_13 : decode cX6_subsetAt 13 = .ok (.getfield 55, 3) := by decide +kernel
theorem dX6_subsetAt_16 : decode cX6_subsetAt 16 = .ok (.invokevirtual 150, 3) := by decide +kernel
theorem dX6_subsetAt_19 : decode cX6_subsetAt 19 = .ok (.istore_n 2, 1) := by decide +kernel
theorem dX6_subsetAt_20 : decode cX6_subsetAt 20 = .ok (.aload_n 0, 1) := by decide +kernel
theorem dX6_subsetAt_21 : decode cX6_subsetAt 21 = .ok (.getfield 10, 3) := by decide +kernel
theorem dX6_subsetAt_24 : decode cX6_subsetAt 24 = .ok (.aload_n 0, 1) := by decide +kernel
theorem dX6_subsetAt_25 : decode cX6_subsetAt 25 = .ok (.getfield 55, 3) := by decide +kernel
theorem dX6_subsetAt_28 : decode cX6_subsetAt 28 = .ok (.invokevirtual 153, 3) := by decide +kernel
theorem dX6_subsetAt_31 : decode cX6_subsetAt 31 = .ok (.istore_n 3, 1) := by decide +kernel
theorem dX6_subsetAt_32 : decode cX6_subsetAt 32 = .ok (.aload_n 0, 1) := by decide +kernel
theorem dX6_subsetAt_33 : decode cX6_subsetAt 33 = .ok (.getfield 51, 3) := by decide +kernel
theorem dX6_subsetAt_36 : decode cX6_subsetAt 36 = .ok (.aload_n 0, 1) := by decide +kernel
theorem dX6_subsetAt_37 : decode cX6_subsetAt 37 = .ok (.getfield 55, 3) := by decide +kernel
theorem dX6_subsetAt_40 : decode cX6_subsetAt 40 = .ok (.aload_n 0, 1) := by decide +kernel
theorem dX6_subsetAt_41 : decode cX6_subsetAt 41 = .ok (.getfield 33, 3) := by decide +kernel
theorem dX6_subsetAt_44 : decode cX6_subsetAt 44 = .ok (.aload_n 0, 1) := by decide +kernel
theorem dX6_subsetAt_45 : decode cX6_subsetAt 45 = .ok (.getfield 10, 3) := by decide +kernel
theorem dX6_subsetAt_48 : decode cX6_subsetAt 48 = .ok (.aload_n 0, 1) := by decide +kernel
theorem dX6_subsetAt_49 : decode cX6_subsetAt 49 = .ok (.getfield 55, 3) := by decide +kernel
theorem dX6_subsetAt_52 : decode cX6_subsetAt 52 = .ok (.invokevirtual 144, 3) := by decide +kernel
theorem dX6_subsetAt_55 : decode cX6_subsetAt 55 = .ok (.aload_n 0, 1) := by decide +kernel
theorem dX6_subsetAt_56 : decode cX6_subsetAt 56 = .ok (.getfield 51, 3) := by decide +kernel
theorem dX6_subsetAt_59 : decode cX6_subsetAt 59 = .ok (.iload_n 2, 1) := by decide +kernel
theorem dX6_subsetAt_60 : decode cX6_subsetAt 60 = .ok (.iaload, 1) := by decide +kernel
theorem dX6_subsetAt_61 : decode cX6_subsetAt 61 = .ok (.aload_n 0, 1) := by decide +kernel
theorem dX6_subsetAt_62 : decode cX6_subsetAt 62 = .ok (.getfield 51, 3) := by decide +kernel
theorem dX6_subsetAt_65 : decode cX6_subsetAt 65 = .ok (.iload_n 3, 1) := by decide +kernel
theorem dX6_subsetAt_66 : decode cX6_subsetAt 66 = .ok (.iaload, 1) := by decide +kernel
theorem dX6_subsetAt_67 : decode cX6_subsetAt 67 = .ok (.iload_n 2, 1) := by decide +kernel
theorem dX6_subsetAt_68 : decode cX6_subsetAt 68 = .ok (.iload_n 3, 1) := by decide +kernel
theorem dX6_subsetAt_69 : decode cX6_subsetAt 69 = .ok (.if_icmp .ne 7, 3) := by decide +kernel
theorem dX6_subsetAt_72 : decode cX6_subsetAt 72 = .ok (.iconst 1, 1) := by decide +kernel
theorem dX6_subsetAt_73 : decode cX6_subsetAt 73 = .ok (.goto 4, 3) := by decide +kernel
theorem dX6_subsetAt_76 : decode cX6_subsetAt 76 = .ok (.iconst 0, 1) := by decide +kernel
theorem dX6_subsetAt_77 : decode cX6_subsetAt 77 = .ok (.invokevirtual 201, 3) := by decide +kernel
theorem dX6_subsetAt_80 : decode cX6_subsetAt 80 = .ok (.iastore, 1) := by decide +kernel
theorem dX6_subsetAt_81 : decode cX6_subsetAt 81 = .ok (.aload_n 0, 1) := by decide +kernel
theorem dX6_subsetAt_82 : decode cX6_subsetAt 82 = .ok (.dup, 1) := by decide +kernel
theorem dX6_subsetAt_83 : decode cX6_subsetAt 83 = .ok (.getfield 55, 3) := by decide +kernel
theorem dX6_subsetAt_86 : decode cX6_subsetAt 86 = .ok (.iconst 1, 1) := by decide +kernel
theorem dX6_subsetAt_87 : decode cX6_subsetAt 87 = .ok (.iadd, 1) := by decide +kernel
theorem dX6_subsetAt_88 : decode cX6_subsetAt 88 = .ok (.putfield 55, 3) := by decide +kernel
theorem dX6_subsetAt_91 : decode cX6_subsetAt 91 = .ok (.goto (-91), 3) := by decide +kernel
theorem dX6_subsetAt_94 : decode cX6_subsetAt 94 = .ok (.aload_n 0, 1) := by decide +kernel
theorem dX6_subsetAt_95 : decode cX6_subsetAt 95 = .ok (.getfield 51, 3) := by decide +kernel
theorem dX6_subsetAt_98 : decode cX6_subsetAt 98 = .ok (.iload_n 1, 1) := by decide +kernel
theorem dX6_subsetAt_99 : decode cX6_subsetAt 99 = .ok (.iaload, 1) := by decide +kernel
theorem dX6_subsetAt_100 : decode cX6_subsetAt 100 = .ok (.ireturn, 1) := by decide +kernel
theorem jX6_subsetAt_X6 : ∀ w ∈ wsX60, w ∈ wsX6_subsetAt := by decide +kernel
abbrev w_X6_subsetAt (cI cO : ClassId) (aS : Nat → Nat) (aT : Nat → Nat) (aB : Nat → Nat) (aH : Nat → Nat) (aM : Nat → Nat) (aC : Nat → Nat) (aZ : Nat → Nat) (zT : CS) (zM : CS) : ((CS)) → va_W := fun u => (wS cI aS aT aB aH aM aC aZ u ++ (wT cI aT zT ++ (wM cI aM zM)))
set_option maxRecDepth 100000 in
set_option maxHeartbeats 8000000 in
theorem mX6_subsetAt (l : Launch) (D : va_G) (cI cO : ClassId) (tA tS : Nat) (aS : Nat → Nat) (aT : Nat → Nat) (aB : Nat → Nat) (aH : Nat → Nat) (aM : Nat → Nat) (aC : Nat → Nat) (aZ : Nat → Nat) (zS : CS) (zT : CS) (zM : CS) (x1 : Int32) (sz : Nat) {post : Int32 → ((CS)) → Prop} (h : qX6_subsetAt post x1 zS zT zM) : Met l yX6_subsetAt wsX6_subsetAt ({ frames := 1, cells := 0, slots := 0, locals := 27 } : Room) (xPre D cI cO tA tS [.ref (aS 0), .int x1] (wS cI aS aT aB aH aM aC aZ zS ++ (wT cI aT zT ++ (wM cI aM zM))) sz) (va_Qi post (xB D cI cO (va_A (wS cI aS aT aB aH aM aC aZ zS ++ (wT cI aT zT ++ (wM cI aM zM))) sz) (w_X6_subsetAt cI cO aS aT aB aH aM aC aZ zT zM)) (va_A (wS cI aS aT aB aH aM aC aZ zS ++ (wT cI aT zT ++ (wM cI aM zM))) sz)) 0 0 (va_A (wS cI aS aT aB aH aM aC aZ zS ++ (wT cI aT zT ++ (wM cI aM zM))) sz) := by
  refine xMet D cI cO tA tS (fun A => va_Qi post (xB D cI cO A (w_X6_subsetAt cI cO aS aT aB aH aM aC aZ zT zM)) A) (cc := cX6_subsetAt) (maxL := 4) (ret := (some .int)) (by decide) rfl (Nat.le_of_ble_eq_true rfl) ?_
  intro p e s m below meth c A ls hx hb hr hts hown hlocks hin hml hA hS hP hK hD hE hl
  have hown : s.vm.findClass RX6 = some m.cls := hown
  have hl : lv_has ls 4 [(0, .ref (aS 0)), (1, .int x1)] := hl
  have g77 : ∀ (k0 : (CS) → Prop), (∀ (zS : CS) (H : Heap) (locs : List Loc) (ls : Array Slot), k0 zS → va_P D vwCl (wS cI aS aT aB aH aM aC aZ zS ++ (wT cI aT zT ++ (wM cI aM zM))) H → va_D A (wS cI aS aT aB aH aM aC aZ zS ++ (wT cI aT zT ++ (wM cI aM zM))) → va_S A s.heap H locs → lv_has ls 4 [(0, .ref (aS 0)), (1, .int x1)] → W p l e ({ frames := 1, cells := 0, slots := 0, locals := 27 } : Room) s m ([.ref (aS 0), .int x1] : List Value).toArray below meth c H locs 0 0 (MQ below (va_Qi post (xB D cI cO A (w_X6_subsetAt cI cO aS aT aB aH aM aC aZ zT zM)) A) ([.ref (aS 0), .int x1] : List Value).toArray s 0 0 A) (F0 m 0 ls [])) → ∀ (y2 : Int32) (y3 : Int32) (w1 : Int32) (w3 : Int32) (w4 : Int32) (w5 : Int32) (w6 : Int32) (zS : CS) (H : Heap) (locs : List Loc) (ls : Array Slot), qX6_subsetAt_77 post x1 zT zM k0 y2 y3 w1 w3 w4 w5 w6 zS → va_P D vwCl (wS cI aS aT aB aH aM aC aZ zS ++ (wT cI aT zT ++ (wM cI aM zM))) H → va_D A (wS cI aS aT aB aH aM aC aZ zS ++ (wT cI aT zT ++ (wM cI aM zM))) → va_S A s.heap H locs → lv_has ls 4 [(3, .int y3), (2, .int y2), (0, .ref (aS 0)), (1, .int x1)] → W p l e ({ frames := 1, cells := 0, slots := 0, locals := 27 } : Room) s m ([.ref (aS 0), .int x1] : List Value).toArray below meth c H locs 0 0 (MQ below (va_Qi post (xB D cI cO A (w_X6_subsetAt cI cO aS aT aB aH aM aC aZ zT zM)) A) ([.ref (aS 0), .int x1] : List Value).toArray s 0 0 A) (F0 m 77 ls [.int w6, .int w5, .int w4, .int w3, .ref (aM 0), .int w1, .ref (aS 1)]) := by
    intro k0 hk0 y2 y3 w1 w3 w4 w5 w6 zS H locs ls h hP hD hS hl
    refine xcalli (wr := (wS cI aS aT aB aH aM aC aZ zS ++ (wT cI aT zT))) (w2 := fun (u77 : Unit) => (wS cI aS aT aB aH aM aC aZ zS ++ (wT cI aT zT ++ (wM cI aM zM)))) (va_runV (As := [.int w3, .int w4, .int w5, .int w6]) (rest := [.int w1, .ref (aS 1)]) ⟨hx, hb, hml, hown, hts⟩ (mX3_step l D cI cO tA tS aM zM w3 w4 w5 w6 _ h) (cwV 4 hts gX6_subsetAt_X3_step rfl rfl rfl (by decide +kernel) ⟨Nat.le_of_ble_eq_true rfl, Nat.le_of_ble_eq_true rfl⟩) (xpreV hP hD hS hA hK hE [5, 6, 7, 8, 9] rfl rfl 3 5 rfl rfl) rfl rfl hl.1 rfl (lv_room (Nat.le_of_ble_eq_true rfl)) dX6_subsetAt_77 ⟨Nat.le_refl 0, Nat.le_refl 0⟩) hP hD hS hA [5, 6, 7, 8, 9] [0, 1, 2, 3, 4] [0, 1, 2, 3, 4, 5, 6, 7, 8, 9] rfl rfl rfl (by decide) rfl (fun _ => rfl) (fun r77 u77 H locs h hP hD hS => ?_)
    obtain ⟨hi, h⟩ := h
    refine va_iast hx hb hK hP hD hS 1 0 rfl rfl hi dX6_subsetAt_80 (fun H locs hP hD hS => ?_)
    have hP : va_P D vwCl (wS cI aS aT aB aH aM aC aZ (st zS 0 w1.toNatClampNeg r77) ++ (wT cI aT zT ++ (wM cI aM zM))) H := hP
    have hD : va_D A (wS cI aS aT aB aH aM aC aZ (st zS 0 w1.toNatClampNeg r77) ++ (wT cI aT zT ++ (wM cI aM zM))) := hD
    refine lv_aload_n hx hb dX6_subsetAt_81 rfl (lv_at hl 2 rfl) ?_
    refine lv_dup hx hb dX6_subsetAt_82 rfl ?_
    refine va_get (D := D) (ci := 6) (v := .int ((st zS 0 w1.toNatClampNeg r77) 1 0)) (C := RX6) (T := TX6) (N := 10) hx hb hts jX6_subsetAt_X6 hown hK hP 0 rfl rfl 7 (by decide) (hts (.fieldLink RX6 55 "BrotherAutomata" "subsetsKnown" "I") (List.mem_of_getElem? (i := 1) rfl)) (fun _ h9 => h9) rfl dX6_subsetAt_83 ?_
    refine lv_iconst (v := 1) hx hb dX6_subsetAt_86 (by decide) ?_
    refine lv_iadd hx hb dX6_subsetAt_87 ?_
    refine va_put (D := D) (ci := 6) (v := .int (((st zS 0 w1.toNatClampNeg r77) 1 0) + (1 : Int32))) (ty := .int) (C := RX6) (T := TX6) (N := 10) hx hb hts jX6_subsetAt_X6 tyX6 tyX6_ok nmX6 hown hK hP hD hS 0 rfl rfl 7 (by decide) (hts (.fieldLink RX6 55 "BrotherAutomata" "subsetsKnown" "I") (List.mem_of_getElem? (i := 1) rfl)) (fun _ h9 => h9) rfl (by decide +kernel) rfl rfl (Nat.le_of_ble_eq_true rfl) dX6_subsetAt_88 (fun H locs hP hD hS => ?_)
    have hP : va_P D vwCl (wS cI aS aT aB aH aM aC aZ (st (st zS 0 w1.toNatClampNeg r77) 1 0 (((st zS 0 w1.toNatClampNeg r77) 1 0) + (1 : Int32))) ++ (wT cI aT zT ++ (wM cI aM zM))) H := hP
    have hD : va_D A (wS cI aS aT aB aH aM aC aZ (st (st zS 0 w1.toNatClampNeg r77) 1 0 (((st zS 0 w1.toNatClampNeg r77) 1 0) + (1 : Int32))) ++ (wT cI aT zT ++ (wM cI aM zM))) := hD
    refine lv_goto (tgt := 0) hx hb dX6_subsetAt_91 (by decide) ?_
    exact hk0 (st (st zS 0 w1.toNatClampNeg r77) 1 0 (((st zS 0 w1.toNatClampNeg r77) 1 0) + (1 : Int32))) _ _ _ h hP hD hS (lv_sub hl [2, 3] rfl)
  have g0 : ∀ (n : Nat) (zS : CS) (H : Heap) (locs : List Loc) (ls : Array Slot), qX6_subsetAt_0 post x1 zT zM n zS → va_P D vwCl (wS cI aS aT aB aH aM aC aZ zS ++ (wT cI aT zT ++ (wM cI aM zM))) H → va_D A (wS cI aS aT aB aH aM aC aZ zS ++ (wT cI aT zT ++ (wM cI aM zM))) → va_S A s.heap H locs → lv_has ls 4 [(0, .ref (aS 0)), (1, .int x1)] → W p l e ({ frames := 1, cells := 0, slots := 0, locals := 27 } : Room) s m ([.ref (aS 0), .int x1] : List Value).toArray below meth c H locs 0 0 (MQ below (va_Qi post (xB D cI cO A (w_X6_subsetAt cI cO aS aT aB aH aM aC aZ zT zM)) A) ([.ref (aS 0), .int x1] : List Value).toArray s 0 0 A) (F0 m 0 ls []) := by
    intro n
    induction n with
    | zero => intro zS H locs ls h; exact False.elim h
    | succ n hk0 =>
      intro zS H locs ls h hP hD hS hl
      have h : qX6_subsetAt_0b post x1 zT zM (qX6_subsetAt_0 post x1 zT zM n) zS := h
      refine lv_aload_n hx hb dX6_subsetAt_0 rfl (lv_at hl 0 rfl) ?_
      refine va_get (D := D) (ci := 6) (v := .int (zS 1 0)) (C := RX6) (T := TX6) (N := 10) hx hb hts jX6_subsetAt_X6 hown hK hP 0 rfl rfl 7 (by decide) (hts (.fieldLink RX6 55 "BrotherAutomata" "subsetsKnown" "I") (List.mem_of_getElem? (i := 1) rfl)) (fun _ h9 => h9) rfl dX6_subsetAt_1 ?_
      refine lv_iload_n hx hb dX6_subsetAt_4 rfl (lv_at hl 1 rfl) ?_
      obtain ⟨hh1, hh2⟩ := h
      refine lv_icmp_gt (tgt := 94) hx hb dX6_subsetAt_5 (by decide) (fun hc => ?_) (fun hc => ?_)
      · have h := hh1 hc
        refine lv_aload_n hx hb dX6_subsetAt_94 rfl (lv_at hl 0 rfl) ?_
        refine va_get (D := D) (ci := 6) (v := .ref (aS 1)) (C := RX6) (T := TX6) (N := 10) hx hb hts jX6_subsetAt_X6 hown hK hP 0 rfl rfl 6 (by decide) (hts (.fieldLink RX6 51 "BrotherAutomata" "subsets" "[I") (List.mem_of_getElem? (i := 3) rfl)) (fun _ h9 => h9) rfl dX6_subsetAt_95 ?_
        refine lv_iload_n hx hb dX6_subsetAt_98 rfl (lv_at hl 1 rfl) ?_
        obtain ⟨hi, h⟩ := h
        refine va_iald hx hb hK hP 1 0 rfl rfl hi dX6_subsetAt_99 ?_
        exact xiret (w := (w_X6_subsetAt cI cO aS aT aB aH aM aC aZ zT zM)) (zS) hx hb hr hlocks h hP hK hD hS dX6_subsetAt_100
      · have h := hh2 hc
        refine lv_aload_n hx hb dX6_subsetAt_8 rfl (lv_at hl 0 rfl) ?_
        refine va_get (D := D) (ci := 6) (v := .ref (aT 0)) (C := RX6) (T := TX6) (N := 10) hx hb hts jX6_subsetAt_X6 hown hK hP 0 rfl rfl 0 (by decide) (hts (.fieldLink RX6 10 "BrotherAutomata" "trees" "LBrotherAutomata$SmallTrees;") (List.mem_of_getElem? (i := 2) rfl)) (fun _ h9 => h9) rfl dX6_subsetAt_9 ?_
        refine lv_aload_n hx hb dX6_subsetAt_12 rfl (lv_at hl 0 rfl) ?_
        refine va_get (D := D) (ci := 6) (v := .int (zS 1 0)) (C := RX6) (T := TX6) (N := 10) hx hb hts jX6_subsetAt_X6 hown hK hP 0 rfl rfl 7 (by decide) (hts (.fieldLink RX6 55 "BrotherAutomata" "subsetsKnown" "I") (List.mem_of_getElem? (i := 1) rfl)) (fun _ h9 => h9) rfl dX6_subsetAt_13 ?_
        refine xcalli (wr := (wS cI aS aT aB aH aM aC aZ zS ++ (wM cI aM zM))) (w2 := fun (u16 : Unit) => (wS cI aS aT aB aH aM aC aZ zS ++ (wT cI aT zT ++ (wM cI aM zM)))) (va_runV (As := [.int (zS 1 0)]) (rest := []) ⟨hx, hb, hml, hown, hts⟩ (mX5_firstAt l D cI cO tA tS aT zT (zS 1 0) _ h) (cwV 1 hts gX6_subsetAt_X5_firstAt rfl rfl rfl (by decide +kernel) ⟨Nat.le_of_ble_eq_true rfl, Nat.le_of_ble_eq_true rfl⟩) (xpreV hP hD hS hA hK hE [2, 3, 4] rfl rfl 5 2 rfl rfl) rfl rfl hl.1 rfl (lv_room (Nat.le_of_ble_eq_true rfl)) dX6_subsetAt_16 ⟨Nat.le_refl 0, Nat.le_refl 0⟩) hP hD hS hA [2, 3, 4] [0, 1, 5, 6, 7, 8, 9] [0, 1, 7, 8, 9, 2, 3, 4, 5, 6] rfl rfl rfl (by decide) rfl (fun _ => rfl) (fun r16 u16 H locs h hP hD hS => ?_)
        refine lv_istore_n (lv' := [(2, .int r16), (0, .ref (aS 0)), (1, .int x1)]) hx hb dX6_subsetAt_19 rfl hl (by decide) rfl (fun ls hl => ?_)
        refine lv_aload_n hx hb dX6_subsetAt_20 rfl (lv_at hl 1 rfl) ?_
        refine va_get (D := D) (ci := 6) (v := .ref (aT 0)) (C := RX6) (T := TX6) (N := 10) hx hb hts jX6_subsetAt_X6 hown hK hP 0 rfl rfl 0 (by decide) (hts (.fieldLink RX6 10 "BrotherAutomata" "trees" "LBrotherAutomata$SmallTrees;") (List.mem_of_getElem? (i := 2) rfl)) (fun _ h9 => h9) rfl dX6_subsetAt_21 ?_
        refine lv_aload_n hx hb dX6_subsetAt_24 rfl (lv_at hl 1 rfl) ?_
        refine va_get (D := D) (ci := 6) (v := .int (zS 1 0)) (C := RX6) (T := TX6) (N := 10) hx hb hts jX6_subsetAt_X6 hown hK hP 0 rfl rfl 7 (by decide) (hts (.fieldLink RX6 55 "BrotherAutomata" "subsetsKnown" "I") (List.mem_of_getElem? (i := 1) rfl)) (fun _ h9 => h9) rfl dX6_subsetAt_25 ?_
        refine xcalli (wr := (wS cI aS aT aB aH aM aC aZ zS ++ (wM cI aM zM))) (w2 := fun (u28 : Unit) => (wS cI aS aT aB aH aM aC aZ zS ++ (wT cI aT zT ++ (wM cI aM zM)))) (va_runV (As := [.int (zS 1 0)]) (rest := []) ⟨hx, hb, hml, hown, hts⟩ (mX5_secondAt l D cI cO tA tS aT zT (zS 1 0) _ h) (cwV 1 hts gX6_subsetAt_X5_secondAt rfl rfl rfl (by decide +kernel) ⟨Nat.le_of_ble_eq_true rfl, Nat.le_of_ble_eq_true rfl⟩) (xpreV hP hD hS hA hK hE [2, 3, 4] rfl rfl 5 2 rfl rfl) rfl rfl hl.1 rfl (lv_room (Nat.le_of_ble_eq_true rfl)) dX6_subsetAt_28 ⟨Nat.le_refl 0, Nat.le_refl 0⟩) hP hD hS hA [2, 3, 4] [0, 1, 5, 6, 7, 8, 9] [0, 1, 7, 8, 9, 2, 3, 4, 5, 6] rfl rfl rfl (by decide) rfl (fun _ => rfl) (fun r28 u28 H locs h hP hD hS => ?_)
        refine lv_istore_n (lv' := [(3, .int r28), (2, .int r16), (0, .ref (aS 0)), (1, .int x1)]) hx hb dX6_subsetAt_31 rfl hl (by decide) rfl (fun ls hl => ?_)
        refine lv_aload_n hx hb dX6_subsetAt_32 rfl (lv_at hl 2 rfl) ?_
        refine va_get (D := D) (ci := 6) (v := .ref (aS 1)) (C := RX6) (T := TX6) (N := 10) hx hb hts jX6_subsetAt_X6 hown hK hP 0 rfl rfl 6 (by decide) (hts (.fieldLink RX6 51 "BrotherAutomata" "subsets" "[I") (List.mem_of_getElem? (i := 3) rfl)) (fun _ h9 => h9) rfl dX6_subsetAt_33 ?_
        refine lv_aload_n hx hb dX6_subsetAt_36 rfl (lv_at hl 2 rfl) ?_
        refine va_get (D := D) (ci := 6) (v := .int (zS 1 0)) (C := RX6) (T := TX6) (N := 10) hx hb hts jX6_subsetAt_X6 hown hK hP 0 rfl rfl 7 (by decide) (hts (.fieldLink RX6 55 "BrotherAutomata" "subsetsKnown" "I") (List.mem_of_getElem? (i := 1) rfl)) (fun _ h9 => h9) rfl dX6_subsetAt_37 ?_
        refine lv_aload_n hx hb dX6_subsetAt_40 rfl (lv_at hl 2 rfl) ?_
        refine va_get (D := D) (ci := 6) (v := .ref (aM 0)) (C := RX6) (T := TX6) (N := 10) hx hb hts jX6_subsetAt_X6 hown hK hP 0 rfl rfl 3 (by decide) (hts (.fieldLink RX6 33 "BrotherAutomata" "masks" "LBrotherAutomata$RuleMasks;") (List.mem_of_getElem? (i := 4) rfl)) (fun _ h9 => h9) rfl dX6_subsetAt_41 ?_
        refine lv_aload_n hx hb dX6_subsetAt_44 rfl (lv_at hl 2 rfl) ?_
        refine va_get (D := D) (ci := 6) (v := .ref (aT 0)) (C := RX6) (T := TX6) (N := 10) hx hb hts jX6_subsetAt_X6 hown hK hP 0 rfl rfl 0 (by decide) (hts (.fieldLink RX6 10 "BrotherAutomata" "trees" "LBrotherAutomata$SmallTrees;") (List.mem_of_getElem? (i := 2) rfl)) (fun _ h9 => h9) rfl dX6_subsetAt_45 ?_
        refine lv_aload_n hx hb dX6_subsetAt_48 rfl (lv_at hl 2 rfl) ?_
        refine va_get (D := D) (ci := 6) (v := .int (zS 1 0)) (C := RX6) (T := TX6) (N := 10) hx hb hts jX6_subsetAt_X6 hown hK hP 0 rfl rfl 7 (by decide) (hts (.fieldLink RX6 55 "BrotherAutomata" "subsetsKnown" "I") (List.mem_of_getElem? (i := 1) rfl)) (fun _ h9 => h9) rfl dX6_subsetAt_49 ?_
        refine xcalli (wr := (wS cI aS aT aB aH aM aC aZ zS ++ (wM cI aM zM))) (w2 := fun (u52 : Unit) => (wS cI aS aT aB aH aM aC aZ zS ++ (wT cI aT zT ++ (wM cI aM zM)))) (va_runV (As := [.int (zS 1 0)]) (rest := [.ref (aM 0), .int (zS 1 0), .ref (aS 1)]) ⟨hx, hb, hml, hown, hts⟩ (mX5_symbolAt l D cI cO tA tS aT zT (zS 1 0) _ h) (cwV 1 hts gX6_subsetAt_X5_symbolAt rfl rfl rfl (by decide +kernel) ⟨Nat.le_of_ble_eq_true rfl, Nat.le_of_ble_eq_true rfl⟩) (xpreV hP hD hS hA hK hE [2, 3, 4] rfl rfl 5 2 rfl rfl) rfl rfl hl.1 rfl (lv_room (Nat.le_of_ble_eq_true rfl)) dX6_subsetAt_52 ⟨Nat.le_refl 0, Nat.le_refl 0⟩) hP hD hS hA [2, 3, 4] [0, 1, 5, 6, 7, 8, 9] [0, 1, 7, 8, 9, 2, 3, 4, 5, 6] rfl rfl rfl (by decide) rfl (fun _ => rfl) (fun r52 u52 H locs h hP hD hS => ?_)
        refine lv_aload_n hx hb dX6_subsetAt_55 rfl (lv_at hl 2 rfl) ?_
        refine va_get (D := D) (ci := 6) (v := .ref (aS 1)) (C := RX6) (T := TX6) (N := 10) hx hb hts jX6_subsetAt_X6 hown hK hP 0 rfl rfl 6 (by decide) (hts (.fieldLink RX6 51 "BrotherAutomata" "subsets" "[I") (List.mem_of_getElem? (i := 3) rfl)) (fun _ h9 => h9) rfl dX6_subsetAt_56 ?_
        refine lv_iload_n hx hb dX6_subsetAt_59 rfl (lv_at hl 1 rfl) ?_
        obtain ⟨hi, h⟩ := h
        refine va_iald hx hb hK hP 1 0 rfl rfl hi dX6_subsetAt_60 ?_
        refine lv_aload_n hx hb dX6_subsetAt_61 rfl (lv_at hl 2 rfl) ?_
        refine va_get (D := D) (ci := 6) (v := .ref (aS 1)) (C := RX6) (T := TX6) (N := 10) hx hb hts jX6_subsetAt_X6 hown hK hP 0 rfl rfl 6 (by decide) (hts (.fieldLink RX6 51 "BrotherAutomata" "subsets" "[I") (List.mem_of_getElem? (i := 3) rfl)) (fun _ h9 => h9) rfl dX6_subsetAt_62 ?_
        refine lv_iload_n hx hb dX6_subsetAt_65 rfl (lv_at hl 0 rfl) ?_
        obtain ⟨hi, h⟩ := h
        refine va_iald hx hb hK hP 1 0 rfl rfl hi dX6_subsetAt_66 ?_
        refine lv_iload_n hx hb dX6_subsetAt_67 rfl (lv_at hl 1 rfl) ?_
        refine lv_iload_n hx hb dX6_subsetAt_68 rfl (lv_at hl 0 rfl) ?_
        obtain ⟨hh1, hh2⟩ := h
        refine lv_icmp_ne (tgt := 76) hx hb dX6_subsetAt_69 (by decide) (fun hc => ?_) (fun hc => ?_)
        · have h := hh2 hc
          refine lv_iconst (v := 0) hx hb dX6_subsetAt_76 (by decide) ?_
          exact g77 (qX6_subsetAt_0 post x1 zT zM n) hk0 r16 r28 (zS 1 0) r52 ((zS 0) r16.toNatClampNeg) ((zS 0) r28.toNatClampNeg) (0 : Int32) zS _ _ _ h hP hD hS hl
        · have h := hh1 hc
          refine lv_iconst (v := 1) hx hb dX6_subsetAt_72 (by decide) ?_
          refine lv_goto (tgt := 77) hx hb dX6_subsetAt_73 (by decide) ?_
          exact g77 (qX6_subsetAt_0 post x1 zT zM n) hk0 r16 r28 (zS 1 0) r52 ((zS 0) r16.toNatClampNeg) ((zS 0) r28.toNatClampNeg) (1 : Int32) zS _ _ _ h hP hD hS hl
  obtain ⟨n0, h⟩ := h
  exact g0 n0 zS _ _ _ h hP hD hS hl
set_option maxRecDepth 20000 in
theorem ggX6_subsetOf_X6_isTree : GoodIn wsX6_subsetOf wsX6_isTree := goodIn_r _ [4] (by decide +kernel) (by decide +kernel)
set_option maxRecDepth 20000 in
theorem gX6_subsetOf_X6_isTree : GoodIn wsX6_subsetOf (va_wsS RX6 141 yX6_isTree wsX6_isTree) := goodIn_app (goodIn_of _ (by decide +kernel)) ggX6_subsetOf_X6_isTree
set_option maxRecDepth 20000 in
theorem ggX6_subsetOf_X6_subsetAt : GoodIn wsX6_subsetOf wsX6_subsetAt := goodIn_r _ [8, 9, 10, 11, 12, 13, 14, 15, 16, 17, 18, 19, 20, 21, 22, 23, 24, 25, 26, 27, 28, 29, 30, 31, 32, 33, 34, 35, 36, 37, 38, 39, 40, 41, 42, 43, 44, 45, 46, 47, 48, 49, 50, 51, 52, 53, 54, 55, 56] (by decide +kernel) (by decide +kernel)
set_option maxRecDepth 20000 in
theorem gX6_subsetOf_X6_subsetAt : GoodIn wsX6_subsetOf (wsV RX6 162 RX6 yX6_subsetAt wsX6_subsetAt) := goodIn_app (goodIn_of _ (by decide +kernel)) ggX6_subsetOf_X6_subsetAt
theorem dX6_subsetOf_0 : decode cX6_subsetOf 0 = .ok (.iload_n 1, 1) := by decide +kernel
theorem dX6_subsetOf_1 : decode cX6_subsetOf 1 = .ok (.invokestatic 141, 3) := by decide +kernel
theorem dX6_subsetOf_4 : decode cX6_subsetOf 4 = .ok (.ifCond .ne 5, 3) := by decide +kernel
theorem dX6_subsetOf_7 : decode cX6_subsetOf 7 = .ok (.iconst (-1), 1) := by decide +kernel
theorem dX6_subsetOf_8 : decode cX6_subsetOf 8 = .ok (.ireturn, 1) := by decide +kernel
theorem dX6_subsetOf_9 : decode cX6_subsetOf 9 = .ok (.aload_n 0, 1) := by decide +kernel
theorem dX6_subsetOf_10 : decode cX6_subsetOf 10 = .ok (.iload_n 1, 1) := by decide +kernel
theorem dX6_subsetOf_11 : decode cX6_subsetOf 11 = .ok (.invokevirtual 162, 3) := by decide +kernel
theorem dX6_subsetOf_14 : decode cX6_subsetOf 14 = .ok (.ireturn, 1) := by decide +kernel
abbrev w_X6_subsetOf (cI cO : ClassId) (aS : Nat → Nat) (aT : Nat → Nat) (aB : Nat → Nat) (aH : Nat → Nat) (aM : Nat → Nat) (aC : Nat → Nat) (aZ : Nat → Nat) (zT : CS) (zM : CS) : ((CS)) → va_W := fun u => (wS cI aS aT aB aH aM aC aZ u ++ (wT cI aT zT ++ (wM cI aM zM)))
set_option maxRecDepth 100000 in
set_option maxHeartbeats 8000000 in
theorem mX6_subsetOf (l : Launch) (D : va_G) (cI cO : ClassId) (tA tS : Nat) (aS : Nat → Nat) (aT : Nat → Nat) (aB : Nat → Nat) (aH : Nat → Nat) (aM : Nat → Nat) (aC : Nat → Nat) (aZ : Nat → Nat) (zS : CS) (zT : CS) (zM : CS) (x1 : Int32) (sz : Nat) {post : Int32 → ((CS)) → Prop} (h : qX6_subsetOf post x1 zS zT zM) : Met l yX6_subsetOf wsX6_subsetOf ({ frames := 2, cells := 0, slots := 0, locals := 50 } : Room) (xPre D cI cO tA tS [.ref (aS 0), .int x1] (wS cI aS aT aB aH aM aC aZ zS ++ (wT cI aT zT ++ (wM cI aM zM))) sz) (va_Qi post (xB D cI cO (va_A (wS cI aS aT aB aH aM aC aZ zS ++ (wT cI aT zT ++ (wM cI aM zM))) sz) (w_X6_subsetOf cI cO aS aT aB aH aM aC aZ zT zM)) (va_A (wS cI aS aT aB aH aM aC aZ zS ++ (wT cI aT zT ++ (wM cI aM zM))) sz)) 0 0 (va_A (wS cI aS aT aB aH aM aC aZ zS ++ (wT cI aT zT ++ (wM cI aM zM))) sz) := by
  refine xMet D cI cO tA tS (fun A => va_Qi post (xB D cI cO A (w_X6_subsetOf cI cO aS aT aB aH aM aC aZ zT zM)) A) (cc := cX6_subsetOf) (maxL := 2) (ret := (some .int)) (by decide) rfl (Nat.le_of_ble_eq_true rfl) ?_
  intro p e s m below meth c A ls hx hb hr hts hown hlocks hin hml hA hS hP hK hD hE hl
  have hown : s.vm.findClass RX6 = some m.cls := hown
  have hl : lv_has ls 2 [(0, .ref (aS 0)), (1, .int x1)] := hl
  refine lv_iload_n hx hb dX6_subsetOf_0 rfl (lv_at hl 1 rfl) ?_
  refine xcalli (wr := (wS cI aS aT aB aH aM aC aZ zS ++ (wT cI aT zT ++ (wM cI aM zM)))) (w2 := fun (u1 : Unit) => (wS cI aS aT aB aH aM aC aZ zS ++ (wT cI aT zT ++ (wM cI aM zM)))) (va_runS (As := [.int x1]) (rest := []) ⟨hx, hb, hml, hown, hts⟩ (mX6_isTree l D cI cO tA tS x1 _ h) (va_cwS 1 hts gX6_subsetOf_X6_isTree rfl rfl rfl (by decide +kernel) ⟨Nat.le_of_ble_eq_true rfl, Nat.le_of_ble_eq_true rfl⟩) (xpreP hP hD hS hA hK hE [] rfl rfl) rfl rfl hl.1 rfl (lv_room (Nat.le_of_ble_eq_true rfl)) dX6_subsetOf_1 ⟨Nat.le_refl 0, Nat.le_refl 0⟩) hP hD hS hA [] [0, 1, 2, 3, 4, 5, 6, 7, 8, 9] [0, 1, 2, 3, 4, 5, 6, 7, 8, 9] rfl rfl rfl (by decide) rfl (fun _ => rfl) (fun r1 u1 H locs h hP hD hS => ?_)
  obtain ⟨hh1, hh2⟩ := h
  refine lv_if_ne (tgt := 9) hx hb dX6_subsetOf_4 (by decide) (fun hc => ?_) (fun hc => ?_)
  · have h := hh2 hc
    refine lv_aload_n hx hb dX6_subsetOf_9 rfl (lv_at hl 0 rfl) ?_
    refine lv_iload_n hx hb dX6_subsetOf_10 rfl (lv_at hl 1 rfl) ?_
    refine xcalli (wr := ([] : va_W)) (w2 := fun (u11 : (CS)) => (wS cI aS aT aB aH aM aC aZ u11 ++ (wT cI aT zT ++ (wM cI aM zM)))) (va_runV (As := [.int x1]) (rest := []) ⟨hx, hb, hml, hown, hts⟩ (mX6_subsetAt l D cI cO tA tS aS aT aB aH aM aC aZ zS zT zM x1 _ h) (cwV 1 hts gX6_subsetOf_X6_subsetAt rfl rfl rfl (by decide +kernel) ⟨Nat.le_of_ble_eq_true rfl, Nat.le_of_ble_eq_true rfl⟩) (xpreV hP hD hS hA hK hE [0, 1, 2, 3, 4, 5, 6, 7, 8, 9] rfl rfl 6 0 rfl rfl) rfl rfl hl.1 rfl (lv_room (Nat.le_of_ble_eq_true rfl)) dX6_subsetOf_11 ⟨Nat.le_refl 0, Nat.le_refl 0⟩) hP hD hS hA [0, 1, 2, 3, 4, 5, 6, 7, 8, 9] [] [0, 1, 2, 3, 4, 5, 6, 7, 8, 9] rfl rfl rfl (by decide) rfl (fun _ => rfl) (fun r11 u11 H locs h hP hD hS => ?_)
    exact xiret (w := (w_X6_subsetOf cI cO aS aT aB aH aM aC aZ zT zM)) (u11) hx hb hr hlocks h hP hK hD hS dX6_subsetOf_14
  · have h := hh1 hc
    refine lv_iconst (v := -1) hx hb dX6_subsetOf_7 (by decide) ?_
    exact xiret (w := (w_X6_subsetOf cI cO aS aT aB aH aM aC aZ zT zM)) (zS) hx hb hr hlocks h hP hK hD hS dX6_subsetOf_8
set_option maxRecDepth 20000 in
theorem ggX6_isAccepted_X6_subsetAt : GoodIn wsX6_isAccepted wsX6_subsetAt := goodIn_r _ [6, 7, 8, 9, 10, 11, 12, 13, 14, 15, 16, 17, 18, 19, 20, 21, 22, 23, 24, 25, 26, 27, 28, 29, 30, 31, 32, 33, 34, 35, 36, 37, 38, 39, 40, 41, 42, 43, 44, 45, 53, 54, 55, 56, 57, 58, 59, 60, 61] (by decide +kernel) (by decide +kernel)
set_option maxRecDepth 20000 in
theorem gX6_isAccepted_X6_subsetAt : GoodIn wsX6_isAccepted (wsV RX6 162 RX6 yX6_subsetAt wsX6_subsetAt) := goodIn_app (goodIn_of _ (by decide +kernel)) ggX6_isAccepted_X6_subsetAt
theorem dX6_isAccepted_0 : decode cX6_isAccepted 0 = .ok (.aload_n 0, 1) := by decide +kernel
theorem dX6_isAccepted_1 : decode cX6_isAccepted 1 = .ok (.iload_n 1, 1) := by decide +kernel
theorem dX6_isAccepted_2 : decode cX6_isAccepted 2 = .ok (.invokevirtual 162, 3) := by decide +kernel
theorem dX6_isAccepted_5 : decode cX6_isAccepted 5 = .ok (.aload_n 0, 1) := by decide +kernel
theorem dX6_isAccepted_6 : decode cX6_isAccepted 6 = .ok (.getfield 19, 3) := by decide +kernel
theorem dX6_isAccepted_9 : decode cX6_isAccepted 9 = .ok (.getfield 87, 3) := by decide +kernel
theorem dX6_isAccepted_12 : decode cX6_isAccepted 12 = .ok (.iand, 1) := by decide +kernel
theorem dX6_isAccepted_13 : decode cX6_isAccepted 13 = .ok (.ifCond .eq 7, 3) := by decide +kernel
theorem dX6_isAccepted_16 : decode cX6_isAccepted 16 = .ok (.iconst 1, 1) := by decide +kernel
theorem dX6_isAccepted_17 : decode cX6_isAccepted 17 = .ok (.goto 4, 3) := by decide +kernel
theorem dX6_isAccepted_20 : decode cX6_isAccepted 20 = .ok (.iconst 0, 1) := by decide +kernel
theorem dX6_isAccepted_21 : decode cX6_isAccepted 21 = .ok (.ireturn, 1) := by decide +kernel
theorem jX6_isAccepted_X6 : ∀ w ∈ wsX60, w ∈ wsX6_isAccepted := by decide +kernel
theorem jX6_isAccepted_X2 : ∀ w ∈ wsX20, w ∈ wsX6_isAccepted := by decide +kernel
abbrev w_X6_isAccepted (cI cO : ClassId) (aS : Nat → Nat) (aT : Nat → Nat) (aB : Nat → Nat) (aH : Nat → Nat) (aM : Nat → Nat) (aC : Nat → Nat) (aZ : Nat → Nat) (zT : CS) (zB : CS) (zM : CS) : ((CS)) → va_W := fun u => (wS cI aS aT aB aH aM aC aZ u ++ (wT cI aT zT ++ (wB cI aB zB ++ (wM cI aM zM))))
set_option maxRecDepth 100000 in
set_option maxHeartbeats 8000000 in
theorem mX6_isAccepted (l : Launch) (D : va_G) (cI cO : ClassId) (tA tS : Nat) (aS : Nat → Nat) (aT : Nat → Nat) (aB : Nat → Nat) (aH : Nat → Nat) (aM : Nat → Nat) (aC : Nat → Nat) (aZ : Nat → Nat) (zS : CS) (zT : CS) (zB : CS) (zM : CS) (x1 : Int32) (sz : Nat) {post : Int32 → ((CS)) → Prop} (h : qX6_isAccepted post x1 zS zT zB zM) : Met l yX6_isAccepted wsX6_isAccepted ({ frames := 2, cells := 0, slots := 0, locals := 50 } : Room) (xPre D cI cO tA tS [.ref (aS 0), .int x1] (wS cI aS aT aB aH aM aC aZ zS ++ (wT cI aT zT ++ (wB cI aB zB ++ (wM cI aM zM)))) sz) (va_Qi post (xB D cI cO (va_A (wS cI aS aT aB aH aM aC aZ zS ++ (wT cI aT zT ++ (wB cI aB zB ++ (wM cI aM zM)))) sz) (w_X6_isAccepted cI cO aS aT aB aH aM aC aZ zT zB zM)) (va_A (wS cI aS aT aB aH aM aC aZ zS ++ (wT cI aT zT ++ (wB cI aB zB ++ (wM cI aM zM)))) sz)) 0 0 (va_A (wS cI aS aT aB aH aM aC aZ zS ++ (wT cI aT zT ++ (wB cI aB zB ++ (wM cI aM zM)))) sz) := by
  refine xMet D cI cO tA tS (fun A => va_Qi post (xB D cI cO A (w_X6_isAccepted cI cO aS aT aB aH aM aC aZ zT zB zM)) A) (cc := cX6_isAccepted) (maxL := 2) (ret := (some .boolean)) (by decide) rfl (Nat.le_of_ble_eq_true rfl) ?_
  intro p e s m below meth c A ls hx hb hr hts hown hlocks hin hml hA hS hP hK hD hE hl
  have hown : s.vm.findClass RX6 = some m.cls := hown
  have hl : lv_has ls 2 [(0, .ref (aS 0)), (1, .int x1)] := hl
  refine lv_aload_n hx hb dX6_isAccepted_0 rfl (lv_at hl 0 rfl) ?_
  refine lv_iload_n hx hb dX6_isAccepted_1 rfl (lv_at hl 1 rfl) ?_
  refine xcalli (wr := (wB cI aB zB)) (w2 := fun (u2 : (CS)) => (wS cI aS aT aB aH aM aC aZ u2 ++ (wT cI aT zT ++ (wB cI aB zB ++ (wM cI aM zM))))) (va_runV (As := [.int x1]) (rest := []) ⟨hx, hb, hml, hown, hts⟩ (mX6_subsetAt l D cI cO tA tS aS aT aB aH aM aC aZ zS zT zM x1 _ h) (cwV 1 hts gX6_isAccepted_X6_subsetAt rfl rfl rfl (by decide +kernel) ⟨Nat.le_of_ble_eq_true rfl, Nat.le_of_ble_eq_true rfl⟩) (xpreV hP hD hS hA hK hE [0, 1, 2, 3, 4, 11, 12, 13, 14, 15] rfl rfl 6 0 rfl rfl) rfl rfl hl.1 rfl (lv_room (Nat.le_of_ble_eq_true rfl)) dX6_isAccepted_2 ⟨Nat.le_refl 0, Nat.le_refl 0⟩) hP hD hS hA [0, 1, 2, 3, 4, 11, 12, 13, 14, 15] [5, 6, 7, 8, 9, 10] [6, 7, 8, 9, 10, 0, 1, 2, 3, 4, 5, 11, 12, 13, 14, 15] rfl rfl rfl (by decide) rfl (fun _ => rfl) (fun r2 u2 H locs h hP hD hS => ?_)
  refine lv_aload_n hx hb dX6_isAccepted_5 rfl (lv_at hl 0 rfl) ?_
  refine va_get (D := D) (ci := 6) (v := .ref (aB 0)) (C := RX6) (T := TX6) (N := 10) hx hb hts jX6_isAccepted_X6 hown hK hP 0 rfl rfl 1 (by decide) (hts (.fieldLink RX6 19 "BrotherAutomata" "book" "LBrotherAutomata$RuleBook;") (List.mem_of_getElem? (i := 1) rfl)) (fun _ h9 => h9) rfl dX6_isAccepted_6 ?_
  refine va_getN (D := D) (ci := 2) (v := .int (zB 5 1)) (C := RX2) (T := TX2) (N := 7) hx hb hts jX6_isAccepted_X2 hown hK hP 5 rfl rfl 6 (by decide) (va_Nw.use (w := .fieldLinkNest RX6 87 "BrotherAutomata$RuleBook" "finals" "I" "BrotherAutomata") rfl (hE.1 _ (List.mem_of_getElem? (i := 18) rfl))) (fun _ h9 => h9) rfl dX6_isAccepted_9 ?_
  refine lv_iand hx hb dX6_isAccepted_12 ?_
  obtain ⟨hh1, hh2⟩ := h
  refine lv_if_eq (tgt := 20) hx hb dX6_isAccepted_13 (by decide) (fun hc => ?_) (fun hc => ?_)
  · have h := hh1 hc
    refine lv_iconst (v := 0) hx hb dX6_isAccepted_20 (by decide) ?_
    exact xzret (w := (w_X6_isAccepted cI cO aS aT aB aH aM aC aZ zT zB zM)) (u2) hx hb hr hlocks rfl h hP hK hD hS dX6_isAccepted_21
  · have h := hh2 hc
    refine lv_iconst (v := 1) hx hb dX6_isAccepted_16 (by decide) ?_
    refine lv_goto (tgt := 21) hx hb dX6_isAccepted_17 (by decide) ?_
    exact xzret (w := (w_X6_isAccepted cI cO aS aT aB aH aM aC aZ zT zB zM)) (u2) hx hb hr hlocks rfl h hP hK hD hS dX6_isAccepted_21
set_option maxRecDepth 20000 in
theorem ggX6_accepts_X6_isTree : GoodIn wsX6_accepts wsX6_isTree := goodIn_r _ [4] (by decide +kernel) (by decide +kernel)
set_option maxRecDepth 20000 in
theorem gX6_accepts_X6_isTree : GoodIn wsX6_accepts (va_wsS RX6 141 yX6_isTree wsX6_isTree) := goodIn_app (goodIn_of _ (by decide +kernel)) ggX6_accepts_X6_isTree
set_option maxRecDepth 20000 in
theorem ggX6_accepts_X6_isAccepted : GoodIn wsX6_accepts wsX6_isAccepted := goodIn_r _ [8, 9, 10, 11, 12, 3, 13, 14, 15, 16, 17, 18, 19, 20, 21, 22, 23, 24, 25, 26, 27, 28, 29, 30, 31, 32, 33, 34, 35, 36, 37, 38, 39, 40, 41, 42, 43, 44, 45, 46, 47, 48, 49, 50, 51, 52, 53, 54, 55, 56, 57, 58, 59, 60, 61, 62, 63, 64, 65, 66, 67, 68] (by decide +kernel) (by decide +kernel)
set_option maxRecDepth 20000 in
theorem gX6_accepts_X6_isAccepted : GoodIn wsX6_accepts (wsV RX6 165 RX6 yX6_isAccepted wsX6_isAccepted) := goodIn_app (goodIn_of _ (by decide +kernel)) ggX6_accepts_X6_isAccepted
theorem dX6_accepts_0 : decode cX6_accepts 0 = .ok (.iload_n 1, 1) := by decide +kernel
theorem dX6_accepts_1 : decode cX6_accepts 1 = .ok (.invokestatic 141, 3) := by decide +kernel
theorem dX6_accepts_4 : decode cX6_accepts 4 = .ok (.ifCond .ne 5, 3) := by decide +kernel
theorem dX6_accepts_7 : decode cX6_accepts 7 = .ok (.iconst (-1), 1) := by decide +kernel
theorem dX6_accepts_8 : decode cX6_accepts 8 = .ok (.ireturn, 1) := by decide +kernel
theorem dX6_accepts_9 : decode cX6_accepts 9 = .ok (.aload_n 0, 1) := by decide +kernel
theorem dX6_accepts_10 : decode cX6_accepts 10 = .ok (.iload_n 1, 1) := by decide +kernel
theorem dX6_accepts_11 : decode cX6_accepts 11 = .ok (.invokevirtual 165, 3) := by decide +kernel
theorem dX6_accepts_14 : decode cX6_accepts 14 = .ok (.ifCond .eq 7, 3) := by decide +kernel
theorem dX6_accepts_17 : decode cX6_accepts 17 = .ok (.iconst 1, 1) := by decide +kernel
theorem dX6_accepts_18 : decode cX6_accepts 18 = .ok (.goto 4, 3) := by decide +kernel
theorem dX6_accepts_21 : decode cX6_accepts 21 = .ok (.iconst 0, 1) := by decide +kernel
theorem dX6_accepts_22 : decode cX6_accepts 22 = .ok (.ireturn, 1) := by decide +kernel
abbrev w_X6_accepts (cI cO : ClassId) (aS : Nat → Nat) (aT : Nat → Nat) (aB : Nat → Nat) (aH : Nat → Nat) (aM : Nat → Nat) (aC : Nat → Nat) (aZ : Nat → Nat) (zT : CS) (zB : CS) (zM : CS) : ((CS)) → va_W := fun u => (wS cI aS aT aB aH aM aC aZ u ++ (wT cI aT zT ++ (wB cI aB zB ++ (wM cI aM zM))))
set_option maxRecDepth 100000 in
set_option maxHeartbeats 8000000 in
theorem mX6_accepts (l : Launch) (D : va_G) (cI cO : ClassId) (tA tS : Nat) (aS : Nat → Nat) (aT : Nat → Nat) (aB : Nat → Nat) (aH : Nat → Nat) (aM : Nat → Nat) (aC : Nat → Nat) (aZ : Nat → Nat) (zS : CS) (zT : CS) (zB : CS) (zM : CS) (x1 : Int32) (sz : Nat) {post : Int32 → ((CS)) → Prop} (h : qX6_accepts post x1 zS zT zB zM) : Met l yX6_accepts wsX6_accepts ({ frames := 3, cells := 0, slots := 0, locals := 71 } : Room) (xPre D cI cO tA tS [.ref (aS 0), .int x1] (wS cI aS aT aB aH aM aC aZ zS ++ (wT cI aT zT ++ (wB cI aB zB ++ (wM cI aM zM)))) sz) (va_Qi post (xB D cI cO (va_A (wS cI aS aT aB aH aM aC aZ zS ++ (wT cI aT zT ++ (wB cI aB zB ++ (wM cI aM zM)))) sz) (w_X6_accepts cI cO aS aT aB aH aM aC aZ zT zB zM)) (va_A (wS cI aS aT aB aH aM aC aZ zS ++ (wT cI aT zT ++ (wB cI aB zB ++ (wM cI aM zM)))) sz)) 0 0 (va_A (wS cI aS aT aB aH aM aC aZ zS ++ (wT cI aT zT ++ (wB cI aB zB ++ (wM cI aM zM)))) sz) := by
  refine xMet D cI cO tA tS (fun A => va_Qi post (xB D cI cO A (w_X6_accepts cI cO aS aT aB aH aM aC aZ zT zB zM)) A) (cc := cX6_accepts) (maxL := 2) (ret := (some .int)) (by decide) rfl (Nat.le_of_ble_eq_true rfl) ?_
  intro p e s m below meth c A ls hx hb hr hts hown hlocks hin hml hA hS hP hK hD hE hl
  have hown : s.vm.findClass RX6 = some m.cls := hown
  have hl : lv_has ls 2 [(0, .ref (aS 0)), (1, .int x1)] := hl
  refine lv_iload_n hx hb dX6_accepts_0 rfl (lv_at hl 1 rfl) ?_
  refine xcalli (wr := (wS cI aS aT aB aH aM aC aZ zS ++ (wT cI aT zT ++ (wB cI aB zB ++ (wM cI aM zM))))) (w2 := fun (u1 : Unit) => (wS cI aS aT aB aH aM aC aZ zS ++ (wT cI aT zT ++ (wB cI aB zB ++ (wM cI aM zM))))) (va_runS (As := [.int x1]) (rest := []) ⟨hx, hb, hml, hown, hts⟩ (mX6_isTree l D cI cO tA tS x1 _ h) (va_cwS 1 hts gX6_accepts_X6_isTree rfl rfl rfl (by decide +kernel) ⟨Nat.le_of_ble_eq_true rfl, Nat.le_of_ble_eq_true rfl⟩) (xpreP hP hD hS hA hK hE [] rfl rfl) rfl rfl hl.1 rfl (lv_room (Nat.le_of_ble_eq_true rfl)) dX6_accepts_1 ⟨Nat.le_refl 0, Nat.le_refl 0⟩) hP hD hS hA [] [0, 1, 2, 3, 4, 5, 6, 7, 8, 9, 10, 11, 12, 13, 14, 15] [0, 1, 2, 3, 4, 5, 6, 7, 8, 9, 10, 11, 12, 13, 14, 15] rfl rfl rfl (by decide) rfl (fun _ => rfl) (fun r1 u1 H locs h hP hD hS => ?_)
  obtain ⟨hh1, hh2⟩ := h
  refine lv_if_ne (tgt := 9) hx hb dX6_accepts_4 (by decide) (fun hc => ?_) (fun hc => ?_)
  · have h := hh2 hc
    refine lv_aload_n hx hb dX6_accepts_9 rfl (lv_at hl 0 rfl) ?_
    refine lv_iload_n hx hb dX6_accepts_10 rfl (lv_at hl 1 rfl) ?_
    refine xcalli (wr := ([] : va_W)) (w2 := fun (u11 : (CS)) => (wS cI aS aT aB aH aM aC aZ u11 ++ (wT cI aT zT ++ (wB cI aB zB ++ (wM cI aM zM))))) (va_runV (As := [.int x1]) (rest := []) ⟨hx, hb, hml, hown, hts⟩ (mX6_isAccepted l D cI cO tA tS aS aT aB aH aM aC aZ zS zT zB zM x1 _ h) (cwV 1 hts gX6_accepts_X6_isAccepted rfl rfl rfl (by decide +kernel) ⟨Nat.le_of_ble_eq_true rfl, Nat.le_of_ble_eq_true rfl⟩) (xpreV hP hD hS hA hK hE [0, 1, 2, 3, 4, 5, 6, 7, 8, 9, 10, 11, 12, 13, 14, 15] rfl rfl 6 0 rfl rfl) rfl rfl hl.1 rfl (lv_room (Nat.le_of_ble_eq_true rfl)) dX6_accepts_11 ⟨Nat.le_refl 0, Nat.le_refl 0⟩) hP hD hS hA [0, 1, 2, 3, 4, 5, 6, 7, 8, 9, 10, 11, 12, 13, 14, 15] [] [0, 1, 2, 3, 4, 5, 6, 7, 8, 9, 10, 11, 12, 13, 14, 15] rfl rfl rfl (by decide) rfl (fun _ => rfl) (fun r11 u11 H locs h hP hD hS => ?_)
    obtain ⟨hh1, hh2⟩ := h
    refine lv_if_eq (tgt := 21) hx hb dX6_accepts_14 (by decide) (fun hc => ?_) (fun hc => ?_)
    · have h := hh1 hc
      refine lv_iconst (v := 0) hx hb dX6_accepts_21 (by decide) ?_
      exact xiret (w := (w_X6_accepts cI cO aS aT aB aH aM aC aZ zT zB zM)) (u11) hx hb hr hlocks h hP hK hD hS dX6_accepts_22
    · have h := hh2 hc
      refine lv_iconst (v := 1) hx hb dX6_accepts_17 (by decide) ?_
      refine lv_goto (tgt := 22) hx hb dX6_accepts_18 (by decide) ?_
      exact xiret (w := (w_X6_accepts cI cO aS aT aB aH aM aC aZ zT zB zM)) (u11) hx hb hr hlocks h hP hK hD hS dX6_accepts_22
  · have h := hh1 hc
    refine lv_iconst (v := -1) hx hb dX6_accepts_7 (by decide) ?_
    exact xiret (w := (w_X6_accepts cI cO aS aT aB aH aM aC aZ zT zB zM)) (zS) hx hb hr hlocks h hP hK hD hS dX6_accepts_8
set_option maxRecDepth 20000 in
theorem ggX6_runCount_X6_isTree : GoodIn wsX6_runCount wsX6_isTree := goodIn_r _ [7] (by decide +kernel) (by decide +kernel)
set_option maxRecDepth 20000 in
theorem gX6_runCount_X6_isTree : GoodIn wsX6_runCount (va_wsS RX6 141 yX6_isTree wsX6_isTree) := goodIn_app (goodIn_of _ (by decide +kernel)) ggX6_runCount_X6_isTree
set_option maxRecDepth 20000 in
theorem ggX6_runCount_X6_isState : GoodIn wsX6_runCount wsX6_isState := goodIn_r _ [11, 12, 56, 57, 58, 59, 60, 61, 62, 63, 64, 65] (by decide +kernel) (by decide +kernel)
set_option maxRecDepth 20000 in
theorem gX6_runCount_X6_isState : GoodIn wsX6_runCount (wsV RX6 75 RX6 yX6_isState wsX6_isState) := goodIn_app (goodIn_of _ (by decide +kernel)) ggX6_runCount_X6_isState
set_option maxRecDepth 20000 in
theorem ggX6_runCount_X4_count : GoodIn wsX6_runCount wsX4_count := goodIn_r _ [17, 18, 19, 20, 21, 16, 22, 23, 24, 25, 26, 27, 28, 29, 30, 31, 32, 33, 34, 35, 36, 37, 38, 39, 40, 41, 42, 43, 44, 45, 46, 47, 48, 49, 50, 51, 52, 53, 54, 55, 66, 67, 68, 69, 70, 71, 72, 73, 74, 75, 76, 77, 78] (by decide +kernel) (by decide +kernel)
set_option maxRecDepth 20000 in
theorem gX6_runCount_X4_count : GoodIn wsX6_runCount (wsV RX6 168 RX4 yX4_count wsX4_count) := goodIn_app (goodIn_of _ (by decide +kernel)) ggX6_runCount_X4_count
theorem dX6_runCount_0 : decode cX6_runCount 0 = .ok (.iload_n 1, 1) := by decide +kernel
theorem dX6_runCount_1 : decode cX6_runCount 1 = .ok (.invokestatic 141, 3) := by decide +kernel
theorem dX6_runCount_4 : decode cX6_runCount 4 = .ok (.ifCond .eq 11, 3) := by decide +kernel
theorem dX6_runCount_7 : decode cX6_runCount 7 = .ok (.aload_n 0, 1) := by decide +kernel
theorem dX6_runCount_8 : decode cX6_runCount 8 = .ok (.iload_n 2, 1) := by decide +kernel
theorem dX6_runCount_9 : decode cX6_runCount 9 = .ok (.invokevirtual 75, 3) := by decide +kernel
theorem dX6_runCount_12 : decode cX6_runCount 12 = .ok (.ifCond .ne 5, 3) := by decide +kernel
theorem dX6_runCount_15 : decode cX6_runCount 15 = .ok (.iconst (-1), 1) := by decide +kernel
theorem dX6_runCount_16 : decode cX6_runCount 16 = .ok (.ireturn, 1) := by decide +kernel
theorem dX6_runCount_17 : decode cX6_runCount 17 = .ok (.aload_n 0, 1) := by decide +kernel
theorem dX6_runCount_18 : decode cX6_runCount 18 = .ok (.getfield 40, 3) := by decide +kernel
theorem dX6_runCount_21 : decode cX6_runCount 21 = .ok (.aload_n 0, 1) := by decide +kernel
theorem dX6_runCount_22 : decode cX6_runCount 22 = .ok (.getfield 10, 3) := by decide +kernel
theorem dX6_runCount_25 : decode cX6_runCount 25 = .ok (.aload_n 0, 1) := by decide +kernel
theorem dX6_runCount_26 : decode cX6_runCount 26 = .ok (.getfield 19, 3) := by decide +kernel
theorem dX6_runCount_29 : decode cX6_runCount 29 = .ok (.iload_n 1, 1) := by decide +kernel
theorem dX6_runCount_30 : decode cX6_runCount 30 = .ok (.iload_n 2, 1) := by decide +kernel
theorem dX6_runCount_31 : decode cX6_runCount 31 = .ok (.invokevirtual 168, 3) := by decide +kernel
theorem dX6_runCount_34 : decode cX6_runCount 34 = .ok (.ireturn, 1) := by decide +kernel
theorem jX6_runCount_X6 : ∀ w ∈ wsX60, w ∈ wsX6_runCount := by decide +kernel
abbrev w_X6_runCount (cI cO : ClassId) (aS : Nat → Nat) (aT : Nat → Nat) (aB : Nat → Nat) (aH : Nat → Nat) (aM : Nat → Nat) (aC : Nat → Nat) (aZ : Nat → Nat) (zS : CS) (zT : CS) (zB : CS) : ((CS)) → va_W := fun u => (wS cI aS aT aB aH aM aC aZ zS ++ (wT cI aT zT ++ (wB cI aB zB ++ (wC cI aC u))))
set_option maxRecDepth 100000 in
set_option maxHeartbeats 8000000 in
theorem mX6_runCount (l : Launch) (D : va_G) (cI cO : ClassId) (tA tS : Nat) (aS : Nat → Nat) (aT : Nat → Nat) (aB : Nat → Nat) (aH : Nat → Nat) (aM : Nat → Nat) (aC : Nat → Nat) (aZ : Nat → Nat) (zS : CS) (zT : CS) (zB : CS) (zC : CS) (x1 : Int32) (x2 : Int32) (sz : Nat) {post : Int32 → ((CS)) → Prop} (h : qX6_runCount post x1 x2 zS zT zB zC) : Met l yX6_runCount wsX6_runCount ({ frames := 4, cells := 0, slots := 0, locals := 93 } : Room) (xPre D cI cO tA tS [.ref (aS 0), .int x1, .int x2] (wS cI aS aT aB aH aM aC aZ zS ++ (wT cI aT zT ++ (wB cI aB zB ++ (wC cI aC zC)))) sz) (va_Qi post (xB D cI cO (va_A (wS cI aS aT aB aH aM aC aZ zS ++ (wT cI aT zT ++ (wB cI aB zB ++ (wC cI aC zC)))) sz) (w_X6_runCount cI cO aS aT aB aH aM aC aZ zS zT zB)) (va_A (wS cI aS aT aB aH aM aC aZ zS ++ (wT cI aT zT ++ (wB cI aB zB ++ (wC cI aC zC)))) sz)) 0 0 (va_A (wS cI aS aT aB aH aM aC aZ zS ++ (wT cI aT zT ++ (wB cI aB zB ++ (wC cI aC zC)))) sz) := by
  refine xMet D cI cO tA tS (fun A => va_Qi post (xB D cI cO A (w_X6_runCount cI cO aS aT aB aH aM aC aZ zS zT zB)) A) (cc := cX6_runCount) (maxL := 3) (ret := (some .int)) (by decide) rfl (Nat.le_of_ble_eq_true rfl) ?_
  intro p e s m below meth c A ls hx hb hr hts hown hlocks hin hml hA hS hP hK hD hE hl
  have hown : s.vm.findClass RX6 = some m.cls := hown
  have hl : lv_has ls 3 [(0, .ref (aS 0)), (1, .int x1), (2, .int x2)] := hl
  have g15 : ∀ (zC : CS) (H : Heap) (locs : List Loc) (ls : Array Slot), qX6_runCount_15 post x1 x2 zS zT zB zC → va_P D vwCl (wS cI aS aT aB aH aM aC aZ zS ++ (wT cI aT zT ++ (wB cI aB zB ++ (wC cI aC zC)))) H → va_D A (wS cI aS aT aB aH aM aC aZ zS ++ (wT cI aT zT ++ (wB cI aB zB ++ (wC cI aC zC)))) → va_S A s.heap H locs → lv_has ls 3 [(0, .ref (aS 0)), (1, .int x1), (2, .int x2)] → W p l e ({ frames := 4, cells := 0, slots := 0, locals := 93 } : Room) s m ([.ref (aS 0), .int x1, .int x2] : List Value).toArray below meth c H locs 0 0 (MQ below (va_Qi post (xB D cI cO A (w_X6_runCount cI cO aS aT aB aH aM aC aZ zS zT zB)) A) ([.ref (aS 0), .int x1, .int x2] : List Value).toArray s 0 0 A) (F0 m 15 ls []) := by
    intro zC H locs ls h hP hD hS hl
    refine lv_iconst (v := -1) hx hb dX6_runCount_15 (by decide) ?_
    exact xiret (w := (w_X6_runCount cI cO aS aT aB aH aM aC aZ zS zT zB)) (zC) hx hb hr hlocks h hP hK hD hS dX6_runCount_16
  refine lv_iload_n hx hb dX6_runCount_0 rfl (lv_at hl 1 rfl) ?_
  refine xcalli (wr := (wS cI aS aT aB aH aM aC aZ zS ++ (wT cI aT zT ++ (wB cI aB zB ++ (wC cI aC zC))))) (w2 := fun (u1 : Unit) => (wS cI aS aT aB aH aM aC aZ zS ++ (wT cI aT zT ++ (wB cI aB zB ++ (wC cI aC zC))))) (va_runS (As := [.int x1]) (rest := []) ⟨hx, hb, hml, hown, hts⟩ (mX6_isTree l D cI cO tA tS x1 _ h) (va_cwS 1 hts gX6_runCount_X6_isTree rfl rfl rfl (by decide +kernel) ⟨Nat.le_of_ble_eq_true rfl, Nat.le_of_ble_eq_true rfl⟩) (xpreP hP hD hS hA hK hE [] rfl rfl) rfl rfl hl.1 rfl (lv_room (Nat.le_of_ble_eq_true rfl)) dX6_runCount_1 ⟨Nat.le_refl 0, Nat.le_refl 0⟩) hP hD hS hA [] [0, 1, 2, 3, 4, 5, 6, 7, 8, 9, 10, 11, 12, 13, 14] [0, 1, 2, 3, 4, 5, 6, 7, 8, 9, 10, 11, 12, 13, 14] rfl rfl rfl (by decide) rfl (fun _ => rfl) (fun r1 u1 H locs h hP hD hS => ?_)
  obtain ⟨hh1, hh2⟩ := h
  refine lv_if_eq (tgt := 15) hx hb dX6_runCount_4 (by decide) (fun hc => ?_) (fun hc => ?_)
  · have h := hh1 hc
    exact g15 zC _ _ _ h hP hD hS hl
  · have h := hh2 hc
    refine lv_aload_n hx hb dX6_runCount_7 rfl (lv_at hl 0 rfl) ?_
    refine lv_iload_n hx hb dX6_runCount_8 rfl (lv_at hl 2 rfl) ?_
    refine xcalli (wr := (wT cI aT zT ++ (wB cI aB zB ++ (wC cI aC zC)))) (w2 := fun (u9 : Unit) => (wS cI aS aT aB aH aM aC aZ zS ++ (wT cI aT zT ++ (wB cI aB zB ++ (wC cI aC zC))))) (va_runV (As := [.int x2]) (rest := []) ⟨hx, hb, hml, hown, hts⟩ (mX6_isState l D cI cO tA tS aS aT aB aH aM aC aZ zS x2 _ h) (cwV 1 hts gX6_runCount_X6_isState rfl rfl rfl (by decide +kernel) ⟨Nat.le_of_ble_eq_true rfl, Nat.le_of_ble_eq_true rfl⟩) (xpreV hP hD hS hA hK hE [0, 1] rfl rfl 6 0 rfl rfl) rfl rfl hl.1 rfl (lv_room (Nat.le_of_ble_eq_true rfl)) dX6_runCount_9 ⟨Nat.le_refl 0, Nat.le_refl 0⟩) hP hD hS hA [0, 1] [2, 3, 4, 5, 6, 7, 8, 9, 10, 11, 12, 13, 14] [13, 14, 0, 1, 2, 3, 4, 5, 6, 7, 8, 9, 10, 11, 12] rfl rfl rfl (by decide) rfl (fun _ => rfl) (fun r9 u9 H locs h hP hD hS => ?_)
    obtain ⟨hh1, hh2⟩ := h
    refine lv_if_ne (tgt := 17) hx hb dX6_runCount_12 (by decide) (fun hc => ?_) (fun hc => ?_)
    · have h := hh2 hc
      refine lv_aload_n hx hb dX6_runCount_17 rfl (lv_at hl 0 rfl) ?_
      refine va_get (D := D) (ci := 6) (v := .ref (aC 0)) (C := RX6) (T := TX6) (N := 10) hx hb hts jX6_runCount_X6 hown hK hP 0 rfl rfl 4 (by decide) (hts (.fieldLink RX6 40 "BrotherAutomata" "runCounter" "LBrotherAutomata$RunCounter;") (List.mem_of_getElem? (i := 1) rfl)) (fun _ h9 => h9) rfl dX6_runCount_18 ?_
      refine lv_aload_n hx hb dX6_runCount_21 rfl (lv_at hl 0 rfl) ?_
      refine va_get (D := D) (ci := 6) (v := .ref (aT 0)) (C := RX6) (T := TX6) (N := 10) hx hb hts jX6_runCount_X6 hown hK hP 0 rfl rfl 0 (by decide) (hts (.fieldLink RX6 10 "BrotherAutomata" "trees" "LBrotherAutomata$SmallTrees;") (List.mem_of_getElem? (i := 2) rfl)) (fun _ h9 => h9) rfl dX6_runCount_22 ?_
      refine lv_aload_n hx hb dX6_runCount_25 rfl (lv_at hl 0 rfl) ?_
      refine va_get (D := D) (ci := 6) (v := .ref (aB 0)) (C := RX6) (T := TX6) (N := 10) hx hb hts jX6_runCount_X6 hown hK hP 0 rfl rfl 1 (by decide) (hts (.fieldLink RX6 19 "BrotherAutomata" "book" "LBrotherAutomata$RuleBook;") (List.mem_of_getElem? (i := 3) rfl)) (fun _ h9 => h9) rfl dX6_runCount_26 ?_
      refine lv_iload_n hx hb dX6_runCount_29 rfl (lv_at hl 1 rfl) ?_
      refine lv_iload_n hx hb dX6_runCount_30 rfl (lv_at hl 2 rfl) ?_
      refine xcalli (wr := (wS cI aS aT aB aH aM aC aZ zS)) (w2 := fun (u31 : (CS)) => (wS cI aS aT aB aH aM aC aZ zS ++ (wT cI aT zT ++ (wB cI aB zB ++ (wC cI aC u31))))) (va_runV (As := [.ref (aT 0), .ref (aB 0), .int x1, .int x2]) (rest := []) ⟨hx, hb, hml, hown, hts⟩ (mX4_count l D cI cO tA tS aT aB aC zT zB zC x1 x2 _ h) (cwV 4 hts gX6_runCount_X4_count rfl rfl rfl (by decide +kernel) ⟨Nat.le_of_ble_eq_true rfl, Nat.le_of_ble_eq_true rfl⟩) (xpreV hP hD hS hA hK hE [2, 3, 4, 5, 6, 7, 8, 9, 10, 11, 12, 13, 14] rfl rfl 4 11 rfl rfl) rfl rfl hl.1 rfl (lv_room (Nat.le_of_ble_eq_true rfl)) dX6_runCount_31 ⟨Nat.le_refl 0, Nat.le_refl 0⟩) hP hD hS hA [2, 3, 4, 5, 6, 7, 8, 9, 10, 11, 12, 13, 14] [0, 1] [0, 1, 2, 3, 4, 5, 6, 7, 8, 9, 10, 11, 12, 13, 14] rfl rfl rfl (by decide) rfl (fun _ => rfl) (fun r31 u31 H locs h hP hD hS => ?_)
      exact xiret (w := (w_X6_runCount cI cO aS aT aB aH aM aC aZ zS zT zB)) (u31) hx hb hr hlocks h hP hK hD hS dX6_runCount_34
    · have h := hh1 hc
      exact g15 zC _ _ _ h hP hD hS hl
set_option maxRecDepth 20000 in
theorem ggX6_acceptedCount_X6_isSize : GoodIn wsX6_acceptedCount wsX6_isSize := goodIn_r _ [5] (by decide +kernel) (by decide +kernel)
set_option maxRecDepth 20000 in
theorem gX6_acceptedCount_X6_isSize : GoodIn wsX6_acceptedCount (va_wsS RX6 128 yX6_isSize wsX6_isSize) := goodIn_app (goodIn_of _ (by decide +kernel)) ggX6_acceptedCount_X6_isSize
set_option maxRecDepth 20000 in
theorem ggX6_acceptedCount_X6_isAccepted : GoodIn wsX6_acceptedCount wsX6_isAccepted := goodIn_r _ [9, 10, 11, 12, 13, 4, 14, 15, 16, 17, 18, 19, 20, 21, 22, 23, 24, 25, 26, 27, 28, 29, 30, 31, 32, 33, 34, 35, 36, 37, 38, 39, 40, 41, 42, 43, 44, 45, 46, 47, 48, 49, 50, 51, 52, 53, 54, 55, 56, 57, 58, 59, 60, 61, 62, 63, 64, 65, 66, 67, 68, 69] (by decide +kernel) (by decide +kernel)
set_option maxRecDepth 20000 in
theorem gX6_acceptedCount_X6_isAccepted : GoodIn wsX6_acceptedCount (wsV RX6 165 RX6 yX6_isAccepted wsX6_isAccepted) := goodIn_app (goodIn_of _ (by decide +kernel)) ggX6_acceptedCount_X6_isAccepted
theorem dX6_acceptedCount_0 : decode cX6_acceptedCount 0 = .ok (.iload_n 1, 1) := by decide +kernel
theorem dX6_acceptedCount_1 : decode cX6_acceptedCount 1 = .ok (.invokestatic 128, 3) := by decide +kernel
theorem dX6_acceptedCount_4 : decode cX6_acceptedCount 4 = .ok (.ifCond .ne 5, 3) := by decide +kernel
theorem dX6_acceptedCount_7 : decode cX6_acceptedCount 7 = .ok (.iconst (-1), 1) := by decide +kernel
theorem dX6_acceptedCount_8 : decode cX6_acceptedCount 8 = .ok (.ireturn, 1) := by decide +kernel
theorem dX6_acceptedCount_9 : decode cX6_acceptedCount 9 = .ok (.iconst 0, 1) := by decide +kernel
theorem dX6_acceptedCount_10 : decode cX6_acceptedCount 10 = .ok (.istore_n 2, 1) := by decide +kernel
theorem dX6_acceptedCount_11 : decode cX6_acceptedCount 11 = .ok (.getstatic 131, 3) := by decide +kernel
theorem dX6_acceptedCount_14 : decode cX6_acceptedCount 14 = .ok (.iload_n 1, 1) := by decide +kernel
theorem dX6_acceptedCount_15 : decode cX6_acceptedCount 15 = .ok (.iaload, 1) := by decide +kernel
theorem dX6_acceptedCount_16 : decode cX6_acceptedCount 16 = .ok (.istore_n 3, 1) := by decide +kernel
theorem dX6_acceptedCount_17 : decode cX6_acceptedCount 17 = .ok (.iload_n 3, 1) := by decide +kernel
theorem dX6_acceptedCount_18 : decode cX6_acceptedCount 18 = .ok (.getstatic 131, 3) := by decide +kernel
theorem dX6_acceptedCount_21 : decode cX6_acceptedCount 21 = .ok (.iload_n 1, 1) := by decide +kernel
theorem dX6_acceptedCount_22 : decode cX6_acceptedCount 22 = .ok (.iconst 1, 1) := by decide +kernel
theorem dX6_acceptedCount_23 : decode cX6_acceptedCount 23 = .ok (.iadd, 1) := by decide +kernel
theorem dX6_acceptedCount_24 : decode cX6_acceptedCount 24 = .ok (.iaload, 1) := by decide +kernel
theorem dX6_acceptedCount_25 : decode cX6_acceptedCount 25 = .ok (.if_icmp .ge 20, 3) := by decide +kernel
theorem dX6_acceptedCount_28 : decode cX6_acceptedCount 28 = .ok (.aload_n 0, 1) := by decide +kernel
theorem dX6_acceptedCount_29 : decode cX6_acceptedCount 29 = .ok (.iload_n 3, 1) := by decide +kernel
theorem dX6_acceptedCount_30 : decode cX6_acceptedCount 30 = .ok (.invokevirtual 165, 3) := by decide +kernel
theorem dX6_acceptedCount_33 : decode cX6_acceptedCount 33 = .ok (.ifCond .eq 6, 3) := by decide +kernel
theorem dX6_acceptedCount_36 : decode cX6_acceptedCount 36 = .ok (.iinc 2 1, 3) := by decide +kernel
theorem dX6_acceptedCount_39 : decode cX6_acceptedCount 39 = .ok (.iinc 3 1, 3) := by decide +kernel
theorem dX6_acceptedCount_42 : decode cX6_acceptedCount 42 = .ok (.goto (-25), 3) := by decide +kernel
theorem dX6_acceptedCount_45 : decode cX6_acceptedCount 45 = .ok (.iload_n 2, 1) := by decide +kernel
theorem dX6_acceptedCount_46 : decode cX6_acceptedCount 46 = .ok (.ireturn, 1) := by decide +kernel
abbrev w_X6_acceptedCount (cI cO : ClassId) (aS : Nat → Nat) (aT : Nat → Nat) (aB : Nat → Nat) (aH : Nat → Nat) (aM : Nat → Nat) (aC : Nat → Nat) (aZ : Nat → Nat) (zT : CS) (zB : CS) (zM : CS) : ((CS)) → va_W := fun u => (wS cI aS aT aB aH aM aC aZ u ++ (wT cI aT zT ++ (wB cI aB zB ++ (wM cI aM zM))))
set_option maxRecDepth 100000 in
set_option maxHeartbeats 8000000 in
theorem mX6_acceptedCount (l : Launch) (D : va_G) (cI cO : ClassId) (tA tS : Nat) (aS : Nat → Nat) (aT : Nat → Nat) (aB : Nat → Nat) (aH : Nat → Nat) (aM : Nat → Nat) (aC : Nat → Nat) (aZ : Nat → Nat) (zS : CS) (zT : CS) (zB : CS) (zM : CS) (x1 : Int32) (sz : Nat) {post : Int32 → ((CS)) → Prop} (h : qX6_acceptedCount post x1 zS zT zB zM) : Met l yX6_acceptedCount wsX6_acceptedCount ({ frames := 3, cells := 0, slots := 0, locals := 71 } : Room) (xPre D cI cO tA tS [.ref (aS 0), .int x1] (wS cI aS aT aB aH aM aC aZ zS ++ (wT cI aT zT ++ (wB cI aB zB ++ (wM cI aM zM)))) sz) (va_Qi post (xB D cI cO (va_A (wS cI aS aT aB aH aM aC aZ zS ++ (wT cI aT zT ++ (wB cI aB zB ++ (wM cI aM zM)))) sz) (w_X6_acceptedCount cI cO aS aT aB aH aM aC aZ zT zB zM)) (va_A (wS cI aS aT aB aH aM aC aZ zS ++ (wT cI aT zT ++ (wB cI aB zB ++ (wM cI aM zM)))) sz)) 0 0 (va_A (wS cI aS aT aB aH aM aC aZ zS ++ (wT cI aT zT ++ (wB cI aB zB ++ (wM cI aM zM)))) sz) := by
  refine xMet D cI cO tA tS (fun A => va_Qi post (xB D cI cO A (w_X6_acceptedCount cI cO aS aT aB aH aM aC aZ zT zB zM)) A) (cc := cX6_acceptedCount) (maxL := 4) (ret := (some .int)) (by decide) rfl (Nat.le_of_ble_eq_true rfl) ?_
  intro p e s m below meth c A ls hx hb hr hts hown hlocks hin hml hA hS hP hK hD hE hl
  have hown : s.vm.findClass RX6 = some m.cls := hown
  have hl : lv_has ls 4 [(0, .ref (aS 0)), (1, .int x1)] := hl
  have g39 : ∀ (k17 : (Int32) → (Int32) → (CS) → Prop), (∀ (y2 : Int32) (y3 : Int32) (zS : CS) (H : Heap) (locs : List Loc) (ls : Array Slot), k17 y2 y3 zS → va_P D vwCl (wS cI aS aT aB aH aM aC aZ zS ++ (wT cI aT zT ++ (wB cI aB zB ++ (wM cI aM zM)))) H → va_D A (wS cI aS aT aB aH aM aC aZ zS ++ (wT cI aT zT ++ (wB cI aB zB ++ (wM cI aM zM)))) → va_S A s.heap H locs → lv_has ls 4 [(3, .int y3), (2, .int y2), (0, .ref (aS 0)), (1, .int x1)] → W p l e ({ frames := 3, cells := 0, slots := 0, locals := 71 } : Room) s m ([.ref (aS 0), .int x1] : List Value).toArray below meth c H locs 0 0 (MQ below (va_Qi post (xB D cI cO A (w_X6_acceptedCount cI cO aS aT aB aH aM aC aZ zT zB zM)) A) ([.ref (aS 0), .int x1] : List Value).toArray s 0 0 A) (F0 m 17 ls [])) → ∀ (y2 : Int32) (y3 : Int32) (zS : CS) (H : Heap) (locs : List Loc) (ls : Array Slot), qX6_acceptedCount_39 post x1 zT zB zM k17 y2 y3 zS → va_P D vwCl (wS cI aS aT aB aH aM aC aZ zS ++ (wT cI aT zT ++ (wB cI aB zB ++ (wM cI aM zM)))) H → va_D A (wS cI aS aT aB aH aM aC aZ zS ++ (wT cI aT zT ++ (wB cI aB zB ++ (wM cI aM zM)))) → va_S A s.heap H locs → lv_has ls 4 [(3, .int y3), (2, .int y2), (0, .ref (aS 0)), (1, .int x1)] → W p l e ({ frames := 3, cells := 0, slots := 0, locals := 71 } : Room) s m ([.ref (aS 0), .int x1] : List Value).toArray below meth c H locs 0 0 (MQ below (va_Qi post (xB D cI cO A (w_X6_acceptedCount cI cO aS aT aB aH aM aC aZ zT zB zM)) A) ([.ref (aS 0), .int x1] : List Value).toArray s 0 0 A) (F0 m 39 ls []) := by
    intro k17 hk17 y2 y3 zS H locs ls h hP hD hS hl
    refine lv_iinc (v := (y3 + (1 : Int32))) (lv' := [(3, .int (y3 + (1 : Int32))), (2, .int y2), (0, .ref (aS 0)), (1, .int x1)]) hx hb dX6_acceptedCount_39 hl (k := 0) rfl rfl (by decide) rfl (fun ls hl => ?_)
    refine lv_goto (tgt := 17) hx hb dX6_acceptedCount_42 (by decide) ?_
    exact hk17 y2 (y3 + (1 : Int32)) zS _ _ _ h hP hD hS hl
  have g17 : ∀ (n : Nat) (y2 : Int32) (y3 : Int32) (zS : CS) (H : Heap) (locs : List Loc) (ls : Array Slot), qX6_acceptedCount_17 post x1 zT zB zM n y2 y3 zS → va_P D vwCl (wS cI aS aT aB aH aM aC aZ zS ++ (wT cI aT zT ++ (wB cI aB zB ++ (wM cI aM zM)))) H → va_D A (wS cI aS aT aB aH aM aC aZ zS ++ (wT cI aT zT ++ (wB cI aB zB ++ (wM cI aM zM)))) → va_S A s.heap H locs → lv_has ls 4 [(3, .int y3), (2, .int y2), (0, .ref (aS 0)), (1, .int x1)] → W p l e ({ frames := 3, cells := 0, slots := 0, locals := 71 } : Room) s m ([.ref (aS 0), .int x1] : List Value).toArray below meth c H locs 0 0 (MQ below (va_Qi post (xB D cI cO A (w_X6_acceptedCount cI cO aS aT aB aH aM aC aZ zT zB zM)) A) ([.ref (aS 0), .int x1] : List Value).toArray s 0 0 A) (F0 m 17 ls []) := by
    intro n
    induction n with
    | zero => intro y2 y3 zS H locs ls h; exact False.elim h
    | succ n hk17 =>
      intro y2 y3 zS H locs ls h hP hD hS hl
      have h : qX6_acceptedCount_17b post x1 zT zB zM (qX6_acceptedCount_17 post x1 zT zB zM n) y2 y3 zS := h
      refine lv_iload_n hx hb dX6_acceptedCount_17 rfl (lv_at hl 0 rfl) ?_
      refine va_gets hx hb hE.2.2.2.1 hS hown (hts (.fieldLink RX6 131 "BrotherAutomata" "START" "[I") (List.mem_of_getElem? (i := 1) rfl)) (fun _ h9 => h9) dX6_acceptedCount_18 ?_
      refine lv_iload_n hx hb dX6_acceptedCount_21 rfl (lv_at hl 3 rfl) ?_
      refine lv_iconst (v := 1) hx hb dX6_acceptedCount_22 (by decide) ?_
      refine lv_iadd hx hb dX6_acceptedCount_23 ?_
      obtain ⟨hi, h⟩ := h
      refine va_ti (v := .int (xst (x1 + (1 : Int32)).toNatClampNeg)) hx hb hE.2.2.2.2 hS hi rfl dX6_acceptedCount_24 ?_
      obtain ⟨hh1, hh2⟩ := h
      refine lv_icmp_ge (tgt := 45) hx hb dX6_acceptedCount_25 (by decide) (fun hc => ?_) (fun hc => ?_)
      · have h := hh1 hc
        refine lv_iload_n hx hb dX6_acceptedCount_45 rfl (lv_at hl 1 rfl) ?_
        exact xiret (w := (w_X6_acceptedCount cI cO aS aT aB aH aM aC aZ zT zB zM)) (zS) hx hb hr hlocks h hP hK hD hS dX6_acceptedCount_46
      · have h := hh2 hc
        refine lv_aload_n hx hb dX6_acceptedCount_28 rfl (lv_at hl 2 rfl) ?_
        refine lv_iload_n hx hb dX6_acceptedCount_29 rfl (lv_at hl 0 rfl) ?_
        refine xcalli (wr := ([] : va_W)) (w2 := fun (u30 : (CS)) => (wS cI aS aT aB aH aM aC aZ u30 ++ (wT cI aT zT ++ (wB cI aB zB ++ (wM cI aM zM))))) (va_runV (As := [.int y3]) (rest := []) ⟨hx, hb, hml, hown, hts⟩ (mX6_isAccepted l D cI cO tA tS aS aT aB aH aM aC aZ zS zT zB zM y3 _ h) (cwV 1 hts gX6_acceptedCount_X6_isAccepted rfl rfl rfl (by decide +kernel) ⟨Nat.le_of_ble_eq_true rfl, Nat.le_of_ble_eq_true rfl⟩) (xpreV hP hD hS hA hK hE [0, 1, 2, 3, 4, 5, 6, 7, 8, 9, 10, 11, 12, 13, 14, 15] rfl rfl 6 0 rfl rfl) rfl rfl hl.1 rfl (lv_room (Nat.le_of_ble_eq_true rfl)) dX6_acceptedCount_30 ⟨Nat.le_refl 0, Nat.le_refl 0⟩) hP hD hS hA [0, 1, 2, 3, 4, 5, 6, 7, 8, 9, 10, 11, 12, 13, 14, 15] [] [0, 1, 2, 3, 4, 5, 6, 7, 8, 9, 10, 11, 12, 13, 14, 15] rfl rfl rfl (by decide) rfl (fun _ => rfl) (fun r30 u30 H locs h hP hD hS => ?_)
        obtain ⟨hh1, hh2⟩ := h
        refine lv_if_eq (tgt := 39) hx hb dX6_acceptedCount_33 (by decide) (fun hc => ?_) (fun hc => ?_)
        · have h := hh1 hc
          exact g39 (qX6_acceptedCount_17 post x1 zT zB zM n) hk17 y2 y3 u30 _ _ _ h hP hD hS hl
        · have h := hh2 hc
          refine lv_iinc (v := (y2 + (1 : Int32))) (lv' := [(2, .int (y2 + (1 : Int32))), (3, .int y3), (0, .ref (aS 0)), (1, .int x1)]) hx hb dX6_acceptedCount_36 hl (k := 1) rfl rfl (by decide) rfl (fun ls hl => ?_)
          exact g39 (qX6_acceptedCount_17 post x1 zT zB zM n) hk17 (y2 + (1 : Int32)) y3 u30 _ _ _ h hP hD hS (lv_sub hl [1, 0, 2, 3] rfl)
  refine lv_iload_n hx hb dX6_acceptedCount_0 rfl (lv_at hl 1 rfl) ?_
  refine xcalli (wr := (wS cI aS aT aB aH aM aC aZ zS ++ (wT cI aT zT ++ (wB cI aB zB ++ (wM cI aM zM))))) (w2 := fun (u1 : Unit) => (wS cI aS aT aB aH aM aC aZ zS ++ (wT cI aT zT ++ (wB cI aB zB ++ (wM cI aM zM))))) (va_runS (As := [.int x1]) (rest := []) ⟨hx, hb, hml, hown, hts⟩ (mX6_isSize l D cI cO tA tS x1 _ h) (va_cwS 1 hts gX6_acceptedCount_X6_isSize rfl rfl rfl (by decide +kernel) ⟨Nat.le_of_ble_eq_true rfl, Nat.le_of_ble_eq_true rfl⟩) (xpreP hP hD hS hA hK hE [] rfl rfl) rfl rfl hl.1 rfl (lv_room (Nat.le_of_ble_eq_true rfl)) dX6_acceptedCount_1 ⟨Nat.le_refl 0, Nat.le_refl 0⟩) hP hD hS hA [] [0, 1, 2, 3, 4, 5, 6, 7, 8, 9, 10, 11, 12, 13, 14, 15] [0, 1, 2, 3, 4, 5, 6, 7, 8, 9, 10, 11, 12, 13, 14, 15] rfl rfl rfl (by decide) rfl (fun _ => rfl) (fun r1 u1 H locs h hP hD hS => ?_)
  obtain ⟨hh1, hh2⟩ := h
  refine lv_if_ne (tgt := 9) hx hb dX6_acceptedCount_4 (by decide) (fun hc => ?_) (fun hc => ?_)
  · have h := hh2 hc
    refine lv_iconst (v := 0) hx hb dX6_acceptedCount_9 (by decide) ?_
    refine lv_istore_n (lv' := [(2, .int (0 : Int32)), (0, .ref (aS 0)), (1, .int x1)]) hx hb dX6_acceptedCount_10 rfl hl (by decide) rfl (fun ls hl => ?_)
    refine va_gets hx hb hE.2.2.2.1 hS hown (hts (.fieldLink RX6 131 "BrotherAutomata" "START" "[I") (List.mem_of_getElem? (i := 1) rfl)) (fun _ h9 => h9) dX6_acceptedCount_11 ?_
    refine lv_iload_n hx hb dX6_acceptedCount_14 rfl (lv_at hl 2 rfl) ?_
    obtain ⟨hi, h⟩ := h
    refine va_ti (v := .int (xst x1.toNatClampNeg)) hx hb hE.2.2.2.2 hS hi rfl dX6_acceptedCount_15 ?_
    refine lv_istore_n (lv' := [(3, .int (xst x1.toNatClampNeg)), (2, .int (0 : Int32)), (0, .ref (aS 0)), (1, .int x1)]) hx hb dX6_acceptedCount_16 rfl hl (by decide) rfl (fun ls hl => ?_)
    obtain ⟨n0, h⟩ := h
    exact g17 n0 (0 : Int32) (xst x1.toNatClampNeg) zS _ _ _ h hP hD hS hl
  · have h := hh1 hc
    refine lv_iconst (v := -1) hx hb dX6_acceptedCount_7 (by decide) ?_
    exact xiret (w := (w_X6_acceptedCount cI cO aS aT aB aH aM aC aZ zT zB zM)) (zS) hx hb hr hlocks h hP hK hD hS dX6_acceptedCount_8
set_option maxRecDepth 20000 in
theorem ggX6_acceptedTree_X6_isSize : GoodIn wsX6_acceptedTree wsX6_isSize := goodIn_r _ [5] (by decide +kernel) (by decide +kernel)
set_option maxRecDepth 20000 in
theorem gX6_acceptedTree_X6_isSize : GoodIn wsX6_acceptedTree (va_wsS RX6 128 yX6_isSize wsX6_isSize) := goodIn_app (goodIn_of _ (by decide +kernel)) ggX6_acceptedTree_X6_isSize
set_option maxRecDepth 20000 in
theorem ggX6_acceptedTree_X6_isAccepted : GoodIn wsX6_acceptedTree wsX6_isAccepted := goodIn_r _ [9, 10, 11, 12, 13, 4, 14, 15, 16, 17, 18, 19, 20, 21, 22, 23, 24, 25, 26, 27, 28, 29, 30, 31, 32, 33, 34, 35, 36, 37, 38, 39, 40, 41, 42, 43, 44, 45, 46, 47, 48, 49, 50, 51, 52, 53, 54, 55, 56, 57, 58, 59, 60, 61, 62, 63, 64, 65, 66, 67, 68, 69] (by decide +kernel) (by decide +kernel)
set_option maxRecDepth 20000 in
theorem gX6_acceptedTree_X6_isAccepted : GoodIn wsX6_acceptedTree (wsV RX6 165 RX6 yX6_isAccepted wsX6_isAccepted) := goodIn_app (goodIn_of _ (by decide +kernel)) ggX6_acceptedTree_X6_isAccepted
theorem dX6_acceptedTree_0 : decode cX6_acceptedTree 0 = .ok (.iload_n 1, 1) := by decide +kernel
theorem dX6_acceptedTree_1 : decode cX6_acceptedTree 1 = .ok (.invokestatic 128, 3) := by decide +kernel
theorem dX6_acceptedTree_4 : decode cX6_acceptedTree 4 = .ok (.ifCond .eq 7, 3) := by decide +kernel
theorem dX6_acceptedTree_7 : decode cX6_acceptedTree 7 = .ok (.iload_n 2, 1) := by decide +kernel
theorem dX6_acceptedTree_8 : decode cX6_acceptedTree 8 = .ok (.ifCond .ge 5, 3) := by decide +kernel
theorem dX6_acceptedTree_11 : decode cX6_acceptedTree 11 = .ok (.iconst (-1), 1) := by decide +kernel
theorem dX6_acceptedTree_12 : decode cX6_acceptedTree 12 = .ok (.ireturn, 1) := by decide +kernel
theorem dX6_acceptedTree_13 : decode cX6_acceptedTree 13 = .ok (.iconst 0, 1) := by decide +kernel
theorem dX6_acceptedTree_14 : decode cX6_acceptedTree 14 = .ok (.istore_n 3, 1) := by decide +kernel
theorem dX6_acceptedTree_15 : decode cX6_acceptedTree 15 = .ok (.getstatic 131, 3) := by decide +kernel
theorem dX6_acceptedTree_18 : decode cX6_acceptedTree 18 = .ok (.iload_n 1, 1) := by decide +kernel
theorem dX6_acceptedTree_19 : decode cX6_acceptedTree 19 = .ok (.iaload, 1) := by decide +kernel
theorem dX6_acceptedTree_20 : decode cX6_acceptedTree 20 = .ok (.istore 4, 2) := by decide +kernel
theorem dX6_acceptedTree_22 : decode cX6_acceptedTree 22 = .ok (.iload 4, 2) := by decide +kernel
theorem dX6_acceptedTree_24 : decode cX6_acceptedTree 24 = .ok (.getstatic 131, 3) := by decide +kernel
theorem dX6_acceptedTree_27 : decode cX6_acceptedTree 27 = .ok (.iload_n 1, 1) := by decide +kernel
theorem dX6_acceptedTree_28 : decode cX6_acceptedTree 28 = .ok (.iconst 1, 1) := by decide +kernel
theorem dX6_acceptedTree_29 : decode cX6_acceptedTree 29 = .ok (.iadd, 1) := by decide +kernel
theorem dX6_acceptedTree_30 : decode cX6_acceptedTree 30 = .ok (.iaload, 1) := by decide +kernel
theorem dX6_acceptedTree_31 : decode cX6_acceptedTree 31 = .ok (.if_icmp .ge 29, 3) := by decide +kernel
theorem dX6_acceptedTree_34 : decode cX6_acceptedTree 34 = .ok (.aload_n 0, 1) := by decide +kernel
theorem dX6_acceptedTree_35 : decode cX6_acceptedTree 35 = .ok (.iload 4, 2) := by decide +kernel
theorem dX6_acceptedTree_37 : decode cX6_acceptedTree 37 = .ok (.invokevirtual 165, 3) := by decide +kernel
theorem dX6_acceptedTree_40 : decode cX6_acceptedTree 40 = .ok (.ifCond .eq 14, 3) := by decide +kernel
theorem dX6_acceptedTree_43 : decode cX6_acceptedTree 43 = .ok (.iload_n 3, 1) := by decide +kernel
theorem dX6_acceptedTree_44 : decode cX6_acceptedTree 44 = .ok (.iload_n 2, 1) := by decide +kernel
theorem dX6_acceptedTree_45 : decode cX6_acceptedTree 45 = .ok (.if_icmp .ne 6, 3) := by decide +kernel
theorem dX6_acceptedTree_48 : decode cX6_acceptedTree 48 = .ok (.iload 4, 2) := by decide +kernel
theorem dX6_acceptedTree_50 : decode cX6_acceptedTree 50 = .ok (.ireturn, 1) := by decide +kernel
theorem dX6_acceptedTree_51 : decode cX6_acceptedTree 51 = .ok (.iinc 3 1, 3) := by decide +kernel
theorem dX6_acceptedTree_54 : decode cX6_acceptedTree 54 = .ok (.iinc 4 1, 3) := by decide +kernel
theorem dX6_acceptedTree_57 : decode cX6_acceptedTree 57 = .ok (.goto (-35), 3) := by decide +kernel
theorem dX6_acceptedTree_60 : decode cX6_acceptedTree 60 = .ok (.bipush (-3), 2) := by decide +kernel
theorem dX6_acceptedTree_62 : decode cX6_acceptedTree 62 = .ok (.ireturn, 1) := by decide +kernel
abbrev w_X6_acceptedTree (cI cO : ClassId) (aS : Nat → Nat) (aT : Nat → Nat) (aB : Nat → Nat) (aH : Nat → Nat) (aM : Nat → Nat) (aC : Nat → Nat) (aZ : Nat → Nat) (zT : CS) (zB : CS) (zM : CS) : ((CS)) → va_W := fun u => (wS cI aS aT aB aH aM aC aZ u ++ (wT cI aT zT ++ (wB cI aB zB ++ (wM cI aM zM))))
set_option maxRecDepth 100000 in
set_option maxHeartbeats 8000000 in
theorem mX6_acceptedTree (l : Launch) (D : va_G) (cI cO : ClassId) (tA tS : Nat) (aS : Nat → Nat) (aT : Nat → Nat) (aB : Nat → Nat) (aH : Nat → Nat) (aM : Nat → Nat) (aC : Nat → Nat) (aZ : Nat → Nat) (zS : CS) (zT : CS) (zB : CS) (zM : CS) (x1 : Int32) (x2 : Int32) (sz : Nat) {post : Int32 → ((CS)) → Prop} (h : qX6_acceptedTree post x1 x2 zS zT zB zM) : Met l yX6_acceptedTree wsX6_acceptedTree ({ frames := 3, cells := 0, slots := 0, locals := 71 } : Room) (xPre D cI cO tA tS [.ref (aS 0), .int x1, .int x2] (wS cI aS aT aB aH aM aC aZ zS ++ (wT cI aT zT ++ (wB cI aB zB ++ (wM cI aM zM)))) sz) (va_Qi post (xB D cI cO (va_A (wS cI aS aT aB aH aM aC aZ zS ++ (wT cI aT zT ++ (wB cI aB zB ++ (wM cI aM zM)))) sz) (w_X6_acceptedTree cI cO aS aT aB aH aM aC aZ zT zB zM)) (va_A (wS cI aS aT aB aH aM aC aZ zS ++ (wT cI aT zT ++ (wB cI aB zB ++ (wM cI aM zM)))) sz)) 0 0 (va_A (wS cI aS aT aB aH aM aC aZ zS ++ (wT cI aT zT ++ (wB cI aB zB ++ (wM cI aM zM)))) sz) := by
  refine xMet D cI cO tA tS (fun A => va_Qi post (xB D cI cO A (w_X6_acceptedTree cI cO aS aT aB aH aM aC aZ zT zB zM)) A) (cc := cX6_acceptedTree) (maxL := 5) (ret := (some .int)) (by decide) rfl (Nat.le_of_ble_eq_true rfl) ?_
  intro p e s m below meth c A ls hx hb hr hts hown hlocks hin hml hA hS hP hK hD hE hl
  have hown : s.vm.findClass RX6 = some m.cls := hown
  have hl : lv_has ls 5 [(0, .ref (aS 0)), (1, .int x1), (2, .int x2)] := hl
  have g54 : ∀ (k22 : (Int32) → (Int32) → (CS) → Prop), (∀ (y3 : Int32) (y4 : Int32) (zS : CS) (H : Heap) (locs : List Loc) (ls : Array Slot), k22 y3 y4 zS → va_P D vwCl (wS cI aS aT aB aH aM aC aZ zS ++ (wT cI aT zT ++ (wB cI aB zB ++ (wM cI aM zM)))) H → va_D A (wS cI aS aT aB aH aM aC aZ zS ++ (wT cI aT zT ++ (wB cI aB zB ++ (wM cI aM zM)))) → va_S A s.heap H locs → lv_has ls 5 [(4, .int y4), (3, .int y3), (0, .ref (aS 0)), (1, .int x1), (2, .int x2)] → W p l e ({ frames := 3, cells := 0, slots := 0, locals := 71 } : Room) s m ([.ref (aS 0), .int x1, .int x2] : List Value).toArray below meth c H locs 0 0 (MQ below (va_Qi post (xB D cI cO A (w_X6_acceptedTree cI cO aS aT aB aH aM aC aZ zT zB zM)) A) ([.ref (aS 0), .int x1, .int x2] : List Value).toArray s 0 0 A) (F0 m 22 ls [])) → ∀ (y3 : Int32) (y4 : Int32) (zS : CS) (H : Heap) (locs : List Loc) (ls : Array Slot), qX6_acceptedTree_54 post x1 x2 zT zB zM k22 y3 y4 zS → va_P D vwCl (wS cI aS aT aB aH aM aC aZ zS ++ (wT cI aT zT ++ (wB cI aB zB ++ (wM cI aM zM)))) H → va_D A (wS cI aS aT aB aH aM aC aZ zS ++ (wT cI aT zT ++ (wB cI aB zB ++ (wM cI aM zM)))) → va_S A s.heap H locs → lv_has ls 5 [(4, .int y4), (3, .int y3), (0, .ref (aS 0)), (1, .int x1), (2, .int x2)] → W p l e ({ frames := 3, cells := 0, slots := 0, locals := 71 } : Room) s m ([.ref (aS 0), .int x1, .int x2] : List Value).toArray below meth c H locs 0 0 (MQ below (va_Qi post (xB D cI cO A (w_X6_acceptedTree cI cO aS aT aB aH aM aC aZ zT zB zM)) A) ([.ref (aS 0), .int x1, .int x2] : List Value).toArray s 0 0 A) (F0 m 54 ls []) := by
    intro k22 hk22 y3 y4 zS H locs ls h hP hD hS hl
    refine lv_iinc (v := (y4 + (1 : Int32))) (lv' := [(4, .int (y4 + (1 : Int32))), (3, .int y3), (0, .ref (aS 0)), (1, .int x1), (2, .int x2)]) hx hb dX6_acceptedTree_54 hl (k := 0) rfl rfl (by decide) rfl (fun ls hl => ?_)
    refine lv_goto (tgt := 22) hx hb dX6_acceptedTree_57 (by decide) ?_
    exact hk22 y3 (y4 + (1 : Int32)) zS _ _ _ h hP hD hS hl
  have g22 : ∀ (n : Nat) (y3 : Int32) (y4 : Int32) (zS : CS) (H : Heap) (locs : List Loc) (ls : Array Slot), qX6_acceptedTree_22 post x1 x2 zT zB zM n y3 y4 zS → va_P D vwCl (wS cI aS aT aB aH aM aC aZ zS ++ (wT cI aT zT ++ (wB cI aB zB ++ (wM cI aM zM)))) H → va_D A (wS cI aS aT aB aH aM aC aZ zS ++ (wT cI aT zT ++ (wB cI aB zB ++ (wM cI aM zM)))) → va_S A s.heap H locs → lv_has ls 5 [(4, .int y4), (3, .int y3), (0, .ref (aS 0)), (1, .int x1), (2, .int x2)] → W p l e ({ frames := 3, cells := 0, slots := 0, locals := 71 } : Room) s m ([.ref (aS 0), .int x1, .int x2] : List Value).toArray below meth c H locs 0 0 (MQ below (va_Qi post (xB D cI cO A (w_X6_acceptedTree cI cO aS aT aB aH aM aC aZ zT zB zM)) A) ([.ref (aS 0), .int x1, .int x2] : List Value).toArray s 0 0 A) (F0 m 22 ls []) := by
    intro n
    induction n with
    | zero => intro y3 y4 zS H locs ls h; exact False.elim h
    | succ n hk22 =>
      intro y3 y4 zS H locs ls h hP hD hS hl
      have h : qX6_acceptedTree_22b post x1 x2 zT zB zM (qX6_acceptedTree_22 post x1 x2 zT zB zM n) y3 y4 zS := h
      refine lv_iload hx hb dX6_acceptedTree_22 (lv_at hl 0 rfl) ?_
      refine va_gets hx hb hE.2.2.2.1 hS hown (hts (.fieldLink RX6 131 "BrotherAutomata" "START" "[I") (List.mem_of_getElem? (i := 1) rfl)) (fun _ h9 => h9) dX6_acceptedTree_24 ?_
      refine lv_iload_n hx hb dX6_acceptedTree_27 rfl (lv_at hl 3 rfl) ?_
      refine lv_iconst (v := 1) hx hb dX6_acceptedTree_28 (by decide) ?_
      refine lv_iadd hx hb dX6_acceptedTree_29 ?_
      obtain ⟨hi, h⟩ := h
      refine va_ti (v := .int (xst (x1 + (1 : Int32)).toNatClampNeg)) hx hb hE.2.2.2.2 hS hi rfl dX6_acceptedTree_30 ?_
      obtain ⟨hh1, hh2⟩ := h
      refine lv_icmp_ge (tgt := 60) hx hb dX6_acceptedTree_31 (by decide) (fun hc => ?_) (fun hc => ?_)
      · have h := hh1 hc
        refine lv_bipush (v := -3) hx hb dX6_acceptedTree_60 (by decide) ?_
        exact xiret (w := (w_X6_acceptedTree cI cO aS aT aB aH aM aC aZ zT zB zM)) (zS) hx hb hr hlocks h hP hK hD hS dX6_acceptedTree_62
      · have h := hh2 hc
        refine lv_aload_n hx hb dX6_acceptedTree_34 rfl (lv_at hl 2 rfl) ?_
        refine lv_iload hx hb dX6_acceptedTree_35 (lv_at hl 0 rfl) ?_
        refine xcalli (wr := ([] : va_W)) (w2 := fun (u37 : (CS)) => (wS cI aS aT aB aH aM aC aZ u37 ++ (wT cI aT zT ++ (wB cI aB zB ++ (wM cI aM zM))))) (va_runV (As := [.int y4]) (rest := []) ⟨hx, hb, hml, hown, hts⟩ (mX6_isAccepted l D cI cO tA tS aS aT aB aH aM aC aZ zS zT zB zM y4 _ h) (cwV 1 hts gX6_acceptedTree_X6_isAccepted rfl rfl rfl (by decide +kernel) ⟨Nat.le_of_ble_eq_true rfl, Nat.le_of_ble_eq_true rfl⟩) (xpreV hP hD hS hA hK hE [0, 1, 2, 3, 4, 5, 6, 7, 8, 9, 10, 11, 12, 13, 14, 15] rfl rfl 6 0 rfl rfl) rfl rfl hl.1 rfl (lv_room (Nat.le_of_ble_eq_true rfl)) dX6_acceptedTree_37 ⟨Nat.le_refl 0, Nat.le_refl 0⟩) hP hD hS hA [0, 1, 2, 3, 4, 5, 6, 7, 8, 9, 10, 11, 12, 13, 14, 15] [] [0, 1, 2, 3, 4, 5, 6, 7, 8, 9, 10, 11, 12, 13, 14, 15] rfl rfl rfl (by decide) rfl (fun _ => rfl) (fun r37 u37 H locs h hP hD hS => ?_)
        obtain ⟨hh1, hh2⟩ := h
        refine lv_if_eq (tgt := 54) hx hb dX6_acceptedTree_40 (by decide) (fun hc => ?_) (fun hc => ?_)
        · have h := hh1 hc
          exact g54 (qX6_acceptedTree_22 post x1 x2 zT zB zM n) hk22 y3 y4 u37 _ _ _ h hP hD hS hl
        · have h := hh2 hc
          refine lv_iload_n hx hb dX6_acceptedTree_43 rfl (lv_at hl 1 rfl) ?_
          refine lv_iload_n hx hb dX6_acceptedTree_44 rfl (lv_at hl 4 rfl) ?_
          obtain ⟨hh1, hh2⟩ := h
          refine lv_icmp_ne (tgt := 51) hx hb dX6_acceptedTree_45 (by decide) (fun hc => ?_) (fun hc => ?_)
          · have h := hh2 hc
            refine lv_iinc (v := (y3 + (1 : Int32))) (lv' := [(3, .int (y3 + (1 : Int32))), (4, .int y4), (0, .ref (aS 0)), (1, .int x1), (2, .int x2)]) hx hb dX6_acceptedTree_51 hl (k := 1) rfl rfl (by decide) rfl (fun ls hl => ?_)
            exact g54 (qX6_acceptedTree_22 post x1 x2 zT zB zM n) hk22 (y3 + (1 : Int32)) y4 u37 _ _ _ h hP hD hS (lv_sub hl [1, 0, 2, 3, 4] rfl)
          · have h := hh1 hc
            refine lv_iload hx hb dX6_acceptedTree_48 (lv_at hl 0 rfl) ?_
            exact xiret (w := (w_X6_acceptedTree cI cO aS aT aB aH aM aC aZ zT zB zM)) (u37) hx hb hr hlocks h hP hK hD hS dX6_acceptedTree_50
  have g11 : ∀ (zS : CS) (H : Heap) (locs : List Loc) (ls : Array Slot), qX6_acceptedTree_11 post x1 x2 zT zB zM zS → va_P D vwCl (wS cI aS aT aB aH aM aC aZ zS ++ (wT cI aT zT ++ (wB cI aB zB ++ (wM cI aM zM)))) H → va_D A (wS cI aS aT aB aH aM aC aZ zS ++ (wT cI aT zT ++ (wB cI aB zB ++ (wM cI aM zM)))) → va_S A s.heap H locs → lv_has ls 5 [(0, .ref (aS 0)), (1, .int x1), (2, .int x2)] → W p l e ({ frames := 3, cells := 0, slots := 0, locals := 71 } : Room) s m ([.ref (aS 0), .int x1, .int x2] : List Value).toArray below meth c H locs 0 0 (MQ below (va_Qi post (xB D cI cO A (w_X6_acceptedTree cI cO aS aT aB aH aM aC aZ zT zB zM)) A) ([.ref (aS 0), .int x1, .int x2] : List Value).toArray s 0 0 A) (F0 m 11 ls []) := by
    intro zS H locs ls h hP hD hS hl
    refine lv_iconst (v := -1) hx hb dX6_acceptedTree_11 (by decide) ?_
    exact xiret (w := (w_X6_acceptedTree cI cO aS aT aB aH aM aC aZ zT zB zM)) (zS) hx hb hr hlocks h hP hK hD hS dX6_acceptedTree_12
  refine lv_iload_n hx hb dX6_acceptedTree_0 rfl (lv_at hl 1 rfl) ?_
  refine xcalli (wr := (wS cI aS aT aB aH aM aC aZ zS ++ (wT cI aT zT ++ (wB cI aB zB ++ (wM cI aM zM))))) (w2 := fun (u1 : Unit) => (wS cI aS aT aB aH aM aC aZ zS ++ (wT cI aT zT ++ (wB cI aB zB ++ (wM cI aM zM))))) (va_runS (As := [.int x1]) (rest := []) ⟨hx, hb, hml, hown, hts⟩ (mX6_isSize l D cI cO tA tS x1 _ h) (va_cwS 1 hts gX6_acceptedTree_X6_isSize rfl rfl rfl (by decide +kernel) ⟨Nat.le_of_ble_eq_true rfl, Nat.le_of_ble_eq_true rfl⟩) (xpreP hP hD hS hA hK hE [] rfl rfl) rfl rfl hl.1 rfl (lv_room (Nat.le_of_ble_eq_true rfl)) dX6_acceptedTree_1 ⟨Nat.le_refl 0, Nat.le_refl 0⟩) hP hD hS hA [] [0, 1, 2, 3, 4, 5, 6, 7, 8, 9, 10, 11, 12, 13, 14, 15] [0, 1, 2, 3, 4, 5, 6, 7, 8, 9, 10, 11, 12, 13, 14, 15] rfl rfl rfl (by decide) rfl (fun _ => rfl) (fun r1 u1 H locs h hP hD hS => ?_)
  obtain ⟨hh1, hh2⟩ := h
  refine lv_if_eq (tgt := 11) hx hb dX6_acceptedTree_4 (by decide) (fun hc => ?_) (fun hc => ?_)
  · have h := hh1 hc
    exact g11 zS _ _ _ h hP hD hS hl
  · have h := hh2 hc
    refine lv_iload_n hx hb dX6_acceptedTree_7 rfl (lv_at hl 2 rfl) ?_
    obtain ⟨hh1, hh2⟩ := h
    refine lv_if_ge (tgt := 13) hx hb dX6_acceptedTree_8 (by decide) (fun hc => ?_) (fun hc => ?_)
    · have h := hh1 hc
      refine lv_iconst (v := 0) hx hb dX6_acceptedTree_13 (by decide) ?_
      refine lv_istore_n (lv' := [(3, .int (0 : Int32)), (0, .ref (aS 0)), (1, .int x1), (2, .int x2)]) hx hb dX6_acceptedTree_14 rfl hl (by decide) rfl (fun ls hl => ?_)
      refine va_gets hx hb hE.2.2.2.1 hS hown (hts (.fieldLink RX6 131 "BrotherAutomata" "START" "[I") (List.mem_of_getElem? (i := 1) rfl)) (fun _ h9 => h9) dX6_acceptedTree_15 ?_
      refine lv_iload_n hx hb dX6_acceptedTree_18 rfl (lv_at hl 2 rfl) ?_
      obtain ⟨hi, h⟩ := h
      refine va_ti (v := .int (xst x1.toNatClampNeg)) hx hb hE.2.2.2.2 hS hi rfl dX6_acceptedTree_19 ?_
      refine lv_istore (lv' := [(4, .int (xst x1.toNatClampNeg)), (3, .int (0 : Int32)), (0, .ref (aS 0)), (1, .int x1), (2, .int x2)]) hx hb dX6_acceptedTree_20 hl (by decide) rfl (fun ls hl => ?_)
      obtain ⟨n0, h⟩ := h
      exact g22 n0 (0 : Int32) (xst x1.toNatClampNeg) zS _ _ _ h hP hD hS hl
    · have h := hh2 hc
      exact g11 zS _ _ _ h hP hD hS hl
