set_option maxRecDepth 20000 in
theorem ggX6_renewRuns_X3_build : GoodIn wsX6_renewRuns wsX3_build := goodIn_r _ [9, 10, 11, 12, 13, 14, 15, 16, 17, 18, 19, 20, 21, 8, 22, 23, 24, 25, 26, 37, 38, 39, 40, 41, 42, 43, 44, 45, 46, 47, 48, 49] (by decide +kernel) (by decide +kernel)
set_option maxRecDepth 20000 in
theorem gX6_renewRuns_X3_build : GoodIn wsX6_renewRuns (wsV RX6 194 RX3 yX3_build wsX3_build) := goodIn_app (goodIn_of _ (by decide +kernel)) ggX6_renewRuns_X3_build
theorem dX6_renewRuns_0 : decode cX6_renewRuns 0 = .ok (.aload_n 0, 1) := by decide +kernel
theorem dX6_renewRuns_1 : decode cX6_renewRuns 1 = .ok (.getfield 33, 3) := by decide +kernel
theorem dX6_renewRuns_4 : decode cX6_renewRuns 4 = .ok (.aload_n 0, 1) := by decide +kernel
theorem dX6_renewRuns_5 : decode cX6_renewRuns 5 = .ok (.getfield 19, 3) := by decide +kernel
theorem dX6_renewRuns_8 : decode cX6_renewRuns 8 = .ok (.invokevirtual 194, 3) := by decide +kernel
theorem dX6_renewRuns_11 : decode cX6_renewRuns 11 = .ok (.aload_n 0, 1) := by decide +kernel
theorem dX6_renewRuns_12 : decode cX6_renewRuns 12 = .ok (.iconst 0, 1) := by decide +kernel
theorem dX6_renewRuns_13 : decode cX6_renewRuns 13 = .ok (.putfield 55, 3) := by decide +kernel
theorem dX6_renewRuns_16 : decode cX6_renewRuns 16 = .ok (.aload_n 0, 1) := by decide +kernel
theorem dX6_renewRuns_17 : decode cX6_renewRuns 17 = .ok (.iconst 0, 1) := by decide +kernel
theorem dX6_renewRuns_18 : decode cX6_renewRuns 18 = .ok (.putfield 59, 3) := by decide +kernel
theorem dX6_renewRuns_21 : decode cX6_renewRuns 21 = .ok (.return_, 1) := by decide +kernel
theorem jX6_renewRuns_X6 : ∀ w ∈ wsX60, w ∈ wsX6_renewRuns := by decide +kernel
abbrev w_X6_renewRuns (cI cO : ClassId) (aS : Nat → Nat) (aT : Nat → Nat) (aB : Nat → Nat) (aH : Nat → Nat) (aM : Nat → Nat) (aC : Nat → Nat) (aZ : Nat → Nat) (zB : CS) : ((CS) × (CS)) → va_W := fun u => (wS cI aS aT aB aH aM aC aZ u.1 ++ (wB cI aB zB ++ (wM cI aM u.2)))
set_option maxRecDepth 100000 in
set_option maxHeartbeats 8000000 in
theorem mX6_renewRuns (l : Launch) (D : va_G) (cI cO : ClassId) (tA tS : Nat) (aS : Nat → Nat) (aT : Nat → Nat) (aB : Nat → Nat) (aH : Nat → Nat) (aM : Nat → Nat) (aC : Nat → Nat) (aZ : Nat → Nat) (zS : CS) (zB : CS) (zM : CS)  (sz : Nat) {post : ((CS) × (CS)) → Prop} (h : qX6_renewRuns post zS zB zM) : Met l yX6_renewRuns wsX6_renewRuns ({ frames := 2, cells := 0, slots := 0, locals := 47 } : Room) (xPre D cI cO tA tS [.ref (aS 0)] (wS cI aS aT aB aH aM aC aZ zS ++ (wB cI aB zB ++ (wM cI aM zM))) sz) (va_Qv post (xB D cI cO (va_A (wS cI aS aT aB aH aM aC aZ zS ++ (wB cI aB zB ++ (wM cI aM zM))) sz) (w_X6_renewRuns cI cO aS aT aB aH aM aC aZ zB)) (va_A (wS cI aS aT aB aH aM aC aZ zS ++ (wB cI aB zB ++ (wM cI aM zM))) sz)) 0 0 (va_A (wS cI aS aT aB aH aM aC aZ zS ++ (wB cI aB zB ++ (wM cI aM zM))) sz) := by
  refine xMet D cI cO tA tS (fun A => va_Qv post (xB D cI cO A (w_X6_renewRuns cI cO aS aT aB aH aM aC aZ zB)) A) (cc := cX6_renewRuns) (maxL := 1) (ret := none) (by decide) rfl (Nat.le_of_ble_eq_true rfl) ?_
  intro p e s m below meth c A ls hx hb hr hts hown hlocks hin hml hA hS hP hK hD hE hl
  have hown : s.vm.findClass RX6 = some m.cls := hown
  have hl : lv_has ls 1 [(0, .ref (aS 0))] := hl
  refine lv_aload_n hx hb dX6_renewRuns_0 rfl (lv_at hl 0 rfl) ?_
  refine va_get (D := D) (ci := 6) (v := .ref (aM 0)) (C := RX6) (T := TX6) (N := 10) hx hb hts jX6_renewRuns_X6 hown hK hP 0 rfl rfl 3 (by decide) (hts (.fieldLink RX6 33 "BrotherAutomata" "masks" "LBrotherAutomata$RuleMasks;") (List.mem_of_getElem? (i := 1) rfl)) (fun _ h9 => h9) rfl dX6_renewRuns_1 ?_
  refine lv_aload_n hx hb dX6_renewRuns_4 rfl (lv_at hl 0 rfl) ?_
  refine va_get (D := D) (ci := 6) (v := .ref (aB 0)) (C := RX6) (T := TX6) (N := 10) hx hb hts jX6_renewRuns_X6 hown hK hP 0 rfl rfl 1 (by decide) (hts (.fieldLink RX6 19 "BrotherAutomata" "book" "LBrotherAutomata$RuleBook;") (List.mem_of_getElem? (i := 2) rfl)) (fun _ h9 => h9) rfl dX6_renewRuns_5 ?_
  refine xcallv (wr := (wS cI aS aT aB aH aM aC aZ zS)) (w2 := fun (u8 : (CS)) => (wS cI aS aT aB aH aM aC aZ zS ++ (wB cI aB zB ++ (wM cI aM u8)))) (va_runV (As := [.ref (aB 0)]) (rest := []) ⟨hx, hb, hml, hown, hts⟩ (mX3_build l D cI cO tA tS aB aM zB zM _ h) (cwV 1 hts gX6_renewRuns_X3_build rfl rfl rfl (by decide +kernel) ⟨Nat.le_of_ble_eq_true rfl, Nat.le_of_ble_eq_true rfl⟩) (xpreV hP hD hS hA hK hE [2, 3, 4, 5, 6, 7, 8, 9, 10, 11, 12] rfl rfl 3 8 rfl rfl) rfl rfl hl.1 rfl (lv_room (Nat.le_of_ble_eq_true rfl)) dX6_renewRuns_8 ⟨Nat.le_refl 0, Nat.le_refl 0⟩) hP hD hS hA [2, 3, 4, 5, 6, 7, 8, 9, 10, 11, 12] [0, 1] [0, 1, 2, 3, 4, 5, 6, 7, 8, 9, 10, 11, 12] rfl rfl rfl (by decide) rfl (fun _ => rfl) (fun u8 H locs h hP hD hS => ?_)
  refine lv_aload_n hx hb dX6_renewRuns_11 rfl (lv_at hl 0 rfl) ?_
  refine lv_iconst (v := 0) hx hb dX6_renewRuns_12 (by decide) ?_
  refine va_put (D := D) (ci := 6) (v := .int (0 : Int32)) (ty := .int) (C := RX6) (T := TX6) (N := 10) hx hb hts jX6_renewRuns_X6 tyX6 tyX6_ok nmX6 hown hK hP hD hS 0 rfl rfl 7 (by decide) (hts (.fieldLink RX6 55 "BrotherAutomata" "subsetsKnown" "I") (List.mem_of_getElem? (i := 3) rfl)) (fun _ h9 => h9) rfl (by decide +kernel) rfl rfl (Nat.le_of_ble_eq_true rfl) dX6_renewRuns_13 (fun H locs hP hD hS => ?_)
  have hP : va_P D vwCl (wS cI aS aT aB aH aM aC aZ (st zS 1 0 (0 : Int32)) ++ (wB cI aB zB ++ (wM cI aM u8))) H := hP
  have hD : va_D A (wS cI aS aT aB aH aM aC aZ (st zS 1 0 (0 : Int32)) ++ (wB cI aB zB ++ (wM cI aM u8))) := hD
  refine lv_aload_n hx hb dX6_renewRuns_16 rfl (lv_at hl 0 rfl) ?_
  refine lv_iconst (v := 0) hx hb dX6_renewRuns_17 (by decide) ?_
  refine va_put (D := D) (ci := 6) (v := .int (0 : Int32)) (ty := .boolean) (C := RX6) (T := TX6) (N := 10) hx hb hts jX6_renewRuns_X6 tyX6 tyX6_ok nmX6 hown hK hP hD hS 0 rfl rfl 8 (by decide) (hts (.fieldLink RX6 59 "BrotherAutomata" "censusKnown" "Z") (List.mem_of_getElem? (i := 4) rfl)) (fun _ h9 => h9) rfl (by decide +kernel) rfl rfl (Nat.le_of_ble_eq_true rfl) dX6_renewRuns_18 (fun H locs hP hD hS => ?_)
  have hP : va_P D vwCl (wS cI aS aT aB aH aM aC aZ (st (st zS 1 0 (0 : Int32)) 1 1 (0 : Int32)) ++ (wB cI aB zB ++ (wM cI aM u8))) H := hP
  have hD : va_D A (wS cI aS aT aB aH aM aC aZ (st (st zS 1 0 (0 : Int32)) 1 1 (0 : Int32)) ++ (wB cI aB zB ++ (wM cI aM u8))) := hD
  exact xvret (w := (w_X6_renewRuns cI cO aS aT aB aH aM aC aZ zB)) (st (st zS 1 0 (0 : Int32)) 1 1 (0 : Int32), u8) hx hb hr hlocks h hP hK hD hS dX6_renewRuns_21
set_option maxRecDepth 20000 in
theorem ggX6_reset_X2_clear : GoodIn wsX6_reset wsX2_clear := goodIn_r _ [8, 9, 10, 58, 59, 60, 61, 62, 63, 64] (by decide +kernel) (by decide +kernel)
set_option maxRecDepth 20000 in
theorem gX6_reset_X2_clear : GoodIn wsX6_reset (wsV RX6 66 RX2 yX2_clear wsX2_clear) := goodIn_app (goodIn_of _ (by decide +kernel)) ggX6_reset_X2_clear
set_option maxRecDepth 20000 in
theorem ggX6_reset_X1_forget : GoodIn wsX6_reset wsX1_forget := goodIn_r _ [15, 16, 17, 65, 66, 67] (by decide +kernel) (by decide +kernel)
set_option maxRecDepth 20000 in
theorem gX6_reset_X1_forget : GoodIn wsX6_reset (wsV RX6 69 RX1 yX1_forget wsX1_forget) := goodIn_app (goodIn_of _ (by decide +kernel)) ggX6_reset_X1_forget
set_option maxRecDepth 20000 in
theorem ggX6_reset_X6_renewRuns : GoodIn wsX6_reset wsX6_renewRuns := goodIn_r _ [22, 23, 2, 24, 25, 26, 27, 28, 29, 30, 31, 32, 33, 34, 35, 36, 37, 38, 39, 40, 41, 42, 43, 44, 45, 46, 47, 48, 49, 50, 51, 52, 53, 54, 55, 56, 57, 68, 69, 70, 71, 72, 73, 58, 59, 60, 61, 62, 63, 64] (by decide +kernel) (by decide +kernel)
set_option maxRecDepth 20000 in
theorem gX6_reset_X6_renewRuns : GoodIn wsX6_reset (wsV RX6 72 RX6 yX6_renewRuns wsX6_renewRuns) := goodIn_app (goodIn_of _ (by decide +kernel)) ggX6_reset_X6_renewRuns
theorem dX6_reset_0 : decode cX6_reset 0 = .ok (.iload_n 1, 1) := by decide +kernel
theorem dX6_reset_1 : decode cX6_reset 1 = .ok (.iconst 1, 1) := by decide +kernel
theorem dX6_reset_2 : decode cX6_reset 2 = .ok (.if_icmp .lt 9, 3) := by decide +kernel
theorem dX6_reset_5 : decode cX6_reset 5 = .ok (.iload_n 1, 1) := by decide +kernel
theorem dX6_reset_6 : decode cX6_reset 6 = .ok (.bipush 6, 2) := by decide +kernel
theorem dX6_reset_8 : decode cX6_reset 8 = .ok (.if_icmp .le 5, 3) := by decide +kernel
theorem dX6_reset_11 : decode cX6_reset 11 = .ok (.iconst (-1), 1) := by decide +kernel
theorem dX6_reset_12 : decode cX6_reset 12 = .ok (.ireturn, 1) := by decide +kernel
theorem dX6_reset_13 : decode cX6_reset 13 = .ok (.aload_n 0, 1) := by decide +kernel
theorem dX6_reset_14 : decode cX6_reset 14 = .ok (.getfield 63, 3) := by decide +kernel
theorem dX6_reset_17 : decode cX6_reset 17 = .ok (.istore_n 2, 1) := by decide +kernel
theorem dX6_reset_18 : decode cX6_reset 18 = .ok (.aload_n 0, 1) := by decide +kernel
theorem dX6_reset_19 : decode cX6_reset 19 = .ok (.iload_n 1, 1) := by decide +kernel
theorem dX6_reset_20 : decode cX6_reset 20 = .ok (.putfield 63, 3) := by decide +kernel
theorem dX6_reset_23 : decode cX6_reset 23 = .ok (.aload_n 0, 1) := by decide +kernel
theorem dX6_reset_24 : decode cX6_reset 24 = .ok (.getfield 19, 3) := by decide +kernel
theorem dX6_reset_27 : decode cX6_reset 27 = .ok (.invokevirtual 66, 3) := by decide +kernel
theorem dX6_reset_30 : decode cX6_reset 30 = .ok (.aload_n 0, 1) := by decide +kernel
theorem dX6_reset_31 : decode cX6_reset 31 = .ok (.getfield 26, 3) := by decide +kernel
theorem dX6_reset_34 : decode cX6_reset 34 = .ok (.invokevirtual 69, 3) := by decide +kernel
theorem dX6_reset_37 : decode cX6_reset 37 = .ok (.aload_n 0, 1) := by decide +kernel
theorem dX6_reset_38 : decode cX6_reset 38 = .ok (.invokevirtual 72, 3) := by decide +kernel
theorem dX6_reset_41 : decode cX6_reset 41 = .ok (.iload_n 2, 1) := by decide +kernel
theorem dX6_reset_42 : decode cX6_reset 42 = .ok (.ireturn, 1) := by decide +kernel
theorem jX6_reset_X6 : ∀ w ∈ wsX60, w ∈ wsX6_reset := by decide +kernel
abbrev w_X6_reset (cI cO : ClassId) (aS : Nat → Nat) (aT : Nat → Nat) (aB : Nat → Nat) (aH : Nat → Nat) (aM : Nat → Nat) (aC : Nat → Nat) (aZ : Nat → Nat) (aR : Nat → Nat → Nat)  : ((CS) × (CS) × (CS) × (CS)) → va_W := fun u => (wS cI aS aT aB aH aM aC aZ u.1 ++ (wB cI aB u.2.1 ++ (wH cO aH aR u.2.2.1 ++ (wM cI aM u.2.2.2))))
set_option maxRecDepth 100000 in
set_option maxHeartbeats 8000000 in
theorem mX6_reset (l : Launch) (D : va_G) (cI cO : ClassId) (tA tS : Nat) (aS : Nat → Nat) (aT : Nat → Nat) (aB : Nat → Nat) (aH : Nat → Nat) (aM : Nat → Nat) (aC : Nat → Nat) (aZ : Nat → Nat) (aR : Nat → Nat → Nat) (zS : CS) (zB : CS) (zH : CS) (zM : CS) (x1 : Int32) (sz : Nat) {post : Int32 → ((CS) × (CS) × (CS) × (CS)) → Prop} (h : qX6_reset post x1 zS zB zH zM) : Met l yX6_reset wsX6_reset ({ frames := 3, cells := 0, slots := 0, locals := 67 } : Room) (xPre D cI cO tA tS [.ref (aS 0), .int x1] (wS cI aS aT aB aH aM aC aZ zS ++ (wB cI aB zB ++ (wH cO aH aR zH ++ (wM cI aM zM)))) sz) (va_Qi post (xB D cI cO (va_A (wS cI aS aT aB aH aM aC aZ zS ++ (wB cI aB zB ++ (wH cO aH aR zH ++ (wM cI aM zM)))) sz) (w_X6_reset cI cO aS aT aB aH aM aC aZ aR)) (va_A (wS cI aS aT aB aH aM aC aZ zS ++ (wB cI aB zB ++ (wH cO aH aR zH ++ (wM cI aM zM)))) sz)) 0 0 (va_A (wS cI aS aT aB aH aM aC aZ zS ++ (wB cI aB zB ++ (wH cO aH aR zH ++ (wM cI aM zM)))) sz) := by
  refine xMet D cI cO tA tS (fun A => va_Qi post (xB D cI cO A (w_X6_reset cI cO aS aT aB aH aM aC aZ aR)) A) (cc := cX6_reset) (maxL := 3) (ret := (some .int)) (by decide) rfl (Nat.le_of_ble_eq_true rfl) ?_
  intro p e s m below meth c A ls hx hb hr hts hown hlocks hin hml hA hS hP hK hD hE hl
  have hown : s.vm.findClass RX6 = some m.cls := hown
  have hl : lv_has ls 3 [(0, .ref (aS 0)), (1, .int x1)] := hl
  have g11 : ∀ (zS : CS) (zB : CS) (zH : CS) (zM : CS) (H : Heap) (locs : List Loc) (ls : Array Slot), qX6_reset_11 post x1 zS zB zH zM → va_P D vwCl (wS cI aS aT aB aH aM aC aZ zS ++ (wB cI aB zB ++ (wH cO aH aR zH ++ (wM cI aM zM)))) H → va_D A (wS cI aS aT aB aH aM aC aZ zS ++ (wB cI aB zB ++ (wH cO aH aR zH ++ (wM cI aM zM)))) → va_S A s.heap H locs → lv_has ls 3 [(0, .ref (aS 0)), (1, .int x1)] → W p l e ({ frames := 3, cells := 0, slots := 0, locals := 67 } : Room) s m ([.ref (aS 0), .int x1] : List Value).toArray below meth c H locs 0 0 (MQ below (va_Qi post (xB D cI cO A (w_X6_reset cI cO aS aT aB aH aM aC aZ aR)) A) ([.ref (aS 0), .int x1] : List Value).toArray s 0 0 A) (F0 m 11 ls []) := by
    intro zS zB zH zM H locs ls h hP hD hS hl
    refine lv_iconst (v := -1) hx hb dX6_reset_11 (by decide) ?_
    exact xiret (w := (w_X6_reset cI cO aS aT aB aH aM aC aZ aR)) (zS, zB, zH, zM) hx hb hr hlocks h hP hK hD hS dX6_reset_12
  refine lv_iload_n hx hb dX6_reset_0 rfl (lv_at hl 1 rfl) ?_
  refine lv_iconst (v := 1) hx hb dX6_reset_1 (by decide) ?_
  obtain ⟨hh1, hh2⟩ := h
  refine lv_icmp_lt (tgt := 11) hx hb dX6_reset_2 (by decide) (fun hc => ?_) (fun hc => ?_)
  · have h := hh1 hc
    exact g11 zS zB zH zM _ _ _ h hP hD hS hl
  · have h := hh2 hc
    refine lv_iload_n hx hb dX6_reset_5 rfl (lv_at hl 1 rfl) ?_
    refine lv_bipush (v := 6) hx hb dX6_reset_6 (by decide) ?_
    obtain ⟨hh1, hh2⟩ := h
    refine lv_icmp_le (tgt := 13) hx hb dX6_reset_8 (by decide) (fun hc => ?_) (fun hc => ?_)
    · have h := hh1 hc
      refine lv_aload_n hx hb dX6_reset_13 rfl (lv_at hl 0 rfl) ?_
      refine va_get (D := D) (ci := 6) (v := .int (zS 1 2)) (C := RX6) (T := TX6) (N := 10) hx hb hts jX6_reset_X6 hown hK hP 0 rfl rfl 9 (by decide) (hts (.fieldLink RX6 63 "BrotherAutomata" "states" "I") (List.mem_of_getElem? (i := 1) rfl)) (fun _ h9 => h9) rfl dX6_reset_14 ?_
      refine lv_istore_n (lv' := [(2, .int (zS 1 2)), (0, .ref (aS 0)), (1, .int x1)]) hx hb dX6_reset_17 rfl hl (by decide) rfl (fun ls hl => ?_)
      refine lv_aload_n hx hb dX6_reset_18 rfl (lv_at hl 1 rfl) ?_
      refine lv_iload_n hx hb dX6_reset_19 rfl (lv_at hl 2 rfl) ?_
      refine va_put (D := D) (ci := 6) (v := .int x1) (ty := .int) (C := RX6) (T := TX6) (N := 10) hx hb hts jX6_reset_X6 tyX6 tyX6_ok nmX6 hown hK hP hD hS 0 rfl rfl 9 (by decide) (hts (.fieldLink RX6 63 "BrotherAutomata" "states" "I") (List.mem_of_getElem? (i := 1) rfl)) (fun _ h9 => h9) rfl (by decide +kernel) rfl rfl (Nat.le_of_ble_eq_true rfl) dX6_reset_20 (fun H locs hP hD hS => ?_)
      have hP : va_P D vwCl (wS cI aS aT aB aH aM aC aZ (st zS 1 2 x1) ++ (wB cI aB zB ++ (wH cO aH aR zH ++ (wM cI aM zM)))) H := hP
      have hD : va_D A (wS cI aS aT aB aH aM aC aZ (st zS 1 2 x1) ++ (wB cI aB zB ++ (wH cO aH aR zH ++ (wM cI aM zM)))) := hD
      refine lv_aload_n hx hb dX6_reset_23 rfl (lv_at hl 1 rfl) ?_
      refine va_get (D := D) (ci := 6) (v := .ref (aB 0)) (C := RX6) (T := TX6) (N := 10) hx hb hts jX6_reset_X6 hown hK hP 0 rfl rfl 1 (by decide) (hts (.fieldLink RX6 19 "BrotherAutomata" "book" "LBrotherAutomata$RuleBook;") (List.mem_of_getElem? (i := 2) rfl)) (fun _ h9 => h9) rfl dX6_reset_24 ?_
      refine xcallv (wr := (wS cI aS aT aB aH aM aC aZ (st zS 1 2 x1) ++ (wH cO aH aR zH ++ (wM cI aM zM)))) (w2 := fun (u27 : (CS)) => (wS cI aS aT aB aH aM aC aZ (st zS 1 2 x1) ++ (wB cI aB u27 ++ (wH cO aH aR zH ++ (wM cI aM zM))))) (va_runV (As := []) (rest := []) ⟨hx, hb, hml, hown, hts⟩ (mX2_clear l D cI cO tA tS aB zB _ h) (cwV 0 hts gX6_reset_X2_clear rfl rfl rfl (by decide +kernel) ⟨Nat.le_of_ble_eq_true rfl, Nat.le_of_ble_eq_true rfl⟩) (xpreV hP hD hS hA hK hE [2, 3, 4, 5, 6, 7] rfl rfl 2 2 rfl rfl) rfl rfl hl.1 rfl (lv_room (Nat.le_of_ble_eq_true rfl)) dX6_reset_27 ⟨Nat.le_refl 0, Nat.le_refl 0⟩) hP hD hS hA [2, 3, 4, 5, 6, 7] [0, 1, 8, 9, 10, 11, 12, 13, 14] [0, 1, 9, 10, 11, 12, 13, 14, 2, 3, 4, 5, 6, 7, 8] rfl rfl rfl (by decide) rfl (fun _ => rfl) (fun u27 H locs h hP hD hS => ?_)
      refine lv_aload_n hx hb dX6_reset_30 rfl (lv_at hl 1 rfl) ?_
      refine va_get (D := D) (ci := 6) (v := .ref (aH 0)) (C := RX6) (T := TX6) (N := 10) hx hb hts jX6_reset_X6 hown hK hP 0 rfl rfl 2 (by decide) (hts (.fieldLink RX6 26 "BrotherAutomata" "history" "LBrotherAutomata$History;") (List.mem_of_getElem? (i := 3) rfl)) (fun _ h9 => h9) rfl dX6_reset_31 ?_
      refine xcallv (wr := (wS cI aS aT aB aH aM aC aZ (st zS 1 2 x1) ++ (wB cI aB u27 ++ (wM cI aM zM)))) (w2 := fun (u34 : (CS)) => (wS cI aS aT aB aH aM aC aZ (st zS 1 2 x1) ++ (wB cI aB u27 ++ (wH cO aH aR u34 ++ (wM cI aM zM))))) (va_runV (As := []) (rest := []) ⟨hx, hb, hml, hown, hts⟩ (mX1_forget l D cI cO tA tS aH aR zH _ h) (cwV 0 hts gX6_reset_X1_forget rfl rfl rfl (by decide +kernel) ⟨Nat.le_of_ble_eq_true rfl, Nat.le_of_ble_eq_true rfl⟩) (xpreV hP hD hS hA hK hE [8, 9] rfl rfl 1 8 rfl rfl) rfl rfl hl.1 rfl (lv_room (Nat.le_of_ble_eq_true rfl)) dX6_reset_34 ⟨Nat.le_refl 0, Nat.le_refl 0⟩) hP hD hS hA [8, 9] [0, 1, 2, 3, 4, 5, 6, 7, 10, 11, 12, 13, 14] [0, 1, 2, 3, 4, 5, 6, 7, 13, 14, 8, 9, 10, 11, 12] rfl rfl rfl (by decide) rfl (fun _ => rfl) (fun u34 H locs h hP hD hS => ?_)
      refine lv_aload_n hx hb dX6_reset_37 rfl (lv_at hl 1 rfl) ?_
      refine xcallv (wr := (wH cO aH aR u34)) (w2 := fun (u38 : (CS) × (CS)) => (wS cI aS aT aB aH aM aC aZ u38.1 ++ (wB cI aB u27 ++ (wH cO aH aR u34 ++ (wM cI aM u38.2))))) (va_runV (As := []) (rest := []) ⟨hx, hb, hml, hown, hts⟩ (mX6_renewRuns l D cI cO tA tS aS aT aB aH aM aC aZ (st zS 1 2 x1) u27 zM _ h) (cwV 0 hts gX6_reset_X6_renewRuns rfl rfl rfl (by decide +kernel) ⟨Nat.le_of_ble_eq_true rfl, Nat.le_of_ble_eq_true rfl⟩) (xpreV hP hD hS hA hK hE [0, 1, 2, 3, 4, 5, 6, 7, 10, 11, 12, 13, 14] rfl rfl 6 0 rfl rfl) rfl rfl hl.1 rfl (lv_room (Nat.le_of_ble_eq_true rfl)) dX6_reset_38 ⟨Nat.le_refl 0, Nat.le_refl 0⟩) hP hD hS hA [0, 1, 2, 3, 4, 5, 6, 7, 10, 11, 12, 13, 14] [8, 9] [2, 3, 4, 5, 6, 7, 8, 9, 0, 1, 10, 11, 12, 13, 14] rfl rfl rfl (by decide) rfl (fun _ => rfl) (fun u38 H locs h hP hD hS => ?_)
      refine lv_iload_n hx hb dX6_reset_41 rfl (lv_at hl 0 rfl) ?_
      exact xiret (w := (w_X6_reset cI cO aS aT aB aH aM aC aZ aR)) (u38.1, u27, u34, u38.2) hx hb hr hlocks h hP hK hD hS dX6_reset_42
    · have h := hh2 hc
      exact g11 zS zB zH zM _ _ _ h hP hD hS hl
theorem dX6_isState_0 : decode cX6_isState 0 = .ok (.iload_n 1, 1) := by decide +kernel
theorem dX6_isState_1 : decode cX6_isState 1 = .ok (.ifCond .lt 15, 3) := by decide +kernel
theorem dX6_isState_4 : decode cX6_isState 4 = .ok (.iload_n 1, 1) := by decide +kernel
theorem dX6_isState_5 : decode cX6_isState 5 = .ok (.aload_n 0, 1) := by decide +kernel
theorem dX6_isState_6 : decode cX6_isState 6 = .ok (.getfield 63, 3) := by decide +kernel
theorem dX6_isState_9 : decode cX6_isState 9 = .ok (.if_icmp .ge 7, 3) := by decide +kernel
theorem dX6_isState_12 : decode cX6_isState 12 = .ok (.iconst 1, 1) := by decide +kernel
theorem dX6_isState_13 : decode cX6_isState 13 = .ok (.goto 4, 3) := by decide +kernel
theorem dX6_isState_16 : decode cX6_isState 16 = .ok (.iconst 0, 1) := by decide +kernel
theorem dX6_isState_17 : decode cX6_isState 17 = .ok (.ireturn, 1) := by decide +kernel
theorem jX6_isState_X6 : ∀ w ∈ wsX60, w ∈ wsX6_isState := by decide +kernel
abbrev w_X6_isState (cI cO : ClassId) (aS : Nat → Nat) (aT : Nat → Nat) (aB : Nat → Nat) (aH : Nat → Nat) (aM : Nat → Nat) (aC : Nat → Nat) (aZ : Nat → Nat) (zS : CS) : (Unit) → va_W := fun u => (wS cI aS aT aB aH aM aC aZ zS)
set_option maxRecDepth 100000 in
set_option maxHeartbeats 8000000 in
theorem mX6_isState (l : Launch) (D : va_G) (cI cO : ClassId) (tA tS : Nat) (aS : Nat → Nat) (aT : Nat → Nat) (aB : Nat → Nat) (aH : Nat → Nat) (aM : Nat → Nat) (aC : Nat → Nat) (aZ : Nat → Nat) (zS : CS) (x1 : Int32) (sz : Nat) {post : Int32 → (Unit) → Prop} (h : qX6_isState post x1 zS) : Met l yX6_isState wsX6_isState ({ frames := 0, cells := 0, slots := 0, locals := 0 } : Room) (xPre D cI cO tA tS [.ref (aS 0), .int x1] (wS cI aS aT aB aH aM aC aZ zS) sz) (va_Qi post (xB D cI cO (va_A (wS cI aS aT aB aH aM aC aZ zS) sz) (w_X6_isState cI cO aS aT aB aH aM aC aZ zS)) (va_A (wS cI aS aT aB aH aM aC aZ zS) sz)) 0 0 (va_A (wS cI aS aT aB aH aM aC aZ zS) sz) := by
  refine xMet D cI cO tA tS (fun A => va_Qi post (xB D cI cO A (w_X6_isState cI cO aS aT aB aH aM aC aZ zS)) A) (cc := cX6_isState) (maxL := 2) (ret := (some .boolean)) (by decide) rfl (Nat.le_of_ble_eq_true rfl) ?_
  intro p e s m below meth c A ls hx hb hr hts hown hlocks hin hml hA hS hP hK hD hE hl
  have hown : s.vm.findClass RX6 = some m.cls := hown
  have hl : lv_has ls 2 [(0, .ref (aS 0)), (1, .int x1)] := hl
  have g16 : ∀  (H : Heap) (locs : List Loc) (ls : Array Slot), qX6_isState_16 post x1 zS  → va_P D vwCl (wS cI aS aT aB aH aM aC aZ zS) H → va_D A (wS cI aS aT aB aH aM aC aZ zS) → va_S A s.heap H locs → lv_has ls 2 [(0, .ref (aS 0)), (1, .int x1)] → W p l e ({ frames := 0, cells := 0, slots := 0, locals := 0 } : Room) s m ([.ref (aS 0), .int x1] : List Value).toArray below meth c H locs 0 0 (MQ below (va_Qi post (xB D cI cO A (w_X6_isState cI cO aS aT aB aH aM aC aZ zS)) A) ([.ref (aS 0), .int x1] : List Value).toArray s 0 0 A) (F0 m 16 ls []) := by
    intro  H locs ls h hP hD hS hl
    refine lv_iconst (v := 0) hx hb dX6_isState_16 (by decide) ?_
    exact xzret (w := (w_X6_isState cI cO aS aT aB aH aM aC aZ zS)) () hx hb hr hlocks rfl h hP hK hD hS dX6_isState_17
  refine lv_iload_n hx hb dX6_isState_0 rfl (lv_at hl 1 rfl) ?_
  obtain ⟨hh1, hh2⟩ := h
  refine lv_if_lt (tgt := 16) hx hb dX6_isState_1 (by decide) (fun hc => ?_) (fun hc => ?_)
  · have h := hh1 hc
    exact g16  _ _ _ h hP hD hS hl
  · have h := hh2 hc
    refine lv_iload_n hx hb dX6_isState_4 rfl (lv_at hl 1 rfl) ?_
    refine lv_aload_n hx hb dX6_isState_5 rfl (lv_at hl 0 rfl) ?_
    refine va_get (D := D) (ci := 6) (v := .int (zS 1 2)) (C := RX6) (T := TX6) (N := 10) hx hb hts jX6_isState_X6 hown hK hP 0 rfl rfl 9 (by decide) (hts (.fieldLink RX6 63 "BrotherAutomata" "states" "I") (List.mem_of_getElem? (i := 1) rfl)) (fun _ h9 => h9) rfl dX6_isState_6 ?_
    obtain ⟨hh1, hh2⟩ := h
    refine lv_icmp_ge (tgt := 16) hx hb dX6_isState_9 (by decide) (fun hc => ?_) (fun hc => ?_)
    · have h := hh1 hc
      exact g16  _ _ _ h hP hD hS hl
    · have h := hh2 hc
      refine lv_iconst (v := 1) hx hb dX6_isState_12 (by decide) ?_
      refine lv_goto (tgt := 17) hx hb dX6_isState_13 (by decide) ?_
      exact xzret (w := (w_X6_isState cI cO aS aT aB aH aM aC aZ zS)) () hx hb hr hlocks rfl h hP hK hD hS dX6_isState_17
set_option maxRecDepth 20000 in
theorem ggX6_setFinal_X6_isState : GoodIn wsX6_setFinal wsX6_isState := goodIn_r _ [7, 8, 48, 49, 50, 51, 52, 53, 54, 55, 56, 57] (by decide +kernel) (by decide +kernel)
set_option maxRecDepth 20000 in
theorem gX6_setFinal_X6_isState : GoodIn wsX6_setFinal (wsV RX6 75 RX6 yX6_isState wsX6_isState) := goodIn_app (goodIn_of _ (by decide +kernel)) ggX6_setFinal_X6_isState
set_option maxRecDepth 20000 in
theorem ggX6_setFinal_X1_keep : GoodIn wsX6_setFinal wsX1_keep := goodIn_r _ [13, 14, 15, 16, 17, 18, 19, 20, 21, 22, 23, 24, 25, 26, 27, 28, 29, 30, 31, 32, 33, 34, 35, 36, 65, 66, 67, 58, 59, 60, 61, 62, 63, 64] (by decide +kernel) (by decide +kernel)
set_option maxRecDepth 20000 in
theorem gX6_setFinal_X1_keep : GoodIn wsX6_setFinal (wsV RX6 79 RX1 yX1_keep wsX1_keep) := goodIn_app (goodIn_of _ (by decide +kernel)) ggX6_setFinal_X1_keep
set_option maxRecDepth 20000 in
theorem ggX6_setFinal_X2_markFinal : GoodIn wsX6_setFinal wsX2_markFinal := goodIn_r _ [40, 27, 58, 59, 60, 61, 62, 63, 64] (by decide +kernel) (by decide +kernel)
set_option maxRecDepth 20000 in
theorem gX6_setFinal_X2_markFinal : GoodIn wsX6_setFinal (wsV RX6 83 RX2 yX2_markFinal wsX2_markFinal) := goodIn_app (goodIn_of _ (by decide +kernel)) ggX6_setFinal_X2_markFinal
set_option maxRecDepth 20000 in
theorem ggX6_setFinal_J6_bitCount_0f7a4 : GoodIn wsX6_setFinal wsJ6_bitCount_0f7a4 := goodIn_r _ [44, 45, 46, 47] (by decide +kernel) (by decide +kernel)
set_option maxRecDepth 20000 in
theorem gX6_setFinal_J6_bitCount_0f7a4 : GoodIn wsX6_setFinal (va_wsS RX6 90 yJ6_bitCount_0f7a4 wsJ6_bitCount_0f7a4) := goodIn_app (goodIn_of _ (by decide +kernel)) ggX6_setFinal_J6_bitCount_0f7a4
theorem dX6_setFinal_0 : decode cX6_setFinal 0 = .ok (.aload_n 0, 1) := by decide +kernel
theorem dX6_setFinal_1 : decode cX6_setFinal 1 = .ok (.iload_n 1, 1) := by decide +kernel
theorem dX6_setFinal_2 : decode cX6_setFinal 2 = .ok (.invokevirtual 75, 3) := by decide +kernel
theorem dX6_setFinal_5 : decode cX6_setFinal 5 = .ok (.ifCond .ne 5, 3) := by decide +kernel
theorem dX6_setFinal_8 : decode cX6_setFinal 8 = .ok (.iconst (-1), 1) := by decide +kernel
theorem dX6_setFinal_9 : decode cX6_setFinal 9 = .ok (.ireturn, 1) := by decide +kernel
theorem dX6_setFinal_10 : decode cX6_setFinal 10 = .ok (.aload_n 0, 1) := by decide +kernel
theorem dX6_setFinal_11 : decode cX6_setFinal 11 = .ok (.getfield 26, 3) := by decide +kernel
theorem dX6_setFinal_14 : decode cX6_setFinal 14 = .ok (.aload_n 0, 1) := by decide +kernel
theorem dX6_setFinal_15 : decode cX6_setFinal 15 = .ok (.getfield 19, 3) := by decide +kernel
theorem dX6_setFinal_18 : decode cX6_setFinal 18 = .ok (.invokevirtual 79, 3) := by decide +kernel
theorem dX6_setFinal_21 : decode cX6_setFinal 21 = .ok (.aload_n 0, 1) := by decide +kernel
theorem dX6_setFinal_22 : decode cX6_setFinal 22 = .ok (.getfield 19, 3) := by decide +kernel
theorem dX6_setFinal_25 : decode cX6_setFinal 25 = .ok (.iload_n 1, 1) := by decide +kernel
theorem dX6_setFinal_26 : decode cX6_setFinal 26 = .ok (.iload_n 2, 1) := by decide +kernel
theorem dX6_setFinal_27 : decode cX6_setFinal 27 = .ok (.invokevirtual 83, 3) := by decide +kernel
theorem dX6_setFinal_30 : decode cX6_setFinal 30 = .ok (.aload_n 0, 1) := by decide +kernel
theorem dX6_setFinal_31 : decode cX6_setFinal 31 = .ok (.getfield 19, 3) := by decide +kernel
theorem dX6_setFinal_34 : decode cX6_setFinal 34 = .ok (.getfield 87, 3) := by decide +kernel
theorem dX6_setFinal_37 : decode cX6_setFinal 37 = .ok (.invokestatic 90, 3) := by decide +kernel
theorem dX6_setFinal_40 : decode cX6_setFinal 40 = .ok (.ireturn, 1) := by decide +kernel
theorem jX6_setFinal_X6 : ∀ w ∈ wsX60, w ∈ wsX6_setFinal := by decide +kernel
theorem jX6_setFinal_X2 : ∀ w ∈ wsX20, w ∈ wsX6_setFinal := by decide +kernel
abbrev w_X6_setFinal (cI cO : ClassId) (aS : Nat → Nat) (aT : Nat → Nat) (aB : Nat → Nat) (aH : Nat → Nat) (aM : Nat → Nat) (aC : Nat → Nat) (aZ : Nat → Nat) (aR : Nat → Nat → Nat) (zS : CS) : ((CS) × (CS) × (Nat → CS)) → va_W := fun u => (wS cI aS aT aB aH aM aC aZ zS ++ (wB cI aB u.1 ++ (wH cO aH aR u.2.1 ++ (wR cI aR u.2.2))))
set_option maxRecDepth 100000 in
set_option maxHeartbeats 8000000 in
theorem mX6_setFinal (l : Launch) (D : va_G) (cI cO : ClassId) (tA tS : Nat) (aS : Nat → Nat) (aT : Nat → Nat) (aB : Nat → Nat) (aH : Nat → Nat) (aM : Nat → Nat) (aC : Nat → Nat) (aZ : Nat → Nat) (aR : Nat → Nat → Nat) (zS : CS) (zB : CS) (zH : CS) (zR : Nat → CS) (x1 : Int32) (x2 : Int32) (sz : Nat) {post : Int32 → ((CS) × (CS) × (Nat → CS)) → Prop} (h : qX6_setFinal post x1 x2 zS zB zH zR) : Met l yX6_setFinal wsX6_setFinal ({ frames := 3, cells := 0, slots := 0, locals := 68 } : Room) (xPre D cI cO tA tS [.ref (aS 0), .int x1, .int x2] (wS cI aS aT aB aH aM aC aZ zS ++ (wB cI aB zB ++ (wH cO aH aR zH ++ (wR cI aR zR)))) sz) (va_Qi post (xB D cI cO (va_A (wS cI aS aT aB aH aM aC aZ zS ++ (wB cI aB zB ++ (wH cO aH aR zH ++ (wR cI aR zR)))) sz) (w_X6_setFinal cI cO aS aT aB aH aM aC aZ aR zS)) (va_A (wS cI aS aT aB aH aM aC aZ zS ++ (wB cI aB zB ++ (wH cO aH aR zH ++ (wR cI aR zR)))) sz)) 0 0 (va_A (wS cI aS aT aB aH aM aC aZ zS ++ (wB cI aB zB ++ (wH cO aH aR zH ++ (wR cI aR zR)))) sz) := by
  refine xMet D cI cO tA tS (fun A => va_Qi post (xB D cI cO A (w_X6_setFinal cI cO aS aT aB aH aM aC aZ aR zS)) A) (cc := cX6_setFinal) (maxL := 3) (ret := (some .int)) (by decide) rfl (Nat.le_of_ble_eq_true rfl) ?_
  intro p e s m below meth c A ls hx hb hr hts hown hlocks hin hml hA hS hP hK hD hE hl
  have hown : s.vm.findClass RX6 = some m.cls := hown
  have hl : lv_has ls 3 [(0, .ref (aS 0)), (1, .int x1), (2, .int x2)] := hl
  refine lv_aload_n hx hb dX6_setFinal_0 rfl (lv_at hl 0 rfl) ?_
  refine lv_iload_n hx hb dX6_setFinal_1 rfl (lv_at hl 1 rfl) ?_
  refine xcalli (wr := (wB cI aB zB ++ (wH cO aH aR zH ++ (wR cI aR zR)))) (w2 := fun (u2 : Unit) => (wS cI aS aT aB aH aM aC aZ zS ++ (wB cI aB zB ++ (wH cO aH aR zH ++ (wR cI aR zR))))) (va_runV (As := [.int x1]) (rest := []) ⟨hx, hb, hml, hown, hts⟩ (mX6_isState l D cI cO tA tS aS aT aB aH aM aC aZ zS x1 _ h) (cwV 1 hts gX6_setFinal_X6_isState rfl rfl rfl (by decide +kernel) ⟨Nat.le_of_ble_eq_true rfl, Nat.le_of_ble_eq_true rfl⟩) (xpreV hP hD hS hA hK hE [0, 1] rfl rfl 6 0 rfl rfl) rfl rfl hl.1 rfl (lv_room (Nat.le_of_ble_eq_true rfl)) dX6_setFinal_2 ⟨Nat.le_refl 0, Nat.le_refl 0⟩) hP hD hS hA [0, 1] [2, 3, 4, 5, 6, 7, 8, 9, 10, 11, 12, 13, 14, 15, 16, 17, 18, 19, 20, 21, 22, 23, 24, 25, 26, 27, 28, 29, 30, 31, 32, 33, 34, 35, 36, 37, 38, 39] [38, 39, 0, 1, 2, 3, 4, 5, 6, 7, 8, 9, 10, 11, 12, 13, 14, 15, 16, 17, 18, 19, 20, 21, 22, 23, 24, 25, 26, 27, 28, 29, 30, 31, 32, 33, 34, 35, 36, 37] rfl rfl rfl (by decide) rfl (fun _ => rfl) (fun r2 u2 H locs h hP hD hS => ?_)
  obtain ⟨hh1, hh2⟩ := h
  refine lv_if_ne (tgt := 10) hx hb dX6_setFinal_5 (by decide) (fun hc => ?_) (fun hc => ?_)
  · have h := hh2 hc
    refine lv_aload_n hx hb dX6_setFinal_10 rfl (lv_at hl 0 rfl) ?_
    refine va_get (D := D) (ci := 6) (v := .ref (aH 0)) (C := RX6) (T := TX6) (N := 10) hx hb hts jX6_setFinal_X6 hown hK hP 0 rfl rfl 2 (by decide) (hts (.fieldLink RX6 26 "BrotherAutomata" "history" "LBrotherAutomata$History;") (List.mem_of_getElem? (i := 1) rfl)) (fun _ h9 => h9) rfl dX6_setFinal_11 ?_
    refine lv_aload_n hx hb dX6_setFinal_14 rfl (lv_at hl 0 rfl) ?_
    refine va_get (D := D) (ci := 6) (v := .ref (aB 0)) (C := RX6) (T := TX6) (N := 10) hx hb hts jX6_setFinal_X6 hown hK hP 0 rfl rfl 1 (by decide) (hts (.fieldLink RX6 19 "BrotherAutomata" "book" "LBrotherAutomata$RuleBook;") (List.mem_of_getElem? (i := 2) rfl)) (fun _ h9 => h9) rfl dX6_setFinal_15 ?_
    refine xcallv (wr := (wS cI aS aT aB aH aM aC aZ zS)) (w2 := fun (u18 : (CS) × (Nat → CS)) => (wS cI aS aT aB aH aM aC aZ zS ++ (wB cI aB zB ++ (wH cO aH aR u18.1 ++ (wR cI aR u18.2))))) (va_runV (As := [.ref (aB 0)]) (rest := []) ⟨hx, hb, hml, hown, hts⟩ (mX1_keep l D cI cO tA tS aB aH aR zB zH zR _ h) (cwV 1 hts gX6_setFinal_X1_keep rfl rfl rfl (by decide +kernel) ⟨Nat.le_of_ble_eq_true rfl, Nat.le_of_ble_eq_true rfl⟩) (xpreV hP hD hS hA hK hE [2, 3, 4, 5, 6, 7, 8, 9, 10, 11, 12, 13, 14, 15, 16, 17, 18, 19, 20, 21, 22, 23, 24, 25, 26, 27, 28, 29, 30, 31, 32, 33, 34, 35, 36, 37, 38, 39] rfl rfl 1 8 rfl rfl) rfl rfl hl.1 rfl (lv_room (Nat.le_of_ble_eq_true rfl)) dX6_setFinal_18 ⟨Nat.le_refl 0, Nat.le_refl 0⟩) hP hD hS hA [2, 3, 4, 5, 6, 7, 8, 9, 10, 11, 12, 13, 14, 15, 16, 17, 18, 19, 20, 21, 22, 23, 24, 25, 26, 27, 28, 29, 30, 31, 32, 33, 34, 35, 36, 37, 38, 39] [0, 1] [0, 1, 2, 3, 4, 5, 6, 7, 8, 9, 10, 11, 12, 13, 14, 15, 16, 17, 18, 19, 20, 21, 22, 23, 24, 25, 26, 27, 28, 29, 30, 31, 32, 33, 34, 35, 36, 37, 38, 39] rfl rfl rfl (by decide) rfl (fun _ => rfl) (fun u18 H locs h hP hD hS => ?_)
    refine lv_aload_n hx hb dX6_setFinal_21 rfl (lv_at hl 0 rfl) ?_
    refine va_get (D := D) (ci := 6) (v := .ref (aB 0)) (C := RX6) (T := TX6) (N := 10) hx hb hts jX6_setFinal_X6 hown hK hP 0 rfl rfl 1 (by decide) (hts (.fieldLink RX6 19 "BrotherAutomata" "book" "LBrotherAutomata$RuleBook;") (List.mem_of_getElem? (i := 2) rfl)) (fun _ h9 => h9) rfl dX6_setFinal_22 ?_
    refine lv_iload_n hx hb dX6_setFinal_25 rfl (lv_at hl 1 rfl) ?_
    refine lv_iload_n hx hb dX6_setFinal_26 rfl (lv_at hl 2 rfl) ?_
    refine xcallv (wr := (wS cI aS aT aB aH aM aC aZ zS ++ (wH cO aH aR u18.1 ++ (wR cI aR u18.2)))) (w2 := fun (u27 : (CS)) => (wS cI aS aT aB aH aM aC aZ zS ++ (wB cI aB u27 ++ (wH cO aH aR u18.1 ++ (wR cI aR u18.2))))) (va_runV (As := [.int x1, .int x2]) (rest := []) ⟨hx, hb, hml, hown, hts⟩ (mX2_markFinal l D cI cO tA tS aB zB x1 x2 _ h) (cwV 2 hts gX6_setFinal_X2_markFinal rfl rfl rfl (by decide +kernel) ⟨Nat.le_of_ble_eq_true rfl, Nat.le_of_ble_eq_true rfl⟩) (xpreV hP hD hS hA hK hE [2, 3, 4, 5, 6, 7] rfl rfl 2 2 rfl rfl) rfl rfl hl.1 rfl (lv_room (Nat.le_of_ble_eq_true rfl)) dX6_setFinal_27 ⟨Nat.le_refl 0, Nat.le_refl 0⟩) hP hD hS hA [2, 3, 4, 5, 6, 7] [0, 1, 8, 9, 10, 11, 12, 13, 14, 15, 16, 17, 18, 19, 20, 21, 22, 23, 24, 25, 26, 27, 28, 29, 30, 31, 32, 33, 34, 35, 36, 37, 38, 39] [0, 1, 34, 35, 36, 37, 38, 39, 2, 3, 4, 5, 6, 7, 8, 9, 10, 11, 12, 13, 14, 15, 16, 17, 18, 19, 20, 21, 22, 23, 24, 25, 26, 27, 28, 29, 30, 31, 32, 33] rfl rfl rfl (by decide) rfl (fun _ => rfl) (fun u27 H locs h hP hD hS => ?_)
    refine lv_aload_n hx hb dX6_setFinal_30 rfl (lv_at hl 0 rfl) ?_
    refine va_get (D := D) (ci := 6) (v := .ref (aB 0)) (C := RX6) (T := TX6) (N := 10) hx hb hts jX6_setFinal_X6 hown hK hP 0 rfl rfl 1 (by decide) (hts (.fieldLink RX6 19 "BrotherAutomata" "book" "LBrotherAutomata$RuleBook;") (List.mem_of_getElem? (i := 2) rfl)) (fun _ h9 => h9) rfl dX6_setFinal_31 ?_
    refine va_getN (D := D) (ci := 2) (v := .int (u27 5 1)) (C := RX2) (T := TX2) (N := 7) hx hb hts jX6_setFinal_X2 hown hK hP 2 rfl rfl 6 (by decide) (va_Nw.use (w := .fieldLinkNest RX6 87 "BrotherAutomata$RuleBook" "finals" "I" "BrotherAutomata") rfl (hE.1 _ (List.mem_of_getElem? (i := 18) rfl))) (fun _ h9 => h9) rfl dX6_setFinal_34 ?_
    refine xcalli (wr := (wS cI aS aT aB aH aM aC aZ zS ++ (wB cI aB u27 ++ (wH cO aH aR u18.1 ++ (wR cI aR u18.2))))) (w2 := fun (u37 : Unit) => (wS cI aS aT aB aH aM aC aZ zS ++ (wB cI aB u27 ++ (wH cO aH aR u18.1 ++ (wR cI aR u18.2))))) (va_runS (As := [.int (u27 5 1)]) (rest := []) ⟨hx, hb, hml, hown, hts⟩ (mJ6_bitCount_0f7a4 l D cI cO tA tS (u27 5 1) _ h) (va_cwS 1 hts gX6_setFinal_J6_bitCount_0f7a4 rfl rfl rfl (by decide +kernel) ⟨Nat.le_of_ble_eq_true rfl, Nat.le_of_ble_eq_true rfl⟩) (xpreP hP hD hS hA hK hE [] rfl rfl) rfl rfl hl.1 rfl (lv_room (Nat.le_of_ble_eq_true rfl)) dX6_setFinal_37 ⟨Nat.le_refl 0, Nat.le_refl 0⟩) hP hD hS hA [] [0, 1, 2, 3, 4, 5, 6, 7, 8, 9, 10, 11, 12, 13, 14, 15, 16, 17, 18, 19, 20, 21, 22, 23, 24, 25, 26, 27, 28, 29, 30, 31, 32, 33, 34, 35, 36, 37, 38, 39] [0, 1, 2, 3, 4, 5, 6, 7, 8, 9, 10, 11, 12, 13, 14, 15, 16, 17, 18, 19, 20, 21, 22, 23, 24, 25, 26, 27, 28, 29, 30, 31, 32, 33, 34, 35, 36, 37, 38, 39] rfl rfl rfl (by decide) rfl (fun _ => rfl) (fun r37 u37 H locs h hP hD hS => ?_)
    exact xiret (w := (w_X6_setFinal cI cO aS aT aB aH aM aC aZ aR zS)) (u27, u18.1, u18.2) hx hb hr hlocks h hP hK hD hS dX6_setFinal_40
  · have h := hh1 hc
    refine lv_iconst (v := -1) hx hb dX6_setFinal_8 (by decide) ?_
    exact xiret (w := (w_X6_setFinal cI cO aS aT aB aH aM aC aZ aR zS)) (zB, zH, zR) hx hb hr hlocks h hP hK hD hS dX6_setFinal_9
theorem dX6_isSymbol_0 : decode cX6_isSymbol 0 = .ok (.iload_n 0, 1) := by decide +kernel
theorem dX6_isSymbol_1 : decode cX6_isSymbol 1 = .ok (.ifCond .lt 12, 3) := by decide +kernel
theorem dX6_isSymbol_4 : decode cX6_isSymbol 4 = .ok (.iload_n 0, 1) := by decide +kernel
theorem dX6_isSymbol_5 : decode cX6_isSymbol 5 = .ok (.iconst 5, 1) := by decide +kernel
theorem dX6_isSymbol_6 : decode cX6_isSymbol 6 = .ok (.if_icmp .ge 7, 3) := by decide +kernel
theorem dX6_isSymbol_9 : decode cX6_isSymbol 9 = .ok (.iconst 1, 1) := by decide +kernel
theorem dX6_isSymbol_10 : decode cX6_isSymbol 10 = .ok (.goto 4, 3) := by decide +kernel
theorem dX6_isSymbol_13 : decode cX6_isSymbol 13 = .ok (.iconst 0, 1) := by decide +kernel
theorem dX6_isSymbol_14 : decode cX6_isSymbol 14 = .ok (.ireturn, 1) := by decide +kernel
abbrev w_X6_isSymbol (cI cO : ClassId)   : (Unit) → va_W := fun u => ([] : va_W)
set_option maxRecDepth 100000 in
set_option maxHeartbeats 8000000 in
theorem mX6_isSymbol (l : Launch) (D : va_G) (cI cO : ClassId) (tA tS : Nat)   (x0 : Int32) (sz : Nat) {post : Int32 → (Unit) → Prop} (h : qX6_isSymbol post x0) : Met l yX6_isSymbol wsX6_isSymbol ({ frames := 0, cells := 0, slots := 0, locals := 0 } : Room) (xPre D cI cO tA tS [.int x0] ([] : va_W) sz) (va_Qi post (xB D cI cO (va_A ([] : va_W) sz) (w_X6_isSymbol cI cO)) (va_A ([] : va_W) sz)) 0 0 (va_A ([] : va_W) sz) := by
  refine xMet D cI cO tA tS (fun A => va_Qi post (xB D cI cO A (w_X6_isSymbol cI cO)) A) (cc := cX6_isSymbol) (maxL := 1) (ret := (some .boolean)) (by decide) rfl (Nat.le_of_ble_eq_true rfl) ?_
  intro p e s m below meth c A ls hx hb hr hts hown hlocks hin hml hA hS hP hK hD hE hl
  have hown : s.vm.findClass RX6 = some m.cls := hown
  have hl : lv_has ls 1 [(0, .int x0)] := hl
  have g13 : ∀  (H : Heap) (locs : List Loc) (ls : Array Slot), qX6_isSymbol_13 post x0  → va_P D vwCl ([] : va_W) H → va_D A ([] : va_W) → va_S A s.heap H locs → lv_has ls 1 [(0, .int x0)] → W p l e ({ frames := 0, cells := 0, slots := 0, locals := 0 } : Room) s m ([.int x0] : List Value).toArray below meth c H locs 0 0 (MQ below (va_Qi post (xB D cI cO A (w_X6_isSymbol cI cO)) A) ([.int x0] : List Value).toArray s 0 0 A) (F0 m 13 ls []) := by
    intro  H locs ls h hP hD hS hl
    refine lv_iconst (v := 0) hx hb dX6_isSymbol_13 (by decide) ?_
    exact xzret (w := (w_X6_isSymbol cI cO)) () hx hb hr hlocks rfl h hP hK hD hS dX6_isSymbol_14
  refine lv_iload_n hx hb dX6_isSymbol_0 rfl (lv_at hl 0 rfl) ?_
  obtain ⟨hh1, hh2⟩ := h
  refine lv_if_lt (tgt := 13) hx hb dX6_isSymbol_1 (by decide) (fun hc => ?_) (fun hc => ?_)
  · have h := hh1 hc
    exact g13  _ _ _ h hP hD hS hl
  · have h := hh2 hc
    refine lv_iload_n hx hb dX6_isSymbol_4 rfl (lv_at hl 0 rfl) ?_
    refine lv_iconst (v := 5) hx hb dX6_isSymbol_5 (by decide) ?_
    obtain ⟨hh1, hh2⟩ := h
    refine lv_icmp_ge (tgt := 13) hx hb dX6_isSymbol_6 (by decide) (fun hc => ?_) (fun hc => ?_)
    · have h := hh1 hc
      exact g13  _ _ _ h hP hD hS hl
    · have h := hh2 hc
      refine lv_iconst (v := 1) hx hb dX6_isSymbol_9 (by decide) ?_
      refine lv_goto (tgt := 14) hx hb dX6_isSymbol_10 (by decide) ?_
      exact xzret (w := (w_X6_isSymbol cI cO)) () hx hb hr hlocks rfl h hP hK hD hS dX6_isSymbol_14
set_option maxRecDepth 20000 in
theorem ggX6_isChildState_X6_isState : GoodIn wsX6_isChildState wsX6_isState := goodIn_r _ [5, 6, 7, 8, 9, 10, 11, 12, 13, 14, 15, 16] (by decide +kernel) (by decide +kernel)
set_option maxRecDepth 20000 in
theorem gX6_isChildState_X6_isState : GoodIn wsX6_isChildState (wsV RX6 75 RX6 yX6_isState wsX6_isState) := goodIn_app (goodIn_of _ (by decide +kernel)) ggX6_isChildState_X6_isState
theorem dX6_isChildState_0 : decode cX6_isChildState 0 = .ok (.iload_n 2, 1) := by decide +kernel
theorem dX6_isChildState_1 : decode cX6_isChildState 1 = .ok (.ifCond .eq 11, 3) := by decide +kernel
theorem dX6_isChildState_4 : decode cX6_isChildState 4 = .ok (.aload_n 0, 1) := by decide +kernel
theorem dX6_isChildState_5 : decode cX6_isChildState 5 = .ok (.iload_n 1, 1) := by decide +kernel
theorem dX6_isChildState_6 : decode cX6_isChildState 6 = .ok (.invokevirtual 75, 3) := by decide +kernel
theorem dX6_isChildState_9 : decode cX6_isChildState 9 = .ok (.goto 12, 3) := by decide +kernel
theorem dX6_isChildState_12 : decode cX6_isChildState 12 = .ok (.iload_n 1, 1) := by decide +kernel
theorem dX6_isChildState_13 : decode cX6_isChildState 13 = .ok (.ifCond .ne 7, 3) := by decide +kernel
theorem dX6_isChildState_16 : decode cX6_isChildState 16 = .ok (.iconst 1, 1) := by decide +kernel
theorem dX6_isChildState_17 : decode cX6_isChildState 17 = .ok (.goto 4, 3) := by decide +kernel
theorem dX6_isChildState_20 : decode cX6_isChildState 20 = .ok (.iconst 0, 1) := by decide +kernel
theorem dX6_isChildState_21 : decode cX6_isChildState 21 = .ok (.ireturn, 1) := by decide +kernel
abbrev w_X6_isChildState (cI cO : ClassId) (aS : Nat → Nat) (aT : Nat → Nat) (aB : Nat → Nat) (aH : Nat → Nat) (aM : Nat → Nat) (aC : Nat → Nat) (aZ : Nat → Nat) (zS : CS) : (Unit) → va_W := fun u => (wS cI aS aT aB aH aM aC aZ zS)
set_option maxRecDepth 100000 in
set_option maxHeartbeats 8000000 in
theorem mX6_isChildState (l : Launch) (D : va_G) (cI cO : ClassId) (tA tS : Nat) (aS : Nat → Nat) (aT : Nat → Nat) (aB : Nat → Nat) (aH : Nat → Nat) (aM : Nat → Nat) (aC : Nat → Nat) (aZ : Nat → Nat) (zS : CS) (x1 : Int32) (x2 : Int32) (sz : Nat) {post : Int32 → (Unit) → Prop} (h : qX6_isChildState post x1 x2 zS) : Met l yX6_isChildState wsX6_isChildState ({ frames := 1, cells := 0, slots := 0, locals := 21 } : Room) (xPre D cI cO tA tS [.ref (aS 0), .int x1, .int x2] (wS cI aS aT aB aH aM aC aZ zS) sz) (va_Qi post (xB D cI cO (va_A (wS cI aS aT aB aH aM aC aZ zS) sz) (w_X6_isChildState cI cO aS aT aB aH aM aC aZ zS)) (va_A (wS cI aS aT aB aH aM aC aZ zS) sz)) 0 0 (va_A (wS cI aS aT aB aH aM aC aZ zS) sz) := by
  refine xMet D cI cO tA tS (fun A => va_Qi post (xB D cI cO A (w_X6_isChildState cI cO aS aT aB aH aM aC aZ zS)) A) (cc := cX6_isChildState) (maxL := 3) (ret := (some .boolean)) (by decide) rfl (Nat.le_of_ble_eq_true rfl) ?_
  intro p e s m below meth c A ls hx hb hr hts hown hlocks hin hml hA hS hP hK hD hE hl
  have hown : s.vm.findClass RX6 = some m.cls := hown
  have hl : lv_has ls 3 [(0, .ref (aS 0)), (1, .int x1), (2, .int x2)] := hl
  refine lv_iload_n hx hb dX6_isChildState_0 rfl (lv_at hl 2 rfl) ?_
  obtain ⟨hh1, hh2⟩ := h
  refine lv_if_eq (tgt := 12) hx hb dX6_isChildState_1 (by decide) (fun hc => ?_) (fun hc => ?_)
  · have h := hh1 hc
    refine lv_iload_n hx hb dX6_isChildState_12 rfl (lv_at hl 1 rfl) ?_
    obtain ⟨hh1, hh2⟩ := h
    refine lv_if_ne (tgt := 20) hx hb dX6_isChildState_13 (by decide) (fun hc => ?_) (fun hc => ?_)
    · have h := hh2 hc
      refine lv_iconst (v := 0) hx hb dX6_isChildState_20 (by decide) ?_
      exact xzret (w := (w_X6_isChildState cI cO aS aT aB aH aM aC aZ zS)) () hx hb hr hlocks rfl h hP hK hD hS dX6_isChildState_21
    · have h := hh1 hc
      refine lv_iconst (v := 1) hx hb dX6_isChildState_16 (by decide) ?_
      refine lv_goto (tgt := 21) hx hb dX6_isChildState_17 (by decide) ?_
      exact xzret (w := (w_X6_isChildState cI cO aS aT aB aH aM aC aZ zS)) () hx hb hr hlocks rfl h hP hK hD hS dX6_isChildState_21
  · have h := hh2 hc
    refine lv_aload_n hx hb dX6_isChildState_4 rfl (lv_at hl 0 rfl) ?_
    refine lv_iload_n hx hb dX6_isChildState_5 rfl (lv_at hl 1 rfl) ?_
    refine xcalli (wr := ([] : va_W)) (w2 := fun (u6 : Unit) => (wS cI aS aT aB aH aM aC aZ zS)) (va_runV (As := [.int x1]) (rest := []) ⟨hx, hb, hml, hown, hts⟩ (mX6_isState l D cI cO tA tS aS aT aB aH aM aC aZ zS x1 _ h) (cwV 1 hts gX6_isChildState_X6_isState rfl rfl rfl (by decide +kernel) ⟨Nat.le_of_ble_eq_true rfl, Nat.le_of_ble_eq_true rfl⟩) (xpreV hP hD hS hA hK hE [0, 1] rfl rfl 6 0 rfl rfl) rfl rfl hl.1 rfl (lv_room (Nat.le_of_ble_eq_true rfl)) dX6_isChildState_6 ⟨Nat.le_refl 0, Nat.le_refl 0⟩) hP hD hS hA [0, 1] [] [0, 1] rfl rfl rfl (by decide) rfl (fun _ => rfl) (fun r6 u6 H locs h hP hD hS => ?_)
    refine lv_goto (tgt := 21) hx hb dX6_isChildState_9 (by decide) ?_
    obtain ⟨hn, h⟩ := h
    exact xzret (w := (w_X6_isChildState cI cO aS aT aB aH aM aC aZ zS)) () hx hb hr hlocks hn h hP hK hD hS dX6_isChildState_21
theorem dX6_isConstraint_0 : decode cX6_isConstraint 0 = .ok (.iload_n 1, 1) := by decide +kernel
theorem dX6_isConstraint_1 : decode cX6_isConstraint 1 = .ok (.ifCond .eq 20, 3) := by decide +kernel
theorem dX6_isConstraint_4 : decode cX6_isConstraint 4 = .ok (.iload_n 0, 1) := by decide +kernel
theorem dX6_isConstraint_5 : decode cX6_isConstraint 5 = .ok (.ifCond .lt 12, 3) := by decide +kernel
theorem dX6_isConstraint_8 : decode cX6_isConstraint 8 = .ok (.iload_n 0, 1) := by decide +kernel
theorem dX6_isConstraint_9 : decode cX6_isConstraint 9 = .ok (.iconst 2, 1) := by decide +kernel
theorem dX6_isConstraint_10 : decode cX6_isConstraint 10 = .ok (.if_icmp .gt 7, 3) := by decide +kernel
theorem dX6_isConstraint_13 : decode cX6_isConstraint 13 = .ok (.iconst 1, 1) := by decide +kernel
theorem dX6_isConstraint_14 : decode cX6_isConstraint 14 = .ok (.goto 16, 3) := by decide +kernel
theorem dX6_isConstraint_17 : decode cX6_isConstraint 17 = .ok (.iconst 0, 1) := by decide +kernel
theorem dX6_isConstraint_18 : decode cX6_isConstraint 18 = .ok (.goto 12, 3) := by decide +kernel
theorem dX6_isConstraint_21 : decode cX6_isConstraint 21 = .ok (.iload_n 0, 1) := by decide +kernel
theorem dX6_isConstraint_22 : decode cX6_isConstraint 22 = .ok (.ifCond .ne 7, 3) := by decide +kernel
theorem dX6_isConstraint_25 : decode cX6_isConstraint 25 = .ok (.iconst 1, 1) := by decide +kernel
theorem dX6_isConstraint_26 : decode cX6_isConstraint 26 = .ok (.goto 4, 3) := by decide +kernel
theorem dX6_isConstraint_29 : decode cX6_isConstraint 29 = .ok (.iconst 0, 1) := by decide +kernel
theorem dX6_isConstraint_30 : decode cX6_isConstraint 30 = .ok (.ireturn, 1) := by decide +kernel
abbrev w_X6_isConstraint (cI cO : ClassId)   : (Unit) → va_W := fun u => ([] : va_W)
set_option maxRecDepth 100000 in
set_option maxHeartbeats 8000000 in
theorem mX6_isConstraint (l : Launch) (D : va_G) (cI cO : ClassId) (tA tS : Nat)   (x0 : Int32) (x1 : Int32) (sz : Nat) {post : Int32 → (Unit) → Prop} (h : qX6_isConstraint post x0 x1) : Met l yX6_isConstraint wsX6_isConstraint ({ frames := 0, cells := 0, slots := 0, locals := 0 } : Room) (xPre D cI cO tA tS [.int x0, .int x1] ([] : va_W) sz) (va_Qi post (xB D cI cO (va_A ([] : va_W) sz) (w_X6_isConstraint cI cO)) (va_A ([] : va_W) sz)) 0 0 (va_A ([] : va_W) sz) := by
  refine xMet D cI cO tA tS (fun A => va_Qi post (xB D cI cO A (w_X6_isConstraint cI cO)) A) (cc := cX6_isConstraint) (maxL := 2) (ret := (some .boolean)) (by decide) rfl (Nat.le_of_ble_eq_true rfl) ?_
  intro p e s m below meth c A ls hx hb hr hts hown hlocks hin hml hA hS hP hK hD hE hl
  have hown : s.vm.findClass RX6 = some m.cls := hown
  have hl : lv_has ls 2 [(0, .int x0), (1, .int x1)] := hl
  have g17 : ∀  (H : Heap) (locs : List Loc) (ls : Array Slot), qX6_isConstraint_17 post x0 x1  → va_P D vwCl ([] : va_W) H → va_D A ([] : va_W) → va_S A s.heap H locs → lv_has ls 2 [(0, .int x0), (1, .int x1)] → W p l e ({ frames := 0, cells := 0, slots := 0, locals := 0 } : Room) s m ([.int x0, .int x1] : List Value).toArray below meth c H locs 0 0 (MQ below (va_Qi post (xB D cI cO A (w_X6_isConstraint cI cO)) A) ([.int x0, .int x1] : List Value).toArray s 0 0 A) (F0 m 17 ls []) := by
    intro  H locs ls h hP hD hS hl
    refine lv_iconst (v := 0) hx hb dX6_isConstraint_17 (by decide) ?_
    refine lv_goto (tgt := 30) hx hb dX6_isConstraint_18 (by decide) ?_
    exact xzret (w := (w_X6_isConstraint cI cO)) () hx hb hr hlocks rfl h hP hK hD hS dX6_isConstraint_30
  refine lv_iload_n hx hb dX6_isConstraint_0 rfl (lv_at hl 1 rfl) ?_
  obtain ⟨hh1, hh2⟩ := h
  refine lv_if_eq (tgt := 21) hx hb dX6_isConstraint_1 (by decide) (fun hc => ?_) (fun hc => ?_)
  · have h := hh1 hc
    refine lv_iload_n hx hb dX6_isConstraint_21 rfl (lv_at hl 0 rfl) ?_
    obtain ⟨hh1, hh2⟩ := h
    refine lv_if_ne (tgt := 29) hx hb dX6_isConstraint_22 (by decide) (fun hc => ?_) (fun hc => ?_)
    · have h := hh2 hc
      refine lv_iconst (v := 0) hx hb dX6_isConstraint_29 (by decide) ?_
      exact xzret (w := (w_X6_isConstraint cI cO)) () hx hb hr hlocks rfl h hP hK hD hS dX6_isConstraint_30
    · have h := hh1 hc
      refine lv_iconst (v := 1) hx hb dX6_isConstraint_25 (by decide) ?_
      refine lv_goto (tgt := 30) hx hb dX6_isConstraint_26 (by decide) ?_
      exact xzret (w := (w_X6_isConstraint cI cO)) () hx hb hr hlocks rfl h hP hK hD hS dX6_isConstraint_30
  · have h := hh2 hc
    refine lv_iload_n hx hb dX6_isConstraint_4 rfl (lv_at hl 0 rfl) ?_
    obtain ⟨hh1, hh2⟩ := h
    refine lv_if_lt (tgt := 17) hx hb dX6_isConstraint_5 (by decide) (fun hc => ?_) (fun hc => ?_)
    · have h := hh1 hc
      exact g17  _ _ _ h hP hD hS hl
    · have h := hh2 hc
      refine lv_iload_n hx hb dX6_isConstraint_8 rfl (lv_at hl 0 rfl) ?_
      refine lv_iconst (v := 2) hx hb dX6_isConstraint_9 (by decide) ?_
      obtain ⟨hh1, hh2⟩ := h
      refine lv_icmp_gt (tgt := 17) hx hb dX6_isConstraint_10 (by decide) (fun hc => ?_) (fun hc => ?_)
      · have h := hh1 hc
        exact g17  _ _ _ h hP hD hS hl
      · have h := hh2 hc
        refine lv_iconst (v := 1) hx hb dX6_isConstraint_13 (by decide) ?_
        refine lv_goto (tgt := 30) hx hb dX6_isConstraint_14 (by decide) ?_
        exact xzret (w := (w_X6_isConstraint cI cO)) () hx hb hr hlocks rfl h hP hK hD hS dX6_isConstraint_30
set_option maxRecDepth 20000 in
theorem ggX6_addRule_X6_isSymbol : GoodIn wsX6_addRule wsX6_isSymbol := goodIn_r _ [7] (by decide +kernel) (by decide +kernel)
set_option maxRecDepth 20000 in
theorem gX6_addRule_X6_isSymbol : GoodIn wsX6_addRule (va_wsS RX6 96 yX6_isSymbol wsX6_isSymbol) := goodIn_app (goodIn_of _ (by decide +kernel)) ggX6_addRule_X6_isSymbol
set_option maxRecDepth 20000 in
theorem ggX6_addRule_X6_isState : GoodIn wsX6_addRule wsX6_isState := goodIn_r _ [11, 12, 81, 82, 83, 84, 85, 86, 87, 88, 89, 90] (by decide +kernel) (by decide +kernel)
set_option maxRecDepth 20000 in
theorem gX6_addRule_X6_isState : GoodIn wsX6_addRule (wsV RX6 75 RX6 yX6_isState wsX6_isState) := goodIn_app (goodIn_of _ (by decide +kernel)) ggX6_addRule_X6_isState
set_option maxRecDepth 20000 in
theorem ggX6_addRule_X6_isChildState : GoodIn wsX6_addRule wsX6_isChildState := goodIn_r _ [16, 8, 9, 10, 6, 11, 12, 81, 82, 83, 84, 85, 86, 87, 88, 89, 90] (by decide +kernel) (by decide +kernel)
set_option maxRecDepth 20000 in
theorem gX6_addRule_X6_isChildState : GoodIn wsX6_addRule (wsV RX6 102 RX6 yX6_isChildState wsX6_isChildState) := goodIn_app (goodIn_of _ (by decide +kernel)) ggX6_addRule_X6_isChildState
set_option maxRecDepth 20000 in
theorem ggX6_addRule_X6_isConstraint : GoodIn wsX6_addRule wsX6_isConstraint := goodIn_r _ [19] (by decide +kernel) (by decide +kernel)
set_option maxRecDepth 20000 in
theorem gX6_addRule_X6_isConstraint : GoodIn wsX6_addRule (va_wsS RX6 106 yX6_isConstraint wsX6_isConstraint) := goodIn_app (goodIn_of _ (by decide +kernel)) ggX6_addRule_X6_isConstraint
set_option maxRecDepth 20000 in
theorem ggX6_addRule_X1_keep : GoodIn wsX6_addRule wsX1_keep := goodIn_r _ [24, 25, 26, 27, 28, 29, 30, 31, 32, 33, 34, 35, 36, 37, 38, 39, 40, 41, 42, 43, 44, 45, 46, 47, 98, 99, 100, 91, 92, 93, 94, 95, 96, 97] (by decide +kernel) (by decide +kernel)
set_option maxRecDepth 20000 in
theorem gX6_addRule_X1_keep : GoodIn wsX6_addRule (wsV RX6 79 RX1 yX1_keep wsX1_keep) := goodIn_app (goodIn_of _ (by decide +kernel)) ggX6_addRule_X1_keep
set_option maxRecDepth 20000 in
theorem ggX6_addRule_X2_append : GoodIn wsX6_addRule wsX2_append := goodIn_r _ [51, 37, 39, 44, 45, 46, 47, 91, 92, 93, 94, 95, 96, 97] (by decide +kernel) (by decide +kernel)
set_option maxRecDepth 20000 in
theorem gX6_addRule_X2_append : GoodIn wsX6_addRule (wsV RX6 112 RX2 yX2_append wsX2_append) := goodIn_app (goodIn_of _ (by decide +kernel)) ggX6_addRule_X2_append
set_option maxRecDepth 20000 in
theorem ggX6_addRule_X6_renewRuns : GoodIn wsX6_addRule wsX6_renewRuns := goodIn_r _ [55, 56, 2, 57, 58, 59, 60, 61, 62, 63, 64, 65, 66, 67, 68, 69, 70, 71, 72, 73, 74, 75, 76, 77, 78, 79, 80, 81, 82, 83, 84, 85, 86, 87, 88, 89, 90, 101, 102, 103, 104, 105, 106, 91, 92, 93, 94, 95, 96, 97] (by decide +kernel) (by decide +kernel)
set_option maxRecDepth 20000 in
theorem gX6_addRule_X6_renewRuns : GoodIn wsX6_addRule (wsV RX6 72 RX6 yX6_renewRuns wsX6_renewRuns) := goodIn_app (goodIn_of _ (by decide +kernel)) ggX6_addRule_X6_renewRuns
theorem dX6_addRule_0 : decode cX6_addRule 0 = .ok (.iload_n 1, 1) := by decide +kernel
theorem dX6_addRule_1 : decode cX6_addRule 1 = .ok (.invokestatic 96, 3) := by decide +kernel
theorem dX6_addRule_4 : decode cX6_addRule 4 = .ok (.ifCond .eq 77, 3) := by decide +kernel
theorem dX6_addRule_7 : decode cX6_addRule 7 = .ok (.aload_n 0, 1) := by decide +kernel
theorem dX6_addRule_8 : decode cX6_addRule 8 = .ok (.iload 5, 2) := by decide +kernel
theorem dX6_addRule_10 : decode cX6_addRule 10 = .ok (.invokevirtual 75, 3) := by decide +kernel
theorem dX6_addRule_13 : decode cX6_addRule 13 = .ok (.ifCond .eq 68, 3) := by decide +kernel
theorem dX6_addRule_16 : decode cX6_addRule 16 = .ok (.aload_n 0, 1) := by decide +kernel
theorem dX6_addRule_17 : decode cX6_addRule 17 = .ok (.iload_n 2, 1) := by decide +kernel
theorem dX6_addRule_18 : decode cX6_addRule 18 = .ok (.getstatic 99, 3) := by decide +kernel
theorem dX6_addRule_21 : decode cX6_addRule 21 = .ok (.iload_n 1, 1) := by decide +kernel
theorem dX6_addRule_22 : decode cX6_addRule 22 = .ok (.iaload, 1) := by decide +kernel
theorem dX6_addRule_23 : decode cX6_addRule 23 = .ok (.ifCond .le 7, 3) := by decide +kernel
theorem dX6_addRule_26 : decode cX6_addRule 26 = .ok (.iconst 1, 1) := by decide +kernel
theorem dX6_addRule_27 : decode cX6_addRule 27 = .ok (.goto 4, 3) := by decide +kernel
theorem dX6_addRule_30 : decode cX6_addRule 30 = .ok (.iconst 0, 1) := by decide +kernel
theorem dX6_addRule_31 : decode cX6_addRule 31 = .ok (.invokevirtual 102, 3) := by decide +kernel
theorem dX6_addRule_34 : decode cX6_addRule 34 = .ok (.ifCond .eq 47, 3) := by decide +kernel
theorem dX6_addRule_37 : decode cX6_addRule 37 = .ok (.aload_n 0, 1) := by decide +kernel
theorem dX6_addRule_38 : decode cX6_addRule 38 = .ok (.iload_n 3, 1) := by decide +kernel
theorem dX6_addRule_39 : decode cX6_addRule 39 = .ok (.getstatic 99, 3) := by decide +kernel
theorem dX6_addRule_42 : decode cX6_addRule 42 = .ok (.iload_n 1, 1) := by decide +kernel
theorem dX6_addRule_43 : decode cX6_addRule 43 = .ok (.iaload, 1) := by decide +kernel
theorem dX6_addRule_44 : decode cX6_addRule 44 = .ok (.iconst 1, 1) := by decide +kernel
theorem dX6_addRule_45 : decode cX6_addRule 45 = .ok (.if_icmp .le 7, 3) := by decide +kernel
theorem dX6_addRule_48 : decode cX6_addRule 48 = .ok (.iconst 1, 1) := by decide +kernel
theorem dX6_addRule_49 : decode cX6_addRule 49 = .ok (.goto 4, 3) := by decide +kernel
theorem dX6_addRule_52 : decode cX6_addRule 52 = .ok (.iconst 0, 1) := by decide +kernel
theorem dX6_addRule_53 : decode cX6_addRule 53 = .ok (.invokevirtual 102, 3) := by decide +kernel
theorem dX6_addRule_56 : decode cX6_addRule 56 = .ok (.ifCond .eq 25, 3) := by decide +kernel
theorem dX6_addRule_59 : decode cX6_addRule 59 = .ok (.iload 4, 2) := by decide +kernel
theorem dX6_addRule_61 : decode cX6_addRule 61 = .ok (.getstatic 99, 3) := by decide +kernel
theorem dX6_addRule_64 : decode cX6_addRule 64 = .ok (.iload_n 1, 1) := by decide +kernel
theorem dX6_addRule_65 : decode cX6_addRule 65 = .ok (.iaload, 1) := by decide +kernel
theorem dX6_addRule_66 : decode cX6_addRule 66 = .ok (.iconst 1, 1) := by decide +kernel
theorem dX6_addRule_67 : decode cX6_addRule 67 = .ok (.if_icmp .le 7, 3) := by decide +kernel
theorem dX6_addRule_70 : decode cX6_addRule 70 = .ok (.iconst 1, 1) := by decide +kernel
theorem dX6_addRule_71 : decode cX6_addRule 71 = .ok (.goto 4, 3) := by decide +kernel
theorem dX6_addRule_74 : decode cX6_addRule 74 = .ok (.iconst 0, 1) := by decide +kernel
theorem dX6_addRule_75 : decode cX6_addRule 75 = .ok (.invokestatic 106, 3) := by decide +kernel
theorem dX6_addRule_78 : decode cX6_addRule 78 = .ok (.ifCond .ne 5, 3) := by decide +kernel
theorem dX6_addRule_81 : decode cX6_addRule 81 = .ok (.iconst (-1), 1) := by decide +kernel
theorem dX6_addRule_82 : decode cX6_addRule 82 = .ok (.ireturn, 1) := by decide +kernel
theorem dX6_addRule_83 : decode cX6_addRule 83 = .ok (.aload_n 0, 1) := by decide +kernel
theorem dX6_addRule_84 : decode cX6_addRule 84 = .ok (.getfield 19, 3) := by decide +kernel
theorem dX6_addRule_87 : decode cX6_addRule 87 = .ok (.getfield 109, 3) := by decide +kernel
theorem dX6_addRule_90 : decode cX6_addRule 90 = .ok (.bipush 16, 2) := by decide +kernel
theorem dX6_addRule_92 : decode cX6_addRule 92 = .ok (.if_icmp .lt 6, 3) := by decide +kernel
theorem dX6_addRule_95 : decode cX6_addRule 95 = .ok (.bipush (-2), 2) := by decide +kernel
theorem dX6_addRule_97 : decode cX6_addRule 97 = .ok (.ireturn, 1) := by decide +kernel
theorem dX6_addRule_98 : decode cX6_addRule 98 = .ok (.aload_n 0, 1) := by decide +kernel
theorem dX6_addRule_99 : decode cX6_addRule 99 = .ok (.getfield 26, 3) := by decide +kernel
theorem dX6_addRule_102 : decode cX6_addRule 102 = .ok (.aload_n 0, 1) := by decide +kernel
theorem dX6_addRule_103 : decode cX6_addRule 103 = .ok (.getfield 19, 3) := by decide +kernel
theorem dX6_addRule_106 : decode cX6_addRule 106 = .ok (.invokevirtual 79, 3) := by decide +kernel
theorem dX6_addRule_109 : decode cX6_addRule 109 = .ok (.aload_n 0, 1) := by decide +kernel
theorem dX6_addRule_110 : decode cX6_addRule 110 = .ok (.getfield 19, 3) := by decide +kernel
theorem dX6_addRule_113 : decode cX6_addRule 113 = .ok (.iload_n 1, 1) := by decide +kernel
theorem dX6_addRule_114 : decode cX6_addRule 114 = .ok (.iload_n 2, 1) := by decide +kernel
theorem dX6_addRule_115 : decode cX6_addRule 115 = .ok (.iload_n 3, 1) := by decide +kernel
theorem dX6_addRule_116 : decode cX6_addRule 116 = .ok (.iload 4, 2) := by decide +kernel
theorem dX6_addRule_118 : decode cX6_addRule 118 = .ok (.iload 5, 2) := by decide +kernel
theorem dX6_addRule_120 : decode cX6_addRule 120 = .ok (.invokevirtual 112, 3) := by decide +kernel
theorem dX6_addRule_123 : decode cX6_addRule 123 = .ok (.aload_n 0, 1) := by decide +kernel
theorem dX6_addRule_124 : decode cX6_addRule 124 = .ok (.invokevirtual 72, 3) := by decide +kernel
theorem dX6_addRule_127 : decode cX6_addRule 127 = .ok (.aload_n 0, 1) := by decide +kernel
theorem dX6_addRule_128 : decode cX6_addRule 128 = .ok (.getfield 19, 3) := by decide +kernel
theorem dX6_addRule_131 : decode cX6_addRule 131 = .ok (.getfield 109, 3) := by decide +kernel
theorem dX6_addRule_134 : decode cX6_addRule 134 = .ok (.iconst 1, 1) := by decide +kernel
theorem dX6_addRule_135 : decode cX6_addRule 135 = .ok (.isub, 1) := by decide +kernel
theorem dX6_addRule_136 : decode cX6_addRule 136 = .ok (.ireturn, 1) := by decide +kernel
theorem jX6_addRule_X6 : ∀ w ∈ wsX60, w ∈ wsX6_addRule := by decide +kernel
theorem jX6_addRule_X2 : ∀ w ∈ wsX20, w ∈ wsX6_addRule := by decide +kernel
abbrev w_X6_addRule (cI cO : ClassId) (aS : Nat → Nat) (aT : Nat → Nat) (aB : Nat → Nat) (aH : Nat → Nat) (aM : Nat → Nat) (aC : Nat → Nat) (aZ : Nat → Nat) (aR : Nat → Nat → Nat)  : ((CS) × (CS) × (CS) × (Nat → CS) × (CS)) → va_W := fun u => (wS cI aS aT aB aH aM aC aZ u.1 ++ (wB cI aB u.2.1 ++ (wH cO aH aR u.2.2.1 ++ (wR cI aR u.2.2.2.1 ++ (wM cI aM u.2.2.2.2)))))
set_option maxRecDepth 100000 in
set_option maxHeartbeats 8000000 in
theorem mX6_addRule (l : Launch) (D : va_G) (cI cO : ClassId) (tA tS : Nat) (aS : Nat → Nat) (aT : Nat → Nat) (aB : Nat → Nat) (aH : Nat → Nat) (aM : Nat → Nat) (aC : Nat → Nat) (aZ : Nat → Nat) (aR : Nat → Nat → Nat) (zS : CS) (zB : CS) (zH : CS) (zR : Nat → CS) (zM : CS) (x1 : Int32) (x2 : Int32) (x3 : Int32) (x4 : Int32) (x5 : Int32) (sz : Nat) {post : Int32 → ((CS) × (CS) × (CS) × (Nat → CS) × (CS)) → Prop} (h : qX6_addRule post x1 x2 x3 x4 x5 zS zB zH zR zM) : Met l yX6_addRule wsX6_addRule ({ frames := 3, cells := 0, slots := 0, locals := 68 } : Room) (xPre D cI cO tA tS [.ref (aS 0), .int x1, .int x2, .int x3, .int x4, .int x5] (wS cI aS aT aB aH aM aC aZ zS ++ (wB cI aB zB ++ (wH cO aH aR zH ++ (wR cI aR zR ++ (wM cI aM zM))))) sz) (va_Qi post (xB D cI cO (va_A (wS cI aS aT aB aH aM aC aZ zS ++ (wB cI aB zB ++ (wH cO aH aR zH ++ (wR cI aR zR ++ (wM cI aM zM))))) sz) (w_X6_addRule cI cO aS aT aB aH aM aC aZ aR)) (va_A (wS cI aS aT aB aH aM aC aZ zS ++ (wB cI aB zB ++ (wH cO aH aR zH ++ (wR cI aR zR ++ (wM cI aM zM))))) sz)) 0 0 (va_A (wS cI aS aT aB aH aM aC aZ zS ++ (wB cI aB zB ++ (wH cO aH aR zH ++ (wR cI aR zR ++ (wM cI aM zM))))) sz) := by
  refine xMet D cI cO tA tS (fun A => va_Qi post (xB D cI cO A (w_X6_addRule cI cO aS aT aB aH aM aC aZ aR)) A) (cc := cX6_addRule) (maxL := 6) (ret := (some .int)) (by decide) rfl (Nat.le_of_ble_eq_true rfl) ?_
  intro p e s m below meth c A ls hx hb hr hts hown hlocks hin hml hA hS hP hK hD hE hl
  have hown : s.vm.findClass RX6 = some m.cls := hown
  have hl : lv_has ls 6 [(0, .ref (aS 0)), (1, .int x1), (2, .int x2), (3, .int x3), (4, .int x4), (5, .int x5)] := hl
  have g81 : ∀ (zS : CS) (zB : CS) (zH : CS) (zR : Nat → CS) (zM : CS) (H : Heap) (locs : List Loc) (ls : Array Slot), qX6_addRule_81 post x1 x2 x3 x4 x5 zS zB zH zR zM → va_P D vwCl (wS cI aS aT aB aH aM aC aZ zS ++ (wB cI aB zB ++ (wH cO aH aR zH ++ (wR cI aR zR ++ (wM cI aM zM))))) H → va_D A (wS cI aS aT aB aH aM aC aZ zS ++ (wB cI aB zB ++ (wH cO aH aR zH ++ (wR cI aR zR ++ (wM cI aM zM))))) → va_S A s.heap H locs → lv_has ls 6 [(0, .ref (aS 0)), (1, .int x1), (2, .int x2), (3, .int x3), (4, .int x4), (5, .int x5)] → W p l e ({ frames := 3, cells := 0, slots := 0, locals := 68 } : Room) s m ([.ref (aS 0), .int x1, .int x2, .int x3, .int x4, .int x5] : List Value).toArray below meth c H locs 0 0 (MQ below (va_Qi post (xB D cI cO A (w_X6_addRule cI cO aS aT aB aH aM aC aZ aR)) A) ([.ref (aS 0), .int x1, .int x2, .int x3, .int x4, .int x5] : List Value).toArray s 0 0 A) (F0 m 81 ls []) := by
    intro zS zB zH zR zM H locs ls h hP hD hS hl
    refine lv_iconst (v := -1) hx hb dX6_addRule_81 (by decide) ?_
    exact xiret (w := (w_X6_addRule cI cO aS aT aB aH aM aC aZ aR)) (zS, zB, zH, zR, zM) hx hb hr hlocks h hP hK hD hS dX6_addRule_82
  have g75 : ∀ (w0 : Int32) (w1 : Int32) (zS : CS) (zB : CS) (zH : CS) (zR : Nat → CS) (zM : CS) (H : Heap) (locs : List Loc) (ls : Array Slot), qX6_addRule_75 post x1 x2 x3 x4 x5 w0 w1 zS zB zH zR zM → va_P D vwCl (wS cI aS aT aB aH aM aC aZ zS ++ (wB cI aB zB ++ (wH cO aH aR zH ++ (wR cI aR zR ++ (wM cI aM zM))))) H → va_D A (wS cI aS aT aB aH aM aC aZ zS ++ (wB cI aB zB ++ (wH cO aH aR zH ++ (wR cI aR zR ++ (wM cI aM zM))))) → va_S A s.heap H locs → lv_has ls 6 [(0, .ref (aS 0)), (1, .int x1), (2, .int x2), (3, .int x3), (4, .int x4), (5, .int x5)] → W p l e ({ frames := 3, cells := 0, slots := 0, locals := 68 } : Room) s m ([.ref (aS 0), .int x1, .int x2, .int x3, .int x4, .int x5] : List Value).toArray below meth c H locs 0 0 (MQ below (va_Qi post (xB D cI cO A (w_X6_addRule cI cO aS aT aB aH aM aC aZ aR)) A) ([.ref (aS 0), .int x1, .int x2, .int x3, .int x4, .int x5] : List Value).toArray s 0 0 A) (F0 m 75 ls [.int w1, .int w0]) := by
    intro w0 w1 zS zB zH zR zM H locs ls h hP hD hS hl
    refine xcalli (wr := (wS cI aS aT aB aH aM aC aZ zS ++ (wB cI aB zB ++ (wH cO aH aR zH ++ (wR cI aR zR ++ (wM cI aM zM)))))) (w2 := fun (u75 : Unit) => (wS cI aS aT aB aH aM aC aZ zS ++ (wB cI aB zB ++ (wH cO aH aR zH ++ (wR cI aR zR ++ (wM cI aM zM)))))) (va_runS (As := [.int w0, .int w1]) (rest := []) ⟨hx, hb, hml, hown, hts⟩ (mX6_isConstraint l D cI cO tA tS w0 w1 _ h) (va_cwS 2 hts gX6_addRule_X6_isConstraint rfl rfl rfl (by decide +kernel) ⟨Nat.le_of_ble_eq_true rfl, Nat.le_of_ble_eq_true rfl⟩) (xpreP hP hD hS hA hK hE [] rfl rfl) rfl rfl hl.1 rfl (lv_room (Nat.le_of_ble_eq_true rfl)) dX6_addRule_75 ⟨Nat.le_refl 0, Nat.le_refl 0⟩) hP hD hS hA [] [0, 1, 2, 3, 4, 5, 6, 7, 8, 9, 10, 11, 12, 13, 14, 15, 16, 17, 18, 19, 20, 21, 22, 23, 24, 25, 26, 27, 28, 29, 30, 31, 32, 33, 34, 35, 36, 37, 38, 39, 40, 41, 42, 43, 44] [0, 1, 2, 3, 4, 5, 6, 7, 8, 9, 10, 11, 12, 13, 14, 15, 16, 17, 18, 19, 20, 21, 22, 23, 24, 25, 26, 27, 28, 29, 30, 31, 32, 33, 34, 35, 36, 37, 38, 39, 40, 41, 42, 43, 44] rfl rfl rfl (by decide) rfl (fun _ => rfl) (fun r75 u75 H locs h hP hD hS => ?_)
    obtain ⟨hh1, hh2⟩ := h
    refine lv_if_ne (tgt := 83) hx hb dX6_addRule_78 (by decide) (fun hc => ?_) (fun hc => ?_)
    · have h := hh2 hc
      refine lv_aload_n hx hb dX6_addRule_83 rfl (lv_at hl 0 rfl) ?_
      refine va_get (D := D) (ci := 6) (v := .ref (aB 0)) (C := RX6) (T := TX6) (N := 10) hx hb hts jX6_addRule_X6 hown hK hP 0 rfl rfl 1 (by decide) (hts (.fieldLink RX6 19 "BrotherAutomata" "book" "LBrotherAutomata$RuleBook;") (List.mem_of_getElem? (i := 2) rfl)) (fun _ h9 => h9) rfl dX6_addRule_84 ?_
      refine va_getN (D := D) (ci := 2) (v := .int (zB 5 0)) (C := RX2) (T := TX2) (N := 7) hx hb hts jX6_addRule_X2 hown hK hP 2 rfl rfl 5 (by decide) (va_Nw.use (w := .fieldLinkNest RX6 109 "BrotherAutomata$RuleBook" "count" "I" "BrotherAutomata") rfl (hE.1 _ (List.mem_of_getElem? (i := 23) rfl))) (fun _ h9 => h9) rfl dX6_addRule_87 ?_
      refine lv_bipush (v := 16) hx hb dX6_addRule_90 (by decide) ?_
      obtain ⟨hh1, hh2⟩ := h
      refine lv_icmp_lt (tgt := 98) hx hb dX6_addRule_92 (by decide) (fun hc => ?_) (fun hc => ?_)
      · have h := hh1 hc
        refine lv_aload_n hx hb dX6_addRule_98 rfl (lv_at hl 0 rfl) ?_
        refine va_get (D := D) (ci := 6) (v := .ref (aH 0)) (C := RX6) (T := TX6) (N := 10) hx hb hts jX6_addRule_X6 hown hK hP 0 rfl rfl 2 (by decide) (hts (.fieldLink RX6 26 "BrotherAutomata" "history" "LBrotherAutomata$History;") (List.mem_of_getElem? (i := 3) rfl)) (fun _ h9 => h9) rfl dX6_addRule_99 ?_
        refine lv_aload_n hx hb dX6_addRule_102 rfl (lv_at hl 0 rfl) ?_
        refine va_get (D := D) (ci := 6) (v := .ref (aB 0)) (C := RX6) (T := TX6) (N := 10) hx hb hts jX6_addRule_X6 hown hK hP 0 rfl rfl 1 (by decide) (hts (.fieldLink RX6 19 "BrotherAutomata" "book" "LBrotherAutomata$RuleBook;") (List.mem_of_getElem? (i := 2) rfl)) (fun _ h9 => h9) rfl dX6_addRule_103 ?_
        refine xcallv (wr := (wS cI aS aT aB aH aM aC aZ zS ++ (wM cI aM zM))) (w2 := fun (u106 : (CS) × (Nat → CS)) => (wS cI aS aT aB aH aM aC aZ zS ++ (wB cI aB zB ++ (wH cO aH aR u106.1 ++ (wR cI aR u106.2 ++ (wM cI aM zM)))))) (va_runV (As := [.ref (aB 0)]) (rest := []) ⟨hx, hb, hml, hown, hts⟩ (mX1_keep l D cI cO tA tS aB aH aR zB zH zR _ h) (cwV 1 hts gX6_addRule_X1_keep rfl rfl rfl (by decide +kernel) ⟨Nat.le_of_ble_eq_true rfl, Nat.le_of_ble_eq_true rfl⟩) (xpreV hP hD hS hA hK hE [2, 3, 4, 5, 6, 7, 8, 9, 10, 11, 12, 13, 14, 15, 16, 17, 18, 19, 20, 21, 22, 23, 24, 25, 26, 27, 28, 29, 30, 31, 32, 33, 34, 35, 36, 37, 38, 39] rfl rfl 1 8 rfl rfl) rfl rfl hl.1 rfl (lv_room (Nat.le_of_ble_eq_true rfl)) dX6_addRule_106 ⟨Nat.le_refl 0, Nat.le_refl 0⟩) hP hD hS hA [2, 3, 4, 5, 6, 7, 8, 9, 10, 11, 12, 13, 14, 15, 16, 17, 18, 19, 20, 21, 22, 23, 24, 25, 26, 27, 28, 29, 30, 31, 32, 33, 34, 35, 36, 37, 38, 39] [0, 1, 40, 41, 42, 43, 44] [0, 1, 7, 8, 9, 10, 11, 12, 13, 14, 15, 16, 17, 18, 19, 20, 21, 22, 23, 24, 25, 26, 27, 28, 29, 30, 31, 32, 33, 34, 35, 36, 37, 38, 39, 40, 41, 42, 43, 44, 2, 3, 4, 5, 6] rfl rfl rfl (by decide) rfl (fun _ => rfl) (fun u106 H locs h hP hD hS => ?_)
        refine lv_aload_n hx hb dX6_addRule_109 rfl (lv_at hl 0 rfl) ?_
        refine va_get (D := D) (ci := 6) (v := .ref (aB 0)) (C := RX6) (T := TX6) (N := 10) hx hb hts jX6_addRule_X6 hown hK hP 0 rfl rfl 1 (by decide) (hts (.fieldLink RX6 19 "BrotherAutomata" "book" "LBrotherAutomata$RuleBook;") (List.mem_of_getElem? (i := 2) rfl)) (fun _ h9 => h9) rfl dX6_addRule_110 ?_
        refine lv_iload_n hx hb dX6_addRule_113 rfl (lv_at hl 1 rfl) ?_
        refine lv_iload_n hx hb dX6_addRule_114 rfl (lv_at hl 2 rfl) ?_
        refine lv_iload_n hx hb dX6_addRule_115 rfl (lv_at hl 3 rfl) ?_
        refine lv_iload hx hb dX6_addRule_116 (lv_at hl 4 rfl) ?_
        refine lv_iload hx hb dX6_addRule_118 (lv_at hl 5 rfl) ?_
        refine xcallv (wr := (wS cI aS aT aB aH aM aC aZ zS ++ (wH cO aH aR u106.1 ++ (wR cI aR u106.2 ++ (wM cI aM zM))))) (w2 := fun (u120 : (CS)) => (wS cI aS aT aB aH aM aC aZ zS ++ (wB cI aB u120 ++ (wH cO aH aR u106.1 ++ (wR cI aR u106.2 ++ (wM cI aM zM)))))) (va_runV (As := [.int x1, .int x2, .int x3, .int x4, .int x5]) (rest := []) ⟨hx, hb, hml, hown, hts⟩ (mX2_append l D cI cO tA tS aB zB x1 x2 x3 x4 x5 _ h) (cwV 5 hts gX6_addRule_X2_append rfl rfl rfl (by decide +kernel) ⟨Nat.le_of_ble_eq_true rfl, Nat.le_of_ble_eq_true rfl⟩) (xpreV hP hD hS hA hK hE [2, 3, 4, 5, 6, 7] rfl rfl 2 2 rfl rfl) rfl rfl hl.1 rfl (lv_room (Nat.le_of_ble_eq_true rfl)) dX6_addRule_120 ⟨Nat.le_refl 0, Nat.le_refl 0⟩) hP hD hS hA [2, 3, 4, 5, 6, 7] [0, 1, 8, 9, 10, 11, 12, 13, 14, 15, 16, 17, 18, 19, 20, 21, 22, 23, 24, 25, 26, 27, 28, 29, 30, 31, 32, 33, 34, 35, 36, 37, 38, 39, 40, 41, 42, 43, 44] [0, 1, 39, 40, 41, 42, 43, 44, 2, 3, 4, 5, 6, 7, 8, 9, 10, 11, 12, 13, 14, 15, 16, 17, 18, 19, 20, 21, 22, 23, 24, 25, 26, 27, 28, 29, 30, 31, 32, 33, 34, 35, 36, 37, 38] rfl rfl rfl (by decide) rfl (fun _ => rfl) (fun u120 H locs h hP hD hS => ?_)
        refine lv_aload_n hx hb dX6_addRule_123 rfl (lv_at hl 0 rfl) ?_
        refine xcallv (wr := (wH cO aH aR u106.1 ++ (wR cI aR u106.2))) (w2 := fun (u124 : (CS) × (CS)) => (wS cI aS aT aB aH aM aC aZ u124.1 ++ (wB cI aB u120 ++ (wH cO aH aR u106.1 ++ (wR cI aR u106.2 ++ (wM cI aM u124.2)))))) (va_runV (As := []) (rest := []) ⟨hx, hb, hml, hown, hts⟩ (mX6_renewRuns l D cI cO tA tS aS aT aB aH aM aC aZ zS u120 zM _ h) (cwV 0 hts gX6_addRule_X6_renewRuns rfl rfl rfl (by decide +kernel) ⟨Nat.le_of_ble_eq_true rfl, Nat.le_of_ble_eq_true rfl⟩) (xpreV hP hD hS hA hK hE [0, 1, 2, 3, 4, 5, 6, 7, 40, 41, 42, 43, 44] rfl rfl 6 0 rfl rfl) rfl rfl hl.1 rfl (lv_room (Nat.le_of_ble_eq_true rfl)) dX6_addRule_124 ⟨Nat.le_refl 0, Nat.le_refl 0⟩) hP hD hS hA [0, 1, 2, 3, 4, 5, 6, 7, 40, 41, 42, 43, 44] [8, 9, 10, 11, 12, 13, 14, 15, 16, 17, 18, 19, 20, 21, 22, 23, 24, 25, 26, 27, 28, 29, 30, 31, 32, 33, 34, 35, 36, 37, 38, 39] [32, 33, 34, 35, 36, 37, 38, 39, 0, 1, 2, 3, 4, 5, 6, 7, 8, 9, 10, 11, 12, 13, 14, 15, 16, 17, 18, 19, 20, 21, 22, 23, 24, 25, 26, 27, 28, 29, 30, 31, 40, 41, 42, 43, 44] rfl rfl rfl (by decide) rfl (fun _ => rfl) (fun u124 H locs h hP hD hS => ?_)
        refine lv_aload_n hx hb dX6_addRule_127 rfl (lv_at hl 0 rfl) ?_
        refine va_get (D := D) (ci := 6) (v := .ref (aB 0)) (C := RX6) (T := TX6) (N := 10) hx hb hts jX6_addRule_X6 hown hK hP 0 rfl rfl 1 (by decide) (hts (.fieldLink RX6 19 "BrotherAutomata" "book" "LBrotherAutomata$RuleBook;") (List.mem_of_getElem? (i := 2) rfl)) (fun _ h9 => h9) rfl dX6_addRule_128 ?_
        refine va_getN (D := D) (ci := 2) (v := .int (u120 5 0)) (C := RX2) (T := TX2) (N := 7) hx hb hts jX6_addRule_X2 hown hK hP 2 rfl rfl 5 (by decide) (va_Nw.use (w := .fieldLinkNest RX6 109 "BrotherAutomata$RuleBook" "count" "I" "BrotherAutomata") rfl (hE.1 _ (List.mem_of_getElem? (i := 23) rfl))) (fun _ h9 => h9) rfl dX6_addRule_131 ?_
        refine lv_iconst (v := 1) hx hb dX6_addRule_134 (by decide) ?_
        refine lv_isub hx hb dX6_addRule_135 ?_
        exact xiret (w := (w_X6_addRule cI cO aS aT aB aH aM aC aZ aR)) (u124.1, u120, u106.1, u106.2, u124.2) hx hb hr hlocks h hP hK hD hS dX6_addRule_136
      · have h := hh2 hc
        refine lv_bipush (v := -2) hx hb dX6_addRule_95 (by decide) ?_
        exact xiret (w := (w_X6_addRule cI cO aS aT aB aH aM aC aZ aR)) (zS, zB, zH, zR, zM) hx hb hr hlocks h hP hK hD hS dX6_addRule_97
    · have h := hh1 hc
      exact g81 zS zB zH zR zM _ _ _ h hP hD hS hl
  have g53 : ∀ (w1 : Int32) (w2 : Int32) (zS : CS) (zB : CS) (zH : CS) (zR : Nat → CS) (zM : CS) (H : Heap) (locs : List Loc) (ls : Array Slot), qX6_addRule_53 post x1 x2 x3 x4 x5 w1 w2 zS zB zH zR zM → va_P D vwCl (wS cI aS aT aB aH aM aC aZ zS ++ (wB cI aB zB ++ (wH cO aH aR zH ++ (wR cI aR zR ++ (wM cI aM zM))))) H → va_D A (wS cI aS aT aB aH aM aC aZ zS ++ (wB cI aB zB ++ (wH cO aH aR zH ++ (wR cI aR zR ++ (wM cI aM zM))))) → va_S A s.heap H locs → lv_has ls 6 [(0, .ref (aS 0)), (1, .int x1), (2, .int x2), (3, .int x3), (4, .int x4), (5, .int x5)] → W p l e ({ frames := 3, cells := 0, slots := 0, locals := 68 } : Room) s m ([.ref (aS 0), .int x1, .int x2, .int x3, .int x4, .int x5] : List Value).toArray below meth c H locs 0 0 (MQ below (va_Qi post (xB D cI cO A (w_X6_addRule cI cO aS aT aB aH aM aC aZ aR)) A) ([.ref (aS 0), .int x1, .int x2, .int x3, .int x4, .int x5] : List Value).toArray s 0 0 A) (F0 m 53 ls [.int w2, .int w1, .ref (aS 0)]) := by
    intro w1 w2 zS zB zH zR zM H locs ls h hP hD hS hl
    refine xcalli (wr := (wB cI aB zB ++ (wH cO aH aR zH ++ (wR cI aR zR ++ (wM cI aM zM))))) (w2 := fun (u53 : Unit) => (wS cI aS aT aB aH aM aC aZ zS ++ (wB cI aB zB ++ (wH cO aH aR zH ++ (wR cI aR zR ++ (wM cI aM zM)))))) (va_runV (As := [.int w1, .int w2]) (rest := []) ⟨hx, hb, hml, hown, hts⟩ (mX6_isChildState l D cI cO tA tS aS aT aB aH aM aC aZ zS w1 w2 _ h) (cwV 2 hts gX6_addRule_X6_isChildState rfl rfl rfl (by decide +kernel) ⟨Nat.le_of_ble_eq_true rfl, Nat.le_of_ble_eq_true rfl⟩) (xpreV hP hD hS hA hK hE [0, 1] rfl rfl 6 0 rfl rfl) rfl rfl hl.1 rfl (lv_room (Nat.le_of_ble_eq_true rfl)) dX6_addRule_53 ⟨Nat.le_refl 0, Nat.le_refl 0⟩) hP hD hS hA [0, 1] [2, 3, 4, 5, 6, 7, 8, 9, 10, 11, 12, 13, 14, 15, 16, 17, 18, 19, 20, 21, 22, 23, 24, 25, 26, 27, 28, 29, 30, 31, 32, 33, 34, 35, 36, 37, 38, 39, 40, 41, 42, 43, 44] [43, 44, 0, 1, 2, 3, 4, 5, 6, 7, 8, 9, 10, 11, 12, 13, 14, 15, 16, 17, 18, 19, 20, 21, 22, 23, 24, 25, 26, 27, 28, 29, 30, 31, 32, 33, 34, 35, 36, 37, 38, 39, 40, 41, 42] rfl rfl rfl (by decide) rfl (fun _ => rfl) (fun r53 u53 H locs h hP hD hS => ?_)
    obtain ⟨hh1, hh2⟩ := h
    refine lv_if_eq (tgt := 81) hx hb dX6_addRule_56 (by decide) (fun hc => ?_) (fun hc => ?_)
    · have h := hh1 hc
      exact g81 zS zB zH zR zM _ _ _ h hP hD hS hl
    · have h := hh2 hc
      refine lv_iload hx hb dX6_addRule_59 (lv_at hl 4 rfl) ?_
      refine va_gets hx hb hE.2.1 hS hown (hts (.fieldLink RX6 99 "BrotherAutomata" "ARITY" "[I") (List.mem_of_getElem? (i := 1) rfl)) (fun _ h9 => h9) dX6_addRule_61 ?_
      refine lv_iload_n hx hb dX6_addRule_64 rfl (lv_at hl 1 rfl) ?_
      obtain ⟨hi, h⟩ := h
      refine va_ti (v := .int (xar x1.toNatClampNeg)) hx hb hE.2.2.1 hS hi rfl dX6_addRule_65 ?_
      refine lv_iconst (v := 1) hx hb dX6_addRule_66 (by decide) ?_
      obtain ⟨hh1, hh2⟩ := h
      refine lv_icmp_le (tgt := 74) hx hb dX6_addRule_67 (by decide) (fun hc => ?_) (fun hc => ?_)
      · have h := hh1 hc
        refine lv_iconst (v := 0) hx hb dX6_addRule_74 (by decide) ?_
        exact g75 x4 (0 : Int32) zS zB zH zR zM _ _ _ h hP hD hS hl
      · have h := hh2 hc
        refine lv_iconst (v := 1) hx hb dX6_addRule_70 (by decide) ?_
        refine lv_goto (tgt := 75) hx hb dX6_addRule_71 (by decide) ?_
        exact g75 x4 (1 : Int32) zS zB zH zR zM _ _ _ h hP hD hS hl
  have g31 : ∀ (w1 : Int32) (w2 : Int32) (zS : CS) (zB : CS) (zH : CS) (zR : Nat → CS) (zM : CS) (H : Heap) (locs : List Loc) (ls : Array Slot), qX6_addRule_31 post x1 x2 x3 x4 x5 w1 w2 zS zB zH zR zM → va_P D vwCl (wS cI aS aT aB aH aM aC aZ zS ++ (wB cI aB zB ++ (wH cO aH aR zH ++ (wR cI aR zR ++ (wM cI aM zM))))) H → va_D A (wS cI aS aT aB aH aM aC aZ zS ++ (wB cI aB zB ++ (wH cO aH aR zH ++ (wR cI aR zR ++ (wM cI aM zM))))) → va_S A s.heap H locs → lv_has ls 6 [(0, .ref (aS 0)), (1, .int x1), (2, .int x2), (3, .int x3), (4, .int x4), (5, .int x5)] → W p l e ({ frames := 3, cells := 0, slots := 0, locals := 68 } : Room) s m ([.ref (aS 0), .int x1, .int x2, .int x3, .int x4, .int x5] : List Value).toArray below meth c H locs 0 0 (MQ below (va_Qi post (xB D cI cO A (w_X6_addRule cI cO aS aT aB aH aM aC aZ aR)) A) ([.ref (aS 0), .int x1, .int x2, .int x3, .int x4, .int x5] : List Value).toArray s 0 0 A) (F0 m 31 ls [.int w2, .int w1, .ref (aS 0)]) := by
    intro w1 w2 zS zB zH zR zM H locs ls h hP hD hS hl
    refine xcalli (wr := (wB cI aB zB ++ (wH cO aH aR zH ++ (wR cI aR zR ++ (wM cI aM zM))))) (w2 := fun (u31 : Unit) => (wS cI aS aT aB aH aM aC aZ zS ++ (wB cI aB zB ++ (wH cO aH aR zH ++ (wR cI aR zR ++ (wM cI aM zM)))))) (va_runV (As := [.int w1, .int w2]) (rest := []) ⟨hx, hb, hml, hown, hts⟩ (mX6_isChildState l D cI cO tA tS aS aT aB aH aM aC aZ zS w1 w2 _ h) (cwV 2 hts gX6_addRule_X6_isChildState rfl rfl rfl (by decide +kernel) ⟨Nat.le_of_ble_eq_true rfl, Nat.le_of_ble_eq_true rfl⟩) (xpreV hP hD hS hA hK hE [0, 1] rfl rfl 6 0 rfl rfl) rfl rfl hl.1 rfl (lv_room (Nat.le_of_ble_eq_true rfl)) dX6_addRule_31 ⟨Nat.le_refl 0, Nat.le_refl 0⟩) hP hD hS hA [0, 1] [2, 3, 4, 5, 6, 7, 8, 9, 10, 11, 12, 13, 14, 15, 16, 17, 18, 19, 20, 21, 22, 23, 24, 25, 26, 27, 28, 29, 30, 31, 32, 33, 34, 35, 36, 37, 38, 39, 40, 41, 42, 43, 44] [43, 44, 0, 1, 2, 3, 4, 5, 6, 7, 8, 9, 10, 11, 12, 13, 14, 15, 16, 17, 18, 19, 20, 21, 22, 23, 24, 25, 26, 27, 28, 29, 30, 31, 32, 33, 34, 35, 36, 37, 38, 39, 40, 41, 42] rfl rfl rfl (by decide) rfl (fun _ => rfl) (fun r31 u31 H locs h hP hD hS => ?_)
    obtain ⟨hh1, hh2⟩ := h
    refine lv_if_eq (tgt := 81) hx hb dX6_addRule_34 (by decide) (fun hc => ?_) (fun hc => ?_)
    · have h := hh1 hc
      exact g81 zS zB zH zR zM _ _ _ h hP hD hS hl
    · have h := hh2 hc
      refine lv_aload_n hx hb dX6_addRule_37 rfl (lv_at hl 0 rfl) ?_
      refine lv_iload_n hx hb dX6_addRule_38 rfl (lv_at hl 3 rfl) ?_
      refine va_gets hx hb hE.2.1 hS hown (hts (.fieldLink RX6 99 "BrotherAutomata" "ARITY" "[I") (List.mem_of_getElem? (i := 1) rfl)) (fun _ h9 => h9) dX6_addRule_39 ?_
      refine lv_iload_n hx hb dX6_addRule_42 rfl (lv_at hl 1 rfl) ?_
      obtain ⟨hi, h⟩ := h
      refine va_ti (v := .int (xar x1.toNatClampNeg)) hx hb hE.2.2.1 hS hi rfl dX6_addRule_43 ?_
      refine lv_iconst (v := 1) hx hb dX6_addRule_44 (by decide) ?_
      obtain ⟨hh1, hh2⟩ := h
      refine lv_icmp_le (tgt := 52) hx hb dX6_addRule_45 (by decide) (fun hc => ?_) (fun hc => ?_)
      · have h := hh1 hc
        refine lv_iconst (v := 0) hx hb dX6_addRule_52 (by decide) ?_
        exact g53 x3 (0 : Int32) zS zB zH zR zM _ _ _ h hP hD hS hl
      · have h := hh2 hc
        refine lv_iconst (v := 1) hx hb dX6_addRule_48 (by decide) ?_
        refine lv_goto (tgt := 53) hx hb dX6_addRule_49 (by decide) ?_
        exact g53 x3 (1 : Int32) zS zB zH zR zM _ _ _ h hP hD hS hl
  refine lv_iload_n hx hb dX6_addRule_0 rfl (lv_at hl 1 rfl) ?_
  refine xcalli (wr := (wS cI aS aT aB aH aM aC aZ zS ++ (wB cI aB zB ++ (wH cO aH aR zH ++ (wR cI aR zR ++ (wM cI aM zM)))))) (w2 := fun (u1 : Unit) => (wS cI aS aT aB aH aM aC aZ zS ++ (wB cI aB zB ++ (wH cO aH aR zH ++ (wR cI aR zR ++ (wM cI aM zM)))))) (va_runS (As := [.int x1]) (rest := []) ⟨hx, hb, hml, hown, hts⟩ (mX6_isSymbol l D cI cO tA tS x1 _ h) (va_cwS 1 hts gX6_addRule_X6_isSymbol rfl rfl rfl (by decide +kernel) ⟨Nat.le_of_ble_eq_true rfl, Nat.le_of_ble_eq_true rfl⟩) (xpreP hP hD hS hA hK hE [] rfl rfl) rfl rfl hl.1 rfl (lv_room (Nat.le_of_ble_eq_true rfl)) dX6_addRule_1 ⟨Nat.le_refl 0, Nat.le_refl 0⟩) hP hD hS hA [] [0, 1, 2, 3, 4, 5, 6, 7, 8, 9, 10, 11, 12, 13, 14, 15, 16, 17, 18, 19, 20, 21, 22, 23, 24, 25, 26, 27, 28, 29, 30, 31, 32, 33, 34, 35, 36, 37, 38, 39, 40, 41, 42, 43, 44] [0, 1, 2, 3, 4, 5, 6, 7, 8, 9, 10, 11, 12, 13, 14, 15, 16, 17, 18, 19, 20, 21, 22, 23, 24, 25, 26, 27, 28, 29, 30, 31, 32, 33, 34, 35, 36, 37, 38, 39, 40, 41, 42, 43, 44] rfl rfl rfl (by decide) rfl (fun _ => rfl) (fun r1 u1 H locs h hP hD hS => ?_)
  obtain ⟨hh1, hh2⟩ := h
  refine lv_if_eq (tgt := 81) hx hb dX6_addRule_4 (by decide) (fun hc => ?_) (fun hc => ?_)
  · have h := hh1 hc
    exact g81 zS zB zH zR zM _ _ _ h hP hD hS hl
  · have h := hh2 hc
    refine lv_aload_n hx hb dX6_addRule_7 rfl (lv_at hl 0 rfl) ?_
    refine lv_iload hx hb dX6_addRule_8 (lv_at hl 5 rfl) ?_
    refine xcalli (wr := (wB cI aB zB ++ (wH cO aH aR zH ++ (wR cI aR zR ++ (wM cI aM zM))))) (w2 := fun (u10 : Unit) => (wS cI aS aT aB aH aM aC aZ zS ++ (wB cI aB zB ++ (wH cO aH aR zH ++ (wR cI aR zR ++ (wM cI aM zM)))))) (va_runV (As := [.int x5]) (rest := []) ⟨hx, hb, hml, hown, hts⟩ (mX6_isState l D cI cO tA tS aS aT aB aH aM aC aZ zS x5 _ h) (cwV 1 hts gX6_addRule_X6_isState rfl rfl rfl (by decide +kernel) ⟨Nat.le_of_ble_eq_true rfl, Nat.le_of_ble_eq_true rfl⟩) (xpreV hP hD hS hA hK hE [0, 1] rfl rfl 6 0 rfl rfl) rfl rfl hl.1 rfl (lv_room (Nat.le_of_ble_eq_true rfl)) dX6_addRule_10 ⟨Nat.le_refl 0, Nat.le_refl 0⟩) hP hD hS hA [0, 1] [2, 3, 4, 5, 6, 7, 8, 9, 10, 11, 12, 13, 14, 15, 16, 17, 18, 19, 20, 21, 22, 23, 24, 25, 26, 27, 28, 29, 30, 31, 32, 33, 34, 35, 36, 37, 38, 39, 40, 41, 42, 43, 44] [43, 44, 0, 1, 2, 3, 4, 5, 6, 7, 8, 9, 10, 11, 12, 13, 14, 15, 16, 17, 18, 19, 20, 21, 22, 23, 24, 25, 26, 27, 28, 29, 30, 31, 32, 33, 34, 35, 36, 37, 38, 39, 40, 41, 42] rfl rfl rfl (by decide) rfl (fun _ => rfl) (fun r10 u10 H locs h hP hD hS => ?_)
    obtain ⟨hh1, hh2⟩ := h
    refine lv_if_eq (tgt := 81) hx hb dX6_addRule_13 (by decide) (fun hc => ?_) (fun hc => ?_)
    · have h := hh1 hc
      exact g81 zS zB zH zR zM _ _ _ h hP hD hS hl
    · have h := hh2 hc
      refine lv_aload_n hx hb dX6_addRule_16 rfl (lv_at hl 0 rfl) ?_
      refine lv_iload_n hx hb dX6_addRule_17 rfl (lv_at hl 2 rfl) ?_
      refine va_gets hx hb hE.2.1 hS hown (hts (.fieldLink RX6 99 "BrotherAutomata" "ARITY" "[I") (List.mem_of_getElem? (i := 1) rfl)) (fun _ h9 => h9) dX6_addRule_18 ?_
      refine lv_iload_n hx hb dX6_addRule_21 rfl (lv_at hl 1 rfl) ?_
      obtain ⟨hi, h⟩ := h
      refine va_ti (v := .int (xar x1.toNatClampNeg)) hx hb hE.2.2.1 hS hi rfl dX6_addRule_22 ?_
      obtain ⟨hh1, hh2⟩ := h
      refine lv_if_le (tgt := 30) hx hb dX6_addRule_23 (by decide) (fun hc => ?_) (fun hc => ?_)
      · have h := hh1 hc
        refine lv_iconst (v := 0) hx hb dX6_addRule_30 (by decide) ?_
        exact g31 x2 (0 : Int32) zS zB zH zR zM _ _ _ h hP hD hS hl
      · have h := hh2 hc
        refine lv_iconst (v := 1) hx hb dX6_addRule_26 (by decide) ?_
        refine lv_goto (tgt := 31) hx hb dX6_addRule_27 (by decide) ?_
        exact g31 x2 (1 : Int32) zS zB zH zR zM _ _ _ h hP hD hS hl
set_option maxRecDepth 20000 in
theorem ggX6_removeRule_X1_keep : GoodIn wsX6_removeRule wsX1_keep := goodIn_r _ [7, 8, 9, 10, 11, 12, 13, 14, 15, 16, 17, 18, 19, 20, 21, 22, 23, 24, 25, 26, 27, 28, 29, 30, 86, 87, 88, 79, 80, 81, 82, 83, 84, 85] (by decide +kernel) (by decide +kernel)
set_option maxRecDepth 20000 in
theorem gX6_removeRule_X1_keep : GoodIn wsX6_removeRule (wsV RX6 79 RX1 yX1_keep wsX1_keep) := goodIn_app (goodIn_of _ (by decide +kernel)) ggX6_removeRule_X1_keep
set_option maxRecDepth 20000 in
theorem ggX6_removeRule_X2_delete : GoodIn wsX6_removeRule wsX2_delete := goodIn_r _ [34, 20, 22, 27, 28, 29, 30, 35, 36, 37, 18, 38, 79, 80, 81, 82, 83, 84, 85] (by decide +kernel) (by decide +kernel)
set_option maxRecDepth 20000 in
theorem gX6_removeRule_X2_delete : GoodIn wsX6_removeRule (wsV RX6 116 RX2 yX2_delete wsX2_delete) := goodIn_app (goodIn_of _ (by decide +kernel)) ggX6_removeRule_X2_delete
set_option maxRecDepth 20000 in
theorem ggX6_removeRule_X6_renewRuns : GoodIn wsX6_removeRule wsX6_renewRuns := goodIn_r _ [43, 44, 1, 45, 46, 47, 48, 49, 50, 51, 52, 53, 54, 55, 56, 57, 58, 59, 60, 61, 62, 63, 64, 65, 66, 67, 68, 69, 70, 71, 72, 73, 74, 75, 76, 77, 78, 89, 90, 91, 92, 93, 94, 79, 80, 81, 82, 83, 84, 85] (by decide +kernel) (by decide +kernel)
set_option maxRecDepth 20000 in
theorem gX6_removeRule_X6_renewRuns : GoodIn wsX6_removeRule (wsV RX6 72 RX6 yX6_renewRuns wsX6_renewRuns) := goodIn_app (goodIn_of _ (by decide +kernel)) ggX6_removeRule_X6_renewRuns
theorem dX6_removeRule_0 : decode cX6_removeRule 0 = .ok (.iload_n 1, 1) := by decide +kernel
theorem dX6_removeRule_1 : decode cX6_removeRule 1 = .ok (.ifCond .lt 14, 3) := by decide +kernel
theorem dX6_removeRule_4 : decode cX6_removeRule 4 = .ok (.iload_n 1, 1) := by decide +kernel
theorem dX6_removeRule_5 : decode cX6_removeRule 5 = .ok (.aload_n 0, 1) := by decide +kernel
theorem dX6_removeRule_6 : decode cX6_removeRule 6 = .ok (.getfield 19, 3) := by decide +kernel
theorem dX6_removeRule_9 : decode cX6_removeRule 9 = .ok (.getfield 109, 3) := by decide +kernel
theorem dX6_removeRule_12 : decode cX6_removeRule 12 = .ok (.if_icmp .lt 5, 3) := by decide +kernel
theorem dX6_removeRule_15 : decode cX6_removeRule 15 = .ok (.iconst (-1), 1) := by decide +kernel
theorem dX6_removeRule_16 : decode cX6_removeRule 16 = .ok (.ireturn, 1) := by decide +kernel
theorem dX6_removeRule_17 : decode cX6_removeRule 17 = .ok (.aload_n 0, 1) := by decide +kernel
theorem dX6_removeRule_18 : decode cX6_removeRule 18 = .ok (.getfield 26, 3) := by decide +kernel
theorem dX6_removeRule_21 : decode cX6_removeRule 21 = .ok (.aload_n 0, 1) := by decide +kernel
theorem dX6_removeRule_22 : decode cX6_removeRule 22 = .ok (.getfield 19, 3) := by decide +kernel
theorem dX6_removeRule_25 : decode cX6_removeRule 25 = .ok (.invokevirtual 79, 3) := by decide +kernel
theorem dX6_removeRule_28 : decode cX6_removeRule 28 = .ok (.aload_n 0, 1) := by decide +kernel
theorem dX6_removeRule_29 : decode cX6_removeRule 29 = .ok (.getfield 19, 3) := by decide +kernel
theorem dX6_removeRule_32 : decode cX6_removeRule 32 = .ok (.iload_n 1, 1) := by decide +kernel
theorem dX6_removeRule_33 : decode cX6_removeRule 33 = .ok (.invokevirtual 116, 3) := by decide +kernel
theorem dX6_removeRule_36 : decode cX6_removeRule 36 = .ok (.aload_n 0, 1) := by decide +kernel
theorem dX6_removeRule_37 : decode cX6_removeRule 37 = .ok (.invokevirtual 72, 3) := by decide +kernel
theorem dX6_removeRule_40 : decode cX6_removeRule 40 = .ok (.aload_n 0, 1) := by decide +kernel
theorem dX6_removeRule_41 : decode cX6_removeRule 41 = .ok (.getfield 19, 3) := by decide +kernel
theorem dX6_removeRule_44 : decode cX6_removeRule 44 = .ok (.getfield 109, 3) := by decide +kernel
theorem dX6_removeRule_47 : decode cX6_removeRule 47 = .ok (.ireturn, 1) := by decide +kernel
theorem jX6_removeRule_X6 : ∀ w ∈ wsX60, w ∈ wsX6_removeRule := by decide +kernel
theorem jX6_removeRule_X2 : ∀ w ∈ wsX20, w ∈ wsX6_removeRule := by decide +kernel
abbrev w_X6_removeRule (cI cO : ClassId) (aS : Nat → Nat) (aT : Nat → Nat) (aB : Nat → Nat) (aH : Nat → Nat) (aM : Nat → Nat) (aC : Nat → Nat) (aZ : Nat → Nat) (aR : Nat → Nat → Nat)  : ((CS) × (CS) × (CS) × (Nat → CS) × (CS)) → va_W := fun u => (wS cI aS aT aB aH aM aC aZ u.1 ++ (wB cI aB u.2.1 ++ (wH cO aH aR u.2.2.1 ++ (wR cI aR u.2.2.2.1 ++ (wM cI aM u.2.2.2.2)))))
set_option maxRecDepth 100000 in
set_option maxHeartbeats 8000000 in
theorem mX6_removeRule (l : Launch) (D : va_G) (cI cO : ClassId) (tA tS : Nat) (aS : Nat → Nat) (aT : Nat → Nat) (aB : Nat → Nat) (aH : Nat → Nat) (aM : Nat → Nat) (aC : Nat → Nat) (aZ : Nat → Nat) (aR : Nat → Nat → Nat) (zS : CS) (zB : CS) (zH : CS) (zR : Nat → CS) (zM : CS) (x1 : Int32) (sz : Nat) {post : Int32 → ((CS) × (CS) × (CS) × (Nat → CS) × (CS)) → Prop} (h : qX6_removeRule post x1 zS zB zH zR zM) : Met l yX6_removeRule wsX6_removeRule ({ frames := 3, cells := 0, slots := 0, locals := 68 } : Room) (xPre D cI cO tA tS [.ref (aS 0), .int x1] (wS cI aS aT aB aH aM aC aZ zS ++ (wB cI aB zB ++ (wH cO aH aR zH ++ (wR cI aR zR ++ (wM cI aM zM))))) sz) (va_Qi post (xB D cI cO (va_A (wS cI aS aT aB aH aM aC aZ zS ++ (wB cI aB zB ++ (wH cO aH aR zH ++ (wR cI aR zR ++ (wM cI aM zM))))) sz) (w_X6_removeRule cI cO aS aT aB aH aM aC aZ aR)) (va_A (wS cI aS aT aB aH aM aC aZ zS ++ (wB cI aB zB ++ (wH cO aH aR zH ++ (wR cI aR zR ++ (wM cI aM zM))))) sz)) 0 0 (va_A (wS cI aS aT aB aH aM aC aZ zS ++ (wB cI aB zB ++ (wH cO aH aR zH ++ (wR cI aR zR ++ (wM cI aM zM))))) sz) := by
  refine xMet D cI cO tA tS (fun A => va_Qi post (xB D cI cO A (w_X6_removeRule cI cO aS aT aB aH aM aC aZ aR)) A) (cc := cX6_removeRule) (maxL := 2) (ret := (some .int)) (by decide) rfl (Nat.le_of_ble_eq_true rfl) ?_
  intro p e s m below meth c A ls hx hb hr hts hown hlocks hin hml hA hS hP hK hD hE hl
  have hown : s.vm.findClass RX6 = some m.cls := hown
  have hl : lv_has ls 2 [(0, .ref (aS 0)), (1, .int x1)] := hl
  have g15 : ∀ (zS : CS) (zB : CS) (zH : CS) (zR : Nat → CS) (zM : CS) (H : Heap) (locs : List Loc) (ls : Array Slot), qX6_removeRule_15 post x1 zS zB zH zR zM → va_P D vwCl (wS cI aS aT aB aH aM aC aZ zS ++ (wB cI aB zB ++ (wH cO aH aR zH ++ (wR cI aR zR ++ (wM cI aM zM))))) H → va_D A (wS cI aS aT aB aH aM aC aZ zS ++ (wB cI aB zB ++ (wH cO aH aR zH ++ (wR cI aR zR ++ (wM cI aM zM))))) → va_S A s.heap H locs → lv_has ls 2 [(0, .ref (aS 0)), (1, .int x1)] → W p l e ({ frames := 3, cells := 0, slots := 0, locals := 68 } : Room) s m ([.ref (aS 0), .int x1] : List Value).toArray below meth c H locs 0 0 (MQ below (va_Qi post (xB D cI cO A (w_X6_removeRule cI cO aS aT aB aH aM aC aZ aR)) A) ([.ref (aS 0), .int x1] : List Value).toArray s 0 0 A) (F0 m 15 ls []) := by
    intro zS zB zH zR zM H locs ls h hP hD hS hl
    refine lv_iconst (v := -1) hx hb dX6_removeRule_15 (by decide) ?_
    exact xiret (w := (w_X6_removeRule cI cO aS aT aB aH aM aC aZ aR)) (zS, zB, zH, zR, zM) hx hb hr hlocks h hP hK hD hS dX6_removeRule_16
  refine lv_iload_n hx hb dX6_removeRule_0 rfl (lv_at hl 1 rfl) ?_
  obtain ⟨hh1, hh2⟩ := h
  refine lv_if_lt (tgt := 15) hx hb dX6_removeRule_1 (by decide) (fun hc => ?_) (fun hc => ?_)
  · have h := hh1 hc
    exact g15 zS zB zH zR zM _ _ _ h hP hD hS hl
  · have h := hh2 hc
    refine lv_iload_n hx hb dX6_removeRule_4 rfl (lv_at hl 1 rfl) ?_
    refine lv_aload_n hx hb dX6_removeRule_5 rfl (lv_at hl 0 rfl) ?_
    refine va_get (D := D) (ci := 6) (v := .ref (aB 0)) (C := RX6) (T := TX6) (N := 10) hx hb hts jX6_removeRule_X6 hown hK hP 0 rfl rfl 1 (by decide) (hts (.fieldLink RX6 19 "BrotherAutomata" "book" "LBrotherAutomata$RuleBook;") (List.mem_of_getElem? (i := 1) rfl)) (fun _ h9 => h9) rfl dX6_removeRule_6 ?_
    refine va_getN (D := D) (ci := 2) (v := .int (zB 5 0)) (C := RX2) (T := TX2) (N := 7) hx hb hts jX6_removeRule_X2 hown hK hP 2 rfl rfl 5 (by decide) (va_Nw.use (w := .fieldLinkNest RX6 109 "BrotherAutomata$RuleBook" "count" "I" "BrotherAutomata") rfl (hE.1 _ (List.mem_of_getElem? (i := 23) rfl))) (fun _ h9 => h9) rfl dX6_removeRule_9 ?_
    obtain ⟨hh1, hh2⟩ := h
    refine lv_icmp_lt (tgt := 17) hx hb dX6_removeRule_12 (by decide) (fun hc => ?_) (fun hc => ?_)
    · have h := hh1 hc
      refine lv_aload_n hx hb dX6_removeRule_17 rfl (lv_at hl 0 rfl) ?_
      refine va_get (D := D) (ci := 6) (v := .ref (aH 0)) (C := RX6) (T := TX6) (N := 10) hx hb hts jX6_removeRule_X6 hown hK hP 0 rfl rfl 2 (by decide) (hts (.fieldLink RX6 26 "BrotherAutomata" "history" "LBrotherAutomata$History;") (List.mem_of_getElem? (i := 2) rfl)) (fun _ h9 => h9) rfl dX6_removeRule_18 ?_
      refine lv_aload_n hx hb dX6_removeRule_21 rfl (lv_at hl 0 rfl) ?_
      refine va_get (D := D) (ci := 6) (v := .ref (aB 0)) (C := RX6) (T := TX6) (N := 10) hx hb hts jX6_removeRule_X6 hown hK hP 0 rfl rfl 1 (by decide) (hts (.fieldLink RX6 19 "BrotherAutomata" "book" "LBrotherAutomata$RuleBook;") (List.mem_of_getElem? (i := 1) rfl)) (fun _ h9 => h9) rfl dX6_removeRule_22 ?_
      refine xcallv (wr := (wS cI aS aT aB aH aM aC aZ zS ++ (wM cI aM zM))) (w2 := fun (u25 : (CS) × (Nat → CS)) => (wS cI aS aT aB aH aM aC aZ zS ++ (wB cI aB zB ++ (wH cO aH aR u25.1 ++ (wR cI aR u25.2 ++ (wM cI aM zM)))))) (va_runV (As := [.ref (aB 0)]) (rest := []) ⟨hx, hb, hml, hown, hts⟩ (mX1_keep l D cI cO tA tS aB aH aR zB zH zR _ h) (cwV 1 hts gX6_removeRule_X1_keep rfl rfl rfl (by decide +kernel) ⟨Nat.le_of_ble_eq_true rfl, Nat.le_of_ble_eq_true rfl⟩) (xpreV hP hD hS hA hK hE [2, 3, 4, 5, 6, 7, 8, 9, 10, 11, 12, 13, 14, 15, 16, 17, 18, 19, 20, 21, 22, 23, 24, 25, 26, 27, 28, 29, 30, 31, 32, 33, 34, 35, 36, 37, 38, 39] rfl rfl 1 8 rfl rfl) rfl rfl hl.1 rfl (lv_room (Nat.le_of_ble_eq_true rfl)) dX6_removeRule_25 ⟨Nat.le_refl 0, Nat.le_refl 0⟩) hP hD hS hA [2, 3, 4, 5, 6, 7, 8, 9, 10, 11, 12, 13, 14, 15, 16, 17, 18, 19, 20, 21, 22, 23, 24, 25, 26, 27, 28, 29, 30, 31, 32, 33, 34, 35, 36, 37, 38, 39] [0, 1, 40, 41, 42, 43, 44] [0, 1, 7, 8, 9, 10, 11, 12, 13, 14, 15, 16, 17, 18, 19, 20, 21, 22, 23, 24, 25, 26, 27, 28, 29, 30, 31, 32, 33, 34, 35, 36, 37, 38, 39, 40, 41, 42, 43, 44, 2, 3, 4, 5, 6] rfl rfl rfl (by decide) rfl (fun _ => rfl) (fun u25 H locs h hP hD hS => ?_)
      refine lv_aload_n hx hb dX6_removeRule_28 rfl (lv_at hl 0 rfl) ?_
      refine va_get (D := D) (ci := 6) (v := .ref (aB 0)) (C := RX6) (T := TX6) (N := 10) hx hb hts jX6_removeRule_X6 hown hK hP 0 rfl rfl 1 (by decide) (hts (.fieldLink RX6 19 "BrotherAutomata" "book" "LBrotherAutomata$RuleBook;") (List.mem_of_getElem? (i := 1) rfl)) (fun _ h9 => h9) rfl dX6_removeRule_29 ?_
      refine lv_iload_n hx hb dX6_removeRule_32 rfl (lv_at hl 1 rfl) ?_
      refine xcallv (wr := (wS cI aS aT aB aH aM aC aZ zS ++ (wH cO aH aR u25.1 ++ (wR cI aR u25.2 ++ (wM cI aM zM))))) (w2 := fun (u33 : (CS)) => (wS cI aS aT aB aH aM aC aZ zS ++ (wB cI aB u33 ++ (wH cO aH aR u25.1 ++ (wR cI aR u25.2 ++ (wM cI aM zM)))))) (va_runV (As := [.int x1]) (rest := []) ⟨hx, hb, hml, hown, hts⟩ (mX2_delete l D cI cO tA tS aB zB x1 _ h) (cwV 1 hts gX6_removeRule_X2_delete rfl rfl rfl (by decide +kernel) ⟨Nat.le_of_ble_eq_true rfl, Nat.le_of_ble_eq_true rfl⟩) (xpreV hP hD hS hA hK hE [2, 3, 4, 5, 6, 7] rfl rfl 2 2 rfl rfl) rfl rfl hl.1 rfl (lv_room (Nat.le_of_ble_eq_true rfl)) dX6_removeRule_33 ⟨Nat.le_refl 0, Nat.le_refl 0⟩) hP hD hS hA [2, 3, 4, 5, 6, 7] [0, 1, 8, 9, 10, 11, 12, 13, 14, 15, 16, 17, 18, 19, 20, 21, 22, 23, 24, 25, 26, 27, 28, 29, 30, 31, 32, 33, 34, 35, 36, 37, 38, 39, 40, 41, 42, 43, 44] [0, 1, 39, 40, 41, 42, 43, 44, 2, 3, 4, 5, 6, 7, 8, 9, 10, 11, 12, 13, 14, 15, 16, 17, 18, 19, 20, 21, 22, 23, 24, 25, 26, 27, 28, 29, 30, 31, 32, 33, 34, 35, 36, 37, 38] rfl rfl rfl (by decide) rfl (fun _ => rfl) (fun u33 H locs h hP hD hS => ?_)
      refine lv_aload_n hx hb dX6_removeRule_36 rfl (lv_at hl 0 rfl) ?_
      refine xcallv (wr := (wH cO aH aR u25.1 ++ (wR cI aR u25.2))) (w2 := fun (u37 : (CS) × (CS)) => (wS cI aS aT aB aH aM aC aZ u37.1 ++ (wB cI aB u33 ++ (wH cO aH aR u25.1 ++ (wR cI aR u25.2 ++ (wM cI aM u37.2)))))) (va_runV (As := []) (rest := []) ⟨hx, hb, hml, hown, hts⟩ (mX6_renewRuns l D cI cO tA tS aS aT aB aH aM aC aZ zS u33 zM _ h) (cwV 0 hts gX6_removeRule_X6_renewRuns rfl rfl rfl (by decide +kernel) ⟨Nat.le_of_ble_eq_true rfl, Nat.le_of_ble_eq_true rfl⟩) (xpreV hP hD hS hA hK hE [0, 1, 2, 3, 4, 5, 6, 7, 40, 41, 42, 43, 44] rfl rfl 6 0 rfl rfl) rfl rfl hl.1 rfl (lv_room (Nat.le_of_ble_eq_true rfl)) dX6_removeRule_37 ⟨Nat.le_refl 0, Nat.le_refl 0⟩) hP hD hS hA [0, 1, 2, 3, 4, 5, 6, 7, 40, 41, 42, 43, 44] [8, 9, 10, 11, 12, 13, 14, 15, 16, 17, 18, 19, 20, 21, 22, 23, 24, 25, 26, 27, 28, 29, 30, 31, 32, 33, 34, 35, 36, 37, 38, 39] [32, 33, 34, 35, 36, 37, 38, 39, 0, 1, 2, 3, 4, 5, 6, 7, 8, 9, 10, 11, 12, 13, 14, 15, 16, 17, 18, 19, 20, 21, 22, 23, 24, 25, 26, 27, 28, 29, 30, 31, 40, 41, 42, 43, 44] rfl rfl rfl (by decide) rfl (fun _ => rfl) (fun u37 H locs h hP hD hS => ?_)
      refine lv_aload_n hx hb dX6_removeRule_40 rfl (lv_at hl 0 rfl) ?_
      refine va_get (D := D) (ci := 6) (v := .ref (aB 0)) (C := RX6) (T := TX6) (N := 10) hx hb hts jX6_removeRule_X6 hown hK hP 0 rfl rfl 1 (by decide) (hts (.fieldLink RX6 19 "BrotherAutomata" "book" "LBrotherAutomata$RuleBook;") (List.mem_of_getElem? (i := 1) rfl)) (fun _ h9 => h9) rfl dX6_removeRule_41 ?_
      refine va_getN (D := D) (ci := 2) (v := .int (u33 5 0)) (C := RX2) (T := TX2) (N := 7) hx hb hts jX6_removeRule_X2 hown hK hP 2 rfl rfl 5 (by decide) (va_Nw.use (w := .fieldLinkNest RX6 109 "BrotherAutomata$RuleBook" "count" "I" "BrotherAutomata") rfl (hE.1 _ (List.mem_of_getElem? (i := 23) rfl))) (fun _ h9 => h9) rfl dX6_removeRule_44 ?_
      exact xiret (w := (w_X6_removeRule cI cO aS aT aB aH aM aC aZ aR)) (u37.1, u33, u25.1, u25.2, u37.2) hx hb hr hlocks h hP hK hD hS dX6_removeRule_47
    · have h := hh2 hc
      exact g15 zS zB zH zR zM _ _ _ h hP hD hS hl
set_option maxRecDepth 20000 in
theorem ggX6_swapStates_X6_isState : GoodIn wsX6_swapStates wsX6_isState := goodIn_r _ [7, 8, 85, 86, 87, 88, 89, 90, 91, 92, 93, 94] (by decide +kernel) (by decide +kernel)
set_option maxRecDepth 20000 in
theorem gX6_swapStates_X6_isState : GoodIn wsX6_swapStates (wsV RX6 75 RX6 yX6_isState wsX6_isState) := goodIn_app (goodIn_of _ (by decide +kernel)) ggX6_swapStates_X6_isState
set_option maxRecDepth 20000 in
theorem ggX6_swapStates_X1_keep : GoodIn wsX6_swapStates wsX1_keep := goodIn_r _ [13, 14, 15, 16, 17, 18, 19, 20, 21, 22, 23, 24, 25, 26, 27, 28, 29, 30, 31, 32, 33, 34, 35, 36, 95, 96, 97, 98, 99, 100, 101, 102, 103, 104] (by decide +kernel) (by decide +kernel)
set_option maxRecDepth 20000 in
theorem gX6_swapStates_X1_keep : GoodIn wsX6_swapStates (wsV RX6 79 RX1 yX1_keep wsX1_keep) := goodIn_app (goodIn_of _ (by decide +kernel)) ggX6_swapStates_X1_keep
set_option maxRecDepth 20000 in
theorem ggX6_swapStates_X2_rulesWith : GoodIn wsX6_swapStates wsX2_rulesWith := goodIn_r _ [40, 26, 41, 42, 43, 24, 44, 28, 36, 33, 34, 98, 99, 100, 101, 102, 103, 104] (by decide +kernel) (by decide +kernel)
set_option maxRecDepth 20000 in
theorem gX6_swapStates_X2_rulesWith : GoodIn wsX6_swapStates (wsV RX6 120 RX2 yX2_rulesWith wsX2_rulesWith) := goodIn_app (goodIn_of _ (by decide +kernel)) ggX6_swapStates_X2_rulesWith
set_option maxRecDepth 20000 in
theorem ggX6_swapStates_X2_exchange : GoodIn wsX6_swapStates wsX2_exchange := goodIn_r _ [48, 26, 28, 36, 33, 34, 27, 49, 50, 24, 51, 52, 53, 54, 55, 98, 99, 100, 101, 102, 103, 104] (by decide +kernel) (by decide +kernel)
set_option maxRecDepth 20000 in
theorem gX6_swapStates_X2_exchange : GoodIn wsX6_swapStates (wsV RX6 124 RX2 yX2_exchange wsX2_exchange) := goodIn_app (goodIn_of _ (by decide +kernel)) ggX6_swapStates_X2_exchange
set_option maxRecDepth 20000 in
theorem ggX6_swapStates_X6_renewRuns : GoodIn wsX6_swapStates wsX6_renewRuns := goodIn_r _ [59, 60, 2, 61, 62, 63, 64, 65, 66, 67, 68, 69, 70, 71, 72, 73, 74, 75, 76, 77, 78, 79, 80, 81, 82, 83, 84, 85, 86, 87, 88, 89, 90, 91, 92, 93, 94, 105, 106, 107, 108, 109, 110, 98, 99, 100, 101, 102, 103, 104] (by decide +kernel) (by decide +kernel)
set_option maxRecDepth 20000 in
theorem gX6_swapStates_X6_renewRuns : GoodIn wsX6_swapStates (wsV RX6 72 RX6 yX6_renewRuns wsX6_renewRuns) := goodIn_app (goodIn_of _ (by decide +kernel)) ggX6_swapStates_X6_renewRuns
theorem dX6_swapStates_0 : decode cX6_swapStates 0 = .ok (.aload_n 0, 1) := by decide +kernel
theorem dX6_swapStates_1 : decode cX6_swapStates 1 = .ok (.iload_n 1, 1) := by decide +kernel
theorem dX6_swapStates_2 : decode cX6_swapStates 2 = .ok (.invokevirtual 75, 3) := by decide +kernel
theorem dX6_swapStates_5 : decode cX6_swapStates 5 = .ok (.ifCond .eq 11, 3) := by decide +kernel
theorem dX6_swapStates_8 : decode cX6_swapStates 8 = .ok (.aload_n 0, 1) := by decide +kernel
theorem dX6_swapStates_9 : decode cX6_swapStates 9 = .ok (.iload_n 2, 1) := by decide +kernel
theorem dX6_swapStates_10 : decode cX6_swapStates 10 = .ok (.invokevirtual 75, 3) := by decide +kernel
theorem dX6_swapStates_13 : decode cX6_swapStates 13 = .ok (.ifCond .ne 5, 3) := by decide +kernel
theorem dX6_swapStates_16 : decode cX6_swapStates 16 = .ok (.iconst (-1), 1) := by decide +kernel
theorem dX6_swapStates_17 : decode cX6_swapStates 17 = .ok (.ireturn, 1) := by decide +kernel
theorem dX6_swapStates_18 : decode cX6_swapStates 18 = .ok (.aload_n 0, 1) := by decide +kernel
theorem dX6_swapStates_19 : decode cX6_swapStates 19 = .ok (.getfield 26, 3) := by decide +kernel
theorem dX6_swapStates_22 : decode cX6_swapStates 22 = .ok (.aload_n 0, 1) := by decide +kernel
theorem dX6_swapStates_23 : decode cX6_swapStates 23 = .ok (.getfield 19, 3) := by decide +kernel
theorem dX6_swapStates_26 : decode cX6_swapStates 26 = .ok (.invokevirtual 79, 3) := by decide +kernel
theorem dX6_swapStates_29 : decode cX6_swapStates 29 = .ok (.aload_n 0, 1) := by decide +kernel
theorem dX6_swapStates_30 : decode cX6_swapStates 30 = .ok (.getfield 19, 3) := by decide +kernel
theorem dX6_swapStates_33 : decode cX6_swapStates 33 = .ok (.iload_n 1, 1) := by decide +kernel
theorem dX6_swapStates_34 : decode cX6_swapStates 34 = .ok (.iload_n 2, 1) := by decide +kernel
theorem dX6_swapStates_35 : decode cX6_swapStates 35 = .ok (.invokevirtual 120, 3) := by decide +kernel
theorem dX6_swapStates_38 : decode cX6_swapStates 38 = .ok (.istore_n 3, 1) := by decide +kernel
theorem dX6_swapStates_39 : decode cX6_swapStates 39 = .ok (.aload_n 0, 1) := by decide +kernel
theorem dX6_swapStates_40 : decode cX6_swapStates 40 = .ok (.getfield 19, 3) := by decide +kernel
theorem dX6_swapStates_43 : decode cX6_swapStates 43 = .ok (.iload_n 1, 1) := by decide +kernel
theorem dX6_swapStates_44 : decode cX6_swapStates 44 = .ok (.iload_n 2, 1) := by decide +kernel
theorem dX6_swapStates_45 : decode cX6_swapStates 45 = .ok (.invokevirtual 124, 3) := by decide +kernel
theorem dX6_swapStates_48 : decode cX6_swapStates 48 = .ok (.aload_n 0, 1) := by decide +kernel
theorem dX6_swapStates_49 : decode cX6_swapStates 49 = .ok (.invokevirtual 72, 3) := by decide +kernel
theorem dX6_swapStates_52 : decode cX6_swapStates 52 = .ok (.iload_n 3, 1) := by decide +kernel
theorem dX6_swapStates_53 : decode cX6_swapStates 53 = .ok (.ireturn, 1) := by decide +kernel
theorem jX6_swapStates_X6 : ∀ w ∈ wsX60, w ∈ wsX6_swapStates := by decide +kernel
abbrev w_X6_swapStates (cI cO : ClassId) (aS : Nat → Nat) (aT : Nat → Nat) (aB : Nat → Nat) (aH : Nat → Nat) (aM : Nat → Nat) (aC : Nat → Nat) (aZ : Nat → Nat) (aR : Nat → Nat → Nat)  : ((CS) × (CS) × (CS) × (Nat → CS) × (CS)) → va_W := fun u => (wS cI aS aT aB aH aM aC aZ u.1 ++ (wB cI aB u.2.1 ++ (wH cO aH aR u.2.2.1 ++ (wR cI aR u.2.2.2.1 ++ (wM cI aM u.2.2.2.2)))))
set_option maxRecDepth 100000 in
set_option maxHeartbeats 8000000 in
theorem mX6_swapStates (l : Launch) (D : va_G) (cI cO : ClassId) (tA tS : Nat) (aS : Nat → Nat) (aT : Nat → Nat) (aB : Nat → Nat) (aH : Nat → Nat) (aM : Nat → Nat) (aC : Nat → Nat) (aZ : Nat → Nat) (aR : Nat → Nat → Nat) (zS : CS) (zB : CS) (zH : CS) (zR : Nat → CS) (zM : CS) (x1 : Int32) (x2 : Int32) (sz : Nat) {post : Int32 → ((CS) × (CS) × (CS) × (Nat → CS) × (CS)) → Prop} (h : qX6_swapStates post x1 x2 zS zB zH zR zM) : Met l yX6_swapStates wsX6_swapStates ({ frames := 3, cells := 0, slots := 0, locals := 68 } : Room) (xPre D cI cO tA tS [.ref (aS 0), .int x1, .int x2] (wS cI aS aT aB aH aM aC aZ zS ++ (wB cI aB zB ++ (wH cO aH aR zH ++ (wR cI aR zR ++ (wM cI aM zM))))) sz) (va_Qi post (xB D cI cO (va_A (wS cI aS aT aB aH aM aC aZ zS ++ (wB cI aB zB ++ (wH cO aH aR zH ++ (wR cI aR zR ++ (wM cI aM zM))))) sz) (w_X6_swapStates cI cO aS aT aB aH aM aC aZ aR)) (va_A (wS cI aS aT aB aH aM aC aZ zS ++ (wB cI aB zB ++ (wH cO aH aR zH ++ (wR cI aR zR ++ (wM cI aM zM))))) sz)) 0 0 (va_A (wS cI aS aT aB aH aM aC aZ zS ++ (wB cI aB zB ++ (wH cO aH aR zH ++ (wR cI aR zR ++ (wM cI aM zM))))) sz) := by
  refine xMet D cI cO tA tS (fun A => va_Qi post (xB D cI cO A (w_X6_swapStates cI cO aS aT aB aH aM aC aZ aR)) A) (cc := cX6_swapStates) (maxL := 4) (ret := (some .int)) (by decide) rfl (Nat.le_of_ble_eq_true rfl) ?_
  intro p e s m below meth c A ls hx hb hr hts hown hlocks hin hml hA hS hP hK hD hE hl
  have hown : s.vm.findClass RX6 = some m.cls := hown
  have hl : lv_has ls 4 [(0, .ref (aS 0)), (1, .int x1), (2, .int x2)] := hl
  have g16 : ∀ (zS : CS) (zB : CS) (zH : CS) (zR : Nat → CS) (zM : CS) (H : Heap) (locs : List Loc) (ls : Array Slot), qX6_swapStates_16 post x1 x2 zS zB zH zR zM → va_P D vwCl (wS cI aS aT aB aH aM aC aZ zS ++ (wB cI aB zB ++ (wH cO aH aR zH ++ (wR cI aR zR ++ (wM cI aM zM))))) H → va_D A (wS cI aS aT aB aH aM aC aZ zS ++ (wB cI aB zB ++ (wH cO aH aR zH ++ (wR cI aR zR ++ (wM cI aM zM))))) → va_S A s.heap H locs → lv_has ls 4 [(0, .ref (aS 0)), (1, .int x1), (2, .int x2)] → W p l e ({ frames := 3, cells := 0, slots := 0, locals := 68 } : Room) s m ([.ref (aS 0), .int x1, .int x2] : List Value).toArray below meth c H locs 0 0 (MQ below (va_Qi post (xB D cI cO A (w_X6_swapStates cI cO aS aT aB aH aM aC aZ aR)) A) ([.ref (aS 0), .int x1, .int x2] : List Value).toArray s 0 0 A) (F0 m 16 ls []) := by
    intro zS zB zH zR zM H locs ls h hP hD hS hl
    refine lv_iconst (v := -1) hx hb dX6_swapStates_16 (by decide) ?_
    exact xiret (w := (w_X6_swapStates cI cO aS aT aB aH aM aC aZ aR)) (zS, zB, zH, zR, zM) hx hb hr hlocks h hP hK hD hS dX6_swapStates_17
  refine lv_aload_n hx hb dX6_swapStates_0 rfl (lv_at hl 0 rfl) ?_
  refine lv_iload_n hx hb dX6_swapStates_1 rfl (lv_at hl 1 rfl) ?_
  refine xcalli (wr := (wB cI aB zB ++ (wH cO aH aR zH ++ (wR cI aR zR ++ (wM cI aM zM))))) (w2 := fun (u2 : Unit) => (wS cI aS aT aB aH aM aC aZ zS ++ (wB cI aB zB ++ (wH cO aH aR zH ++ (wR cI aR zR ++ (wM cI aM zM)))))) (va_runV (As := [.int x1]) (rest := []) ⟨hx, hb, hml, hown, hts⟩ (mX6_isState l D cI cO tA tS aS aT aB aH aM aC aZ zS x1 _ h) (cwV 1 hts gX6_swapStates_X6_isState rfl rfl rfl (by decide +kernel) ⟨Nat.le_of_ble_eq_true rfl, Nat.le_of_ble_eq_true rfl⟩) (xpreV hP hD hS hA hK hE [0, 1] rfl rfl 6 0 rfl rfl) rfl rfl hl.1 rfl (lv_room (Nat.le_of_ble_eq_true rfl)) dX6_swapStates_2 ⟨Nat.le_refl 0, Nat.le_refl 0⟩) hP hD hS hA [0, 1] [2, 3, 4, 5, 6, 7, 8, 9, 10, 11, 12, 13, 14, 15, 16, 17, 18, 19, 20, 21, 22, 23, 24, 25, 26, 27, 28, 29, 30, 31, 32, 33, 34, 35, 36, 37, 38, 39, 40, 41, 42, 43, 44] [43, 44, 0, 1, 2, 3, 4, 5, 6, 7, 8, 9, 10, 11, 12, 13, 14, 15, 16, 17, 18, 19, 20, 21, 22, 23, 24, 25, 26, 27, 28, 29, 30, 31, 32, 33, 34, 35, 36, 37, 38, 39, 40, 41, 42] rfl rfl rfl (by decide) rfl (fun _ => rfl) (fun r2 u2 H locs h hP hD hS => ?_)
  obtain ⟨hh1, hh2⟩ := h
  refine lv_if_eq (tgt := 16) hx hb dX6_swapStates_5 (by decide) (fun hc => ?_) (fun hc => ?_)
  · have h := hh1 hc
    exact g16 zS zB zH zR zM _ _ _ h hP hD hS hl
  · have h := hh2 hc
    refine lv_aload_n hx hb dX6_swapStates_8 rfl (lv_at hl 0 rfl) ?_
    refine lv_iload_n hx hb dX6_swapStates_9 rfl (lv_at hl 2 rfl) ?_
    refine xcalli (wr := (wB cI aB zB ++ (wH cO aH aR zH ++ (wR cI aR zR ++ (wM cI aM zM))))) (w2 := fun (u10 : Unit) => (wS cI aS aT aB aH aM aC aZ zS ++ (wB cI aB zB ++ (wH cO aH aR zH ++ (wR cI aR zR ++ (wM cI aM zM)))))) (va_runV (As := [.int x2]) (rest := []) ⟨hx, hb, hml, hown, hts⟩ (mX6_isState l D cI cO tA tS aS aT aB aH aM aC aZ zS x2 _ h) (cwV 1 hts gX6_swapStates_X6_isState rfl rfl rfl (by decide +kernel) ⟨Nat.le_of_ble_eq_true rfl, Nat.le_of_ble_eq_true rfl⟩) (xpreV hP hD hS hA hK hE [0, 1] rfl rfl 6 0 rfl rfl) rfl rfl hl.1 rfl (lv_room (Nat.le_of_ble_eq_true rfl)) dX6_swapStates_10 ⟨Nat.le_refl 0, Nat.le_refl 0⟩) hP hD hS hA [0, 1] [2, 3, 4, 5, 6, 7, 8, 9, 10, 11, 12, 13, 14, 15, 16, 17, 18, 19, 20, 21, 22, 23, 24, 25, 26, 27, 28, 29, 30, 31, 32, 33, 34, 35, 36, 37, 38, 39, 40, 41, 42, 43, 44] [43, 44, 0, 1, 2, 3, 4, 5, 6, 7, 8, 9, 10, 11, 12, 13, 14, 15, 16, 17, 18, 19, 20, 21, 22, 23, 24, 25, 26, 27, 28, 29, 30, 31, 32, 33, 34, 35, 36, 37, 38, 39, 40, 41, 42] rfl rfl rfl (by decide) rfl (fun _ => rfl) (fun r10 u10 H locs h hP hD hS => ?_)
    obtain ⟨hh1, hh2⟩ := h
    refine lv_if_ne (tgt := 18) hx hb dX6_swapStates_13 (by decide) (fun hc => ?_) (fun hc => ?_)
    · have h := hh2 hc
      refine lv_aload_n hx hb dX6_swapStates_18 rfl (lv_at hl 0 rfl) ?_
      refine va_get (D := D) (ci := 6) (v := .ref (aH 0)) (C := RX6) (T := TX6) (N := 10) hx hb hts jX6_swapStates_X6 hown hK hP 0 rfl rfl 2 (by decide) (hts (.fieldLink RX6 26 "BrotherAutomata" "history" "LBrotherAutomata$History;") (List.mem_of_getElem? (i := 1) rfl)) (fun _ h9 => h9) rfl dX6_swapStates_19 ?_
      refine lv_aload_n hx hb dX6_swapStates_22 rfl (lv_at hl 0 rfl) ?_
      refine va_get (D := D) (ci := 6) (v := .ref (aB 0)) (C := RX6) (T := TX6) (N := 10) hx hb hts jX6_swapStates_X6 hown hK hP 0 rfl rfl 1 (by decide) (hts (.fieldLink RX6 19 "BrotherAutomata" "book" "LBrotherAutomata$RuleBook;") (List.mem_of_getElem? (i := 2) rfl)) (fun _ h9 => h9) rfl dX6_swapStates_23 ?_
      refine xcallv (wr := (wS cI aS aT aB aH aM aC aZ zS ++ (wM cI aM zM))) (w2 := fun (u26 : (CS) × (Nat → CS)) => (wS cI aS aT aB aH aM aC aZ zS ++ (wB cI aB zB ++ (wH cO aH aR u26.1 ++ (wR cI aR u26.2 ++ (wM cI aM zM)))))) (va_runV (As := [.ref (aB 0)]) (rest := []) ⟨hx, hb, hml, hown, hts⟩ (mX1_keep l D cI cO tA tS aB aH aR zB zH zR _ h) (cwV 1 hts gX6_swapStates_X1_keep rfl rfl rfl (by decide +kernel) ⟨Nat.le_of_ble_eq_true rfl, Nat.le_of_ble_eq_true rfl⟩) (xpreV hP hD hS hA hK hE [2, 3, 4, 5, 6, 7, 8, 9, 10, 11, 12, 13, 14, 15, 16, 17, 18, 19, 20, 21, 22, 23, 24, 25, 26, 27, 28, 29, 30, 31, 32, 33, 34, 35, 36, 37, 38, 39] rfl rfl 1 8 rfl rfl) rfl rfl hl.1 rfl (lv_room (Nat.le_of_ble_eq_true rfl)) dX6_swapStates_26 ⟨Nat.le_refl 0, Nat.le_refl 0⟩) hP hD hS hA [2, 3, 4, 5, 6, 7, 8, 9, 10, 11, 12, 13, 14, 15, 16, 17, 18, 19, 20, 21, 22, 23, 24, 25, 26, 27, 28, 29, 30, 31, 32, 33, 34, 35, 36, 37, 38, 39] [0, 1, 40, 41, 42, 43, 44] [0, 1, 7, 8, 9, 10, 11, 12, 13, 14, 15, 16, 17, 18, 19, 20, 21, 22, 23, 24, 25, 26, 27, 28, 29, 30, 31, 32, 33, 34, 35, 36, 37, 38, 39, 40, 41, 42, 43, 44, 2, 3, 4, 5, 6] rfl rfl rfl (by decide) rfl (fun _ => rfl) (fun u26 H locs h hP hD hS => ?_)
      refine lv_aload_n hx hb dX6_swapStates_29 rfl (lv_at hl 0 rfl) ?_
      refine va_get (D := D) (ci := 6) (v := .ref (aB 0)) (C := RX6) (T := TX6) (N := 10) hx hb hts jX6_swapStates_X6 hown hK hP 0 rfl rfl 1 (by decide) (hts (.fieldLink RX6 19 "BrotherAutomata" "book" "LBrotherAutomata$RuleBook;") (List.mem_of_getElem? (i := 2) rfl)) (fun _ h9 => h9) rfl dX6_swapStates_30 ?_
      refine lv_iload_n hx hb dX6_swapStates_33 rfl (lv_at hl 1 rfl) ?_
      refine lv_iload_n hx hb dX6_swapStates_34 rfl (lv_at hl 2 rfl) ?_
      refine xcalli (wr := (wS cI aS aT aB aH aM aC aZ zS ++ (wH cO aH aR u26.1 ++ (wR cI aR u26.2 ++ (wM cI aM zM))))) (w2 := fun (u35 : Unit) => (wS cI aS aT aB aH aM aC aZ zS ++ (wB cI aB zB ++ (wH cO aH aR u26.1 ++ (wR cI aR u26.2 ++ (wM cI aM zM)))))) (va_runV (As := [.int x1, .int x2]) (rest := []) ⟨hx, hb, hml, hown, hts⟩ (mX2_rulesWith l D cI cO tA tS aB zB x1 x2 _ h) (cwV 2 hts gX6_swapStates_X2_rulesWith rfl rfl rfl (by decide +kernel) ⟨Nat.le_of_ble_eq_true rfl, Nat.le_of_ble_eq_true rfl⟩) (xpreV hP hD hS hA hK hE [2, 3, 4, 5, 6, 7] rfl rfl 2 2 rfl rfl) rfl rfl hl.1 rfl (lv_room (Nat.le_of_ble_eq_true rfl)) dX6_swapStates_35 ⟨Nat.le_refl 0, Nat.le_refl 0⟩) hP hD hS hA [2, 3, 4, 5, 6, 7] [0, 1, 8, 9, 10, 11, 12, 13, 14, 15, 16, 17, 18, 19, 20, 21, 22, 23, 24, 25, 26, 27, 28, 29, 30, 31, 32, 33, 34, 35, 36, 37, 38, 39, 40, 41, 42, 43, 44] [0, 1, 39, 40, 41, 42, 43, 44, 2, 3, 4, 5, 6, 7, 8, 9, 10, 11, 12, 13, 14, 15, 16, 17, 18, 19, 20, 21, 22, 23, 24, 25, 26, 27, 28, 29, 30, 31, 32, 33, 34, 35, 36, 37, 38] rfl rfl rfl (by decide) rfl (fun _ => rfl) (fun r35 u35 H locs h hP hD hS => ?_)
      refine lv_istore_n (lv' := [(3, .int r35), (0, .ref (aS 0)), (1, .int x1), (2, .int x2)]) hx hb dX6_swapStates_38 rfl hl (by decide) rfl (fun ls hl => ?_)
      refine lv_aload_n hx hb dX6_swapStates_39 rfl (lv_at hl 1 rfl) ?_
      refine va_get (D := D) (ci := 6) (v := .ref (aB 0)) (C := RX6) (T := TX6) (N := 10) hx hb hts jX6_swapStates_X6 hown hK hP 0 rfl rfl 1 (by decide) (hts (.fieldLink RX6 19 "BrotherAutomata" "book" "LBrotherAutomata$RuleBook;") (List.mem_of_getElem? (i := 2) rfl)) (fun _ h9 => h9) rfl dX6_swapStates_40 ?_
      refine lv_iload_n hx hb dX6_swapStates_43 rfl (lv_at hl 2 rfl) ?_
      refine lv_iload_n hx hb dX6_swapStates_44 rfl (lv_at hl 3 rfl) ?_
      refine xcallv (wr := (wS cI aS aT aB aH aM aC aZ zS ++ (wH cO aH aR u26.1 ++ (wR cI aR u26.2 ++ (wM cI aM zM))))) (w2 := fun (u45 : (CS)) => (wS cI aS aT aB aH aM aC aZ zS ++ (wB cI aB u45 ++ (wH cO aH aR u26.1 ++ (wR cI aR u26.2 ++ (wM cI aM zM)))))) (va_runV (As := [.int x1, .int x2]) (rest := []) ⟨hx, hb, hml, hown, hts⟩ (mX2_exchange l D cI cO tA tS aB zB x1 x2 _ h) (cwV 2 hts gX6_swapStates_X2_exchange rfl rfl rfl (by decide +kernel) ⟨Nat.le_of_ble_eq_true rfl, Nat.le_of_ble_eq_true rfl⟩) (xpreV hP hD hS hA hK hE [2, 3, 4, 5, 6, 7] rfl rfl 2 2 rfl rfl) rfl rfl hl.1 rfl (lv_room (Nat.le_of_ble_eq_true rfl)) dX6_swapStates_45 ⟨Nat.le_refl 0, Nat.le_refl 0⟩) hP hD hS hA [2, 3, 4, 5, 6, 7] [0, 1, 8, 9, 10, 11, 12, 13, 14, 15, 16, 17, 18, 19, 20, 21, 22, 23, 24, 25, 26, 27, 28, 29, 30, 31, 32, 33, 34, 35, 36, 37, 38, 39, 40, 41, 42, 43, 44] [0, 1, 39, 40, 41, 42, 43, 44, 2, 3, 4, 5, 6, 7, 8, 9, 10, 11, 12, 13, 14, 15, 16, 17, 18, 19, 20, 21, 22, 23, 24, 25, 26, 27, 28, 29, 30, 31, 32, 33, 34, 35, 36, 37, 38] rfl rfl rfl (by decide) rfl (fun _ => rfl) (fun u45 H locs h hP hD hS => ?_)
      refine lv_aload_n hx hb dX6_swapStates_48 rfl (lv_at hl 1 rfl) ?_
      refine xcallv (wr := (wH cO aH aR u26.1 ++ (wR cI aR u26.2))) (w2 := fun (u49 : (CS) × (CS)) => (wS cI aS aT aB aH aM aC aZ u49.1 ++ (wB cI aB u45 ++ (wH cO aH aR u26.1 ++ (wR cI aR u26.2 ++ (wM cI aM u49.2)))))) (va_runV (As := []) (rest := []) ⟨hx, hb, hml, hown, hts⟩ (mX6_renewRuns l D cI cO tA tS aS aT aB aH aM aC aZ zS u45 zM _ h) (cwV 0 hts gX6_swapStates_X6_renewRuns rfl rfl rfl (by decide +kernel) ⟨Nat.le_of_ble_eq_true rfl, Nat.le_of_ble_eq_true rfl⟩) (xpreV hP hD hS hA hK hE [0, 1, 2, 3, 4, 5, 6, 7, 40, 41, 42, 43, 44] rfl rfl 6 0 rfl rfl) rfl rfl hl.1 rfl (lv_room (Nat.le_of_ble_eq_true rfl)) dX6_swapStates_49 ⟨Nat.le_refl 0, Nat.le_refl 0⟩) hP hD hS hA [0, 1, 2, 3, 4, 5, 6, 7, 40, 41, 42, 43, 44] [8, 9, 10, 11, 12, 13, 14, 15, 16, 17, 18, 19, 20, 21, 22, 23, 24, 25, 26, 27, 28, 29, 30, 31, 32, 33, 34, 35, 36, 37, 38, 39] [32, 33, 34, 35, 36, 37, 38, 39, 0, 1, 2, 3, 4, 5, 6, 7, 8, 9, 10, 11, 12, 13, 14, 15, 16, 17, 18, 19, 20, 21, 22, 23, 24, 25, 26, 27, 28, 29, 30, 31, 40, 41, 42, 43, 44] rfl rfl rfl (by decide) rfl (fun _ => rfl) (fun u49 H locs h hP hD hS => ?_)
      refine lv_iload_n hx hb dX6_swapStates_52 rfl (lv_at hl 0 rfl) ?_
      exact xiret (w := (w_X6_swapStates cI cO aS aT aB aH aM aC aZ aR)) (u49.1, u45, u26.1, u26.2, u49.2) hx hb hr hlocks h hP hK hD hS dX6_swapStates_53
    · have h := hh1 hc
      exact g16 zS zB zH zR zM _ _ _ h hP hD hS hl
theorem dX6_ruleCount_0 : decode cX6_ruleCount 0 = .ok (.aload_n 0, 1) := by decide +kernel
theorem dX6_ruleCount_1 : decode cX6_ruleCount 1 = .ok (.getfield 19, 3) := by decide +kernel
theorem dX6_ruleCount_4 : decode cX6_ruleCount 4 = .ok (.getfield 109, 3) := by decide +kernel
theorem dX6_ruleCount_7 : decode cX6_ruleCount 7 = .ok (.ireturn, 1) := by decide +kernel
theorem jX6_ruleCount_X6 : ∀ w ∈ wsX60, w ∈ wsX6_ruleCount := by decide +kernel
theorem jX6_ruleCount_X2 : ∀ w ∈ wsX20, w ∈ wsX6_ruleCount := by decide +kernel
abbrev w_X6_ruleCount (cI cO : ClassId) (aS : Nat → Nat) (aT : Nat → Nat) (aB : Nat → Nat) (aH : Nat → Nat) (aM : Nat → Nat) (aC : Nat → Nat) (aZ : Nat → Nat) (zS : CS) (zB : CS) : (Unit) → va_W := fun u => (wS cI aS aT aB aH aM aC aZ zS ++ (wB cI aB zB))
set_option maxRecDepth 100000 in
set_option maxHeartbeats 8000000 in
theorem mX6_ruleCount (l : Launch) (D : va_G) (cI cO : ClassId) (tA tS : Nat) (aS : Nat → Nat) (aT : Nat → Nat) (aB : Nat → Nat) (aH : Nat → Nat) (aM : Nat → Nat) (aC : Nat → Nat) (aZ : Nat → Nat) (zS : CS) (zB : CS)  (sz : Nat) {post : Int32 → (Unit) → Prop} (h : qX6_ruleCount post zS zB) : Met l yX6_ruleCount wsX6_ruleCount ({ frames := 0, cells := 0, slots := 0, locals := 0 } : Room) (xPre D cI cO tA tS [.ref (aS 0)] (wS cI aS aT aB aH aM aC aZ zS ++ (wB cI aB zB)) sz) (va_Qi post (xB D cI cO (va_A (wS cI aS aT aB aH aM aC aZ zS ++ (wB cI aB zB)) sz) (w_X6_ruleCount cI cO aS aT aB aH aM aC aZ zS zB)) (va_A (wS cI aS aT aB aH aM aC aZ zS ++ (wB cI aB zB)) sz)) 0 0 (va_A (wS cI aS aT aB aH aM aC aZ zS ++ (wB cI aB zB)) sz) := by
  refine xMet D cI cO tA tS (fun A => va_Qi post (xB D cI cO A (w_X6_ruleCount cI cO aS aT aB aH aM aC aZ zS zB)) A) (cc := cX6_ruleCount) (maxL := 1) (ret := (some .int)) (by decide) rfl (Nat.le_of_ble_eq_true rfl) ?_
  intro p e s m below meth c A ls hx hb hr hts hown hlocks hin hml hA hS hP hK hD hE hl
  have hown : s.vm.findClass RX6 = some m.cls := hown
  have hl : lv_has ls 1 [(0, .ref (aS 0))] := hl
  refine lv_aload_n hx hb dX6_ruleCount_0 rfl (lv_at hl 0 rfl) ?_
  refine va_get (D := D) (ci := 6) (v := .ref (aB 0)) (C := RX6) (T := TX6) (N := 10) hx hb hts jX6_ruleCount_X6 hown hK hP 0 rfl rfl 1 (by decide) (hts (.fieldLink RX6 19 "BrotherAutomata" "book" "LBrotherAutomata$RuleBook;") (List.mem_of_getElem? (i := 1) rfl)) (fun _ h9 => h9) rfl dX6_ruleCount_1 ?_
  refine va_getN (D := D) (ci := 2) (v := .int (zB 5 0)) (C := RX2) (T := TX2) (N := 7) hx hb hts jX6_ruleCount_X2 hown hK hP 2 rfl rfl 5 (by decide) (va_Nw.use (w := .fieldLinkNest RX6 109 "BrotherAutomata$RuleBook" "count" "I" "BrotherAutomata") rfl (hE.1 _ (List.mem_of_getElem? (i := 23) rfl))) (fun _ h9 => h9) rfl dX6_ruleCount_4 ?_
  exact xiret (w := (w_X6_ruleCount cI cO aS aT aB aH aM aC aZ zS zB)) () hx hb hr hlocks h hP hK hD hS dX6_ruleCount_7
theorem dX6_finalStates_0 : decode cX6_finalStates 0 = .ok (.aload_n 0, 1) := by decide +kernel
theorem dX6_finalStates_1 : decode cX6_finalStates 1 = .ok (.getfield 19, 3) := by decide +kernel
theorem dX6_finalStates_4 : decode cX6_finalStates 4 = .ok (.getfield 87, 3) := by decide +kernel
theorem dX6_finalStates_7 : decode cX6_finalStates 7 = .ok (.ireturn, 1) := by decide +kernel
theorem jX6_finalStates_X6 : ∀ w ∈ wsX60, w ∈ wsX6_finalStates := by decide +kernel
theorem jX6_finalStates_X2 : ∀ w ∈ wsX20, w ∈ wsX6_finalStates := by decide +kernel
abbrev w_X6_finalStates (cI cO : ClassId) (aS : Nat → Nat) (aT : Nat → Nat) (aB : Nat → Nat) (aH : Nat → Nat) (aM : Nat → Nat) (aC : Nat → Nat) (aZ : Nat → Nat) (zS : CS) (zB : CS) : (Unit) → va_W := fun u => (wS cI aS aT aB aH aM aC aZ zS ++ (wB cI aB zB))
set_option maxRecDepth 100000 in
set_option maxHeartbeats 8000000 in
theorem mX6_finalStates (l : Launch) (D : va_G) (cI cO : ClassId) (tA tS : Nat) (aS : Nat → Nat) (aT : Nat → Nat) (aB : Nat → Nat) (aH : Nat → Nat) (aM : Nat → Nat) (aC : Nat → Nat) (aZ : Nat → Nat) (zS : CS) (zB : CS)  (sz : Nat) {post : Int32 → (Unit) → Prop} (h : qX6_finalStates post zS zB) : Met l yX6_finalStates wsX6_finalStates ({ frames := 0, cells := 0, slots := 0, locals := 0 } : Room) (xPre D cI cO tA tS [.ref (aS 0)] (wS cI aS aT aB aH aM aC aZ zS ++ (wB cI aB zB)) sz) (va_Qi post (xB D cI cO (va_A (wS cI aS aT aB aH aM aC aZ zS ++ (wB cI aB zB)) sz) (w_X6_finalStates cI cO aS aT aB aH aM aC aZ zS zB)) (va_A (wS cI aS aT aB aH aM aC aZ zS ++ (wB cI aB zB)) sz)) 0 0 (va_A (wS cI aS aT aB aH aM aC aZ zS ++ (wB cI aB zB)) sz) := by
  refine xMet D cI cO tA tS (fun A => va_Qi post (xB D cI cO A (w_X6_finalStates cI cO aS aT aB aH aM aC aZ zS zB)) A) (cc := cX6_finalStates) (maxL := 1) (ret := (some .int)) (by decide) rfl (Nat.le_of_ble_eq_true rfl) ?_
  intro p e s m below meth c A ls hx hb hr hts hown hlocks hin hml hA hS hP hK hD hE hl
  have hown : s.vm.findClass RX6 = some m.cls := hown
  have hl : lv_has ls 1 [(0, .ref (aS 0))] := hl
  refine lv_aload_n hx hb dX6_finalStates_0 rfl (lv_at hl 0 rfl) ?_
  refine va_get (D := D) (ci := 6) (v := .ref (aB 0)) (C := RX6) (T := TX6) (N := 10) hx hb hts jX6_finalStates_X6 hown hK hP 0 rfl rfl 1 (by decide) (hts (.fieldLink RX6 19 "BrotherAutomata" "book" "LBrotherAutomata$RuleBook;") (List.mem_of_getElem? (i := 1) rfl)) (fun _ h9 => h9) rfl dX6_finalStates_1 ?_
  refine va_getN (D := D) (ci := 2) (v := .int (zB 5 1)) (C := RX2) (T := TX2) (N := 7) hx hb hts jX6_finalStates_X2 hown hK hP 2 rfl rfl 6 (by decide) (va_Nw.use (w := .fieldLinkNest RX6 87 "BrotherAutomata$RuleBook" "finals" "I" "BrotherAutomata") rfl (hE.1 _ (List.mem_of_getElem? (i := 18) rfl))) (fun _ h9 => h9) rfl dX6_finalStates_4 ?_
  exact xiret (w := (w_X6_finalStates cI cO aS aT aB aH aM aC aZ zS zB)) () hx hb hr hlocks h hP hK hD hS dX6_finalStates_7
theorem dX6_isSize_0 : decode cX6_isSize 0 = .ok (.iload_n 0, 1) := by decide +kernel
theorem dX6_isSize_1 : decode cX6_isSize 1 = .ok (.iconst 1, 1) := by decide +kernel
theorem dX6_isSize_2 : decode cX6_isSize 2 = .ok (.if_icmp .lt 13, 3) := by decide +kernel
theorem dX6_isSize_5 : decode cX6_isSize 5 = .ok (.iload_n 0, 1) := by decide +kernel
theorem dX6_isSize_6 : decode cX6_isSize 6 = .ok (.bipush 7, 2) := by decide +kernel
theorem dX6_isSize_8 : decode cX6_isSize 8 = .ok (.if_icmp .gt 7, 3) := by decide +kernel
theorem dX6_isSize_11 : decode cX6_isSize 11 = .ok (.iconst 1, 1) := by decide +kernel
theorem dX6_isSize_12 : decode cX6_isSize 12 = .ok (.goto 4, 3) := by decide +kernel
theorem dX6_isSize_15 : decode cX6_isSize 15 = .ok (.iconst 0, 1) := by decide +kernel
theorem dX6_isSize_16 : decode cX6_isSize 16 = .ok (.ireturn, 1) := by decide +kernel
abbrev w_X6_isSize (cI cO : ClassId)   : (Unit) → va_W := fun u => ([] : va_W)
set_option maxRecDepth 100000 in
set_option maxHeartbeats 8000000 in
theorem mX6_isSize (l : Launch) (D : va_G) (cI cO : ClassId) (tA tS : Nat)   (x0 : Int32) (sz : Nat) {post : Int32 → (Unit) → Prop} (h : qX6_isSize post x0) : Met l yX6_isSize wsX6_isSize ({ frames := 0, cells := 0, slots := 0, locals := 0 } : Room) (xPre D cI cO tA tS [.int x0] ([] : va_W) sz) (va_Qi post (xB D cI cO (va_A ([] : va_W) sz) (w_X6_isSize cI cO)) (va_A ([] : va_W) sz)) 0 0 (va_A ([] : va_W) sz) := by
  refine xMet D cI cO tA tS (fun A => va_Qi post (xB D cI cO A (w_X6_isSize cI cO)) A) (cc := cX6_isSize) (maxL := 1) (ret := (some .boolean)) (by decide) rfl (Nat.le_of_ble_eq_true rfl) ?_
  intro p e s m below meth c A ls hx hb hr hts hown hlocks hin hml hA hS hP hK hD hE hl
  have hown : s.vm.findClass RX6 = some m.cls := hown
  have hl : lv_has ls 1 [(0, .int x0)] := hl
  have g15 : ∀  (H : Heap) (locs : List Loc) (ls : Array Slot), qX6_isSize_15 post x0  → va_P D vwCl ([] : va_W) H → va_D A ([] : va_W) → va_S A s.heap H locs → lv_has ls 1 [(0, .int x0)] → W p l e ({ frames := 0, cells := 0, slots := 0, locals := 0 } : Room) s m ([.int x0] : List Value).toArray below meth c H locs 0 0 (MQ below (va_Qi post (xB D cI cO A (w_X6_isSize cI cO)) A) ([.int x0] : List Value).toArray s 0 0 A) (F0 m 15 ls []) := by
    intro  H locs ls h hP hD hS hl
    refine lv_iconst (v := 0) hx hb dX6_isSize_15 (by decide) ?_
    exact xzret (w := (w_X6_isSize cI cO)) () hx hb hr hlocks rfl h hP hK hD hS dX6_isSize_16
  refine lv_iload_n hx hb dX6_isSize_0 rfl (lv_at hl 0 rfl) ?_
  refine lv_iconst (v := 1) hx hb dX6_isSize_1 (by decide) ?_
  obtain ⟨hh1, hh2⟩ := h
  refine lv_icmp_lt (tgt := 15) hx hb dX6_isSize_2 (by decide) (fun hc => ?_) (fun hc => ?_)
  · have h := hh1 hc
    exact g15  _ _ _ h hP hD hS hl
  · have h := hh2 hc
    refine lv_iload_n hx hb dX6_isSize_5 rfl (lv_at hl 0 rfl) ?_
    refine lv_bipush (v := 7) hx hb dX6_isSize_6 (by decide) ?_
    obtain ⟨hh1, hh2⟩ := h
    refine lv_icmp_gt (tgt := 15) hx hb dX6_isSize_8 (by decide) (fun hc => ?_) (fun hc => ?_)
    · have h := hh1 hc
      exact g15  _ _ _ h hP hD hS hl
    · have h := hh2 hc
      refine lv_iconst (v := 1) hx hb dX6_isSize_11 (by decide) ?_
      refine lv_goto (tgt := 16) hx hb dX6_isSize_12 (by decide) ?_
      exact xzret (w := (w_X6_isSize cI cO)) () hx hb hr hlocks rfl h hP hK hD hS dX6_isSize_16
set_option maxRecDepth 20000 in
theorem ggX6_treeCount_X6_isSize : GoodIn wsX6_treeCount wsX6_isSize := goodIn_r _ [5] (by decide +kernel) (by decide +kernel)
set_option maxRecDepth 20000 in
theorem gX6_treeCount_X6_isSize : GoodIn wsX6_treeCount (va_wsS RX6 128 yX6_isSize wsX6_isSize) := goodIn_app (goodIn_of _ (by decide +kernel)) ggX6_treeCount_X6_isSize
theorem dX6_treeCount_0 : decode cX6_treeCount 0 = .ok (.iload_n 1, 1) := by decide +kernel
theorem dX6_treeCount_1 : decode cX6_treeCount 1 = .ok (.invokestatic 128, 3) := by decide +kernel
theorem dX6_treeCount_4 : decode cX6_treeCount 4 = .ok (.ifCond .ne 5, 3) := by decide +kernel
theorem dX6_treeCount_7 : decode cX6_treeCount 7 = .ok (.iconst (-1), 1) := by decide +kernel
theorem dX6_treeCount_8 : decode cX6_treeCount 8 = .ok (.ireturn, 1) := by decide +kernel
theorem dX6_treeCount_9 : decode cX6_treeCount 9 = .ok (.getstatic 131, 3) := by decide +kernel
theorem dX6_treeCount_12 : decode cX6_treeCount 12 = .ok (.iload_n 1, 1) := by decide +kernel
theorem dX6_treeCount_13 : decode cX6_treeCount 13 = .ok (.iconst 1, 1) := by decide +kernel
theorem dX6_treeCount_14 : decode cX6_treeCount 14 = .ok (.iadd, 1) := by decide +kernel
theorem dX6_treeCount_15 : decode cX6_treeCount 15 = .ok (.iaload, 1) := by decide +kernel
theorem dX6_treeCount_16 : decode cX6_treeCount 16 = .ok (.getstatic 131, 3) := by decide +kernel
theorem dX6_treeCount_19 : decode cX6_treeCount 19 = .ok (.iload_n 1, 1) := by decide +kernel
theorem dX6_treeCount_20 : decode cX6_treeCount 20 = .ok (.iaload, 1) := by decide +kernel
theorem dX6_treeCount_21 : decode cX6_treeCount 21 = .ok (.isub, 1) := by decide +kernel
theorem dX6_treeCount_22 : decode cX6_treeCount 22 = .ok (.ireturn, 1) := by decide +kernel
abbrev w_X6_treeCount (cI cO : ClassId) (aS : Nat → Nat) (aT : Nat → Nat) (aB : Nat → Nat) (aH : Nat → Nat) (aM : Nat → Nat) (aC : Nat → Nat) (aZ : Nat → Nat) (zS : CS) : (Unit) → va_W := fun u => (wS cI aS aT aB aH aM aC aZ zS)
set_option maxRecDepth 100000 in
set_option maxHeartbeats 8000000 in
theorem mX6_treeCount (l : Launch) (D : va_G) (cI cO : ClassId) (tA tS : Nat) (aS : Nat → Nat) (aT : Nat → Nat) (aB : Nat → Nat) (aH : Nat → Nat) (aM : Nat → Nat) (aC : Nat → Nat) (aZ : Nat → Nat) (zS : CS) (x1 : Int32) (sz : Nat) {post : Int32 → (Unit) → Prop} (h : qX6_treeCount post x1 zS) : Met l yX6_treeCount wsX6_treeCount ({ frames := 1, cells := 0, slots := 0, locals := 20 } : Room) (xPre D cI cO tA tS [.ref (aS 0), .int x1] (wS cI aS aT aB aH aM aC aZ zS) sz) (va_Qi post (xB D cI cO (va_A (wS cI aS aT aB aH aM aC aZ zS) sz) (w_X6_treeCount cI cO aS aT aB aH aM aC aZ zS)) (va_A (wS cI aS aT aB aH aM aC aZ zS) sz)) 0 0 (va_A (wS cI aS aT aB aH aM aC aZ zS) sz) := by
  refine xMet D cI cO tA tS (fun A => va_Qi post (xB D cI cO A (w_X6_treeCount cI cO aS aT aB aH aM aC aZ zS)) A) (cc := cX6_treeCount) (maxL := 2) (ret := (some .int)) (by decide) rfl (Nat.le_of_ble_eq_true rfl) ?_
  intro p e s m below meth c A ls hx hb hr hts hown hlocks hin hml hA hS hP hK hD hE hl
  have hown : s.vm.findClass RX6 = some m.cls := hown
  have hl : lv_has ls 2 [(0, .ref (aS 0)), (1, .int x1)] := hl
  refine lv_iload_n hx hb dX6_treeCount_0 rfl (lv_at hl 1 rfl) ?_
  refine xcalli (wr := (wS cI aS aT aB aH aM aC aZ zS)) (w2 := fun (u1 : Unit) => (wS cI aS aT aB aH aM aC aZ zS)) (va_runS (As := [.int x1]) (rest := []) ⟨hx, hb, hml, hown, hts⟩ (mX6_isSize l D cI cO tA tS x1 _ h) (va_cwS 1 hts gX6_treeCount_X6_isSize rfl rfl rfl (by decide +kernel) ⟨Nat.le_of_ble_eq_true rfl, Nat.le_of_ble_eq_true rfl⟩) (xpreP hP hD hS hA hK hE [] rfl rfl) rfl rfl hl.1 rfl (lv_room (Nat.le_of_ble_eq_true rfl)) dX6_treeCount_1 ⟨Nat.le_refl 0, Nat.le_refl 0⟩) hP hD hS hA [] [0, 1] [0, 1] rfl rfl rfl (by decide) rfl (fun _ => rfl) (fun r1 u1 H locs h hP hD hS => ?_)
  obtain ⟨hh1, hh2⟩ := h
  refine lv_if_ne (tgt := 9) hx hb dX6_treeCount_4 (by decide) (fun hc => ?_) (fun hc => ?_)
  · have h := hh2 hc
    refine va_gets hx hb hE.2.2.2.1 hS hown (hts (.fieldLink RX6 131 "BrotherAutomata" "START" "[I") (List.mem_of_getElem? (i := 1) rfl)) (fun _ h9 => h9) dX6_treeCount_9 ?_
    refine lv_iload_n hx hb dX6_treeCount_12 rfl (lv_at hl 1 rfl) ?_
    refine lv_iconst (v := 1) hx hb dX6_treeCount_13 (by decide) ?_
    refine lv_iadd hx hb dX6_treeCount_14 ?_
    obtain ⟨hi, h⟩ := h
    refine va_ti (v := .int (xst (x1 + (1 : Int32)).toNatClampNeg)) hx hb hE.2.2.2.2 hS hi rfl dX6_treeCount_15 ?_
    refine va_gets hx hb hE.2.2.2.1 hS hown (hts (.fieldLink RX6 131 "BrotherAutomata" "START" "[I") (List.mem_of_getElem? (i := 1) rfl)) (fun _ h9 => h9) dX6_treeCount_16 ?_
    refine lv_iload_n hx hb dX6_treeCount_19 rfl (lv_at hl 1 rfl) ?_
    obtain ⟨hi, h⟩ := h
    refine va_ti (v := .int (xst x1.toNatClampNeg)) hx hb hE.2.2.2.2 hS hi rfl dX6_treeCount_20 ?_
    refine lv_isub hx hb dX6_treeCount_21 ?_
    exact xiret (w := (w_X6_treeCount cI cO aS aT aB aH aM aC aZ zS)) () hx hb hr hlocks h hP hK hD hS dX6_treeCount_22
  · have h := hh1 hc
    refine lv_iconst (v := -1) hx hb dX6_treeCount_7 (by decide) ?_
    exact xiret (w := (w_X6_treeCount cI cO aS aT aB aH aM aC aZ zS)) () hx hb hr hlocks h hP hK hD hS dX6_treeCount_8
