theorem dX1_forget_0 : decode cX1_forget 0 = .ok (.aload_n 0, 1) := by decide +kernel
theorem dX1_forget_1 : decode cX1_forget 1 = .ok (.iconst 0, 1) := by decide +kernel
theorem dX1_forget_2 : decode cX1_forget 2 = .ok (.putfield 18, 3) := by decide +kernel
theorem dX1_forget_5 : decode cX1_forget 5 = .ok (.aload_n 0, 1) := by decide +kernel
theorem dX1_forget_6 : decode cX1_forget 6 = .ok (.iconst 0, 1) := by decide +kernel
theorem dX1_forget_7 : decode cX1_forget 7 = .ok (.putfield 22, 3) := by decide +kernel
theorem dX1_forget_10 : decode cX1_forget 10 = .ok (.return_, 1) := by decide +kernel
theorem jX1_forget_X1 : ∀ w ∈ wsX10, w ∈ wsX1_forget := by decide +kernel
abbrev w_X1_forget (cI cO : ClassId) (aH : Nat → Nat) (aR : Nat → Nat → Nat)  : ((CS)) → va_W := fun u => (wH cO aH aR u)
set_option maxRecDepth 100000 in
set_option maxHeartbeats 8000000 in
theorem mX1_forget (l : Launch) (D : va_G) (cI cO : ClassId) (tA tS : Nat) (aH : Nat → Nat) (aR : Nat → Nat → Nat) (zH : CS)  (sz : Nat) {post : ((CS)) → Prop} (h : qX1_forget post zH) : Met l yX1_forget wsX1_forget ({ frames := 0, cells := 0, slots := 0, locals := 0 } : Room) (xPre D cI cO tA tS [.ref (aH 0)] (wH cO aH aR zH) sz) (va_Qv post (xB D cI cO (va_A (wH cO aH aR zH) sz) (w_X1_forget cI cO aH aR)) (va_A (wH cO aH aR zH) sz)) 0 0 (va_A (wH cO aH aR zH) sz) := by
  refine xMet D cI cO tA tS (fun A => va_Qv post (xB D cI cO A (w_X1_forget cI cO aH aR)) A) (cc := cX1_forget) (maxL := 1) (ret := none) (by decide) rfl (Nat.le_of_ble_eq_true rfl) ?_
  intro p e s m below meth c A ls hx hb hr hts hown hlocks hin hml hA hS hP hK hD hE hl
  have hown : s.vm.findClass RX1 = some m.cls := hown
  have hl : lv_has ls 1 [(0, .ref (aH 0))] := hl
  refine lv_aload_n hx hb dX1_forget_0 rfl (lv_at hl 0 rfl) ?_
  refine lv_iconst (v := 0) hx hb dX1_forget_1 (by decide) ?_
  refine va_put (D := D) (ci := 1) (v := .int (0 : Int32)) (ty := .int) (C := RX1) (T := TX1) (N := 3) hx hb hts jX1_forget_X1 tyX1 tyX1_ok nmX1 hown hK hP hD hS 0 rfl rfl 1 (by decide) (hts (.fieldLink RX1 18 "BrotherAutomata$History" "next" "I") (List.mem_of_getElem? (i := 1) rfl)) (fun _ h9 => h9) rfl (by decide +kernel) rfl rfl (Nat.le_of_ble_eq_true rfl) dX1_forget_2 (fun H locs hP hD hS => ?_)
  have hP : va_P D vwCl (wH cO aH aR (st zH 0 0 (0 : Int32))) H := hP
  have hD : va_D A (wH cO aH aR (st zH 0 0 (0 : Int32))) := hD
  refine lv_aload_n hx hb dX1_forget_5 rfl (lv_at hl 0 rfl) ?_
  refine lv_iconst (v := 0) hx hb dX1_forget_6 (by decide) ?_
  refine va_put (D := D) (ci := 1) (v := .int (0 : Int32)) (ty := .int) (C := RX1) (T := TX1) (N := 3) hx hb hts jX1_forget_X1 tyX1 tyX1_ok nmX1 hown hK hP hD hS 0 rfl rfl 2 (by decide) (hts (.fieldLink RX1 22 "BrotherAutomata$History" "kept" "I") (List.mem_of_getElem? (i := 2) rfl)) (fun _ h9 => h9) rfl (by decide +kernel) rfl rfl (Nat.le_of_ble_eq_true rfl) dX1_forget_7 (fun H locs hP hD hS => ?_)
  have hP : va_P D vwCl (wH cO aH aR (st (st zH 0 0 (0 : Int32)) 0 1 (0 : Int32))) H := hP
  have hD : va_D A (wH cO aH aR (st (st zH 0 0 (0 : Int32)) 0 1 (0 : Int32))) := hD
  exact xvret (w := (w_X1_forget cI cO aH aR)) (st (st zH 0 0 (0 : Int32)) 0 1 (0 : Int32)) hx hb hr hlocks h hP hK hD hS dX1_forget_10
set_option maxRecDepth 20000 in
theorem ggX1_keep_X2_copyFrom : GoodIn wsX1_keep wsX2_copyFrom := goodIn_r _ [12, 13, 14, 15, 16, 17, 18, 19, 20, 21, 22, 23, 27, 28, 29, 30, 31, 32, 33] (by decide +kernel) (by decide +kernel)
set_option maxRecDepth 20000 in
theorem gX1_keep_X2_copyFrom : GoodIn wsX1_keep (wsV RX1 25 RX2 yX2_copyFrom wsX2_copyFrom) := goodIn_app (goodIn_of _ (by decide +kernel)) ggX1_keep_X2_copyFrom
theorem dX1_keep_0 : decode cX1_keep 0 = .ok (.aload_n 0, 1) := by decide +kernel
theorem dX1_keep_1 : decode cX1_keep 1 = .ok (.getfield 11, 3) := by decide +kernel
theorem dX1_keep_4 : decode cX1_keep 4 = .ok (.aload_n 0, 1) := by decide +kernel
theorem dX1_keep_5 : decode cX1_keep 5 = .ok (.getfield 18, 3) := by decide +kernel
theorem dX1_keep_8 : decode cX1_keep 8 = .ok (.aaload, 1) := by decide +kernel
theorem dX1_keep_9 : decode cX1_keep 9 = .ok (.aload_n 1, 1) := by decide +kernel
theorem dX1_keep_10 : decode cX1_keep 10 = .ok (.invokevirtual 25, 3) := by decide +kernel
theorem dX1_keep_13 : decode cX1_keep 13 = .ok (.aload_n 0, 1) := by decide +kernel
theorem dX1_keep_14 : decode cX1_keep 14 = .ok (.aload_n 0, 1) := by decide +kernel
theorem dX1_keep_15 : decode cX1_keep 15 = .ok (.getfield 18, 3) := by decide +kernel
theorem dX1_keep_18 : decode cX1_keep 18 = .ok (.iconst 1, 1) := by decide +kernel
theorem dX1_keep_19 : decode cX1_keep 19 = .ok (.iadd, 1) := by decide +kernel
theorem dX1_keep_20 : decode cX1_keep 20 = .ok (.iconst 5, 1) := by decide +kernel
theorem dX1_keep_21 : decode cX1_keep 21 = .ok (.if_icmp .ge 12, 3) := by decide +kernel
theorem dX1_keep_24 : decode cX1_keep 24 = .ok (.aload_n 0, 1) := by decide +kernel
theorem dX1_keep_25 : decode cX1_keep 25 = .ok (.getfield 18, 3) := by decide +kernel
theorem dX1_keep_28 : decode cX1_keep 28 = .ok (.iconst 1, 1) := by decide +kernel
theorem dX1_keep_29 : decode cX1_keep 29 = .ok (.iadd, 1) := by decide +kernel
theorem dX1_keep_30 : decode cX1_keep 30 = .ok (.goto 4, 3) := by decide +kernel
theorem dX1_keep_33 : decode cX1_keep 33 = .ok (.iconst 0, 1) := by decide +kernel
theorem dX1_keep_34 : decode cX1_keep 34 = .ok (.putfield 18, 3) := by decide +kernel
theorem dX1_keep_37 : decode cX1_keep 37 = .ok (.aload_n 0, 1) := by decide +kernel
theorem dX1_keep_38 : decode cX1_keep 38 = .ok (.aload_n 0, 1) := by decide +kernel
theorem dX1_keep_39 : decode cX1_keep 39 = .ok (.getfield 22, 3) := by decide +kernel
theorem dX1_keep_42 : decode cX1_keep 42 = .ok (.iconst 1, 1) := by decide +kernel
theorem dX1_keep_43 : decode cX1_keep 43 = .ok (.iadd, 1) := by decide +kernel
theorem dX1_keep_44 : decode cX1_keep 44 = .ok (.iconst 5, 1) := by decide +kernel
theorem dX1_keep_45 : decode cX1_keep 45 = .ok (.invokestatic 29, 3) := by decide +kernel
theorem dX1_keep_48 : decode cX1_keep 48 = .ok (.putfield 22, 3) := by decide +kernel
theorem dX1_keep_51 : decode cX1_keep 51 = .ok (.return_, 1) := by decide +kernel
theorem jX1_keep_X1 : ∀ w ∈ wsX10, w ∈ wsX1_keep := by decide +kernel
abbrev w_X1_keep (cI cO : ClassId) (aB : Nat → Nat) (aH : Nat → Nat) (aR : Nat → Nat → Nat) (zB : CS) : ((CS) × (Nat → CS)) → va_W := fun u => (wB cI aB zB ++ (wH cO aH aR u.1 ++ (wR cI aR u.2)))
set_option maxRecDepth 100000 in
set_option maxHeartbeats 8000000 in
theorem mX1_keep (l : Launch) (D : va_G) (cI cO : ClassId) (tA tS : Nat) (aB : Nat → Nat) (aH : Nat → Nat) (aR : Nat → Nat → Nat) (zB : CS) (zH : CS) (zR : Nat → CS)  (sz : Nat) {post : ((CS) × (Nat → CS)) → Prop} (h : qX1_keep post zB zH zR) : Met l yX1_keep wsX1_keep ({ frames := 2, cells := 0, slots := 0, locals := 47 } : Room) (xPre D cI cO tA tS [.ref (aH 0), .ref (aB 0)] (wB cI aB zB ++ (wH cO aH aR zH ++ (wR cI aR zR))) sz) (va_Qv post (xB D cI cO (va_A (wB cI aB zB ++ (wH cO aH aR zH ++ (wR cI aR zR))) sz) (w_X1_keep cI cO aB aH aR zB)) (va_A (wB cI aB zB ++ (wH cO aH aR zH ++ (wR cI aR zR))) sz)) 0 0 (va_A (wB cI aB zB ++ (wH cO aH aR zH ++ (wR cI aR zR))) sz) := by
  refine xMet D cI cO tA tS (fun A => va_Qv post (xB D cI cO A (w_X1_keep cI cO aB aH aR zB)) A) (cc := cX1_keep) (maxL := 2) (ret := none) (by decide) rfl (Nat.le_of_ble_eq_true rfl) ?_
  intro p e s m below meth c A ls hx hb hr hts hown hlocks hin hml hA hS hP hK hD hE hl
  have hown : s.vm.findClass RX1 = some m.cls := hown
  have hl : lv_has ls 2 [(0, .ref (aH 0)), (1, .ref (aB 0))] := hl
  have g34 : ∀ (w1 : Int32) (zH : CS) (zR : Nat → CS) (H : Heap) (locs : List Loc) (ls : Array Slot), qX1_keep_34 post zB w1 zH zR → va_P D vwCl (wB cI aB zB ++ (wH cO aH aR zH ++ (wR cI aR zR))) H → va_D A (wB cI aB zB ++ (wH cO aH aR zH ++ (wR cI aR zR))) → va_S A s.heap H locs → lv_has ls 2 [(0, .ref (aH 0)), (1, .ref (aB 0))] → W p l e ({ frames := 2, cells := 0, slots := 0, locals := 47 } : Room) s m ([.ref (aH 0), .ref (aB 0)] : List Value).toArray below meth c H locs 0 0 (MQ below (va_Qv post (xB D cI cO A (w_X1_keep cI cO aB aH aR zB)) A) ([.ref (aH 0), .ref (aB 0)] : List Value).toArray s 0 0 A) (F0 m 34 ls [.int w1, .ref (aH 0)]) := by
    intro w1 zH zR H locs ls h hP hD hS hl
    refine va_put (D := D) (ci := 1) (v := .int w1) (ty := .int) (C := RX1) (T := TX1) (N := 3) hx hb hts jX1_keep_X1 tyX1 tyX1_ok nmX1 hown hK hP hD hS 6 rfl rfl 1 (by decide) (hts (.fieldLink RX1 18 "BrotherAutomata$History" "next" "I") (List.mem_of_getElem? (i := 2) rfl)) (fun _ h9 => h9) rfl (by decide +kernel) rfl rfl (Nat.le_of_ble_eq_true rfl) dX1_keep_34 (fun H locs hP hD hS => ?_)
    have hP : va_P D vwCl (wB cI aB zB ++ (wH cO aH aR (st zH 0 0 w1) ++ (wR cI aR zR))) H := hP
    have hD : va_D A (wB cI aB zB ++ (wH cO aH aR (st zH 0 0 w1) ++ (wR cI aR zR))) := hD
    refine lv_aload_n hx hb dX1_keep_37 rfl (lv_at hl 0 rfl) ?_
    refine lv_aload_n hx hb dX1_keep_38 rfl (lv_at hl 0 rfl) ?_
    refine va_get (D := D) (ci := 1) (v := .int ((st zH 0 0 w1) 0 1)) (C := RX1) (T := TX1) (N := 3) hx hb hts jX1_keep_X1 hown hK hP 6 rfl rfl 2 (by decide) (hts (.fieldLink RX1 22 "BrotherAutomata$History" "kept" "I") (List.mem_of_getElem? (i := 3) rfl)) (fun _ h9 => h9) rfl dX1_keep_39 ?_
    refine lv_iconst (v := 1) hx hb dX1_keep_42 (by decide) ?_
    refine lv_iadd hx hb dX1_keep_43 ?_
    refine lv_iconst (v := 5) hx hb dX1_keep_44 (by decide) ?_
    refine va_mmin hx hb (hml.trans hl.1.symm) hown (hts (.methodLink RX1 29 Lib.Math.min.name) (List.mem_of_getElem? (i := 4) rfl)) (hts (.static Lib.Math.min.name) (List.mem_of_getElem? (i := 5) rfl)) (hts (.initialized "java/lang/Math") (List.mem_of_getElem? (i := 6) rfl)) (hts (.code Lib.Math.min.name Lib.Math.min.code 2 (some .int)) (List.mem_of_getElem? (i := 7) rfl)) (Nat.le_of_ble_eq_true rfl) (Nat.le_of_ble_eq_true rfl) (Nat.zero_le _) (Nat.zero_le _) dX1_keep_45 ?_
    refine va_put (D := D) (ci := 1) (v := .int (if (5 : Int32) < (((st zH 0 0 w1) 0 1) + (1 : Int32)) then (5 : Int32) else (((st zH 0 0 w1) 0 1) + (1 : Int32)))) (ty := .int) (C := RX1) (T := TX1) (N := 3) hx hb hts jX1_keep_X1 tyX1 tyX1_ok nmX1 hown hK hP hD hS 6 rfl rfl 2 (by decide) (hts (.fieldLink RX1 22 "BrotherAutomata$History" "kept" "I") (List.mem_of_getElem? (i := 3) rfl)) (fun _ h9 => h9) rfl (by decide +kernel) rfl rfl (Nat.le_of_ble_eq_true rfl) dX1_keep_48 (fun H locs hP hD hS => ?_)
    have hP : va_P D vwCl (wB cI aB zB ++ (wH cO aH aR (st (st zH 0 0 w1) 0 1 (if (5 : Int32) < (((st zH 0 0 w1) 0 1) + (1 : Int32)) then (5 : Int32) else (((st zH 0 0 w1) 0 1) + (1 : Int32)))) ++ (wR cI aR zR))) H := hP
    have hD : va_D A (wB cI aB zB ++ (wH cO aH aR (st (st zH 0 0 w1) 0 1 (if (5 : Int32) < (((st zH 0 0 w1) 0 1) + (1 : Int32)) then (5 : Int32) else (((st zH 0 0 w1) 0 1) + (1 : Int32)))) ++ (wR cI aR zR))) := hD
    exact xvret (w := (w_X1_keep cI cO aB aH aR zB)) (st (st zH 0 0 w1) 0 1 (if (5 : Int32) < (((st zH 0 0 w1) 0 1) + (1 : Int32)) then (5 : Int32) else (((st zH 0 0 w1) 0 1) + (1 : Int32))), zR) hx hb hr hlocks h hP hK hD hS dX1_keep_51
  refine lv_aload_n hx hb dX1_keep_0 rfl (lv_at hl 0 rfl) ?_
  refine va_get (D := D) (ci := 1) (v := .ref (aH 1)) (C := RX1) (T := TX1) (N := 3) hx hb hts jX1_keep_X1 hown hK hP 6 rfl rfl 0 (by decide) (hts (.fieldLink RX1 11 "BrotherAutomata$History" "ring" "[LBrotherAutomata$RuleBook;") (List.mem_of_getElem? (i := 1) rfl)) (fun _ h9 => h9) rfl dX1_keep_1 ?_
  refine lv_aload_n hx hb dX1_keep_4 rfl (lv_at hl 0 rfl) ?_
  refine va_get (D := D) (ci := 1) (v := .int (zH 0 0)) (C := RX1) (T := TX1) (N := 3) hx hb hts jX1_keep_X1 hown hK hP 6 rfl rfl 1 (by decide) (hts (.fieldLink RX1 18 "BrotherAutomata$History" "next" "I") (List.mem_of_getElem? (i := 2) rfl)) (fun _ h9 => h9) rfl dX1_keep_5 ?_
  obtain ⟨hi, h⟩ := h
  refine va_aldq hx hb hK hP 7 1 rfl rfl hi dX1_keep_8 ?_
  have hj5 : (zH 0 0).toNatClampNeg < 5 := Nat.not_le.mp fun q => hi (Or.inr q)
  generalize (zH 0 0).toNatClampNeg = j5 at h hj5 ⊢
  rcases (show j5 = 0 ∨ j5 = 1 ∨ j5 = 2 ∨ j5 = 3 ∨ j5 = 4 by omega) with rfl | rfl | rfl | rfl | rfl
  · refine lv_aload_n hx hb dX1_keep_9 rfl (lv_at hl 1 rfl) ?_
    refine xcallv (wr := (wH cO aH aR zH ++ (wB cI (aR 1) (zR 1) ++ (wB cI (aR 2) (zR 2) ++ (wB cI (aR 3) (zR 3) ++ (wB cI (aR 4) (zR 4))))))) (w2 := fun (u10 : (CS)) => (wB cI aB zB ++ (wH cO aH aR zH ++ (wR cI aR (sR zR 0 u10))))) (va_runV (As := [.ref (aB 0)]) (rest := []) ⟨hx, hb, hml, hown, hts⟩ (mX2_copyFrom l D cI cO tA tS (aR 0) aB (zR 0) zB _ h) (cwV 1 hts gX1_keep_X2_copyFrom rfl rfl rfl (by decide +kernel) ⟨Nat.le_of_ble_eq_true rfl, Nat.le_of_ble_eq_true rfl⟩) (xpreV hP hD hS hA hK hE [8, 9, 10, 11, 12, 13, 0, 1, 2, 3, 4, 5] rfl rfl 2 8 rfl rfl) rfl rfl hl.1 rfl (lv_room (Nat.le_of_ble_eq_true rfl)) dX1_keep_10 ⟨Nat.le_refl 0, Nat.le_refl 0⟩) hP hD hS hA [8, 9, 10, 11, 12, 13, 0, 1, 2, 3, 4, 5] [6, 7, 14, 15, 16, 17, 18, 19, 20, 21, 22, 23, 24, 25, 26, 27, 28, 29, 30, 31, 32, 33, 34, 35, 36, 37] [32, 33, 34, 35, 36, 37, 0, 1, 26, 27, 28, 29, 30, 31, 2, 3, 4, 5, 6, 7, 8, 9, 10, 11, 12, 13, 14, 15, 16, 17, 18, 19, 20, 21, 22, 23, 24, 25] rfl rfl rfl (by decide) rfl (fun _ => rfl) (fun u10 H locs h hP hD hS => ?_)
    refine lv_aload_n hx hb dX1_keep_13 rfl (lv_at hl 0 rfl) ?_
    refine lv_aload_n hx hb dX1_keep_14 rfl (lv_at hl 0 rfl) ?_
    refine va_get (D := D) (ci := 1) (v := .int (zH 0 0)) (C := RX1) (T := TX1) (N := 3) hx hb hts jX1_keep_X1 hown hK hP 6 rfl rfl 1 (by decide) (hts (.fieldLink RX1 18 "BrotherAutomata$History" "next" "I") (List.mem_of_getElem? (i := 2) rfl)) (fun _ h9 => h9) rfl dX1_keep_15 ?_
    refine lv_iconst (v := 1) hx hb dX1_keep_18 (by decide) ?_
    refine lv_iadd hx hb dX1_keep_19 ?_
    refine lv_iconst (v := 5) hx hb dX1_keep_20 (by decide) ?_
    obtain ⟨hh1, hh2⟩ := h
    refine lv_icmp_ge (tgt := 33) hx hb dX1_keep_21 (by decide) (fun hc => ?_) (fun hc => ?_)
    · have h := hh1 hc
      refine lv_iconst (v := 0) hx hb dX1_keep_33 (by decide) ?_
      exact g34 (0 : Int32) zH (sR zR 0 u10) _ _ _ h hP hD hS hl
    · have h := hh2 hc
      refine lv_aload_n hx hb dX1_keep_24 rfl (lv_at hl 0 rfl) ?_
      refine va_get (D := D) (ci := 1) (v := .int (zH 0 0)) (C := RX1) (T := TX1) (N := 3) hx hb hts jX1_keep_X1 hown hK hP 6 rfl rfl 1 (by decide) (hts (.fieldLink RX1 18 "BrotherAutomata$History" "next" "I") (List.mem_of_getElem? (i := 2) rfl)) (fun _ h9 => h9) rfl dX1_keep_25 ?_
      refine lv_iconst (v := 1) hx hb dX1_keep_28 (by decide) ?_
      refine lv_iadd hx hb dX1_keep_29 ?_
      refine lv_goto (tgt := 34) hx hb dX1_keep_30 (by decide) ?_
      exact g34 ((zH 0 0) + (1 : Int32)) zH (sR zR 0 u10) _ _ _ h hP hD hS hl
  · refine lv_aload_n hx hb dX1_keep_9 rfl (lv_at hl 1 rfl) ?_
    refine xcallv (wr := (wH cO aH aR zH ++ (wB cI (aR 0) (zR 0) ++ (wB cI (aR 2) (zR 2) ++ (wB cI (aR 3) (zR 3) ++ (wB cI (aR 4) (zR 4))))))) (w2 := fun (u10 : (CS)) => (wB cI aB zB ++ (wH cO aH aR zH ++ (wR cI aR (sR zR 1 u10))))) (va_runV (As := [.ref (aB 0)]) (rest := []) ⟨hx, hb, hml, hown, hts⟩ (mX2_copyFrom l D cI cO tA tS (aR 1) aB (zR 1) zB _ h) (cwV 1 hts gX1_keep_X2_copyFrom rfl rfl rfl (by decide +kernel) ⟨Nat.le_of_ble_eq_true rfl, Nat.le_of_ble_eq_true rfl⟩) (xpreV hP hD hS hA hK hE [14, 15, 16, 17, 18, 19, 0, 1, 2, 3, 4, 5] rfl rfl 2 14 rfl rfl) rfl rfl hl.1 rfl (lv_room (Nat.le_of_ble_eq_true rfl)) dX1_keep_10 ⟨Nat.le_refl 0, Nat.le_refl 0⟩) hP hD hS hA [14, 15, 16, 17, 18, 19, 0, 1, 2, 3, 4, 5] [6, 7, 8, 9, 10, 11, 12, 13, 20, 21, 22, 23, 24, 25, 26, 27, 28, 29, 30, 31, 32, 33, 34, 35, 36, 37] [32, 33, 34, 35, 36, 37, 0, 1, 2, 3, 4, 5, 6, 7, 26, 27, 28, 29, 30, 31, 8, 9, 10, 11, 12, 13, 14, 15, 16, 17, 18, 19, 20, 21, 22, 23, 24, 25] rfl rfl rfl (by decide) rfl (fun _ => rfl) (fun u10 H locs h hP hD hS => ?_)
    refine lv_aload_n hx hb dX1_keep_13 rfl (lv_at hl 0 rfl) ?_
    refine lv_aload_n hx hb dX1_keep_14 rfl (lv_at hl 0 rfl) ?_
    refine va_get (D := D) (ci := 1) (v := .int (zH 0 0)) (C := RX1) (T := TX1) (N := 3) hx hb hts jX1_keep_X1 hown hK hP 6 rfl rfl 1 (by decide) (hts (.fieldLink RX1 18 "BrotherAutomata$History" "next" "I") (List.mem_of_getElem? (i := 2) rfl)) (fun _ h9 => h9) rfl dX1_keep_15 ?_
    refine lv_iconst (v := 1) hx hb dX1_keep_18 (by decide) ?_
    refine lv_iadd hx hb dX1_keep_19 ?_
    refine lv_iconst (v := 5) hx hb dX1_keep_20 (by decide) ?_
    obtain ⟨hh1, hh2⟩ := h
    refine lv_icmp_ge (tgt := 33) hx hb dX1_keep_21 (by decide) (fun hc => ?_) (fun hc => ?_)
    · have h := hh1 hc
      refine lv_iconst (v := 0) hx hb dX1_keep_33 (by decide) ?_
      exact g34 (0 : Int32) zH (sR zR 1 u10) _ _ _ h hP hD hS hl
    · have h := hh2 hc
      refine lv_aload_n hx hb dX1_keep_24 rfl (lv_at hl 0 rfl) ?_
      refine va_get (D := D) (ci := 1) (v := .int (zH 0 0)) (C := RX1) (T := TX1) (N := 3) hx hb hts jX1_keep_X1 hown hK hP 6 rfl rfl 1 (by decide) (hts (.fieldLink RX1 18 "BrotherAutomata$History" "next" "I") (List.mem_of_getElem? (i := 2) rfl)) (fun _ h9 => h9) rfl dX1_keep_25 ?_
      refine lv_iconst (v := 1) hx hb dX1_keep_28 (by decide) ?_
      refine lv_iadd hx hb dX1_keep_29 ?_
      refine lv_goto (tgt := 34) hx hb dX1_keep_30 (by decide) ?_
      exact g34 ((zH 0 0) + (1 : Int32)) zH (sR zR 1 u10) _ _ _ h hP hD hS hl
  · refine lv_aload_n hx hb dX1_keep_9 rfl (lv_at hl 1 rfl) ?_
    refine xcallv (wr := (wH cO aH aR zH ++ (wB cI (aR 0) (zR 0) ++ (wB cI (aR 1) (zR 1) ++ (wB cI (aR 3) (zR 3) ++ (wB cI (aR 4) (zR 4))))))) (w2 := fun (u10 : (CS)) => (wB cI aB zB ++ (wH cO aH aR zH ++ (wR cI aR (sR zR 2 u10))))) (va_runV (As := [.ref (aB 0)]) (rest := []) ⟨hx, hb, hml, hown, hts⟩ (mX2_copyFrom l D cI cO tA tS (aR 2) aB (zR 2) zB _ h) (cwV 1 hts gX1_keep_X2_copyFrom rfl rfl rfl (by decide +kernel) ⟨Nat.le_of_ble_eq_true rfl, Nat.le_of_ble_eq_true rfl⟩) (xpreV hP hD hS hA hK hE [20, 21, 22, 23, 24, 25, 0, 1, 2, 3, 4, 5] rfl rfl 2 20 rfl rfl) rfl rfl hl.1 rfl (lv_room (Nat.le_of_ble_eq_true rfl)) dX1_keep_10 ⟨Nat.le_refl 0, Nat.le_refl 0⟩) hP hD hS hA [20, 21, 22, 23, 24, 25, 0, 1, 2, 3, 4, 5] [6, 7, 8, 9, 10, 11, 12, 13, 14, 15, 16, 17, 18, 19, 26, 27, 28, 29, 30, 31, 32, 33, 34, 35, 36, 37] [32, 33, 34, 35, 36, 37, 0, 1, 2, 3, 4, 5, 6, 7, 8, 9, 10, 11, 12, 13, 26, 27, 28, 29, 30, 31, 14, 15, 16, 17, 18, 19, 20, 21, 22, 23, 24, 25] rfl rfl rfl (by decide) rfl (fun _ => rfl) (fun u10 H locs h hP hD hS => ?_)
    refine lv_aload_n hx hb dX1_keep_13 rfl (lv_at hl 0 rfl) ?_
    refine lv_aload_n hx hb dX1_keep_14 rfl (lv_at hl 0 rfl) ?_
    refine va_get (D := D) (ci := 1) (v := .int (zH 0 0)) (C := RX1) (T := TX1) (N := 3) hx hb hts jX1_keep_X1 hown hK hP 6 rfl rfl 1 (by decide) (hts (.fieldLink RX1 18 "BrotherAutomata$History" "next" "I") (List.mem_of_getElem? (i := 2) rfl)) (fun _ h9 => h9) rfl dX1_keep_15 ?_
    refine lv_iconst (v := 1) hx hb dX1_keep_18 (by decide) ?_
    refine lv_iadd hx hb dX1_keep_19 ?_
    refine lv_iconst (v := 5) hx hb dX1_keep_20 (by decide) ?_
    obtain ⟨hh1, hh2⟩ := h
    refine lv_icmp_ge (tgt := 33) hx hb dX1_keep_21 (by decide) (fun hc => ?_) (fun hc => ?_)
    · have h := hh1 hc
      refine lv_iconst (v := 0) hx hb dX1_keep_33 (by decide) ?_
      exact g34 (0 : Int32) zH (sR zR 2 u10) _ _ _ h hP hD hS hl
    · have h := hh2 hc
      refine lv_aload_n hx hb dX1_keep_24 rfl (lv_at hl 0 rfl) ?_
      refine va_get (D := D) (ci := 1) (v := .int (zH 0 0)) (C := RX1) (T := TX1) (N := 3) hx hb hts jX1_keep_X1 hown hK hP 6 rfl rfl 1 (by decide) (hts (.fieldLink RX1 18 "BrotherAutomata$History" "next" "I") (List.mem_of_getElem? (i := 2) rfl)) (fun _ h9 => h9) rfl dX1_keep_25 ?_
      refine lv_iconst (v := 1) hx hb dX1_keep_28 (by decide) ?_
      refine lv_iadd hx hb dX1_keep_29 ?_
      refine lv_goto (tgt := 34) hx hb dX1_keep_30 (by decide) ?_
      exact g34 ((zH 0 0) + (1 : Int32)) zH (sR zR 2 u10) _ _ _ h hP hD hS hl
  · refine lv_aload_n hx hb dX1_keep_9 rfl (lv_at hl 1 rfl) ?_
    refine xcallv (wr := (wH cO aH aR zH ++ (wB cI (aR 0) (zR 0) ++ (wB cI (aR 1) (zR 1) ++ (wB cI (aR 2) (zR 2) ++ (wB cI (aR 4) (zR 4))))))) (w2 := fun (u10 : (CS)) => (wB cI aB zB ++ (wH cO aH aR zH ++ (wR cI aR (sR zR 3 u10))))) (va_runV (As := [.ref (aB 0)]) (rest := []) ⟨hx, hb, hml, hown, hts⟩ (mX2_copyFrom l D cI cO tA tS (aR 3) aB (zR 3) zB _ h) (cwV 1 hts gX1_keep_X2_copyFrom rfl rfl rfl (by decide +kernel) ⟨Nat.le_of_ble_eq_true rfl, Nat.le_of_ble_eq_true rfl⟩) (xpreV hP hD hS hA hK hE [26, 27, 28, 29, 30, 31, 0, 1, 2, 3, 4, 5] rfl rfl 2 26 rfl rfl) rfl rfl hl.1 rfl (lv_room (Nat.le_of_ble_eq_true rfl)) dX1_keep_10 ⟨Nat.le_refl 0, Nat.le_refl 0⟩) hP hD hS hA [26, 27, 28, 29, 30, 31, 0, 1, 2, 3, 4, 5] [6, 7, 8, 9, 10, 11, 12, 13, 14, 15, 16, 17, 18, 19, 20, 21, 22, 23, 24, 25, 32, 33, 34, 35, 36, 37] [32, 33, 34, 35, 36, 37, 0, 1, 2, 3, 4, 5, 6, 7, 8, 9, 10, 11, 12, 13, 14, 15, 16, 17, 18, 19, 26, 27, 28, 29, 30, 31, 20, 21, 22, 23, 24, 25] rfl rfl rfl (by decide) rfl (fun _ => rfl) (fun u10 H locs h hP hD hS => ?_)
    refine lv_aload_n hx hb dX1_keep_13 rfl (lv_at hl 0 rfl) ?_
    refine lv_aload_n hx hb dX1_keep_14 rfl (lv_at hl 0 rfl) ?_
    refine va_get (D := D) (ci := 1) (v := .int (zH 0 0)) (C := RX1) (T := TX1) (N := 3) hx hb hts jX1_keep_X1 hown hK hP 6 rfl rfl 1 (by decide) (hts (.fieldLink RX1 18 "BrotherAutomata$History" "next" "I") (List.mem_of_getElem? (i := 2) rfl)) (fun _ h9 => h9) rfl dX1_keep_15 ?_
    refine lv_iconst (v := 1) hx hb dX1_keep_18 (by decide) ?_
    refine lv_iadd hx hb dX1_keep_19 ?_
    refine lv_iconst (v := 5) hx hb dX1_keep_20 (by decide) ?_
    obtain ⟨hh1, hh2⟩ := h
    refine lv_icmp_ge (tgt := 33) hx hb dX1_keep_21 (by decide) (fun hc => ?_) (fun hc => ?_)
    · have h := hh1 hc
      refine lv_iconst (v := 0) hx hb dX1_keep_33 (by decide) ?_
      exact g34 (0 : Int32) zH (sR zR 3 u10) _ _ _ h hP hD hS hl
    · have h := hh2 hc
      refine lv_aload_n hx hb dX1_keep_24 rfl (lv_at hl 0 rfl) ?_
      refine va_get (D := D) (ci := 1) (v := .int (zH 0 0)) (C := RX1) (T := TX1) (N := 3) hx hb hts jX1_keep_X1 hown hK hP 6 rfl rfl 1 (by decide) (hts (.fieldLink RX1 18 "BrotherAutomata$History" "next" "I") (List.mem_of_getElem? (i := 2) rfl)) (fun _ h9 => h9) rfl dX1_keep_25 ?_
      refine lv_iconst (v := 1) hx hb dX1_keep_28 (by decide) ?_
      refine lv_iadd hx hb dX1_keep_29 ?_
      refine lv_goto (tgt := 34) hx hb dX1_keep_30 (by decide) ?_
      exact g34 ((zH 0 0) + (1 : Int32)) zH (sR zR 3 u10) _ _ _ h hP hD hS hl
  · refine lv_aload_n hx hb dX1_keep_9 rfl (lv_at hl 1 rfl) ?_
    refine xcallv (wr := (wH cO aH aR zH ++ (wB cI (aR 0) (zR 0) ++ (wB cI (aR 1) (zR 1) ++ (wB cI (aR 2) (zR 2) ++ (wB cI (aR 3) (zR 3))))))) (w2 := fun (u10 : (CS)) => (wB cI aB zB ++ (wH cO aH aR zH ++ (wR cI aR (sR zR 4 u10))))) (va_runV (As := [.ref (aB 0)]) (rest := []) ⟨hx, hb, hml, hown, hts⟩ (mX2_copyFrom l D cI cO tA tS (aR 4) aB (zR 4) zB _ h) (cwV 1 hts gX1_keep_X2_copyFrom rfl rfl rfl (by decide +kernel) ⟨Nat.le_of_ble_eq_true rfl, Nat.le_of_ble_eq_true rfl⟩) (xpreV hP hD hS hA hK hE [32, 33, 34, 35, 36, 37, 0, 1, 2, 3, 4, 5] rfl rfl 2 32 rfl rfl) rfl rfl hl.1 rfl (lv_room (Nat.le_of_ble_eq_true rfl)) dX1_keep_10 ⟨Nat.le_refl 0, Nat.le_refl 0⟩) hP hD hS hA [32, 33, 34, 35, 36, 37, 0, 1, 2, 3, 4, 5] [6, 7, 8, 9, 10, 11, 12, 13, 14, 15, 16, 17, 18, 19, 20, 21, 22, 23, 24, 25, 26, 27, 28, 29, 30, 31] [32, 33, 34, 35, 36, 37, 0, 1, 2, 3, 4, 5, 6, 7, 8, 9, 10, 11, 12, 13, 14, 15, 16, 17, 18, 19, 20, 21, 22, 23, 24, 25, 26, 27, 28, 29, 30, 31] rfl rfl rfl (by decide) rfl (fun _ => rfl) (fun u10 H locs h hP hD hS => ?_)
    refine lv_aload_n hx hb dX1_keep_13 rfl (lv_at hl 0 rfl) ?_
    refine lv_aload_n hx hb dX1_keep_14 rfl (lv_at hl 0 rfl) ?_
    refine va_get (D := D) (ci := 1) (v := .int (zH 0 0)) (C := RX1) (T := TX1) (N := 3) hx hb hts jX1_keep_X1 hown hK hP 6 rfl rfl 1 (by decide) (hts (.fieldLink RX1 18 "BrotherAutomata$History" "next" "I") (List.mem_of_getElem? (i := 2) rfl)) (fun _ h9 => h9) rfl dX1_keep_15 ?_
    refine lv_iconst (v := 1) hx hb dX1_keep_18 (by decide) ?_
    refine lv_iadd hx hb dX1_keep_19 ?_
    refine lv_iconst (v := 5) hx hb dX1_keep_20 (by decide) ?_
    obtain ⟨hh1, hh2⟩ := h
    refine lv_icmp_ge (tgt := 33) hx hb dX1_keep_21 (by decide) (fun hc => ?_) (fun hc => ?_)
    · have h := hh1 hc
      refine lv_iconst (v := 0) hx hb dX1_keep_33 (by decide) ?_
      exact g34 (0 : Int32) zH (sR zR 4 u10) _ _ _ h hP hD hS hl
    · have h := hh2 hc
      refine lv_aload_n hx hb dX1_keep_24 rfl (lv_at hl 0 rfl) ?_
      refine va_get (D := D) (ci := 1) (v := .int (zH 0 0)) (C := RX1) (T := TX1) (N := 3) hx hb hts jX1_keep_X1 hown hK hP 6 rfl rfl 1 (by decide) (hts (.fieldLink RX1 18 "BrotherAutomata$History" "next" "I") (List.mem_of_getElem? (i := 2) rfl)) (fun _ h9 => h9) rfl dX1_keep_25 ?_
      refine lv_iconst (v := 1) hx hb dX1_keep_28 (by decide) ?_
      refine lv_iadd hx hb dX1_keep_29 ?_
      refine lv_goto (tgt := 34) hx hb dX1_keep_30 (by decide) ?_
      exact g34 ((zH 0 0) + (1 : Int32)) zH (sR zR 4 u10) _ _ _ h hP hD hS hl
set_option maxRecDepth 20000 in
theorem ggX1_giveBack_X2_copyFrom : GoodIn wsX1_giveBack wsX2_copyFrom := goodIn_r _ [8, 9, 10, 11, 12, 13, 14, 15, 16, 17, 18, 19, 23, 24, 25, 26, 27, 28, 29] (by decide +kernel) (by decide +kernel)
set_option maxRecDepth 20000 in
theorem gX1_giveBack_X2_copyFrom : GoodIn wsX1_giveBack (wsV RX1 25 RX2 yX2_copyFrom wsX2_copyFrom) := goodIn_app (goodIn_of _ (by decide +kernel)) ggX1_giveBack_X2_copyFrom
theorem dX1_giveBack_0 : decode cX1_giveBack 0 = .ok (.aload_n 0, 1) := by decide +kernel
theorem dX1_giveBack_1 : decode cX1_giveBack 1 = .ok (.getfield 22, 3) := by decide +kernel
theorem dX1_giveBack_4 : decode cX1_giveBack 4 = .ok (.ifCond .le 47, 3) := by decide +kernel
theorem dX1_giveBack_7 : decode cX1_giveBack 7 = .ok (.aload_n 0, 1) := by decide +kernel
theorem dX1_giveBack_8 : decode cX1_giveBack 8 = .ok (.aload_n 0, 1) := by decide +kernel
theorem dX1_giveBack_9 : decode cX1_giveBack 9 = .ok (.getfield 18, 3) := by decide +kernel
theorem dX1_giveBack_12 : decode cX1_giveBack 12 = .ok (.ifCond .le 12, 3) := by decide +kernel
theorem dX1_giveBack_15 : decode cX1_giveBack 15 = .ok (.aload_n 0, 1) := by decide +kernel
theorem dX1_giveBack_16 : decode cX1_giveBack 16 = .ok (.getfield 18, 3) := by decide +kernel
theorem dX1_giveBack_19 : decode cX1_giveBack 19 = .ok (.iconst 1, 1) := by decide +kernel
theorem dX1_giveBack_20 : decode cX1_giveBack 20 = .ok (.isub, 1) := by decide +kernel
theorem dX1_giveBack_21 : decode cX1_giveBack 21 = .ok (.goto 4, 3) := by decide +kernel
theorem dX1_giveBack_24 : decode cX1_giveBack 24 = .ok (.iconst 4, 1) := by decide +kernel
theorem dX1_giveBack_25 : decode cX1_giveBack 25 = .ok (.putfield 18, 3) := by decide +kernel
theorem dX1_giveBack_28 : decode cX1_giveBack 28 = .ok (.aload_n 1, 1) := by decide +kernel
theorem dX1_giveBack_29 : decode cX1_giveBack 29 = .ok (.aload_n 0, 1) := by decide +kernel
theorem dX1_giveBack_30 : decode cX1_giveBack 30 = .ok (.getfield 11, 3) := by decide +kernel
theorem dX1_giveBack_33 : decode cX1_giveBack 33 = .ok (.aload_n 0, 1) := by decide +kernel
theorem dX1_giveBack_34 : decode cX1_giveBack 34 = .ok (.getfield 18, 3) := by decide +kernel
theorem dX1_giveBack_37 : decode cX1_giveBack 37 = .ok (.aaload, 1) := by decide +kernel
theorem dX1_giveBack_38 : decode cX1_giveBack 38 = .ok (.invokevirtual 25, 3) := by decide +kernel
theorem dX1_giveBack_41 : decode cX1_giveBack 41 = .ok (.aload_n 0, 1) := by decide +kernel
theorem dX1_giveBack_42 : decode cX1_giveBack 42 = .ok (.dup, 1) := by decide +kernel
theorem dX1_giveBack_43 : decode cX1_giveBack 43 = .ok (.getfield 22, 3) := by decide +kernel
theorem dX1_giveBack_46 : decode cX1_giveBack 46 = .ok (.iconst 1, 1) := by decide +kernel
theorem dX1_giveBack_47 : decode cX1_giveBack 47 = .ok (.isub, 1) := by decide +kernel
theorem dX1_giveBack_48 : decode cX1_giveBack 48 = .ok (.putfield 22, 3) := by decide +kernel
theorem dX1_giveBack_51 : decode cX1_giveBack 51 = .ok (.return_, 1) := by decide +kernel
theorem jX1_giveBack_X1 : ∀ w ∈ wsX10, w ∈ wsX1_giveBack := by decide +kernel
abbrev w_X1_giveBack (cI cO : ClassId) (aB : Nat → Nat) (aH : Nat → Nat) (aR : Nat → Nat → Nat) (zR : Nat → CS) : ((CS) × (CS)) → va_W := fun u => (wB cI aB u.1 ++ (wH cO aH aR u.2 ++ (wR cI aR zR)))
set_option maxRecDepth 100000 in
set_option maxHeartbeats 8000000 in
theorem mX1_giveBack (l : Launch) (D : va_G) (cI cO : ClassId) (tA tS : Nat) (aB : Nat → Nat) (aH : Nat → Nat) (aR : Nat → Nat → Nat) (zB : CS) (zH : CS) (zR : Nat → CS)  (sz : Nat) {post : ((CS) × (CS)) → Prop} (h : qX1_giveBack post zB zH zR) : Met l yX1_giveBack wsX1_giveBack ({ frames := 2, cells := 0, slots := 0, locals := 47 } : Room) (xPre D cI cO tA tS [.ref (aH 0), .ref (aB 0)] (wB cI aB zB ++ (wH cO aH aR zH ++ (wR cI aR zR))) sz) (va_Qv post (xB D cI cO (va_A (wB cI aB zB ++ (wH cO aH aR zH ++ (wR cI aR zR))) sz) (w_X1_giveBack cI cO aB aH aR zR)) (va_A (wB cI aB zB ++ (wH cO aH aR zH ++ (wR cI aR zR))) sz)) 0 0 (va_A (wB cI aB zB ++ (wH cO aH aR zH ++ (wR cI aR zR))) sz) := by
  refine xMet D cI cO tA tS (fun A => va_Qv post (xB D cI cO A (w_X1_giveBack cI cO aB aH aR zR)) A) (cc := cX1_giveBack) (maxL := 2) (ret := none) (by decide) rfl (Nat.le_of_ble_eq_true rfl) ?_
  intro p e s m below meth c A ls hx hb hr hts hown hlocks hin hml hA hS hP hK hD hE hl
  have hown : s.vm.findClass RX1 = some m.cls := hown
  have hl : lv_has ls 2 [(0, .ref (aH 0)), (1, .ref (aB 0))] := hl
  have g25 : ∀ (w1 : Int32) (zB : CS) (zH : CS) (H : Heap) (locs : List Loc) (ls : Array Slot), qX1_giveBack_25 post zR w1 zB zH → va_P D vwCl (wB cI aB zB ++ (wH cO aH aR zH ++ (wR cI aR zR))) H → va_D A (wB cI aB zB ++ (wH cO aH aR zH ++ (wR cI aR zR))) → va_S A s.heap H locs → lv_has ls 2 [(0, .ref (aH 0)), (1, .ref (aB 0))] → W p l e ({ frames := 2, cells := 0, slots := 0, locals := 47 } : Room) s m ([.ref (aH 0), .ref (aB 0)] : List Value).toArray below meth c H locs 0 0 (MQ below (va_Qv post (xB D cI cO A (w_X1_giveBack cI cO aB aH aR zR)) A) ([.ref (aH 0), .ref (aB 0)] : List Value).toArray s 0 0 A) (F0 m 25 ls [.int w1, .ref (aH 0)]) := by
    intro w1 zB zH H locs ls h hP hD hS hl
    refine va_put (D := D) (ci := 1) (v := .int w1) (ty := .int) (C := RX1) (T := TX1) (N := 3) hx hb hts jX1_giveBack_X1 tyX1 tyX1_ok nmX1 hown hK hP hD hS 6 rfl rfl 1 (by decide) (hts (.fieldLink RX1 18 "BrotherAutomata$History" "next" "I") (List.mem_of_getElem? (i := 2) rfl)) (fun _ h9 => h9) rfl (by decide +kernel) rfl rfl (Nat.le_of_ble_eq_true rfl) dX1_giveBack_25 (fun H locs hP hD hS => ?_)
    have hP : va_P D vwCl (wB cI aB zB ++ (wH cO aH aR (st zH 0 0 w1) ++ (wR cI aR zR))) H := hP
    have hD : va_D A (wB cI aB zB ++ (wH cO aH aR (st zH 0 0 w1) ++ (wR cI aR zR))) := hD
    refine lv_aload_n hx hb dX1_giveBack_28 rfl (lv_at hl 1 rfl) ?_
    refine lv_aload_n hx hb dX1_giveBack_29 rfl (lv_at hl 0 rfl) ?_
    refine va_get (D := D) (ci := 1) (v := .ref (aH 1)) (C := RX1) (T := TX1) (N := 3) hx hb hts jX1_giveBack_X1 hown hK hP 6 rfl rfl 0 (by decide) (hts (.fieldLink RX1 11 "BrotherAutomata$History" "ring" "[LBrotherAutomata$RuleBook;") (List.mem_of_getElem? (i := 3) rfl)) (fun _ h9 => h9) rfl dX1_giveBack_30 ?_
    refine lv_aload_n hx hb dX1_giveBack_33 rfl (lv_at hl 0 rfl) ?_
    refine va_get (D := D) (ci := 1) (v := .int ((st zH 0 0 w1) 0 0)) (C := RX1) (T := TX1) (N := 3) hx hb hts jX1_giveBack_X1 hown hK hP 6 rfl rfl 1 (by decide) (hts (.fieldLink RX1 18 "BrotherAutomata$History" "next" "I") (List.mem_of_getElem? (i := 2) rfl)) (fun _ h9 => h9) rfl dX1_giveBack_34 ?_
    obtain ⟨hi, h⟩ := h
    refine va_aldq hx hb hK hP 7 1 rfl rfl hi dX1_giveBack_37 ?_
    have hj5 : ((st zH 0 0 w1) 0 0).toNatClampNeg < 5 := Nat.not_le.mp fun q => hi (Or.inr q)
    generalize ((st zH 0 0 w1) 0 0).toNatClampNeg = j5 at h hj5 ⊢
    rcases (show j5 = 0 ∨ j5 = 1 ∨ j5 = 2 ∨ j5 = 3 ∨ j5 = 4 by omega) with rfl | rfl | rfl | rfl | rfl
    · refine xcallv (wr := (wH cO aH aR (st zH 0 0 w1) ++ (wB cI (aR 1) (zR 1) ++ (wB cI (aR 2) (zR 2) ++ (wB cI (aR 3) (zR 3) ++ (wB cI (aR 4) (zR 4))))))) (w2 := fun (u38 : (CS)) => (wB cI aB u38 ++ (wH cO aH aR (st zH 0 0 w1) ++ (wR cI aR zR)))) (va_runV (As := [.ref (aR 0 0)]) (rest := []) ⟨hx, hb, hml, hown, hts⟩ (mX2_copyFrom l D cI cO tA tS aB (aR 0) zB (zR 0) _ h) (cwV 1 hts gX1_giveBack_X2_copyFrom rfl rfl rfl (by decide +kernel) ⟨Nat.le_of_ble_eq_true rfl, Nat.le_of_ble_eq_true rfl⟩) (xpreV hP hD hS hA hK hE [0, 1, 2, 3, 4, 5, 8, 9, 10, 11, 12, 13] rfl rfl 2 0 rfl rfl) rfl rfl hl.1 rfl (lv_room (Nat.le_of_ble_eq_true rfl)) dX1_giveBack_38 ⟨Nat.le_refl 0, Nat.le_refl 0⟩) hP hD hS hA [0, 1, 2, 3, 4, 5, 8, 9, 10, 11, 12, 13] [6, 7, 14, 15, 16, 17, 18, 19, 20, 21, 22, 23, 24, 25, 26, 27, 28, 29, 30, 31, 32, 33, 34, 35, 36, 37] [26, 27, 28, 29, 30, 31, 0, 1, 32, 33, 34, 35, 36, 37, 2, 3, 4, 5, 6, 7, 8, 9, 10, 11, 12, 13, 14, 15, 16, 17, 18, 19, 20, 21, 22, 23, 24, 25] rfl rfl rfl (by decide) rfl (fun _ => rfl) (fun u38 H locs h hP hD hS => ?_)
      refine lv_aload_n hx hb dX1_giveBack_41 rfl (lv_at hl 0 rfl) ?_
      refine lv_dup hx hb dX1_giveBack_42 rfl ?_
      refine va_get (D := D) (ci := 1) (v := .int ((st zH 0 0 w1) 0 1)) (C := RX1) (T := TX1) (N := 3) hx hb hts jX1_giveBack_X1 hown hK hP 6 rfl rfl 2 (by decide) (hts (.fieldLink RX1 22 "BrotherAutomata$History" "kept" "I") (List.mem_of_getElem? (i := 1) rfl)) (fun _ h9 => h9) rfl dX1_giveBack_43 ?_
      refine lv_iconst (v := 1) hx hb dX1_giveBack_46 (by decide) ?_
      refine lv_isub hx hb dX1_giveBack_47 ?_
      refine va_put (D := D) (ci := 1) (v := .int (((st zH 0 0 w1) 0 1) - (1 : Int32))) (ty := .int) (C := RX1) (T := TX1) (N := 3) hx hb hts jX1_giveBack_X1 tyX1 tyX1_ok nmX1 hown hK hP hD hS 6 rfl rfl 2 (by decide) (hts (.fieldLink RX1 22 "BrotherAutomata$History" "kept" "I") (List.mem_of_getElem? (i := 1) rfl)) (fun _ h9 => h9) rfl (by decide +kernel) rfl rfl (Nat.le_of_ble_eq_true rfl) dX1_giveBack_48 (fun H locs hP hD hS => ?_)
      have hP : va_P D vwCl (wB cI aB u38 ++ (wH cO aH aR (st (st zH 0 0 w1) 0 1 (((st zH 0 0 w1) 0 1) - (1 : Int32))) ++ (wR cI aR zR))) H := hP
      have hD : va_D A (wB cI aB u38 ++ (wH cO aH aR (st (st zH 0 0 w1) 0 1 (((st zH 0 0 w1) 0 1) - (1 : Int32))) ++ (wR cI aR zR))) := hD
      exact xvret (w := (w_X1_giveBack cI cO aB aH aR zR)) (u38, st (st zH 0 0 w1) 0 1 (((st zH 0 0 w1) 0 1) - (1 : Int32))) hx hb hr hlocks h hP hK hD hS dX1_giveBack_51
    · refine xcallv (wr := (wH cO aH aR (st zH 0 0 w1) ++ (wB cI (aR 0) (zR 0) ++ (wB cI (aR 2) (zR 2) ++ (wB cI (aR 3) (zR 3) ++ (wB cI (aR 4) (zR 4))))))) (w2 := fun (u38 : (CS)) => (wB cI aB u38 ++ (wH cO aH aR (st zH 0 0 w1) ++ (wR cI aR zR)))) (va_runV (As := [.ref (aR 1 0)]) (rest := []) ⟨hx, hb, hml, hown, hts⟩ (mX2_copyFrom l D cI cO tA tS aB (aR 1) zB (zR 1) _ h) (cwV 1 hts gX1_giveBack_X2_copyFrom rfl rfl rfl (by decide +kernel) ⟨Nat.le_of_ble_eq_true rfl, Nat.le_of_ble_eq_true rfl⟩) (xpreV hP hD hS hA hK hE [0, 1, 2, 3, 4, 5, 14, 15, 16, 17, 18, 19] rfl rfl 2 0 rfl rfl) rfl rfl hl.1 rfl (lv_room (Nat.le_of_ble_eq_true rfl)) dX1_giveBack_38 ⟨Nat.le_refl 0, Nat.le_refl 0⟩) hP hD hS hA [0, 1, 2, 3, 4, 5, 14, 15, 16, 17, 18, 19] [6, 7, 8, 9, 10, 11, 12, 13, 20, 21, 22, 23, 24, 25, 26, 27, 28, 29, 30, 31, 32, 33, 34, 35, 36, 37] [26, 27, 28, 29, 30, 31, 0, 1, 2, 3, 4, 5, 6, 7, 32, 33, 34, 35, 36, 37, 8, 9, 10, 11, 12, 13, 14, 15, 16, 17, 18, 19, 20, 21, 22, 23, 24, 25] rfl rfl rfl (by decide) rfl (fun _ => rfl) (fun u38 H locs h hP hD hS => ?_)
      refine lv_aload_n hx hb dX1_giveBack_41 rfl (lv_at hl 0 rfl) ?_
      refine lv_dup hx hb dX1_giveBack_42 rfl ?_
      refine va_get (D := D) (ci := 1) (v := .int ((st zH 0 0 w1) 0 1)) (C := RX1) (T := TX1) (N := 3) hx hb hts jX1_giveBack_X1 hown hK hP 6 rfl rfl 2 (by decide) (hts (.fieldLink RX1 22 "BrotherAutomata$History" "kept" "I") (List.mem_of_getElem? (i := 1) rfl)) (fun _ h9 => h9) rfl dX1_giveBack_43 ?_
      refine lv_iconst (v := 1) hx hb dX1_giveBack_46 (by decide) ?_
      refine lv_isub hx hb dX1_giveBack_47 ?_
      refine va_put (D := D) (ci := 1) (v := .int (((st zH 0 0 w1) 0 1) - (1 : Int32))) (ty := .int) (C := RX1) (T := TX1) (N := 3) hx hb hts jX1_giveBack_X1 tyX1 tyX1_ok nmX1 hown hK hP hD hS 6 rfl rfl 2 (by decide) (hts (.fieldLink RX1 22 "BrotherAutomata$History" "kept" "I") (List.mem_of_getElem? (i := 1) rfl)) (fun _ h9 => h9) rfl (by decide +kernel) rfl rfl (Nat.le_of_ble_eq_true rfl) dX1_giveBack_48 (fun H locs hP hD hS => ?_)
      have hP : va_P D vwCl (wB cI aB u38 ++ (wH cO aH aR (st (st zH 0 0 w1) 0 1 (((st zH 0 0 w1) 0 1) - (1 : Int32))) ++ (wR cI aR zR))) H := hP
      have hD : va_D A (wB cI aB u38 ++ (wH cO aH aR (st (st zH 0 0 w1) 0 1 (((st zH 0 0 w1) 0 1) - (1 : Int32))) ++ (wR cI aR zR))) := hD
      exact xvret (w := (w_X1_giveBack cI cO aB aH aR zR)) (u38, st (st zH 0 0 w1) 0 1 (((st zH 0 0 w1) 0 1) - (1 : Int32))) hx hb hr hlocks h hP hK hD hS dX1_giveBack_51
    · refine xcallv (wr := (wH cO aH aR (st zH 0 0 w1) ++ (wB cI (aR 0) (zR 0) ++ (wB cI (aR 1) (zR 1) ++ (wB cI (aR 3) (zR 3) ++ (wB cI (aR 4) (zR 4))))))) (w2 := fun (u38 : (CS)) => (wB cI aB u38 ++ (wH cO aH aR (st zH 0 0 w1) ++ (wR cI aR zR)))) (va_runV (As := [.ref (aR 2 0)]) (rest := []) ⟨hx, hb, hml, hown, hts⟩ (mX2_copyFrom l D cI cO tA tS aB (aR 2) zB (zR 2) _ h) (cwV 1 hts gX1_giveBack_X2_copyFrom rfl rfl rfl (by decide +kernel) ⟨Nat.le_of_ble_eq_true rfl, Nat.le_of_ble_eq_true rfl⟩) (xpreV hP hD hS hA hK hE [0, 1, 2, 3, 4, 5, 20, 21, 22, 23, 24, 25] rfl rfl 2 0 rfl rfl) rfl rfl hl.1 rfl (lv_room (Nat.le_of_ble_eq_true rfl)) dX1_giveBack_38 ⟨Nat.le_refl 0, Nat.le_refl 0⟩) hP hD hS hA [0, 1, 2, 3, 4, 5, 20, 21, 22, 23, 24, 25] [6, 7, 8, 9, 10, 11, 12, 13, 14, 15, 16, 17, 18, 19, 26, 27, 28, 29, 30, 31, 32, 33, 34, 35, 36, 37] [26, 27, 28, 29, 30, 31, 0, 1, 2, 3, 4, 5, 6, 7, 8, 9, 10, 11, 12, 13, 32, 33, 34, 35, 36, 37, 14, 15, 16, 17, 18, 19, 20, 21, 22, 23, 24, 25] rfl rfl rfl (by decide) rfl (fun _ => rfl) (fun u38 H locs h hP hD hS => ?_)
      refine lv_aload_n hx hb dX1_giveBack_41 rfl (lv_at hl 0 rfl) ?_
      refine lv_dup hx hb dX1_giveBack_42 rfl ?_
      refine va_get (D := D) (ci := 1) (v := .int ((st zH 0 0 w1) 0 1)) (C := RX1) (T := TX1) (N := 3) hx hb hts jX1_giveBack_X1 hown hK hP 6 rfl rfl 2 (by decide) (hts (.fieldLink RX1 22 "BrotherAutomata$History" "kept" "I") (List.mem_of_getElem? (i := 1) rfl)) (fun _ h9 => h9) rfl dX1_giveBack_43 ?_
      refine lv_iconst (v := 1) hx hb dX1_giveBack_46 (by decide) ?_
      refine lv_isub hx hb dX1_giveBack_47 ?_
      refine va_put (D := D) (ci := 1) (v := .int (((st zH 0 0 w1) 0 1) - (1 : Int32))) (ty := .int) (C := RX1) (T := TX1) (N := 3) hx hb hts jX1_giveBack_X1 tyX1 tyX1_ok nmX1 hown hK hP hD hS 6 rfl rfl 2 (by decide) (hts (.fieldLink RX1 22 "BrotherAutomata$History" "kept" "I") (List.mem_of_getElem? (i := 1) rfl)) (fun _ h9 => h9) rfl (by decide +kernel) rfl rfl (Nat.le_of_ble_eq_true rfl) dX1_giveBack_48 (fun H locs hP hD hS => ?_)
      have hP : va_P D vwCl (wB cI aB u38 ++ (wH cO aH aR (st (st zH 0 0 w1) 0 1 (((st zH 0 0 w1) 0 1) - (1 : Int32))) ++ (wR cI aR zR))) H := hP
      have hD : va_D A (wB cI aB u38 ++ (wH cO aH aR (st (st zH 0 0 w1) 0 1 (((st zH 0 0 w1) 0 1) - (1 : Int32))) ++ (wR cI aR zR))) := hD
      exact xvret (w := (w_X1_giveBack cI cO aB aH aR zR)) (u38, st (st zH 0 0 w1) 0 1 (((st zH 0 0 w1) 0 1) - (1 : Int32))) hx hb hr hlocks h hP hK hD hS dX1_giveBack_51
    · refine xcallv (wr := (wH cO aH aR (st zH 0 0 w1) ++ (wB cI (aR 0) (zR 0) ++ (wB cI (aR 1) (zR 1) ++ (wB cI (aR 2) (zR 2) ++ (wB cI (aR 4) (zR 4))))))) (w2 := fun (u38 : (CS)) => (wB cI aB u38 ++ (wH cO aH aR (st zH 0 0 w1) ++ (wR cI aR zR)))) (va_runV (As := [.ref (aR 3 0)]) (rest := []) ⟨hx, hb, hml, hown, hts⟩ (mX2_copyFrom l D cI cO tA tS aB (aR 3) zB (zR 3) _ h) (cwV 1 hts gX1_giveBack_X2_copyFrom rfl rfl rfl (by decide +kernel) ⟨Nat.le_of_ble_eq_true rfl, Nat.le_of_ble_eq_true rfl⟩) (xpreV hP hD hS hA hK hE [0, 1, 2, 3, 4, 5, 26, 27, 28, 29, 30, 31] rfl rfl 2 0 rfl rfl) rfl rfl hl.1 rfl (lv_room (Nat.le_of_ble_eq_true rfl)) dX1_giveBack_38 ⟨Nat.le_refl 0, Nat.le_refl 0⟩) hP hD hS hA [0, 1, 2, 3, 4, 5, 26, 27, 28, 29, 30, 31] [6, 7, 8, 9, 10, 11, 12, 13, 14, 15, 16, 17, 18, 19, 20, 21, 22, 23, 24, 25, 32, 33, 34, 35, 36, 37] [26, 27, 28, 29, 30, 31, 0, 1, 2, 3, 4, 5, 6, 7, 8, 9, 10, 11, 12, 13, 14, 15, 16, 17, 18, 19, 32, 33, 34, 35, 36, 37, 20, 21, 22, 23, 24, 25] rfl rfl rfl (by decide) rfl (fun _ => rfl) (fun u38 H locs h hP hD hS => ?_)
      refine lv_aload_n hx hb dX1_giveBack_41 rfl (lv_at hl 0 rfl) ?_
      refine lv_dup hx hb dX1_giveBack_42 rfl ?_
      refine va_get (D := D) (ci := 1) (v := .int ((st zH 0 0 w1) 0 1)) (C := RX1) (T := TX1) (N := 3) hx hb hts jX1_giveBack_X1 hown hK hP 6 rfl rfl 2 (by decide) (hts (.fieldLink RX1 22 "BrotherAutomata$History" "kept" "I") (List.mem_of_getElem? (i := 1) rfl)) (fun _ h9 => h9) rfl dX1_giveBack_43 ?_
      refine lv_iconst (v := 1) hx hb dX1_giveBack_46 (by decide) ?_
      refine lv_isub hx hb dX1_giveBack_47 ?_
      refine va_put (D := D) (ci := 1) (v := .int (((st zH 0 0 w1) 0 1) - (1 : Int32))) (ty := .int) (C := RX1) (T := TX1) (N := 3) hx hb hts jX1_giveBack_X1 tyX1 tyX1_ok nmX1 hown hK hP hD hS 6 rfl rfl 2 (by decide) (hts (.fieldLink RX1 22 "BrotherAutomata$History" "kept" "I") (List.mem_of_getElem? (i := 1) rfl)) (fun _ h9 => h9) rfl (by decide +kernel) rfl rfl (Nat.le_of_ble_eq_true rfl) dX1_giveBack_48 (fun H locs hP hD hS => ?_)
      have hP : va_P D vwCl (wB cI aB u38 ++ (wH cO aH aR (st (st zH 0 0 w1) 0 1 (((st zH 0 0 w1) 0 1) - (1 : Int32))) ++ (wR cI aR zR))) H := hP
      have hD : va_D A (wB cI aB u38 ++ (wH cO aH aR (st (st zH 0 0 w1) 0 1 (((st zH 0 0 w1) 0 1) - (1 : Int32))) ++ (wR cI aR zR))) := hD
      exact xvret (w := (w_X1_giveBack cI cO aB aH aR zR)) (u38, st (st zH 0 0 w1) 0 1 (((st zH 0 0 w1) 0 1) - (1 : Int32))) hx hb hr hlocks h hP hK hD hS dX1_giveBack_51
    · refine xcallv (wr := (wH cO aH aR (st zH 0 0 w1) ++ (wB cI (aR 0) (zR 0) ++ (wB cI (aR 1) (zR 1) ++ (wB cI (aR 2) (zR 2) ++ (wB cI (aR 3) (zR 3))))))) (w2 := fun (u38 : (CS)) => (wB cI aB u38 ++ (wH cO aH aR (st zH 0 0 w1) ++ (wR cI aR zR)))) (va_runV (As := [.ref (aR 4 0)]) (rest := []) ⟨hx, hb, hml, hown, hts⟩ (mX2_copyFrom l D cI cO tA tS aB (aR 4) zB (zR 4) _ h) (cwV 1 hts gX1_giveBack_X2_copyFrom rfl rfl rfl (by decide +kernel) ⟨Nat.le_of_ble_eq_true rfl, Nat.le_of_ble_eq_true rfl⟩) (xpreV hP hD hS hA hK hE [0, 1, 2, 3, 4, 5, 32, 33, 34, 35, 36, 37] rfl rfl 2 0 rfl rfl) rfl rfl hl.1 rfl (lv_room (Nat.le_of_ble_eq_true rfl)) dX1_giveBack_38 ⟨Nat.le_refl 0, Nat.le_refl 0⟩) hP hD hS hA [0, 1, 2, 3, 4, 5, 32, 33, 34, 35, 36, 37] [6, 7, 8, 9, 10, 11, 12, 13, 14, 15, 16, 17, 18, 19, 20, 21, 22, 23, 24, 25, 26, 27, 28, 29, 30, 31] [26, 27, 28, 29, 30, 31, 0, 1, 2, 3, 4, 5, 6, 7, 8, 9, 10, 11, 12, 13, 14, 15, 16, 17, 18, 19, 20, 21, 22, 23, 24, 25, 32, 33, 34, 35, 36, 37] rfl rfl rfl (by decide) rfl (fun _ => rfl) (fun u38 H locs h hP hD hS => ?_)
      refine lv_aload_n hx hb dX1_giveBack_41 rfl (lv_at hl 0 rfl) ?_
      refine lv_dup hx hb dX1_giveBack_42 rfl ?_
      refine va_get (D := D) (ci := 1) (v := .int ((st zH 0 0 w1) 0 1)) (C := RX1) (T := TX1) (N := 3) hx hb hts jX1_giveBack_X1 hown hK hP 6 rfl rfl 2 (by decide) (hts (.fieldLink RX1 22 "BrotherAutomata$History" "kept" "I") (List.mem_of_getElem? (i := 1) rfl)) (fun _ h9 => h9) rfl dX1_giveBack_43 ?_
      refine lv_iconst (v := 1) hx hb dX1_giveBack_46 (by decide) ?_
      refine lv_isub hx hb dX1_giveBack_47 ?_
      refine va_put (D := D) (ci := 1) (v := .int (((st zH 0 0 w1) 0 1) - (1 : Int32))) (ty := .int) (C := RX1) (T := TX1) (N := 3) hx hb hts jX1_giveBack_X1 tyX1 tyX1_ok nmX1 hown hK hP hD hS 6 rfl rfl 2 (by decide) (hts (.fieldLink RX1 22 "BrotherAutomata$History" "kept" "I") (List.mem_of_getElem? (i := 1) rfl)) (fun _ h9 => h9) rfl (by decide +kernel) rfl rfl (Nat.le_of_ble_eq_true rfl) dX1_giveBack_48 (fun H locs hP hD hS => ?_)
      have hP : va_P D vwCl (wB cI aB u38 ++ (wH cO aH aR (st (st zH 0 0 w1) 0 1 (((st zH 0 0 w1) 0 1) - (1 : Int32))) ++ (wR cI aR zR))) H := hP
      have hD : va_D A (wB cI aB u38 ++ (wH cO aH aR (st (st zH 0 0 w1) 0 1 (((st zH 0 0 w1) 0 1) - (1 : Int32))) ++ (wR cI aR zR))) := hD
      exact xvret (w := (w_X1_giveBack cI cO aB aH aR zR)) (u38, st (st zH 0 0 w1) 0 1 (((st zH 0 0 w1) 0 1) - (1 : Int32))) hx hb hr hlocks h hP hK hD hS dX1_giveBack_51
  refine lv_aload_n hx hb dX1_giveBack_0 rfl (lv_at hl 0 rfl) ?_
  refine va_get (D := D) (ci := 1) (v := .int (zH 0 1)) (C := RX1) (T := TX1) (N := 3) hx hb hts jX1_giveBack_X1 hown hK hP 6 rfl rfl 2 (by decide) (hts (.fieldLink RX1 22 "BrotherAutomata$History" "kept" "I") (List.mem_of_getElem? (i := 1) rfl)) (fun _ h9 => h9) rfl dX1_giveBack_1 ?_
  obtain ⟨hh1, hh2⟩ := h
  refine lv_if_le (tgt := 51) hx hb dX1_giveBack_4 (by decide) (fun hc => ?_) (fun hc => ?_)
  · have h := hh1 hc
    exact xvret (w := (w_X1_giveBack cI cO aB aH aR zR)) (zB, zH) hx hb hr hlocks h hP hK hD hS dX1_giveBack_51
  · have h := hh2 hc
    refine lv_aload_n hx hb dX1_giveBack_7 rfl (lv_at hl 0 rfl) ?_
    refine lv_aload_n hx hb dX1_giveBack_8 rfl (lv_at hl 0 rfl) ?_
    refine va_get (D := D) (ci := 1) (v := .int (zH 0 0)) (C := RX1) (T := TX1) (N := 3) hx hb hts jX1_giveBack_X1 hown hK hP 6 rfl rfl 1 (by decide) (hts (.fieldLink RX1 18 "BrotherAutomata$History" "next" "I") (List.mem_of_getElem? (i := 2) rfl)) (fun _ h9 => h9) rfl dX1_giveBack_9 ?_
    obtain ⟨hh1, hh2⟩ := h
    refine lv_if_le (tgt := 24) hx hb dX1_giveBack_12 (by decide) (fun hc => ?_) (fun hc => ?_)
    · have h := hh1 hc
      refine lv_iconst (v := 4) hx hb dX1_giveBack_24 (by decide) ?_
      exact g25 (4 : Int32) zB zH _ _ _ h hP hD hS hl
    · have h := hh2 hc
      refine lv_aload_n hx hb dX1_giveBack_15 rfl (lv_at hl 0 rfl) ?_
      refine va_get (D := D) (ci := 1) (v := .int (zH 0 0)) (C := RX1) (T := TX1) (N := 3) hx hb hts jX1_giveBack_X1 hown hK hP 6 rfl rfl 1 (by decide) (hts (.fieldLink RX1 18 "BrotherAutomata$History" "next" "I") (List.mem_of_getElem? (i := 2) rfl)) (fun _ h9 => h9) rfl dX1_giveBack_16 ?_
      refine lv_iconst (v := 1) hx hb dX1_giveBack_19 (by decide) ?_
      refine lv_isub hx hb dX1_giveBack_20 ?_
      refine lv_goto (tgt := 25) hx hb dX1_giveBack_21 (by decide) ?_
      exact g25 ((zH 0 0) - (1 : Int32)) zB zH _ _ _ h hP hD hS hl
