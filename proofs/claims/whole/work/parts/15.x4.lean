set_option maxRecDepth 20000 in
theorem ggX4_layOut_X5_arityAt : GoodIn wsX4_layOut wsX5_arityAt := goodIn_r _ [7, 8, 9, 10, 6, 11, 12, 24, 25, 26] (by decide +kernel) (by decide +kernel)
set_option maxRecDepth 20000 in
theorem gX4_layOut_X5_arityAt : GoodIn wsX4_layOut (wsV RX4 35 RX5 yX5_arityAt wsX5_arityAt) := goodIn_app (goodIn_of _ (by decide +kernel)) ggX4_layOut_X5_arityAt
set_option maxRecDepth 20000 in
theorem ggX4_layOut_X5_firstAt : GoodIn wsX4_layOut wsX5_firstAt := goodIn_r _ [16, 12, 24, 25, 26] (by decide +kernel) (by decide +kernel)
set_option maxRecDepth 20000 in
theorem gX4_layOut_X5_firstAt : GoodIn wsX4_layOut (wsV RX4 41 RX5 yX5_firstAt wsX5_firstAt) := goodIn_app (goodIn_of _ (by decide +kernel)) ggX4_layOut_X5_firstAt
set_option maxRecDepth 20000 in
theorem ggX4_layOut_X5_secondAt : GoodIn wsX4_layOut wsX5_secondAt := goodIn_r _ [20, 12, 24, 25, 26] (by decide +kernel) (by decide +kernel)
set_option maxRecDepth 20000 in
theorem gX4_layOut_X5_secondAt : GoodIn wsX4_layOut (wsV RX4 44 RX5 yX5_secondAt wsX5_secondAt) := goodIn_app (goodIn_of _ (by decide +kernel)) ggX4_layOut_X5_secondAt
theorem dX4_layOut_0 : decode cX4_layOut 0 = .ok (.aload_n 0, 1) := by decide +kernel
theorem dX4_layOut_1 : decode cX4_layOut 1 = .ok (.getfield 9, 3) := by decide +kernel
theorem dX4_layOut_4 : decode cX4_layOut 4 = .ok (.iconst 0, 1) := by decide +kernel
theorem dX4_layOut_5 : decode cX4_layOut 5 = .ok (.iload_n 2, 1) := by decide +kernel
theorem dX4_layOut_6 : decode cX4_layOut 6 = .ok (.iastore, 1) := by decide +kernel
theorem dX4_layOut_7 : decode cX4_layOut 7 = .ok (.iconst 1, 1) := by decide +kernel
theorem dX4_layOut_8 : decode cX4_layOut 8 = .ok (.istore_n 3, 1) := by decide +kernel
theorem dX4_layOut_9 : decode cX4_layOut 9 = .ok (.iconst 0, 1) := by decide +kernel
theorem dX4_layOut_10 : decode cX4_layOut 10 = .ok (.istore 4, 2) := by decide +kernel
theorem dX4_layOut_12 : decode cX4_layOut 12 = .ok (.iload 4, 2) := by decide +kernel
theorem dX4_layOut_14 : decode cX4_layOut 14 = .ok (.iload_n 3, 1) := by decide +kernel
theorem dX4_layOut_15 : decode cX4_layOut 15 = .ok (.if_icmp .ge 100, 3) := by decide +kernel
theorem dX4_layOut_18 : decode cX4_layOut 18 = .ok (.iload 4, 2) := by decide +kernel
theorem dX4_layOut_20 : decode cX4_layOut 20 = .ok (.bipush 7, 2) := by decide +kernel
theorem dX4_layOut_22 : decode cX4_layOut 22 = .ok (.if_icmp .ge 93, 3) := by decide +kernel
theorem dX4_layOut_25 : decode cX4_layOut 25 = .ok (.aload_n 1, 1) := by decide +kernel
theorem dX4_layOut_26 : decode cX4_layOut 26 = .ok (.aload_n 0, 1) := by decide +kernel
theorem dX4_layOut_27 : decode cX4_layOut 27 = .ok (.getfield 9, 3) := by decide +kernel
theorem dX4_layOut_30 : decode cX4_layOut 30 = .ok (.iload 4, 2) := by decide +kernel
theorem dX4_layOut_32 : decode cX4_layOut 32 = .ok (.iaload, 1) := by decide +kernel
theorem dX4_layOut_33 : decode cX4_layOut 33 = .ok (.invokevirtual 35, 3) := by decide +kernel
theorem dX4_layOut_36 : decode cX4_layOut 36 = .ok (.istore 5, 2) := by decide +kernel
theorem dX4_layOut_38 : decode cX4_layOut 38 = .ok (.aload_n 0, 1) := by decide +kernel
theorem dX4_layOut_39 : decode cX4_layOut 39 = .ok (.getfield 15, 3) := by decide +kernel
theorem dX4_layOut_42 : decode cX4_layOut 42 = .ok (.iload 4, 2) := by decide +kernel
theorem dX4_layOut_44 : decode cX4_layOut 44 = .ok (.iload_n 3, 1) := by decide +kernel
theorem dX4_layOut_45 : decode cX4_layOut 45 = .ok (.iastore, 1) := by decide +kernel
theorem dX4_layOut_46 : decode cX4_layOut 46 = .ok (.iload 5, 2) := by decide +kernel
theorem dX4_layOut_48 : decode cX4_layOut 48 = .ok (.ifCond .le 29, 3) := by decide +kernel
theorem dX4_layOut_51 : decode cX4_layOut 51 = .ok (.iload_n 3, 1) := by decide +kernel
theorem dX4_layOut_52 : decode cX4_layOut 52 = .ok (.bipush 7, 2) := by decide +kernel
theorem dX4_layOut_54 : decode cX4_layOut 54 = .ok (.if_icmp .ge 23, 3) := by decide +kernel
theorem dX4_layOut_57 : decode cX4_layOut 57 = .ok (.aload_n 0, 1) := by decide +kernel
theorem dX4_layOut_58 : decode cX4_layOut 58 = .ok (.getfield 9, 3) := by decide +kernel
theorem dX4_layOut_61 : decode cX4_layOut 61 = .ok (.iload_n 3, 1) := by decide +kernel
theorem dX4_layOut_62 : decode cX4_layOut 62 = .ok (.aload_n 1, 1) := by decide +kernel
theorem dX4_layOut_63 : decode cX4_layOut 63 = .ok (.aload_n 0, 1) := by decide +kernel
theorem dX4_layOut_64 : decode cX4_layOut 64 = .ok (.getfield 9, 3) := by decide +kernel
theorem dX4_layOut_67 : decode cX4_layOut 67 = .ok (.iload 4, 2) := by decide +kernel
theorem dX4_layOut_69 : decode cX4_layOut 69 = .ok (.iaload, 1) := by decide +kernel
theorem dX4_layOut_70 : decode cX4_layOut 70 = .ok (.invokevirtual 41, 3) := by decide +kernel
theorem dX4_layOut_73 : decode cX4_layOut 73 = .ok (.iastore, 1) := by decide +kernel
theorem dX4_layOut_74 : decode cX4_layOut 74 = .ok (.iinc 3 1, 3) := by decide +kernel
theorem dX4_layOut_77 : decode cX4_layOut 77 = .ok (.iload 5, 2) := by decide +kernel
theorem dX4_layOut_79 : decode cX4_layOut 79 = .ok (.iconst 1, 1) := by decide +kernel
theorem dX4_layOut_80 : decode cX4_layOut 80 = .ok (.if_icmp .le 29, 3) := by decide +kernel
theorem dX4_layOut_83 : decode cX4_layOut 83 = .ok (.iload_n 3, 1) := by decide +kernel
theorem dX4_layOut_84 : decode cX4_layOut 84 = .ok (.bipush 7, 2) := by decide +kernel
theorem dX4_layOut_86 : decode cX4_layOut 86 = .ok (.if_icmp .ge 23, 3) := by decide +kernel
theorem dX4_layOut_89 : decode cX4_layOut 89 = .ok (.aload_n 0, 1) := by decide +kernel
theorem dX4_layOut_90 : decode cX4_layOut 90 = .ok (.getfield 9, 3) := by decide +kernel
theorem dX4_layOut_93 : decode cX4_layOut 93 = .ok (.iload_n 3, 1) := by decide +kernel
theorem dX4_layOut_94 : decode cX4_layOut 94 = .ok (.aload_n 1, 1) := by decide +kernel
theorem dX4_layOut_95 : decode cX4_layOut 95 = .ok (.aload_n 0, 1) := by decide +kernel
theorem dX4_layOut_96 : decode cX4_layOut 96 = .ok (.getfield 9, 3) := by decide +kernel
theorem dX4_layOut_99 : decode cX4_layOut 99 = .ok (.iload 4, 2) := by decide +kernel
theorem dX4_layOut_101 : decode cX4_layOut 101 = .ok (.iaload, 1) := by decide +kernel
theorem dX4_layOut_102 : decode cX4_layOut 102 = .ok (.invokevirtual 44, 3) := by decide +kernel
theorem dX4_layOut_105 : decode cX4_layOut 105 = .ok (.iastore, 1) := by decide +kernel
theorem dX4_layOut_106 : decode cX4_layOut 106 = .ok (.iinc 3 1, 3) := by decide +kernel
theorem dX4_layOut_109 : decode cX4_layOut 109 = .ok (.iinc 4 1, 3) := by decide +kernel
theorem dX4_layOut_112 : decode cX4_layOut 112 = .ok (.goto (-100), 3) := by decide +kernel
theorem dX4_layOut_115 : decode cX4_layOut 115 = .ok (.iload_n 3, 1) := by decide +kernel
theorem dX4_layOut_116 : decode cX4_layOut 116 = .ok (.ireturn, 1) := by decide +kernel
theorem jX4_layOut_X4 : ∀ w ∈ wsX40, w ∈ wsX4_layOut := by decide +kernel
abbrev w_X4_layOut (cI cO : ClassId) (aT : Nat → Nat) (aC : Nat → Nat) (zT : CS) : ((CS)) → va_W := fun u => (wT cI aT zT ++ (wC cI aC u))
set_option maxRecDepth 100000 in
set_option maxHeartbeats 8000000 in
theorem mX4_layOut (l : Launch) (D : va_G) (cI cO : ClassId) (tA tS : Nat) (aT : Nat → Nat) (aC : Nat → Nat) (zT : CS) (zC : CS) (x2 : Int32) (sz : Nat) {post : Int32 → ((CS)) → Prop} (h : qX4_layOut post x2 zT zC) : Met l yX4_layOut wsX4_layOut ({ frames := 2, cells := 0, slots := 0, locals := 42 } : Room) (xPre D cI cO tA tS [.ref (aC 0), .ref (aT 0), .int x2] (wT cI aT zT ++ (wC cI aC zC)) sz) (va_Qi post (xB D cI cO (va_A (wT cI aT zT ++ (wC cI aC zC)) sz) (w_X4_layOut cI cO aT aC zT)) (va_A (wT cI aT zT ++ (wC cI aC zC)) sz)) 0 0 (va_A (wT cI aT zT ++ (wC cI aC zC)) sz) := by
  refine xMet D cI cO tA tS (fun A => va_Qi post (xB D cI cO A (w_X4_layOut cI cO aT aC zT)) A) (cc := cX4_layOut) (maxL := 6) (ret := (some .int)) (by decide) rfl (Nat.le_of_ble_eq_true rfl) ?_
  intro p e s m below meth c A ls hx hb hr hts hown hlocks hin hml hA hS hP hK hD hE hl
  have hown : s.vm.findClass RX4 = some m.cls := hown
  have hl : lv_has ls 6 [(0, .ref (aC 0)), (1, .ref (aT 0)), (2, .int x2)] := hl
  have g115 : ∀ (y3 : Int32) (y4 : Int32) (zC : CS) (H : Heap) (locs : List Loc) (ls : Array Slot), qX4_layOut_115 post x2 zT y3 y4 zC → va_P D vwCl (wT cI aT zT ++ (wC cI aC zC)) H → va_D A (wT cI aT zT ++ (wC cI aC zC)) → va_S A s.heap H locs → lv_has ls 6 [(4, .int y4), (3, .int y3), (0, .ref (aC 0)), (1, .ref (aT 0)), (2, .int x2)] → W p l e ({ frames := 2, cells := 0, slots := 0, locals := 42 } : Room) s m ([.ref (aC 0), .ref (aT 0), .int x2] : List Value).toArray below meth c H locs 0 0 (MQ below (va_Qi post (xB D cI cO A (w_X4_layOut cI cO aT aC zT)) A) ([.ref (aC 0), .ref (aT 0), .int x2] : List Value).toArray s 0 0 A) (F0 m 115 ls []) := by
    intro y3 y4 zC H locs ls h hP hD hS hl
    refine lv_iload_n hx hb dX4_layOut_115 rfl (lv_at hl 1 rfl) ?_
    exact xiret (w := (w_X4_layOut cI cO aT aC zT)) (zC) hx hb hr hlocks h hP hK hD hS dX4_layOut_116
  have g109 : ∀ (k12 : (Int32) → (Int32) → (CS) → Prop), (∀ (y3 : Int32) (y4 : Int32) (zC : CS) (H : Heap) (locs : List Loc) (ls : Array Slot), k12 y3 y4 zC → va_P D vwCl (wT cI aT zT ++ (wC cI aC zC)) H → va_D A (wT cI aT zT ++ (wC cI aC zC)) → va_S A s.heap H locs → lv_has ls 6 [(4, .int y4), (3, .int y3), (0, .ref (aC 0)), (1, .ref (aT 0)), (2, .int x2)] → W p l e ({ frames := 2, cells := 0, slots := 0, locals := 42 } : Room) s m ([.ref (aC 0), .ref (aT 0), .int x2] : List Value).toArray below meth c H locs 0 0 (MQ below (va_Qi post (xB D cI cO A (w_X4_layOut cI cO aT aC zT)) A) ([.ref (aC 0), .ref (aT 0), .int x2] : List Value).toArray s 0 0 A) (F0 m 12 ls [])) → ∀ (y3 : Int32) (y4 : Int32) (y5 : Int32) (zC : CS) (H : Heap) (locs : List Loc) (ls : Array Slot), qX4_layOut_109 post x2 zT k12 y3 y4 y5 zC → va_P D vwCl (wT cI aT zT ++ (wC cI aC zC)) H → va_D A (wT cI aT zT ++ (wC cI aC zC)) → va_S A s.heap H locs → lv_has ls 6 [(5, .int y5), (4, .int y4), (3, .int y3), (0, .ref (aC 0)), (1, .ref (aT 0)), (2, .int x2)] → W p l e ({ frames := 2, cells := 0, slots := 0, locals := 42 } : Room) s m ([.ref (aC 0), .ref (aT 0), .int x2] : List Value).toArray below meth c H locs 0 0 (MQ below (va_Qi post (xB D cI cO A (w_X4_layOut cI cO aT aC zT)) A) ([.ref (aC 0), .ref (aT 0), .int x2] : List Value).toArray s 0 0 A) (F0 m 109 ls []) := by
    intro k12 hk12 y3 y4 y5 zC H locs ls h hP hD hS hl
    refine lv_iinc (v := (y4 + (1 : Int32))) (lv' := [(4, .int (y4 + (1 : Int32))), (5, .int y5), (3, .int y3), (0, .ref (aC 0)), (1, .ref (aT 0)), (2, .int x2)]) hx hb dX4_layOut_109 hl (k := 1) rfl rfl (by decide) rfl (fun ls hl => ?_)
    refine lv_goto (tgt := 12) hx hb dX4_layOut_112 (by decide) ?_
    exact hk12 y3 (y4 + (1 : Int32)) zC _ _ _ h hP hD hS (lv_sub hl [0, 2, 3, 4, 5] rfl)
  have g77 : ∀ (k12 : (Int32) → (Int32) → (CS) → Prop), (∀ (y3 : Int32) (y4 : Int32) (zC : CS) (H : Heap) (locs : List Loc) (ls : Array Slot), k12 y3 y4 zC → va_P D vwCl (wT cI aT zT ++ (wC cI aC zC)) H → va_D A (wT cI aT zT ++ (wC cI aC zC)) → va_S A s.heap H locs → lv_has ls 6 [(4, .int y4), (3, .int y3), (0, .ref (aC 0)), (1, .ref (aT 0)), (2, .int x2)] → W p l e ({ frames := 2, cells := 0, slots := 0, locals := 42 } : Room) s m ([.ref (aC 0), .ref (aT 0), .int x2] : List Value).toArray below meth c H locs 0 0 (MQ below (va_Qi post (xB D cI cO A (w_X4_layOut cI cO aT aC zT)) A) ([.ref (aC 0), .ref (aT 0), .int x2] : List Value).toArray s 0 0 A) (F0 m 12 ls [])) → ∀ (y3 : Int32) (y4 : Int32) (y5 : Int32) (zC : CS) (H : Heap) (locs : List Loc) (ls : Array Slot), qX4_layOut_77 post x2 zT k12 y3 y4 y5 zC → va_P D vwCl (wT cI aT zT ++ (wC cI aC zC)) H → va_D A (wT cI aT zT ++ (wC cI aC zC)) → va_S A s.heap H locs → lv_has ls 6 [(5, .int y5), (4, .int y4), (3, .int y3), (0, .ref (aC 0)), (1, .ref (aT 0)), (2, .int x2)] → W p l e ({ frames := 2, cells := 0, slots := 0, locals := 42 } : Room) s m ([.ref (aC 0), .ref (aT 0), .int x2] : List Value).toArray below meth c H locs 0 0 (MQ below (va_Qi post (xB D cI cO A (w_X4_layOut cI cO aT aC zT)) A) ([.ref (aC 0), .ref (aT 0), .int x2] : List Value).toArray s 0 0 A) (F0 m 77 ls []) := by
    intro k12 hk12 y3 y4 y5 zC H locs ls h hP hD hS hl
    refine lv_iload hx hb dX4_layOut_77 (lv_at hl 0 rfl) ?_
    refine lv_iconst (v := 1) hx hb dX4_layOut_79 (by decide) ?_
    obtain ⟨hh1, hh2⟩ := h
    refine lv_icmp_le (tgt := 109) hx hb dX4_layOut_80 (by decide) (fun hc => ?_) (fun hc => ?_)
    · have h := hh1 hc
      exact g109 k12 hk12 y3 y4 y5 zC _ _ _ h hP hD hS hl
    · have h := hh2 hc
      refine lv_iload_n hx hb dX4_layOut_83 rfl (lv_at hl 2 rfl) ?_
      refine lv_bipush (v := 7) hx hb dX4_layOut_84 (by decide) ?_
      obtain ⟨hh1, hh2⟩ := h
      refine lv_icmp_ge (tgt := 109) hx hb dX4_layOut_86 (by decide) (fun hc => ?_) (fun hc => ?_)
      · have h := hh1 hc
        exact g109 k12 hk12 y3 y4 y5 zC _ _ _ h hP hD hS hl
      · have h := hh2 hc
        refine lv_aload_n hx hb dX4_layOut_89 rfl (lv_at hl 3 rfl) ?_
        refine va_get (D := D) (ci := 4) (v := .ref (aC 1)) (C := RX4) (T := TX4) (N := 3) hx hb hts jX4_layOut_X4 hown hK hP 3 rfl rfl 0 (by decide) (hts (.fieldLink RX4 9 "BrotherAutomata$RunCounter" "nodes" "[I") (List.mem_of_getElem? (i := 1) rfl)) (fun _ h9 => h9) rfl dX4_layOut_90 ?_
        refine lv_iload_n hx hb dX4_layOut_93 rfl (lv_at hl 2 rfl) ?_
        refine lv_aload_n hx hb dX4_layOut_94 rfl (lv_at hl 4 rfl) ?_
        refine lv_aload_n hx hb dX4_layOut_95 rfl (lv_at hl 3 rfl) ?_
        refine va_get (D := D) (ci := 4) (v := .ref (aC 1)) (C := RX4) (T := TX4) (N := 3) hx hb hts jX4_layOut_X4 hown hK hP 3 rfl rfl 0 (by decide) (hts (.fieldLink RX4 9 "BrotherAutomata$RunCounter" "nodes" "[I") (List.mem_of_getElem? (i := 1) rfl)) (fun _ h9 => h9) rfl dX4_layOut_96 ?_
        refine lv_iload hx hb dX4_layOut_99 (lv_at hl 1 rfl) ?_
        obtain ⟨hi, h⟩ := h
        refine va_iald hx hb hK hP 4 0 rfl rfl hi dX4_layOut_101 ?_
        refine xcalli (wr := (wC cI aC zC)) (w2 := fun (u102 : Unit) => (wT cI aT zT ++ (wC cI aC zC))) (va_runV (As := [.int ((zC 0) y4.toNatClampNeg)]) (rest := [.int y3, .ref (aC 1)]) ⟨hx, hb, hml, hown, hts⟩ (mX5_secondAt l D cI cO tA tS aT zT ((zC 0) y4.toNatClampNeg) _ h) (cwV 1 hts gX4_layOut_X5_secondAt rfl rfl rfl (by decide +kernel) ⟨Nat.le_of_ble_eq_true rfl, Nat.le_of_ble_eq_true rfl⟩) (xpreV hP hD hS hA hK hE [0, 1, 2] rfl rfl 5 0 rfl rfl) rfl rfl hl.1 rfl (lv_room (Nat.le_of_ble_eq_true rfl)) dX4_layOut_102 ⟨Nat.le_refl 0, Nat.le_refl 0⟩) hP hD hS hA [0, 1, 2] [3, 4, 5, 6] [4, 5, 6, 0, 1, 2, 3] rfl rfl rfl (by decide) rfl (fun _ => rfl) (fun r102 u102 H locs h hP hD hS => ?_)
        obtain ⟨hi, h⟩ := h
        refine va_iast hx hb hK hP hD hS 4 0 rfl rfl hi dX4_layOut_105 (fun H locs hP hD hS => ?_)
        have hP : va_P D vwCl (wT cI aT zT ++ (wC cI aC (st zC 0 y3.toNatClampNeg r102))) H := hP
        have hD : va_D A (wT cI aT zT ++ (wC cI aC (st zC 0 y3.toNatClampNeg r102))) := hD
        refine lv_iinc (v := (y3 + (1 : Int32))) (lv' := [(3, .int (y3 + (1 : Int32))), (5, .int y5), (4, .int y4), (0, .ref (aC 0)), (1, .ref (aT 0)), (2, .int x2)]) hx hb dX4_layOut_106 hl (k := 2) rfl rfl (by decide) rfl (fun ls hl => ?_)
        exact g109 k12 hk12 (y3 + (1 : Int32)) y4 y5 (st zC 0 y3.toNatClampNeg r102) _ _ _ h hP hD hS (lv_sub hl [1, 2, 0, 3, 4, 5] rfl)
  have g12 : ∀ (n : Nat) (y3 : Int32) (y4 : Int32) (zC : CS) (H : Heap) (locs : List Loc) (ls : Array Slot), qX4_layOut_12 post x2 zT n y3 y4 zC → va_P D vwCl (wT cI aT zT ++ (wC cI aC zC)) H → va_D A (wT cI aT zT ++ (wC cI aC zC)) → va_S A s.heap H locs → lv_has ls 6 [(4, .int y4), (3, .int y3), (0, .ref (aC 0)), (1, .ref (aT 0)), (2, .int x2)] → W p l e ({ frames := 2, cells := 0, slots := 0, locals := 42 } : Room) s m ([.ref (aC 0), .ref (aT 0), .int x2] : List Value).toArray below meth c H locs 0 0 (MQ below (va_Qi post (xB D cI cO A (w_X4_layOut cI cO aT aC zT)) A) ([.ref (aC 0), .ref (aT 0), .int x2] : List Value).toArray s 0 0 A) (F0 m 12 ls []) := by
    intro n
    induction n with
    | zero => intro y3 y4 zC H locs ls h; exact False.elim h
    | succ n hk12 =>
      intro y3 y4 zC H locs ls h hP hD hS hl
      have h : qX4_layOut_12b post x2 zT (qX4_layOut_12 post x2 zT n) y3 y4 zC := h
      refine lv_iload hx hb dX4_layOut_12 (lv_at hl 0 rfl) ?_
      refine lv_iload_n hx hb dX4_layOut_14 rfl (lv_at hl 1 rfl) ?_
      obtain ⟨hh1, hh2⟩ := h
      refine lv_icmp_ge (tgt := 115) hx hb dX4_layOut_15 (by decide) (fun hc => ?_) (fun hc => ?_)
      · have h := hh1 hc
        exact g115 y3 y4 zC _ _ _ h hP hD hS hl
      · have h := hh2 hc
        refine lv_iload hx hb dX4_layOut_18 (lv_at hl 0 rfl) ?_
        refine lv_bipush (v := 7) hx hb dX4_layOut_20 (by decide) ?_
        obtain ⟨hh1, hh2⟩ := h
        refine lv_icmp_ge (tgt := 115) hx hb dX4_layOut_22 (by decide) (fun hc => ?_) (fun hc => ?_)
        · have h := hh1 hc
          exact g115 y3 y4 zC _ _ _ h hP hD hS hl
        · have h := hh2 hc
          refine lv_aload_n hx hb dX4_layOut_25 rfl (lv_at hl 3 rfl) ?_
          refine lv_aload_n hx hb dX4_layOut_26 rfl (lv_at hl 2 rfl) ?_
          refine va_get (D := D) (ci := 4) (v := .ref (aC 1)) (C := RX4) (T := TX4) (N := 3) hx hb hts jX4_layOut_X4 hown hK hP 3 rfl rfl 0 (by decide) (hts (.fieldLink RX4 9 "BrotherAutomata$RunCounter" "nodes" "[I") (List.mem_of_getElem? (i := 1) rfl)) (fun _ h9 => h9) rfl dX4_layOut_27 ?_
          refine lv_iload hx hb dX4_layOut_30 (lv_at hl 0 rfl) ?_
          obtain ⟨hi, h⟩ := h
          refine va_iald hx hb hK hP 4 0 rfl rfl hi dX4_layOut_32 ?_
          refine xcalli (wr := (wC cI aC zC)) (w2 := fun (u33 : Unit) => (wT cI aT zT ++ (wC cI aC zC))) (va_runV (As := [.int ((zC 0) y4.toNatClampNeg)]) (rest := []) ⟨hx, hb, hml, hown, hts⟩ (mX5_arityAt l D cI cO tA tS aT zT ((zC 0) y4.toNatClampNeg) _ h) (cwV 1 hts gX4_layOut_X5_arityAt rfl rfl rfl (by decide +kernel) ⟨Nat.le_of_ble_eq_true rfl, Nat.le_of_ble_eq_true rfl⟩) (xpreV hP hD hS hA hK hE [0, 1, 2] rfl rfl 5 0 rfl rfl) rfl rfl hl.1 rfl (lv_room (Nat.le_of_ble_eq_true rfl)) dX4_layOut_33 ⟨Nat.le_refl 0, Nat.le_refl 0⟩) hP hD hS hA [0, 1, 2] [3, 4, 5, 6] [4, 5, 6, 0, 1, 2, 3] rfl rfl rfl (by decide) rfl (fun _ => rfl) (fun r33 u33 H locs h hP hD hS => ?_)
          refine lv_istore (lv' := [(5, .int r33), (4, .int y4), (3, .int y3), (0, .ref (aC 0)), (1, .ref (aT 0)), (2, .int x2)]) hx hb dX4_layOut_36 hl (by decide) rfl (fun ls hl => ?_)
          refine lv_aload_n hx hb dX4_layOut_38 rfl (lv_at hl 3 rfl) ?_
          refine va_get (D := D) (ci := 4) (v := .ref (aC 2)) (C := RX4) (T := TX4) (N := 3) hx hb hts jX4_layOut_X4 hown hK hP 3 rfl rfl 1 (by decide) (hts (.fieldLink RX4 15 "BrotherAutomata$RunCounter" "firstPlaces" "[I") (List.mem_of_getElem? (i := 2) rfl)) (fun _ h9 => h9) rfl dX4_layOut_39 ?_
          refine lv_iload hx hb dX4_layOut_42 (lv_at hl 1 rfl) ?_
          refine lv_iload_n hx hb dX4_layOut_44 rfl (lv_at hl 2 rfl) ?_
          obtain ⟨hi, h⟩ := h
          refine va_iast hx hb hK hP hD hS 5 0 rfl rfl hi dX4_layOut_45 (fun H locs hP hD hS => ?_)
          have hP : va_P D vwCl (wT cI aT zT ++ (wC cI aC (st zC 1 y4.toNatClampNeg y3))) H := hP
          have hD : va_D A (wT cI aT zT ++ (wC cI aC (st zC 1 y4.toNatClampNeg y3))) := hD
          refine lv_iload hx hb dX4_layOut_46 (lv_at hl 0 rfl) ?_
          obtain ⟨hh1, hh2⟩ := h
          refine lv_if_le (tgt := 77) hx hb dX4_layOut_48 (by decide) (fun hc => ?_) (fun hc => ?_)
          · have h := hh1 hc
            exact g77 (qX4_layOut_12 post x2 zT n) hk12 y3 y4 r33 (st zC 1 y4.toNatClampNeg y3) _ _ _ h hP hD hS hl
          · have h := hh2 hc
            refine lv_iload_n hx hb dX4_layOut_51 rfl (lv_at hl 2 rfl) ?_
            refine lv_bipush (v := 7) hx hb dX4_layOut_52 (by decide) ?_
            obtain ⟨hh1, hh2⟩ := h
            refine lv_icmp_ge (tgt := 77) hx hb dX4_layOut_54 (by decide) (fun hc => ?_) (fun hc => ?_)
            · have h := hh1 hc
              exact g77 (qX4_layOut_12 post x2 zT n) hk12 y3 y4 r33 (st zC 1 y4.toNatClampNeg y3) _ _ _ h hP hD hS hl
            · have h := hh2 hc
              refine lv_aload_n hx hb dX4_layOut_57 rfl (lv_at hl 3 rfl) ?_
              refine va_get (D := D) (ci := 4) (v := .ref (aC 1)) (C := RX4) (T := TX4) (N := 3) hx hb hts jX4_layOut_X4 hown hK hP 3 rfl rfl 0 (by decide) (hts (.fieldLink RX4 9 "BrotherAutomata$RunCounter" "nodes" "[I") (List.mem_of_getElem? (i := 1) rfl)) (fun _ h9 => h9) rfl dX4_layOut_58 ?_
              refine lv_iload_n hx hb dX4_layOut_61 rfl (lv_at hl 2 rfl) ?_
              refine lv_aload_n hx hb dX4_layOut_62 rfl (lv_at hl 4 rfl) ?_
              refine lv_aload_n hx hb dX4_layOut_63 rfl (lv_at hl 3 rfl) ?_
              refine va_get (D := D) (ci := 4) (v := .ref (aC 1)) (C := RX4) (T := TX4) (N := 3) hx hb hts jX4_layOut_X4 hown hK hP 3 rfl rfl 0 (by decide) (hts (.fieldLink RX4 9 "BrotherAutomata$RunCounter" "nodes" "[I") (List.mem_of_getElem? (i := 1) rfl)) (fun _ h9 => h9) rfl dX4_layOut_64 ?_
              refine lv_iload hx hb dX4_layOut_67 (lv_at hl 1 rfl) ?_
              obtain ⟨hi, h⟩ := h
              refine va_iald hx hb hK hP 4 0 rfl rfl hi dX4_layOut_69 ?_
              refine xcalli (wr := (wC cI aC (st zC 1 y4.toNatClampNeg y3))) (w2 := fun (u70 : Unit) => (wT cI aT zT ++ (wC cI aC (st zC 1 y4.toNatClampNeg y3)))) (va_runV (As := [.int (((st zC 1 y4.toNatClampNeg y3) 0) y4.toNatClampNeg)]) (rest := [.int y3, .ref (aC 1)]) ⟨hx, hb, hml, hown, hts⟩ (mX5_firstAt l D cI cO tA tS aT zT (((st zC 1 y4.toNatClampNeg y3) 0) y4.toNatClampNeg) _ h) (cwV 1 hts gX4_layOut_X5_firstAt rfl rfl rfl (by decide +kernel) ⟨Nat.le_of_ble_eq_true rfl, Nat.le_of_ble_eq_true rfl⟩) (xpreV hP hD hS hA hK hE [0, 1, 2] rfl rfl 5 0 rfl rfl) rfl rfl hl.1 rfl (lv_room (Nat.le_of_ble_eq_true rfl)) dX4_layOut_70 ⟨Nat.le_refl 0, Nat.le_refl 0⟩) hP hD hS hA [0, 1, 2] [3, 4, 5, 6] [4, 5, 6, 0, 1, 2, 3] rfl rfl rfl (by decide) rfl (fun _ => rfl) (fun r70 u70 H locs h hP hD hS => ?_)
              obtain ⟨hi, h⟩ := h
              refine va_iast hx hb hK hP hD hS 4 0 rfl rfl hi dX4_layOut_73 (fun H locs hP hD hS => ?_)
              have hP : va_P D vwCl (wT cI aT zT ++ (wC cI aC (st (st zC 1 y4.toNatClampNeg y3) 0 y3.toNatClampNeg r70))) H := hP
              have hD : va_D A (wT cI aT zT ++ (wC cI aC (st (st zC 1 y4.toNatClampNeg y3) 0 y3.toNatClampNeg r70))) := hD
              refine lv_iinc (v := (y3 + (1 : Int32))) (lv' := [(3, .int (y3 + (1 : Int32))), (5, .int r33), (4, .int y4), (0, .ref (aC 0)), (1, .ref (aT 0)), (2, .int x2)]) hx hb dX4_layOut_74 hl (k := 2) rfl rfl (by decide) rfl (fun ls hl => ?_)
              exact g77 (qX4_layOut_12 post x2 zT n) hk12 (y3 + (1 : Int32)) y4 r33 (st (st zC 1 y4.toNatClampNeg y3) 0 y3.toNatClampNeg r70) _ _ _ h hP hD hS (lv_sub hl [1, 2, 0, 3, 4, 5] rfl)
  refine lv_aload_n hx hb dX4_layOut_0 rfl (lv_at hl 0 rfl) ?_
  refine va_get (D := D) (ci := 4) (v := .ref (aC 1)) (C := RX4) (T := TX4) (N := 3) hx hb hts jX4_layOut_X4 hown hK hP 3 rfl rfl 0 (by decide) (hts (.fieldLink RX4 9 "BrotherAutomata$RunCounter" "nodes" "[I") (List.mem_of_getElem? (i := 1) rfl)) (fun _ h9 => h9) rfl dX4_layOut_1 ?_
  refine lv_iconst (v := 0) hx hb dX4_layOut_4 (by decide) ?_
  refine lv_iload_n hx hb dX4_layOut_5 rfl (lv_at hl 2 rfl) ?_
  obtain ⟨hi, h⟩ := h
  refine va_iast hx hb hK hP hD hS 4 0 rfl rfl hi dX4_layOut_6 (fun H locs hP hD hS => ?_)
  have hP : va_P D vwCl (wT cI aT zT ++ (wC cI aC (st zC 0 (0 : Int32).toNatClampNeg x2))) H := hP
  have hD : va_D A (wT cI aT zT ++ (wC cI aC (st zC 0 (0 : Int32).toNatClampNeg x2))) := hD
  refine lv_iconst (v := 1) hx hb dX4_layOut_7 (by decide) ?_
  refine lv_istore_n (lv' := [(3, .int (1 : Int32)), (0, .ref (aC 0)), (1, .ref (aT 0)), (2, .int x2)]) hx hb dX4_layOut_8 rfl hl (by decide) rfl (fun ls hl => ?_)
  refine lv_iconst (v := 0) hx hb dX4_layOut_9 (by decide) ?_
  refine lv_istore (lv' := [(4, .int (0 : Int32)), (3, .int (1 : Int32)), (0, .ref (aC 0)), (1, .ref (aT 0)), (2, .int x2)]) hx hb dX4_layOut_10 hl (by decide) rfl (fun ls hl => ?_)
  obtain ⟨n0, h⟩ := h
  exact g12 n0 (1 : Int32) (0 : Int32) (st zC 0 (0 : Int32).toNatClampNeg x2) _ _ _ h hP hD hS hl
theorem dX4_waysBelow_0 : decode cX4_waysBelow 0 = .ok (.getstatic 69, 3) := by decide +kernel
theorem dX4_waysBelow_3 : decode cX4_waysBelow 3 = .ok (.aload_n 1, 1) := by decide +kernel
theorem dX4_waysBelow_4 : decode cX4_waysBelow 4 = .ok (.getfield 56, 3) := by decide +kernel
theorem dX4_waysBelow_7 : decode cX4_waysBelow 7 = .ok (.iload_n 2, 1) := by decide +kernel
theorem dX4_waysBelow_8 : decode cX4_waysBelow 8 = .ok (.iaload, 1) := by decide +kernel
theorem dX4_waysBelow_9 : decode cX4_waysBelow 9 = .ok (.iaload, 1) := by decide +kernel
theorem dX4_waysBelow_10 : decode cX4_waysBelow 10 = .ok (.istore 4, 2) := by decide +kernel
theorem dX4_waysBelow_12 : decode cX4_waysBelow 12 = .ok (.aload_n 0, 1) := by decide +kernel
theorem dX4_waysBelow_13 : decode cX4_waysBelow 13 = .ok (.getfield 15, 3) := by decide +kernel
theorem dX4_waysBelow_16 : decode cX4_waysBelow 16 = .ok (.iload_n 3, 1) := by decide +kernel
theorem dX4_waysBelow_17 : decode cX4_waysBelow 17 = .ok (.iaload, 1) := by decide +kernel
theorem dX4_waysBelow_18 : decode cX4_waysBelow 18 = .ok (.bipush 6, 2) := by decide +kernel
theorem dX4_waysBelow_20 : decode cX4_waysBelow 20 = .ok (.imul, 1) := by decide +kernel
theorem dX4_waysBelow_21 : decode cX4_waysBelow 21 = .ok (.istore 5, 2) := by decide +kernel
theorem dX4_waysBelow_23 : decode cX4_waysBelow 23 = .ok (.iconst 1, 1) := by decide +kernel
theorem dX4_waysBelow_24 : decode cX4_waysBelow 24 = .ok (.istore 6, 2) := by decide +kernel
theorem dX4_waysBelow_26 : decode cX4_waysBelow 26 = .ok (.iload 4, 2) := by decide +kernel
theorem dX4_waysBelow_28 : decode cX4_waysBelow 28 = .ok (.ifCond .le 19, 3) := by decide +kernel
theorem dX4_waysBelow_31 : decode cX4_waysBelow 31 = .ok (.aload_n 0, 1) := by decide +kernel
theorem dX4_waysBelow_32 : decode cX4_waysBelow 32 = .ok (.getfield 18, 3) := by decide +kernel
theorem dX4_waysBelow_35 : decode cX4_waysBelow 35 = .ok (.iload 5, 2) := by decide +kernel
theorem dX4_waysBelow_37 : decode cX4_waysBelow 37 = .ok (.aload_n 1, 1) := by decide +kernel
theorem dX4_waysBelow_38 : decode cX4_waysBelow 38 = .ok (.getfield 72, 3) := by decide +kernel
theorem dX4_waysBelow_41 : decode cX4_waysBelow 41 = .ok (.iload_n 2, 1) := by decide +kernel
theorem dX4_waysBelow_42 : decode cX4_waysBelow 42 = .ok (.iaload, 1) := by decide +kernel
theorem dX4_waysBelow_43 : decode cX4_waysBelow 43 = .ok (.iadd, 1) := by decide +kernel
theorem dX4_waysBelow_44 : decode cX4_waysBelow 44 = .ok (.iaload, 1) := by decide +kernel
theorem dX4_waysBelow_45 : decode cX4_waysBelow 45 = .ok (.istore 6, 2) := by decide +kernel
theorem dX4_waysBelow_47 : decode cX4_waysBelow 47 = .ok (.iload 4, 2) := by decide +kernel
theorem dX4_waysBelow_49 : decode cX4_waysBelow 49 = .ok (.iconst 1, 1) := by decide +kernel
theorem dX4_waysBelow_50 : decode cX4_waysBelow 50 = .ok (.if_icmp .le 25, 3) := by decide +kernel
theorem dX4_waysBelow_53 : decode cX4_waysBelow 53 = .ok (.iload 6, 2) := by decide +kernel
theorem dX4_waysBelow_55 : decode cX4_waysBelow 55 = .ok (.aload_n 0, 1) := by decide +kernel
theorem dX4_waysBelow_56 : decode cX4_waysBelow 56 = .ok (.getfield 18, 3) := by decide +kernel
theorem dX4_waysBelow_59 : decode cX4_waysBelow 59 = .ok (.iload 5, 2) := by decide +kernel
theorem dX4_waysBelow_61 : decode cX4_waysBelow 61 = .ok (.bipush 6, 2) := by decide +kernel
theorem dX4_waysBelow_63 : decode cX4_waysBelow 63 = .ok (.iadd, 1) := by decide +kernel
theorem dX4_waysBelow_64 : decode cX4_waysBelow 64 = .ok (.aload_n 1, 1) := by decide +kernel
theorem dX4_waysBelow_65 : decode cX4_waysBelow 65 = .ok (.getfield 75, 3) := by decide +kernel
theorem dX4_waysBelow_68 : decode cX4_waysBelow 68 = .ok (.iload_n 2, 1) := by decide +kernel
theorem dX4_waysBelow_69 : decode cX4_waysBelow 69 = .ok (.iaload, 1) := by decide +kernel
theorem dX4_waysBelow_70 : decode cX4_waysBelow 70 = .ok (.iadd, 1) := by decide +kernel
theorem dX4_waysBelow_71 : decode cX4_waysBelow 71 = .ok (.iaload, 1) := by decide +kernel
theorem dX4_waysBelow_72 : decode cX4_waysBelow 72 = .ok (.imul, 1) := by decide +kernel
theorem dX4_waysBelow_73 : decode cX4_waysBelow 73 = .ok (.istore 6, 2) := by decide +kernel
theorem dX4_waysBelow_75 : decode cX4_waysBelow 75 = .ok (.iload 6, 2) := by decide +kernel
theorem dX4_waysBelow_77 : decode cX4_waysBelow 77 = .ok (.ireturn, 1) := by decide +kernel
theorem jX4_waysBelow_X4 : ∀ w ∈ wsX40, w ∈ wsX4_waysBelow := by decide +kernel
theorem jX4_waysBelow_X2 : ∀ w ∈ wsX20, w ∈ wsX4_waysBelow := by decide +kernel
abbrev w_X4_waysBelow (cI cO : ClassId) (aB : Nat → Nat) (aC : Nat → Nat) (zB : CS) (zC : CS) : (Unit) → va_W := fun u => (wB cI aB zB ++ (wC cI aC zC))
set_option maxRecDepth 100000 in
set_option maxHeartbeats 8000000 in
theorem mX4_waysBelow (l : Launch) (D : va_G) (cI cO : ClassId) (tA tS : Nat) (aB : Nat → Nat) (aC : Nat → Nat) (zB : CS) (zC : CS) (x2 : Int32) (x3 : Int32) (sz : Nat) {post : Int32 → (Unit) → Prop} (h : qX4_waysBelow post x2 x3 zB zC) : Met l yX4_waysBelow wsX4_waysBelow ({ frames := 0, cells := 0, slots := 0, locals := 0 } : Room) (xPre D cI cO tA tS [.ref (aC 0), .ref (aB 0), .int x2, .int x3] (wB cI aB zB ++ (wC cI aC zC)) sz) (va_Qi post (xB D cI cO (va_A (wB cI aB zB ++ (wC cI aC zC)) sz) (w_X4_waysBelow cI cO aB aC zB zC)) (va_A (wB cI aB zB ++ (wC cI aC zC)) sz)) 0 0 (va_A (wB cI aB zB ++ (wC cI aC zC)) sz) := by
  refine xMet D cI cO tA tS (fun A => va_Qi post (xB D cI cO A (w_X4_waysBelow cI cO aB aC zB zC)) A) (cc := cX4_waysBelow) (maxL := 7) (ret := (some .int)) (by decide) rfl (Nat.le_of_ble_eq_true rfl) ?_
  intro p e s m below meth c A ls hx hb hr hts hown hlocks hin hml hA hS hP hK hD hE hl
  have hown : s.vm.findClass RX4 = some m.cls := hown
  have hl : lv_has ls 7 [(0, .ref (aC 0)), (1, .ref (aB 0)), (2, .int x2), (3, .int x3)] := hl
  have g75 : ∀ (y4 : Int32) (y5 : Int32) (y6 : Int32) (H : Heap) (locs : List Loc) (ls : Array Slot), qX4_waysBelow_75 post x2 x3 zB zC y4 y5 y6 → va_P D vwCl (wB cI aB zB ++ (wC cI aC zC)) H → va_D A (wB cI aB zB ++ (wC cI aC zC)) → va_S A s.heap H locs → lv_has ls 7 [(6, .int y6), (5, .int y5), (4, .int y4), (0, .ref (aC 0)), (1, .ref (aB 0)), (2, .int x2), (3, .int x3)] → W p l e ({ frames := 0, cells := 0, slots := 0, locals := 0 } : Room) s m ([.ref (aC 0), .ref (aB 0), .int x2, .int x3] : List Value).toArray below meth c H locs 0 0 (MQ below (va_Qi post (xB D cI cO A (w_X4_waysBelow cI cO aB aC zB zC)) A) ([.ref (aC 0), .ref (aB 0), .int x2, .int x3] : List Value).toArray s 0 0 A) (F0 m 75 ls []) := by
    intro y4 y5 y6 H locs ls h hP hD hS hl
    refine lv_iload hx hb dX4_waysBelow_75 (lv_at hl 0 rfl) ?_
    exact xiret (w := (w_X4_waysBelow cI cO aB aC zB zC)) () hx hb hr hlocks h hP hK hD hS dX4_waysBelow_77
  have g47 : ∀ (y4 : Int32) (y5 : Int32) (y6 : Int32) (H : Heap) (locs : List Loc) (ls : Array Slot), qX4_waysBelow_47 post x2 x3 zB zC y4 y5 y6 → va_P D vwCl (wB cI aB zB ++ (wC cI aC zC)) H → va_D A (wB cI aB zB ++ (wC cI aC zC)) → va_S A s.heap H locs → lv_has ls 7 [(6, .int y6), (5, .int y5), (4, .int y4), (0, .ref (aC 0)), (1, .ref (aB 0)), (2, .int x2), (3, .int x3)] → W p l e ({ frames := 0, cells := 0, slots := 0, locals := 0 } : Room) s m ([.ref (aC 0), .ref (aB 0), .int x2, .int x3] : List Value).toArray below meth c H locs 0 0 (MQ below (va_Qi post (xB D cI cO A (w_X4_waysBelow cI cO aB aC zB zC)) A) ([.ref (aC 0), .ref (aB 0), .int x2, .int x3] : List Value).toArray s 0 0 A) (F0 m 47 ls []) := by
    intro y4 y5 y6 H locs ls h hP hD hS hl
    refine lv_iload hx hb dX4_waysBelow_47 (lv_at hl 2 rfl) ?_
    refine lv_iconst (v := 1) hx hb dX4_waysBelow_49 (by decide) ?_
    obtain ⟨hh1, hh2⟩ := h
    refine lv_icmp_le (tgt := 75) hx hb dX4_waysBelow_50 (by decide) (fun hc => ?_) (fun hc => ?_)
    · have h := hh1 hc
      exact g75 y4 y5 y6 _ _ _ h hP hD hS hl
    · have h := hh2 hc
      refine lv_iload hx hb dX4_waysBelow_53 (lv_at hl 0 rfl) ?_
      refine lv_aload_n hx hb dX4_waysBelow_55 rfl (lv_at hl 3 rfl) ?_
      refine va_get (D := D) (ci := 4) (v := .ref (aC 3)) (C := RX4) (T := TX4) (N := 3) hx hb hts jX4_waysBelow_X4 hown hK hP 6 rfl rfl 2 (by decide) (hts (.fieldLink RX4 18 "BrotherAutomata$RunCounter" "runs" "[I") (List.mem_of_getElem? (i := 2) rfl)) (fun _ h9 => h9) rfl dX4_waysBelow_56 ?_
      refine lv_iload hx hb dX4_waysBelow_59 (lv_at hl 1 rfl) ?_
      refine lv_bipush (v := 6) hx hb dX4_waysBelow_61 (by decide) ?_
      refine lv_iadd hx hb dX4_waysBelow_63 ?_
      refine lv_aload_n hx hb dX4_waysBelow_64 rfl (lv_at hl 4 rfl) ?_
      refine va_getN (D := D) (ci := 2) (v := .ref (aB 3)) (C := RX2) (T := TX2) (N := 7) hx hb hts jX4_waysBelow_X2 hown hK hP 0 rfl rfl 2 (by decide) (va_Nw.use (w := .fieldLinkNest RX4 75 "BrotherAutomata$RuleBook" "seconds" "[I" "BrotherAutomata") rfl (hE.1 _ (List.mem_of_getElem? (i := 3) rfl))) (fun _ h9 => h9) rfl dX4_waysBelow_65 ?_
      refine lv_iload_n hx hb dX4_waysBelow_68 rfl (lv_at hl 5 rfl) ?_
      obtain ⟨hi, h⟩ := h
      refine va_iald hx hb hK hP 3 0 rfl rfl hi dX4_waysBelow_69 ?_
      refine lv_iadd hx hb dX4_waysBelow_70 ?_
      obtain ⟨hi, h⟩ := h
      refine va_iald hx hb hK hP 9 0 rfl rfl hi dX4_waysBelow_71 ?_
      refine lv_imul hx hb dX4_waysBelow_72 ?_
      refine lv_istore (lv' := [(6, .int (y6 * ((zC 2) ((y5 + (6 : Int32)) + ((zB 2) x2.toNatClampNeg)).toNatClampNeg))), (5, .int y5), (4, .int y4), (0, .ref (aC 0)), (1, .ref (aB 0)), (2, .int x2), (3, .int x3)]) hx hb dX4_waysBelow_73 hl (by decide) rfl (fun ls hl => ?_)
      exact g75 y4 y5 (y6 * ((zC 2) ((y5 + (6 : Int32)) + ((zB 2) x2.toNatClampNeg)).toNatClampNeg)) _ _ _ h hP hD hS hl
  refine va_getsN hx hb hE.2.1 hS hown (va_Nw.use (w := .fieldLinkNest RX4 69 "BrotherAutomata" "ARITY" "[I" "BrotherAutomata") rfl (hE.1 _ (List.mem_of_getElem? (i := 5) rfl))) (fun _ h9 => h9) dX4_waysBelow_0 ?_
  refine lv_aload_n hx hb dX4_waysBelow_3 rfl (lv_at hl 1 rfl) ?_
  refine va_getN (D := D) (ci := 2) (v := .ref (aB 1)) (C := RX2) (T := TX2) (N := 7) hx hb hts jX4_waysBelow_X2 hown hK hP 0 rfl rfl 0 (by decide) (va_Nw.use (w := .fieldLinkNest RX4 56 "BrotherAutomata$RuleBook" "symbols" "[I" "BrotherAutomata") rfl (hE.1 _ (List.mem_of_getElem? (i := 8) rfl))) (fun _ h9 => h9) rfl dX4_waysBelow_4 ?_
  refine lv_iload_n hx hb dX4_waysBelow_7 rfl (lv_at hl 2 rfl) ?_
  obtain ⟨hi, h⟩ := h
  refine va_iald hx hb hK hP 1 0 rfl rfl hi dX4_waysBelow_8 ?_
  obtain ⟨hi, h⟩ := h
  refine va_ti (v := .int (xar ((zB 0) x2.toNatClampNeg).toNatClampNeg)) hx hb hE.2.2.1 hS hi rfl dX4_waysBelow_9 ?_
  refine lv_istore (lv' := [(4, .int (xar ((zB 0) x2.toNatClampNeg).toNatClampNeg)), (0, .ref (aC 0)), (1, .ref (aB 0)), (2, .int x2), (3, .int x3)]) hx hb dX4_waysBelow_10 hl (by decide) rfl (fun ls hl => ?_)
  refine lv_aload_n hx hb dX4_waysBelow_12 rfl (lv_at hl 1 rfl) ?_
  refine va_get (D := D) (ci := 4) (v := .ref (aC 2)) (C := RX4) (T := TX4) (N := 3) hx hb hts jX4_waysBelow_X4 hown hK hP 6 rfl rfl 1 (by decide) (hts (.fieldLink RX4 15 "BrotherAutomata$RunCounter" "firstPlaces" "[I") (List.mem_of_getElem? (i := 1) rfl)) (fun _ h9 => h9) rfl dX4_waysBelow_13 ?_
  refine lv_iload_n hx hb dX4_waysBelow_16 rfl (lv_at hl 4 rfl) ?_
  obtain ⟨hi, h⟩ := h
  refine va_iald hx hb hK hP 8 0 rfl rfl hi dX4_waysBelow_17 ?_
  refine lv_bipush (v := 6) hx hb dX4_waysBelow_18 (by decide) ?_
  refine lv_imul hx hb dX4_waysBelow_20 ?_
  refine lv_istore (lv' := [(5, .int (((zC 1) x3.toNatClampNeg) * (6 : Int32))), (4, .int (xar ((zB 0) x2.toNatClampNeg).toNatClampNeg)), (0, .ref (aC 0)), (1, .ref (aB 0)), (2, .int x2), (3, .int x3)]) hx hb dX4_waysBelow_21 hl (by decide) rfl (fun ls hl => ?_)
  refine lv_iconst (v := 1) hx hb dX4_waysBelow_23 (by decide) ?_
  refine lv_istore (lv' := [(6, .int (1 : Int32)), (5, .int (((zC 1) x3.toNatClampNeg) * (6 : Int32))), (4, .int (xar ((zB 0) x2.toNatClampNeg).toNatClampNeg)), (0, .ref (aC 0)), (1, .ref (aB 0)), (2, .int x2), (3, .int x3)]) hx hb dX4_waysBelow_24 hl (by decide) rfl (fun ls hl => ?_)
  refine lv_iload hx hb dX4_waysBelow_26 (lv_at hl 2 rfl) ?_
  obtain ⟨hh1, hh2⟩ := h
  refine lv_if_le (tgt := 47) hx hb dX4_waysBelow_28 (by decide) (fun hc => ?_) (fun hc => ?_)
  · have h := hh1 hc
    exact g47 (xar ((zB 0) x2.toNatClampNeg).toNatClampNeg) (((zC 1) x3.toNatClampNeg) * (6 : Int32)) (1 : Int32) _ _ _ h hP hD hS hl
  · have h := hh2 hc
    refine lv_aload_n hx hb dX4_waysBelow_31 rfl (lv_at hl 3 rfl) ?_
    refine va_get (D := D) (ci := 4) (v := .ref (aC 3)) (C := RX4) (T := TX4) (N := 3) hx hb hts jX4_waysBelow_X4 hown hK hP 6 rfl rfl 2 (by decide) (hts (.fieldLink RX4 18 "BrotherAutomata$RunCounter" "runs" "[I") (List.mem_of_getElem? (i := 2) rfl)) (fun _ h9 => h9) rfl dX4_waysBelow_32 ?_
    refine lv_iload hx hb dX4_waysBelow_35 (lv_at hl 1 rfl) ?_
    refine lv_aload_n hx hb dX4_waysBelow_37 rfl (lv_at hl 4 rfl) ?_
    refine va_getN (D := D) (ci := 2) (v := .ref (aB 2)) (C := RX2) (T := TX2) (N := 7) hx hb hts jX4_waysBelow_X2 hown hK hP 0 rfl rfl 1 (by decide) (va_Nw.use (w := .fieldLinkNest RX4 72 "BrotherAutomata$RuleBook" "firsts" "[I" "BrotherAutomata") rfl (hE.1 _ (List.mem_of_getElem? (i := 4) rfl))) (fun _ h9 => h9) rfl dX4_waysBelow_38 ?_
    refine lv_iload_n hx hb dX4_waysBelow_41 rfl (lv_at hl 5 rfl) ?_
    obtain ⟨hi, h⟩ := h
    refine va_iald hx hb hK hP 2 0 rfl rfl hi dX4_waysBelow_42 ?_
    refine lv_iadd hx hb dX4_waysBelow_43 ?_
    obtain ⟨hi, h⟩ := h
    refine va_iald hx hb hK hP 9 0 rfl rfl hi dX4_waysBelow_44 ?_
    refine lv_istore (lv' := [(6, .int ((zC 2) ((((zC 1) x3.toNatClampNeg) * (6 : Int32)) + ((zB 1) x2.toNatClampNeg)).toNatClampNeg)), (5, .int (((zC 1) x3.toNatClampNeg) * (6 : Int32))), (4, .int (xar ((zB 0) x2.toNatClampNeg).toNatClampNeg)), (0, .ref (aC 0)), (1, .ref (aB 0)), (2, .int x2), (3, .int x3)]) hx hb dX4_waysBelow_45 hl (by decide) rfl (fun ls hl => ?_)
    exact g47 (xar ((zB 0) x2.toNatClampNeg).toNatClampNeg) (((zC 1) x3.toNatClampNeg) * (6 : Int32)) ((zC 2) ((((zC 1) x3.toNatClampNeg) * (6 : Int32)) + ((zB 1) x2.toNatClampNeg)).toNatClampNeg) _ _ _ h hP hD hS hl
set_option maxRecDepth 20000 in
theorem ggX4_countAt_X5_symbolAt : GoodIn wsX4_countAt wsX5_symbolAt := goodIn_r _ [7, 8, 33, 34, 35] (by decide +kernel) (by decide +kernel)
set_option maxRecDepth 20000 in
theorem gX4_countAt_X5_symbolAt : GoodIn wsX4_countAt (wsV RX4 47 RX5 yX5_symbolAt wsX5_symbolAt) := goodIn_app (goodIn_of _ (by decide +kernel)) ggX4_countAt_X5_symbolAt
set_option maxRecDepth 20000 in
theorem ggX4_countAt_X5_firstAt : GoodIn wsX4_countAt wsX5_firstAt := goodIn_r _ [12, 8, 33, 34, 35] (by decide +kernel) (by decide +kernel)
set_option maxRecDepth 20000 in
theorem gX4_countAt_X5_firstAt : GoodIn wsX4_countAt (wsV RX4 41 RX5 yX5_firstAt wsX5_firstAt) := goodIn_app (goodIn_of _ (by decide +kernel)) ggX4_countAt_X5_firstAt
set_option maxRecDepth 20000 in
theorem ggX4_countAt_X5_secondAt : GoodIn wsX4_countAt wsX5_secondAt := goodIn_r _ [16, 8, 33, 34, 35] (by decide +kernel) (by decide +kernel)
set_option maxRecDepth 20000 in
theorem gX4_countAt_X5_secondAt : GoodIn wsX4_countAt (wsV RX4 44 RX5 yX5_secondAt wsX5_secondAt) := goodIn_app (goodIn_of _ (by decide +kernel)) ggX4_countAt_X5_secondAt
set_option maxRecDepth 20000 in
theorem ggX4_countAt_X4_waysBelow : GoodIn wsX4_countAt wsX4_waysBelow := goodIn_r _ [21, 22, 2, 26, 27, 28, 29, 30, 31, 32, 23, 24, 25] (by decide +kernel) (by decide +kernel)
set_option maxRecDepth 20000 in
theorem gX4_countAt_X4_waysBelow : GoodIn wsX4_countAt (wsV RX4 65 RX4 yX4_waysBelow wsX4_waysBelow) := goodIn_app (goodIn_of _ (by decide +kernel)) ggX4_countAt_X4_waysBelow
theorem dX4_countAt_0 : decode cX4_countAt 0 = .ok (.aload_n 0, 1) := by decide +kernel
theorem dX4_countAt_1 : decode cX4_countAt 1 = .ok (.getfield 9, 3) := by decide +kernel
theorem dX4_countAt_4 : decode cX4_countAt 4 = .ok (.iload_n 3, 1) := by decide +kernel
theorem dX4_countAt_5 : decode cX4_countAt 5 = .ok (.iaload, 1) := by decide +kernel
theorem dX4_countAt_6 : decode cX4_countAt 6 = .ok (.istore 4, 2) := by decide +kernel
theorem dX4_countAt_8 : decode cX4_countAt 8 = .ok (.aload_n 1, 1) := by decide +kernel
theorem dX4_countAt_9 : decode cX4_countAt 9 = .ok (.iload 4, 2) := by decide +kernel
theorem dX4_countAt_11 : decode cX4_countAt 11 = .ok (.invokevirtual 47, 3) := by decide +kernel
theorem dX4_countAt_14 : decode cX4_countAt 14 = .ok (.istore 5, 2) := by decide +kernel
theorem dX4_countAt_16 : decode cX4_countAt 16 = .ok (.aload_n 1, 1) := by decide +kernel
theorem dX4_countAt_17 : decode cX4_countAt 17 = .ok (.iload 4, 2) := by decide +kernel
theorem dX4_countAt_19 : decode cX4_countAt 19 = .ok (.invokevirtual 41, 3) := by decide +kernel
theorem dX4_countAt_22 : decode cX4_countAt 22 = .ok (.aload_n 1, 1) := by decide +kernel
theorem dX4_countAt_23 : decode cX4_countAt 23 = .ok (.iload 4, 2) := by decide +kernel
theorem dX4_countAt_25 : decode cX4_countAt 25 = .ok (.invokevirtual 44, 3) := by decide +kernel
theorem dX4_countAt_28 : decode cX4_countAt 28 = .ok (.if_icmp .ne 7, 3) := by decide +kernel
theorem dX4_countAt_31 : decode cX4_countAt 31 = .ok (.iconst 2, 1) := by decide +kernel
theorem dX4_countAt_32 : decode cX4_countAt 32 = .ok (.goto 4, 3) := by decide +kernel
theorem dX4_countAt_35 : decode cX4_countAt 35 = .ok (.iconst 1, 1) := by decide +kernel
theorem dX4_countAt_36 : decode cX4_countAt 36 = .ok (.istore 6, 2) := by decide +kernel
theorem dX4_countAt_38 : decode cX4_countAt 38 = .ok (.iconst 0, 1) := by decide +kernel
theorem dX4_countAt_39 : decode cX4_countAt 39 = .ok (.istore 7, 2) := by decide +kernel
theorem dX4_countAt_41 : decode cX4_countAt 41 = .ok (.iload 7, 2) := by decide +kernel
theorem dX4_countAt_43 : decode cX4_countAt 43 = .ok (.aload_n 2, 1) := by decide +kernel
theorem dX4_countAt_44 : decode cX4_countAt 44 = .ok (.getfield 50, 3) := by decide +kernel
theorem dX4_countAt_47 : decode cX4_countAt 47 = .ok (.if_icmp .ge 61, 3) := by decide +kernel
theorem dX4_countAt_50 : decode cX4_countAt 50 = .ok (.aload_n 2, 1) := by decide +kernel
theorem dX4_countAt_51 : decode cX4_countAt 51 = .ok (.getfield 56, 3) := by decide +kernel
theorem dX4_countAt_54 : decode cX4_countAt 54 = .ok (.iload 7, 2) := by decide +kernel
theorem dX4_countAt_56 : decode cX4_countAt 56 = .ok (.iaload, 1) := by decide +kernel
theorem dX4_countAt_57 : decode cX4_countAt 57 = .ok (.iload 5, 2) := by decide +kernel
theorem dX4_countAt_59 : decode cX4_countAt 59 = .ok (.if_icmp .ne 43, 3) := by decide +kernel
theorem dX4_countAt_62 : decode cX4_countAt 62 = .ok (.aload_n 2, 1) := by decide +kernel
theorem dX4_countAt_63 : decode cX4_countAt 63 = .ok (.getfield 59, 3) := by decide +kernel
theorem dX4_countAt_66 : decode cX4_countAt 66 = .ok (.iload 7, 2) := by decide +kernel
theorem dX4_countAt_68 : decode cX4_countAt 68 = .ok (.iaload, 1) := by decide +kernel
theorem dX4_countAt_69 : decode cX4_countAt 69 = .ok (.iload 6, 2) := by decide +kernel
theorem dX4_countAt_71 : decode cX4_countAt 71 = .ok (.if_icmp .eq 31, 3) := by decide +kernel
theorem dX4_countAt_74 : decode cX4_countAt 74 = .ok (.aload_n 0, 1) := by decide +kernel
theorem dX4_countAt_75 : decode cX4_countAt 75 = .ok (.getfield 18, 3) := by decide +kernel
theorem dX4_countAt_78 : decode cX4_countAt 78 = .ok (.iload_n 3, 1) := by decide +kernel
theorem dX4_countAt_79 : decode cX4_countAt 79 = .ok (.bipush 6, 2) := by decide +kernel
theorem dX4_countAt_81 : decode cX4_countAt 81 = .ok (.imul, 1) := by decide +kernel
theorem dX4_countAt_82 : decode cX4_countAt 82 = .ok (.aload_n 2, 1) := by decide +kernel
theorem dX4_countAt_83 : decode cX4_countAt 83 = .ok (.getfield 62, 3) := by decide +kernel
theorem dX4_countAt_86 : decode cX4_countAt 86 = .ok (.iload 7, 2) := by decide +kernel
theorem dX4_countAt_88 : decode cX4_countAt 88 = .ok (.iaload, 1) := by decide +kernel
theorem dX4_countAt_89 : decode cX4_countAt 89 = .ok (.iadd, 1) := by decide +kernel
theorem dX4_countAt_90 : decode cX4_countAt 90 = .ok (.dup2, 1) := by decide +kernel
theorem dX4_countAt_91 : decode cX4_countAt 91 = .ok (.iaload, 1) := by decide +kernel
theorem dX4_countAt_92 : decode cX4_countAt 92 = .ok (.aload_n 0, 1) := by decide +kernel
theorem dX4_countAt_93 : decode cX4_countAt 93 = .ok (.aload_n 2, 1) := by decide +kernel
theorem dX4_countAt_94 : decode cX4_countAt 94 = .ok (.iload 7, 2) := by decide +kernel
theorem dX4_countAt_96 : decode cX4_countAt 96 = .ok (.iload_n 3, 1) := by decide +kernel
theorem dX4_countAt_97 : decode cX4_countAt 97 = .ok (.invokevirtual 65, 3) := by decide +kernel
theorem dX4_countAt_100 : decode cX4_countAt 100 = .ok (.iadd, 1) := by decide +kernel
theorem dX4_countAt_101 : decode cX4_countAt 101 = .ok (.iastore, 1) := by decide +kernel
theorem dX4_countAt_102 : decode cX4_countAt 102 = .ok (.iinc 7 1, 3) := by decide +kernel
theorem dX4_countAt_105 : decode cX4_countAt 105 = .ok (.goto (-64), 3) := by decide +kernel
theorem dX4_countAt_108 : decode cX4_countAt 108 = .ok (.return_, 1) := by decide +kernel
theorem jX4_countAt_X2 : ∀ w ∈ wsX20, w ∈ wsX4_countAt := by decide +kernel
theorem jX4_countAt_X4 : ∀ w ∈ wsX40, w ∈ wsX4_countAt := by decide +kernel
abbrev w_X4_countAt (cI cO : ClassId) (aT : Nat → Nat) (aB : Nat → Nat) (aC : Nat → Nat) (zT : CS) (zB : CS) : ((CS)) → va_W := fun u => (wT cI aT zT ++ (wB cI aB zB ++ (wC cI aC u)))
set_option maxRecDepth 100000 in
set_option maxHeartbeats 8000000 in
theorem mX4_countAt (l : Launch) (D : va_G) (cI cO : ClassId) (tA tS : Nat) (aT : Nat → Nat) (aB : Nat → Nat) (aC : Nat → Nat) (zT : CS) (zB : CS) (zC : CS) (x3 : Int32) (sz : Nat) {post : ((CS)) → Prop} (h : qX4_countAt post x3 zT zB zC) : Met l yX4_countAt wsX4_countAt ({ frames := 1, cells := 0, slots := 0, locals := 26 } : Room) (xPre D cI cO tA tS [.ref (aC 0), .ref (aT 0), .ref (aB 0), .int x3] (wT cI aT zT ++ (wB cI aB zB ++ (wC cI aC zC))) sz) (va_Qv post (xB D cI cO (va_A (wT cI aT zT ++ (wB cI aB zB ++ (wC cI aC zC))) sz) (w_X4_countAt cI cO aT aB aC zT zB)) (va_A (wT cI aT zT ++ (wB cI aB zB ++ (wC cI aC zC))) sz)) 0 0 (va_A (wT cI aT zT ++ (wB cI aB zB ++ (wC cI aC zC))) sz) := by
  refine xMet D cI cO tA tS (fun A => va_Qv post (xB D cI cO A (w_X4_countAt cI cO aT aB aC zT zB)) A) (cc := cX4_countAt) (maxL := 8) (ret := none) (by decide) rfl (Nat.le_of_ble_eq_true rfl) ?_
  intro p e s m below meth c A ls hx hb hr hts hown hlocks hin hml hA hS hP hK hD hE hl
  have hown : s.vm.findClass RX4 = some m.cls := hown
  have hl : lv_has ls 8 [(0, .ref (aC 0)), (1, .ref (aT 0)), (2, .ref (aB 0)), (3, .int x3)] := hl
  have g102 : ∀ (k41 : (Int32) → (Int32) → (Int32) → (Int32) → (CS) → Prop), (∀ (y4 : Int32) (y5 : Int32) (y6 : Int32) (y7 : Int32) (zC : CS) (H : Heap) (locs : List Loc) (ls : Array Slot), k41 y4 y5 y6 y7 zC → va_P D vwCl (wT cI aT zT ++ (wB cI aB zB ++ (wC cI aC zC))) H → va_D A (wT cI aT zT ++ (wB cI aB zB ++ (wC cI aC zC))) → va_S A s.heap H locs → lv_has ls 8 [(7, .int y7), (6, .int y6), (5, .int y5), (4, .int y4), (0, .ref (aC 0)), (1, .ref (aT 0)), (2, .ref (aB 0)), (3, .int x3)] → W p l e ({ frames := 1, cells := 0, slots := 0, locals := 26 } : Room) s m ([.ref (aC 0), .ref (aT 0), .ref (aB 0), .int x3] : List Value).toArray below meth c H locs 0 0 (MQ below (va_Qv post (xB D cI cO A (w_X4_countAt cI cO aT aB aC zT zB)) A) ([.ref (aC 0), .ref (aT 0), .ref (aB 0), .int x3] : List Value).toArray s 0 0 A) (F0 m 41 ls [])) → ∀ (y4 : Int32) (y5 : Int32) (y6 : Int32) (y7 : Int32) (zC : CS) (H : Heap) (locs : List Loc) (ls : Array Slot), qX4_countAt_102 post x3 zT zB k41 y4 y5 y6 y7 zC → va_P D vwCl (wT cI aT zT ++ (wB cI aB zB ++ (wC cI aC zC))) H → va_D A (wT cI aT zT ++ (wB cI aB zB ++ (wC cI aC zC))) → va_S A s.heap H locs → lv_has ls 8 [(7, .int y7), (6, .int y6), (5, .int y5), (4, .int y4), (0, .ref (aC 0)), (1, .ref (aT 0)), (2, .ref (aB 0)), (3, .int x3)] → W p l e ({ frames := 1, cells := 0, slots := 0, locals := 26 } : Room) s m ([.ref (aC 0), .ref (aT 0), .ref (aB 0), .int x3] : List Value).toArray below meth c H locs 0 0 (MQ below (va_Qv post (xB D cI cO A (w_X4_countAt cI cO aT aB aC zT zB)) A) ([.ref (aC 0), .ref (aT 0), .ref (aB 0), .int x3] : List Value).toArray s 0 0 A) (F0 m 102 ls []) := by
    intro k41 hk41 y4 y5 y6 y7 zC H locs ls h hP hD hS hl
    refine lv_iinc (v := (y7 + (1 : Int32))) (lv' := [(7, .int (y7 + (1 : Int32))), (6, .int y6), (5, .int y5), (4, .int y4), (0, .ref (aC 0)), (1, .ref (aT 0)), (2, .ref (aB 0)), (3, .int x3)]) hx hb dX4_countAt_102 hl (k := 0) rfl rfl (by decide) rfl (fun ls hl => ?_)
    refine lv_goto (tgt := 41) hx hb dX4_countAt_105 (by decide) ?_
    exact hk41 y4 y5 y6 (y7 + (1 : Int32)) zC _ _ _ h hP hD hS hl
  have g41 : ∀ (n : Nat) (y4 : Int32) (y5 : Int32) (y6 : Int32) (y7 : Int32) (zC : CS) (H : Heap) (locs : List Loc) (ls : Array Slot), qX4_countAt_41 post x3 zT zB n y4 y5 y6 y7 zC → va_P D vwCl (wT cI aT zT ++ (wB cI aB zB ++ (wC cI aC zC))) H → va_D A (wT cI aT zT ++ (wB cI aB zB ++ (wC cI aC zC))) → va_S A s.heap H locs → lv_has ls 8 [(7, .int y7), (6, .int y6), (5, .int y5), (4, .int y4), (0, .ref (aC 0)), (1, .ref (aT 0)), (2, .ref (aB 0)), (3, .int x3)] → W p l e ({ frames := 1, cells := 0, slots := 0, locals := 26 } : Room) s m ([.ref (aC 0), .ref (aT 0), .ref (aB 0), .int x3] : List Value).toArray below meth c H locs 0 0 (MQ below (va_Qv post (xB D cI cO A (w_X4_countAt cI cO aT aB aC zT zB)) A) ([.ref (aC 0), .ref (aT 0), .ref (aB 0), .int x3] : List Value).toArray s 0 0 A) (F0 m 41 ls []) := by
    intro n
    induction n with
    | zero => intro y4 y5 y6 y7 zC H locs ls h; exact False.elim h
    | succ n hk41 =>
      intro y4 y5 y6 y7 zC H locs ls h hP hD hS hl
      have h : qX4_countAt_41b post x3 zT zB (qX4_countAt_41 post x3 zT zB n) y4 y5 y6 y7 zC := h
      refine lv_iload hx hb dX4_countAt_41 (lv_at hl 0 rfl) ?_
      refine lv_aload_n hx hb dX4_countAt_43 rfl (lv_at hl 6 rfl) ?_
      refine va_getN (D := D) (ci := 2) (v := .int (zB 5 0)) (C := RX2) (T := TX2) (N := 7) hx hb hts jX4_countAt_X2 hown hK hP 3 rfl rfl 5 (by decide) (va_Nw.use (w := .fieldLinkNest RX4 50 "BrotherAutomata$RuleBook" "count" "I" "BrotherAutomata") rfl (hE.1 _ (List.mem_of_getElem? (i := 9) rfl))) (fun _ h9 => h9) rfl dX4_countAt_44 ?_
      obtain ⟨hh1, hh2⟩ := h
      refine lv_icmp_ge (tgt := 108) hx hb dX4_countAt_47 (by decide) (fun hc => ?_) (fun hc => ?_)
      · have h := hh1 hc
        exact xvret (w := (w_X4_countAt cI cO aT aB aC zT zB)) (zC) hx hb hr hlocks h hP hK hD hS dX4_countAt_108
      · have h := hh2 hc
        refine lv_aload_n hx hb dX4_countAt_50 rfl (lv_at hl 6 rfl) ?_
        refine va_getN (D := D) (ci := 2) (v := .ref (aB 1)) (C := RX2) (T := TX2) (N := 7) hx hb hts jX4_countAt_X2 hown hK hP 3 rfl rfl 0 (by decide) (va_Nw.use (w := .fieldLinkNest RX4 56 "BrotherAutomata$RuleBook" "symbols" "[I" "BrotherAutomata") rfl (hE.1 _ (List.mem_of_getElem? (i := 8) rfl))) (fun _ h9 => h9) rfl dX4_countAt_51 ?_
        refine lv_iload hx hb dX4_countAt_54 (lv_at hl 0 rfl) ?_
        obtain ⟨hi, h⟩ := h
        refine va_iald hx hb hK hP 4 0 rfl rfl hi dX4_countAt_56 ?_
        refine lv_iload hx hb dX4_countAt_57 (lv_at hl 2 rfl) ?_
        obtain ⟨hh1, hh2⟩ := h
        refine lv_icmp_ne (tgt := 102) hx hb dX4_countAt_59 (by decide) (fun hc => ?_) (fun hc => ?_)
        · have h := hh2 hc
          exact g102 (qX4_countAt_41 post x3 zT zB n) hk41 y4 y5 y6 y7 zC _ _ _ h hP hD hS hl
        · have h := hh1 hc
          refine lv_aload_n hx hb dX4_countAt_62 rfl (lv_at hl 6 rfl) ?_
          refine va_getN (D := D) (ci := 2) (v := .ref (aB 4)) (C := RX2) (T := TX2) (N := 7) hx hb hts jX4_countAt_X2 hown hK hP 3 rfl rfl 3 (by decide) (va_Nw.use (w := .fieldLinkNest RX4 59 "BrotherAutomata$RuleBook" "constraints" "[I" "BrotherAutomata") rfl (hE.1 _ (List.mem_of_getElem? (i := 7) rfl))) (fun _ h9 => h9) rfl dX4_countAt_63 ?_
          refine lv_iload hx hb dX4_countAt_66 (lv_at hl 0 rfl) ?_
          obtain ⟨hi, h⟩ := h
          refine va_iald hx hb hK hP 7 0 rfl rfl hi dX4_countAt_68 ?_
          refine lv_iload hx hb dX4_countAt_69 (lv_at hl 1 rfl) ?_
          obtain ⟨hh1, hh2⟩ := h
          refine lv_icmp_eq (tgt := 102) hx hb dX4_countAt_71 (by decide) (fun hc => ?_) (fun hc => ?_)
          · have h := hh1 hc
            exact g102 (qX4_countAt_41 post x3 zT zB n) hk41 y4 y5 y6 y7 zC _ _ _ h hP hD hS hl
          · have h := hh2 hc
            refine lv_aload_n hx hb dX4_countAt_74 rfl (lv_at hl 4 rfl) ?_
            refine va_get (D := D) (ci := 4) (v := .ref (aC 3)) (C := RX4) (T := TX4) (N := 3) hx hb hts jX4_countAt_X4 hown hK hP 9 rfl rfl 2 (by decide) (hts (.fieldLink RX4 18 "BrotherAutomata$RunCounter" "runs" "[I") (List.mem_of_getElem? (i := 2) rfl)) (fun _ h9 => h9) rfl dX4_countAt_75 ?_
            refine lv_iload_n hx hb dX4_countAt_78 rfl (lv_at hl 7 rfl) ?_
            refine lv_bipush (v := 6) hx hb dX4_countAt_79 (by decide) ?_
            refine lv_imul hx hb dX4_countAt_81 ?_
            refine lv_aload_n hx hb dX4_countAt_82 rfl (lv_at hl 6 rfl) ?_
            refine va_getN (D := D) (ci := 2) (v := .ref (aB 5)) (C := RX2) (T := TX2) (N := 7) hx hb hts jX4_countAt_X2 hown hK hP 3 rfl rfl 4 (by decide) (va_Nw.use (w := .fieldLinkNest RX4 62 "BrotherAutomata$RuleBook" "targets" "[I" "BrotherAutomata") rfl (hE.1 _ (List.mem_of_getElem? (i := 6) rfl))) (fun _ h9 => h9) rfl dX4_countAt_83 ?_
            refine lv_iload hx hb dX4_countAt_86 (lv_at hl 0 rfl) ?_
            obtain ⟨hi, h⟩ := h
            refine va_iald hx hb hK hP 8 0 rfl rfl hi dX4_countAt_88 ?_
            refine lv_iadd hx hb dX4_countAt_89 ?_
            refine lv_dup2_11 hx hb dX4_countAt_90 rfl rfl ?_
            obtain ⟨hi, h⟩ := h
            refine va_iald hx hb hK hP 12 0 rfl rfl hi dX4_countAt_91 ?_
            refine lv_aload_n hx hb dX4_countAt_92 rfl (lv_at hl 4 rfl) ?_
            refine lv_aload_n hx hb dX4_countAt_93 rfl (lv_at hl 6 rfl) ?_
            refine lv_iload hx hb dX4_countAt_94 (lv_at hl 0 rfl) ?_
            refine lv_iload_n hx hb dX4_countAt_96 rfl (lv_at hl 7 rfl) ?_
            refine xcalli (wr := (wT cI aT zT)) (w2 := fun (u97 : Unit) => (wT cI aT zT ++ (wB cI aB zB ++ (wC cI aC zC)))) (va_runV (As := [.ref (aB 0), .int y7, .int x3]) (rest := [.int ((zC 2) ((x3 * (6 : Int32)) + ((zB 4) y7.toNatClampNeg)).toNatClampNeg), .int ((x3 * (6 : Int32)) + ((zB 4) y7.toNatClampNeg)), .ref (aC 3)]) ⟨hx, hb, hml, hown, hts⟩ (mX4_waysBelow l D cI cO tA tS aB aC zB zC y7 x3 _ h) (cwV 3 hts gX4_countAt_X4_waysBelow rfl rfl rfl (by decide +kernel) ⟨Nat.le_of_ble_eq_true rfl, Nat.le_of_ble_eq_true rfl⟩) (xpreV hP hD hS hA hK hE [3, 4, 5, 6, 7, 8, 9, 10, 11, 12] rfl rfl 4 9 rfl rfl) rfl rfl hl.1 rfl (lv_room (Nat.le_of_ble_eq_true rfl)) dX4_countAt_97 ⟨Nat.le_refl 0, Nat.le_refl 0⟩) hP hD hS hA [3, 4, 5, 6, 7, 8, 9, 10, 11, 12] [0, 1, 2] [0, 1, 2, 3, 4, 5, 6, 7, 8, 9, 10, 11, 12] rfl rfl rfl (by decide) rfl (fun _ => rfl) (fun r97 u97 H locs h hP hD hS => ?_)
            refine lv_iadd hx hb dX4_countAt_100 ?_
            obtain ⟨hi, h⟩ := h
            refine va_iast hx hb hK hP hD hS 12 0 rfl rfl hi dX4_countAt_101 (fun H locs hP hD hS => ?_)
            have hP : va_P D vwCl (wT cI aT zT ++ (wB cI aB zB ++ (wC cI aC (st zC 2 ((x3 * (6 : Int32)) + ((zB 4) y7.toNatClampNeg)).toNatClampNeg (((zC 2) ((x3 * (6 : Int32)) + ((zB 4) y7.toNatClampNeg)).toNatClampNeg) + r97))))) H := hP
            have hD : va_D A (wT cI aT zT ++ (wB cI aB zB ++ (wC cI aC (st zC 2 ((x3 * (6 : Int32)) + ((zB 4) y7.toNatClampNeg)).toNatClampNeg (((zC 2) ((x3 * (6 : Int32)) + ((zB 4) y7.toNatClampNeg)).toNatClampNeg) + r97))))) := hD
            exact g102 (qX4_countAt_41 post x3 zT zB n) hk41 y4 y5 y6 y7 (st zC 2 ((x3 * (6 : Int32)) + ((zB 4) y7.toNatClampNeg)).toNatClampNeg (((zC 2) ((x3 * (6 : Int32)) + ((zB 4) y7.toNatClampNeg)).toNatClampNeg) + r97)) _ _ _ h hP hD hS hl
  have g36 : ∀ (y4 : Int32) (y5 : Int32) (w0 : Int32) (zC : CS) (H : Heap) (locs : List Loc) (ls : Array Slot), qX4_countAt_36 post x3 zT zB y4 y5 w0 zC → va_P D vwCl (wT cI aT zT ++ (wB cI aB zB ++ (wC cI aC zC))) H → va_D A (wT cI aT zT ++ (wB cI aB zB ++ (wC cI aC zC))) → va_S A s.heap H locs → lv_has ls 8 [(5, .int y5), (4, .int y4), (0, .ref (aC 0)), (1, .ref (aT 0)), (2, .ref (aB 0)), (3, .int x3)] → W p l e ({ frames := 1, cells := 0, slots := 0, locals := 26 } : Room) s m ([.ref (aC 0), .ref (aT 0), .ref (aB 0), .int x3] : List Value).toArray below meth c H locs 0 0 (MQ below (va_Qv post (xB D cI cO A (w_X4_countAt cI cO aT aB aC zT zB)) A) ([.ref (aC 0), .ref (aT 0), .ref (aB 0), .int x3] : List Value).toArray s 0 0 A) (F0 m 36 ls [.int w0]) := by
    intro y4 y5 w0 zC H locs ls h hP hD hS hl
    refine lv_istore (lv' := [(6, .int w0), (5, .int y5), (4, .int y4), (0, .ref (aC 0)), (1, .ref (aT 0)), (2, .ref (aB 0)), (3, .int x3)]) hx hb dX4_countAt_36 hl (by decide) rfl (fun ls hl => ?_)
    refine lv_iconst (v := 0) hx hb dX4_countAt_38 (by decide) ?_
    refine lv_istore (lv' := [(7, .int (0 : Int32)), (6, .int w0), (5, .int y5), (4, .int y4), (0, .ref (aC 0)), (1, .ref (aT 0)), (2, .ref (aB 0)), (3, .int x3)]) hx hb dX4_countAt_39 hl (by decide) rfl (fun ls hl => ?_)
    obtain ⟨n0, h⟩ := h
    exact g41 n0 y4 y5 w0 (0 : Int32) zC _ _ _ h hP hD hS hl
  refine lv_aload_n hx hb dX4_countAt_0 rfl (lv_at hl 0 rfl) ?_
  refine va_get (D := D) (ci := 4) (v := .ref (aC 1)) (C := RX4) (T := TX4) (N := 3) hx hb hts jX4_countAt_X4 hown hK hP 9 rfl rfl 0 (by decide) (hts (.fieldLink RX4 9 "BrotherAutomata$RunCounter" "nodes" "[I") (List.mem_of_getElem? (i := 1) rfl)) (fun _ h9 => h9) rfl dX4_countAt_1 ?_
  refine lv_iload_n hx hb dX4_countAt_4 rfl (lv_at hl 3 rfl) ?_
  obtain ⟨hi, h⟩ := h
  refine va_iald hx hb hK hP 10 0 rfl rfl hi dX4_countAt_5 ?_
  refine lv_istore (lv' := [(4, .int ((zC 0) x3.toNatClampNeg)), (0, .ref (aC 0)), (1, .ref (aT 0)), (2, .ref (aB 0)), (3, .int x3)]) hx hb dX4_countAt_6 hl (by decide) rfl (fun ls hl => ?_)
  refine lv_aload_n hx hb dX4_countAt_8 rfl (lv_at hl 2 rfl) ?_
  refine lv_iload hx hb dX4_countAt_9 (lv_at hl 0 rfl) ?_
  refine xcalli (wr := (wB cI aB zB ++ (wC cI aC zC))) (w2 := fun (u11 : Unit) => (wT cI aT zT ++ (wB cI aB zB ++ (wC cI aC zC)))) (va_runV (As := [.int ((zC 0) x3.toNatClampNeg)]) (rest := []) ⟨hx, hb, hml, hown, hts⟩ (mX5_symbolAt l D cI cO tA tS aT zT ((zC 0) x3.toNatClampNeg) _ h) (cwV 1 hts gX4_countAt_X5_symbolAt rfl rfl rfl (by decide +kernel) ⟨Nat.le_of_ble_eq_true rfl, Nat.le_of_ble_eq_true rfl⟩) (xpreV hP hD hS hA hK hE [0, 1, 2] rfl rfl 5 0 rfl rfl) rfl rfl hl.1 rfl (lv_room (Nat.le_of_ble_eq_true rfl)) dX4_countAt_11 ⟨Nat.le_refl 0, Nat.le_refl 0⟩) hP hD hS hA [0, 1, 2] [3, 4, 5, 6, 7, 8, 9, 10, 11, 12] [10, 11, 12, 0, 1, 2, 3, 4, 5, 6, 7, 8, 9] rfl rfl rfl (by decide) rfl (fun _ => rfl) (fun r11 u11 H locs h hP hD hS => ?_)
  refine lv_istore (lv' := [(5, .int r11), (4, .int ((zC 0) x3.toNatClampNeg)), (0, .ref (aC 0)), (1, .ref (aT 0)), (2, .ref (aB 0)), (3, .int x3)]) hx hb dX4_countAt_14 hl (by decide) rfl (fun ls hl => ?_)
  refine lv_aload_n hx hb dX4_countAt_16 rfl (lv_at hl 3 rfl) ?_
  refine lv_iload hx hb dX4_countAt_17 (lv_at hl 1 rfl) ?_
  refine xcalli (wr := (wB cI aB zB ++ (wC cI aC zC))) (w2 := fun (u19 : Unit) => (wT cI aT zT ++ (wB cI aB zB ++ (wC cI aC zC)))) (va_runV (As := [.int ((zC 0) x3.toNatClampNeg)]) (rest := []) ⟨hx, hb, hml, hown, hts⟩ (mX5_firstAt l D cI cO tA tS aT zT ((zC 0) x3.toNatClampNeg) _ h) (cwV 1 hts gX4_countAt_X5_firstAt rfl rfl rfl (by decide +kernel) ⟨Nat.le_of_ble_eq_true rfl, Nat.le_of_ble_eq_true rfl⟩) (xpreV hP hD hS hA hK hE [0, 1, 2] rfl rfl 5 0 rfl rfl) rfl rfl hl.1 rfl (lv_room (Nat.le_of_ble_eq_true rfl)) dX4_countAt_19 ⟨Nat.le_refl 0, Nat.le_refl 0⟩) hP hD hS hA [0, 1, 2] [3, 4, 5, 6, 7, 8, 9, 10, 11, 12] [10, 11, 12, 0, 1, 2, 3, 4, 5, 6, 7, 8, 9] rfl rfl rfl (by decide) rfl (fun _ => rfl) (fun r19 u19 H locs h hP hD hS => ?_)
  refine lv_aload_n hx hb dX4_countAt_22 rfl (lv_at hl 3 rfl) ?_
  refine lv_iload hx hb dX4_countAt_23 (lv_at hl 1 rfl) ?_
  refine xcalli (wr := (wB cI aB zB ++ (wC cI aC zC))) (w2 := fun (u25 : Unit) => (wT cI aT zT ++ (wB cI aB zB ++ (wC cI aC zC)))) (va_runV (As := [.int ((zC 0) x3.toNatClampNeg)]) (rest := [.int r19]) ⟨hx, hb, hml, hown, hts⟩ (mX5_secondAt l D cI cO tA tS aT zT ((zC 0) x3.toNatClampNeg) _ h) (cwV 1 hts gX4_countAt_X5_secondAt rfl rfl rfl (by decide +kernel) ⟨Nat.le_of_ble_eq_true rfl, Nat.le_of_ble_eq_true rfl⟩) (xpreV hP hD hS hA hK hE [0, 1, 2] rfl rfl 5 0 rfl rfl) rfl rfl hl.1 rfl (lv_room (Nat.le_of_ble_eq_true rfl)) dX4_countAt_25 ⟨Nat.le_refl 0, Nat.le_refl 0⟩) hP hD hS hA [0, 1, 2] [3, 4, 5, 6, 7, 8, 9, 10, 11, 12] [10, 11, 12, 0, 1, 2, 3, 4, 5, 6, 7, 8, 9] rfl rfl rfl (by decide) rfl (fun _ => rfl) (fun r25 u25 H locs h hP hD hS => ?_)
  obtain ⟨hh1, hh2⟩ := h
  refine lv_icmp_ne (tgt := 35) hx hb dX4_countAt_28 (by decide) (fun hc => ?_) (fun hc => ?_)
  · have h := hh2 hc
    refine lv_iconst (v := 1) hx hb dX4_countAt_35 (by decide) ?_
    exact g36 ((zC 0) x3.toNatClampNeg) r11 (1 : Int32) zC _ _ _ h hP hD hS hl
  · have h := hh1 hc
    refine lv_iconst (v := 2) hx hb dX4_countAt_31 (by decide) ?_
    refine lv_goto (tgt := 36) hx hb dX4_countAt_32 (by decide) ?_
    exact g36 ((zC 0) x3.toNatClampNeg) r11 (2 : Int32) zC _ _ _ h hP hD hS hl
set_option maxRecDepth 20000 in
theorem ggX4_count_X4_layOut : GoodIn wsX4_count wsX4_layOut := goodIn_r _ [6, 7, 8, 9, 10, 11, 12, 13, 14, 15, 16, 17, 18, 19, 20, 21, 22, 23, 24, 25, 26, 40, 41, 42, 43, 44, 45] (by decide +kernel) (by decide +kernel)
set_option maxRecDepth 20000 in
theorem gX4_count_X4_layOut : GoodIn wsX4_count (wsV RX4 21 RX4 yX4_layOut wsX4_layOut) := goodIn_app (goodIn_of _ (by decide +kernel)) ggX4_count_X4_layOut
set_option maxRecDepth 20000 in
theorem ggX4_count_J7_fill_53178 : GoodIn wsX4_count wsJ7_fill_53178 := goodIn_r _ [30] (by decide +kernel) (by decide +kernel)
set_option maxRecDepth 20000 in
theorem gX4_count_J7_fill_53178 : GoodIn wsX4_count (va_wsS RX4 25 yJ7_fill_53178 wsJ7_fill_53178) := goodIn_app (goodIn_of _ (by decide +kernel)) ggX4_count_J7_fill_53178
set_option maxRecDepth 20000 in
theorem ggX4_count_X4_countAt : GoodIn wsX4_count wsX4_countAt := goodIn_r _ [34, 7, 1, 35, 15, 16, 12, 17, 18, 19, 20, 21, 22, 23, 24, 25, 26, 36, 37, 38, 5, 39, 8, 40, 41, 42, 46, 47, 48, 49, 50, 51, 52, 43, 44, 45] (by decide +kernel) (by decide +kernel)
set_option maxRecDepth 20000 in
theorem gX4_count_X4_countAt : GoodIn wsX4_count (wsV RX4 31 RX4 yX4_countAt wsX4_countAt) := goodIn_app (goodIn_of _ (by decide +kernel)) ggX4_count_X4_countAt
theorem dX4_count_0 : decode cX4_count 0 = .ok (.aload_n 0, 1) := by decide +kernel
theorem dX4_count_1 : decode cX4_count 1 = .ok (.aload_n 1, 1) := by decide +kernel
theorem dX4_count_2 : decode cX4_count 2 = .ok (.iload_n 3, 1) := by decide +kernel
theorem dX4_count_3 : decode cX4_count 3 = .ok (.invokevirtual 21, 3) := by decide +kernel
theorem dX4_count_6 : decode cX4_count 6 = .ok (.istore 5, 2) := by decide +kernel
theorem dX4_count_8 : decode cX4_count 8 = .ok (.aload_n 0, 1) := by decide +kernel
theorem dX4_count_9 : decode cX4_count 9 = .ok (.getfield 18, 3) := by decide +kernel
theorem dX4_count_12 : decode cX4_count 12 = .ok (.iconst 0, 1) := by decide +kernel
theorem dX4_count_13 : decode cX4_count 13 = .ok (.invokestatic 25, 3) := by decide +kernel
theorem dX4_count_16 : decode cX4_count 16 = .ok (.iload 5, 2) := by decide +kernel
theorem dX4_count_18 : decode cX4_count 18 = .ok (.iconst 1, 1) := by decide +kernel
theorem dX4_count_19 : decode cX4_count 19 = .ok (.isub, 1) := by decide +kernel
theorem dX4_count_20 : decode cX4_count 20 = .ok (.istore 6, 2) := by decide +kernel
theorem dX4_count_22 : decode cX4_count 22 = .ok (.iload 6, 2) := by decide +kernel
theorem dX4_count_24 : decode cX4_count 24 = .ok (.ifCond .lt 17, 3) := by decide +kernel
theorem dX4_count_27 : decode cX4_count 27 = .ok (.aload_n 0, 1) := by decide +kernel
theorem dX4_count_28 : decode cX4_count 28 = .ok (.aload_n 1, 1) := by decide +kernel
theorem dX4_count_29 : decode cX4_count 29 = .ok (.aload_n 2, 1) := by decide +kernel
theorem dX4_count_30 : decode cX4_count 30 = .ok (.iload 6, 2) := by decide +kernel
theorem dX4_count_32 : decode cX4_count 32 = .ok (.invokevirtual 31, 3) := by decide +kernel
theorem dX4_count_35 : decode cX4_count 35 = .ok (.iinc 6 (-1), 3) := by decide +kernel
theorem dX4_count_38 : decode cX4_count 38 = .ok (.goto (-16), 3) := by decide +kernel
theorem dX4_count_41 : decode cX4_count 41 = .ok (.aload_n 0, 1) := by decide +kernel
theorem dX4_count_42 : decode cX4_count 42 = .ok (.getfield 18, 3) := by decide +kernel
theorem dX4_count_45 : decode cX4_count 45 = .ok (.iload 4, 2) := by decide +kernel
theorem dX4_count_47 : decode cX4_count 47 = .ok (.iaload, 1) := by decide +kernel
theorem dX4_count_48 : decode cX4_count 48 = .ok (.ireturn, 1) := by decide +kernel
theorem jX4_count_X4 : ∀ w ∈ wsX40, w ∈ wsX4_count := by decide +kernel
abbrev w_X4_count (cI cO : ClassId) (aT : Nat → Nat) (aB : Nat → Nat) (aC : Nat → Nat) (zT : CS) (zB : CS) : ((CS)) → va_W := fun u => (wT cI aT zT ++ (wB cI aB zB ++ (wC cI aC u)))
set_option maxRecDepth 100000 in
set_option maxHeartbeats 8000000 in
theorem mX4_count (l : Launch) (D : va_G) (cI cO : ClassId) (tA tS : Nat) (aT : Nat → Nat) (aB : Nat → Nat) (aC : Nat → Nat) (zT : CS) (zB : CS) (zC : CS) (x3 : Int32) (x4 : Int32) (sz : Nat) {post : Int32 → ((CS)) → Prop} (h : qX4_count post x3 x4 zT zB zC) : Met l yX4_count wsX4_count ({ frames := 3, cells := 0, slots := 0, locals := 67 } : Room) (xPre D cI cO tA tS [.ref (aC 0), .ref (aT 0), .ref (aB 0), .int x3, .int x4] (wT cI aT zT ++ (wB cI aB zB ++ (wC cI aC zC))) sz) (va_Qi post (xB D cI cO (va_A (wT cI aT zT ++ (wB cI aB zB ++ (wC cI aC zC))) sz) (w_X4_count cI cO aT aB aC zT zB)) (va_A (wT cI aT zT ++ (wB cI aB zB ++ (wC cI aC zC))) sz)) 0 0 (va_A (wT cI aT zT ++ (wB cI aB zB ++ (wC cI aC zC))) sz) := by
  refine xMet D cI cO tA tS (fun A => va_Qi post (xB D cI cO A (w_X4_count cI cO aT aB aC zT zB)) A) (cc := cX4_count) (maxL := 7) (ret := (some .int)) (by decide) rfl (Nat.le_of_ble_eq_true rfl) ?_
  intro p e s m below meth c A ls hx hb hr hts hown hlocks hin hml hA hS hP hK hD hE hl
  have hown : s.vm.findClass RX4 = some m.cls := hown
  have hl : lv_has ls 7 [(0, .ref (aC 0)), (1, .ref (aT 0)), (2, .ref (aB 0)), (3, .int x3), (4, .int x4)] := hl
  have g22 : ∀ (n : Nat) (y5 : Int32) (y6 : Int32) (zC : CS) (H : Heap) (locs : List Loc) (ls : Array Slot), qX4_count_22 post x3 x4 zT zB n y5 y6 zC → va_P D vwCl (wT cI aT zT ++ (wB cI aB zB ++ (wC cI aC zC))) H → va_D A (wT cI aT zT ++ (wB cI aB zB ++ (wC cI aC zC))) → va_S A s.heap H locs → lv_has ls 7 [(6, .int y6), (5, .int y5), (0, .ref (aC 0)), (1, .ref (aT 0)), (2, .ref (aB 0)), (3, .int x3), (4, .int x4)] → W p l e ({ frames := 3, cells := 0, slots := 0, locals := 67 } : Room) s m ([.ref (aC 0), .ref (aT 0), .ref (aB 0), .int x3, .int x4] : List Value).toArray below meth c H locs 0 0 (MQ below (va_Qi post (xB D cI cO A (w_X4_count cI cO aT aB aC zT zB)) A) ([.ref (aC 0), .ref (aT 0), .ref (aB 0), .int x3, .int x4] : List Value).toArray s 0 0 A) (F0 m 22 ls []) := by
    intro n
    induction n with
    | zero => intro y5 y6 zC H locs ls h; exact False.elim h
    | succ n hk22 =>
      intro y5 y6 zC H locs ls h hP hD hS hl
      have h : qX4_count_22b post x3 x4 zT zB (qX4_count_22 post x3 x4 zT zB n) y5 y6 zC := h
      refine lv_iload hx hb dX4_count_22 (lv_at hl 0 rfl) ?_
      obtain ⟨hh1, hh2⟩ := h
      refine lv_if_lt (tgt := 41) hx hb dX4_count_24 (by decide) (fun hc => ?_) (fun hc => ?_)
      · have h := hh1 hc
        refine lv_aload_n hx hb dX4_count_41 rfl (lv_at hl 2 rfl) ?_
        refine va_get (D := D) (ci := 4) (v := .ref (aC 3)) (C := RX4) (T := TX4) (N := 3) hx hb hts jX4_count_X4 hown hK hP 9 rfl rfl 2 (by decide) (hts (.fieldLink RX4 18 "BrotherAutomata$RunCounter" "runs" "[I") (List.mem_of_getElem? (i := 1) rfl)) (fun _ h9 => h9) rfl dX4_count_42 ?_
        refine lv_iload hx hb dX4_count_45 (lv_at hl 6 rfl) ?_
        obtain ⟨hi, h⟩ := h
        refine va_iald hx hb hK hP 12 0 rfl rfl hi dX4_count_47 ?_
        exact xiret (w := (w_X4_count cI cO aT aB aC zT zB)) (zC) hx hb hr hlocks h hP hK hD hS dX4_count_48
      · have h := hh2 hc
        refine lv_aload_n hx hb dX4_count_27 rfl (lv_at hl 2 rfl) ?_
        refine lv_aload_n hx hb dX4_count_28 rfl (lv_at hl 3 rfl) ?_
        refine lv_aload_n hx hb dX4_count_29 rfl (lv_at hl 4 rfl) ?_
        refine lv_iload hx hb dX4_count_30 (lv_at hl 0 rfl) ?_
        refine xcallv (wr := ([] : va_W)) (w2 := fun (u32 : (CS)) => (wT cI aT zT ++ (wB cI aB zB ++ (wC cI aC u32)))) (va_runV (As := [.ref (aT 0), .ref (aB 0), .int y6]) (rest := []) ⟨hx, hb, hml, hown, hts⟩ (mX4_countAt l D cI cO tA tS aT aB aC zT zB zC y6 _ h) (cwV 3 hts gX4_count_X4_countAt rfl rfl rfl (by decide +kernel) ⟨Nat.le_of_ble_eq_true rfl, Nat.le_of_ble_eq_true rfl⟩) (xpreV hP hD hS hA hK hE [0, 1, 2, 3, 4, 5, 6, 7, 8, 9, 10, 11, 12] rfl rfl 4 9 rfl rfl) rfl rfl hl.1 rfl (lv_room (Nat.le_of_ble_eq_true rfl)) dX4_count_32 ⟨Nat.le_refl 0, Nat.le_refl 0⟩) hP hD hS hA [0, 1, 2, 3, 4, 5, 6, 7, 8, 9, 10, 11, 12] [] [0, 1, 2, 3, 4, 5, 6, 7, 8, 9, 10, 11, 12] rfl rfl rfl (by decide) rfl (fun _ => rfl) (fun u32 H locs h hP hD hS => ?_)
        refine lv_iinc (v := (y6 + (-1 : Int32))) (lv' := [(6, .int (y6 + (-1 : Int32))), (5, .int y5), (0, .ref (aC 0)), (1, .ref (aT 0)), (2, .ref (aB 0)), (3, .int x3), (4, .int x4)]) hx hb dX4_count_35 hl (k := 0) rfl rfl (by decide) rfl (fun ls hl => ?_)
        refine lv_goto (tgt := 22) hx hb dX4_count_38 (by decide) ?_
        exact hk22 y5 (y6 + (-1 : Int32)) u32 _ _ _ h hP hD hS hl
  refine lv_aload_n hx hb dX4_count_0 rfl (lv_at hl 0 rfl) ?_
  refine lv_aload_n hx hb dX4_count_1 rfl (lv_at hl 1 rfl) ?_
  refine lv_iload_n hx hb dX4_count_2 rfl (lv_at hl 3 rfl) ?_
  refine xcalli (wr := (wB cI aB zB)) (w2 := fun (u3 : (CS)) => (wT cI aT zT ++ (wB cI aB zB ++ (wC cI aC u3)))) (va_runV (As := [.ref (aT 0), .int x3]) (rest := []) ⟨hx, hb, hml, hown, hts⟩ (mX4_layOut l D cI cO tA tS aT aC zT zC x3 _ h) (cwV 2 hts gX4_count_X4_layOut rfl rfl rfl (by decide +kernel) ⟨Nat.le_of_ble_eq_true rfl, Nat.le_of_ble_eq_true rfl⟩) (xpreV hP hD hS hA hK hE [0, 1, 2, 9, 10, 11, 12] rfl rfl 4 9 rfl rfl) rfl rfl hl.1 rfl (lv_room (Nat.le_of_ble_eq_true rfl)) dX4_count_3 ⟨Nat.le_refl 0, Nat.le_refl 0⟩) hP hD hS hA [0, 1, 2, 9, 10, 11, 12] [3, 4, 5, 6, 7, 8] [6, 7, 8, 0, 1, 2, 3, 4, 5, 9, 10, 11, 12] rfl rfl rfl (by decide) rfl (fun _ => rfl) (fun r3 u3 H locs h hP hD hS => ?_)
  refine lv_istore (lv' := [(5, .int r3), (0, .ref (aC 0)), (1, .ref (aT 0)), (2, .ref (aB 0)), (3, .int x3), (4, .int x4)]) hx hb dX4_count_6 hl (by decide) rfl (fun ls hl => ?_)
  refine lv_aload_n hx hb dX4_count_8 rfl (lv_at hl 1 rfl) ?_
  refine va_get (D := D) (ci := 4) (v := .ref (aC 3)) (C := RX4) (T := TX4) (N := 3) hx hb hts jX4_count_X4 hown hK hP 9 rfl rfl 2 (by decide) (hts (.fieldLink RX4 18 "BrotherAutomata$RunCounter" "runs" "[I") (List.mem_of_getElem? (i := 1) rfl)) (fun _ h9 => h9) rfl dX4_count_9 ?_
  refine lv_iconst (v := 0) hx hb dX4_count_12 (by decide) ?_
  refine xcallv (wr := (wT cI aT zT ++ (wB cI aB zB ++ ([(aC 0, .inr (4, [.ref (aC 1), .ref (aC 2), .ref (aC 3)])), (aC 1, .inl (cI, 7, .inl (u3 0))), (aC 2, .inl (cI, 7, .inl (u3 1)))])))) (w2 := fun (u13 : (Nat → Int32)) => (wT cI aT zT ++ (wB cI aB zB ++ (wC cI aC (sr u3 2 u13))))) (va_runS (As := [.ref (aC 3), .int (0 : Int32)]) (rest := []) ⟨hx, hb, hml, hown, hts⟩ (mJ7_fill_53178 l D cI cO tA tS (aC 3) 42 (u3 2) (0 : Int32) _ h) (va_cwS 2 hts gX4_count_J7_fill_53178 rfl rfl rfl (by decide +kernel) ⟨Nat.le_of_ble_eq_true rfl, Nat.le_of_ble_eq_true rfl⟩) (xpreP hP hD hS hA hK hE [12] rfl rfl) rfl rfl hl.1 rfl (lv_room (Nat.le_of_ble_eq_true rfl)) dX4_count_13 ⟨Nat.le_refl 0, Nat.le_refl 0⟩) hP hD hS hA [12] [0, 1, 2, 3, 4, 5, 6, 7, 8, 9, 10, 11] [0, 1, 2, 3, 4, 5, 6, 7, 8, 9, 10, 11, 12] rfl rfl rfl (by decide) rfl (fun _ => rfl) (fun u13 H locs h hP hD hS => ?_)
  refine lv_iload hx hb dX4_count_16 (lv_at hl 0 rfl) ?_
  refine lv_iconst (v := 1) hx hb dX4_count_18 (by decide) ?_
  refine lv_isub hx hb dX4_count_19 ?_
  refine lv_istore (lv' := [(6, .int (r3 - (1 : Int32))), (5, .int r3), (0, .ref (aC 0)), (1, .ref (aT 0)), (2, .ref (aB 0)), (3, .int x3), (4, .int x4)]) hx hb dX4_count_20 hl (by decide) rfl (fun ls hl => ?_)
  obtain ⟨n0, h⟩ := h
  exact g22 n0 r3 (r3 - (1 : Int32)) (sr u3 2 u13) _ _ _ h hP hD hS hl
