set_option maxRecDepth 20000 in
theorem ggX6_init_X5_init : GoodIn wsX6_init wsX5_init := goodIn_r _ [35, 36, 2, 3, 28, 37, 38, 39, 40, 41, 42, 6, 43, 44, 45, 46, 47, 48, 49, 50, 51, 52, 53, 54, 55, 56, 57, 58, 59, 60, 61, 62, 107, 108, 109] (by decide +kernel) (by decide +kernel)
set_option maxRecDepth 20000 in
theorem gX6_init_X5_init : GoodIn wsX6_init (wsX5_init) := ggX6_init_X5_init
set_option maxRecDepth 20000 in
theorem ggX6_init_X2_init : GoodIn wsX6_init wsX2_init := goodIn_r _ [65, 66, 2, 3, 28, 67, 68, 69, 70, 71, 72, 73, 120, 121, 122, 123, 124, 125, 126] (by decide +kernel) (by decide +kernel)
set_option maxRecDepth 20000 in
theorem gX6_init_X2_init : GoodIn wsX6_init (wsX2_init) := ggX6_init_X2_init
set_option maxRecDepth 20000 in
theorem ggX6_init_X1_init : GoodIn wsX6_init wsX1_init := goodIn_r _ [76, 77, 2, 3, 78, 79, 9, 10, 80, 81, 82, 64, 65, 66, 28, 67, 68, 69, 70, 71, 72, 73, 127, 128, 129, 120, 121, 122, 123, 124, 125, 126] (by decide +kernel) (by decide +kernel)
set_option maxRecDepth 20000 in
theorem gX6_init_X1_init : GoodIn wsX6_init (wsX1_init) := ggX6_init_X1_init
set_option maxRecDepth 20000 in
theorem ggX6_init_X3_init : GoodIn wsX6_init wsX3_init := goodIn_r _ [85, 86, 2, 3, 28, 87, 88, 89, 90, 91, 92, 130, 131, 132, 133, 134, 135] (by decide +kernel) (by decide +kernel)
set_option maxRecDepth 20000 in
theorem gX6_init_X3_init : GoodIn wsX6_init (wsX3_init) := ggX6_init_X3_init
set_option maxRecDepth 20000 in
theorem ggX6_init_X4_init : GoodIn wsX6_init wsX4_init := goodIn_r _ [95, 96, 2, 3, 28, 97, 98, 99, 136, 137, 138] (by decide +kernel) (by decide +kernel)
set_option maxRecDepth 20000 in
theorem gX6_init_X4_init : GoodIn wsX6_init (wsX4_init) := ggX6_init_X4_init
set_option maxRecDepth 20000 in
theorem ggX6_init_X0_init : GoodIn wsX6_init wsX0_init := goodIn_r _ [102, 103, 2, 3, 28, 104, 105, 106, 139, 140, 141] (by decide +kernel) (by decide +kernel)
set_option maxRecDepth 20000 in
theorem gX6_init_X0_init : GoodIn wsX6_init (wsX0_init) := ggX6_init_X0_init
theorem dX6_init_0 : decode cX6_init 0 = .ok (.aload_n 0, 1) := by decide +kernel
theorem dX6_init_1 : decode cX6_init 1 = .ok (.invokespecial 1, 3) := by decide +kernel
theorem dX6_init_4 : decode cX6_init 4 = .ok (.aload_n 0, 1) := by decide +kernel
theorem dX6_init_5 : decode cX6_init 5 = .ok (.new 7, 3) := by decide +kernel
theorem dX6_init_8 : decode cX6_init 8 = .ok (.dup, 1) := by decide +kernel
theorem dX6_init_9 : decode cX6_init 9 = .ok (.invokespecial 9, 3) := by decide +kernel
theorem dX6_init_12 : decode cX6_init 12 = .ok (.putfield 10, 3) := by decide +kernel
theorem dX6_init_15 : decode cX6_init 15 = .ok (.aload_n 0, 1) := by decide +kernel
theorem dX6_init_16 : decode cX6_init 16 = .ok (.new 16, 3) := by decide +kernel
theorem dX6_init_19 : decode cX6_init 19 = .ok (.dup, 1) := by decide +kernel
theorem dX6_init_20 : decode cX6_init 20 = .ok (.invokespecial 18, 3) := by decide +kernel
theorem dX6_init_23 : decode cX6_init 23 = .ok (.putfield 19, 3) := by decide +kernel
theorem dX6_init_26 : decode cX6_init 26 = .ok (.aload_n 0, 1) := by decide +kernel
theorem dX6_init_27 : decode cX6_init 27 = .ok (.new 23, 3) := by decide +kernel
theorem dX6_init_30 : decode cX6_init 30 = .ok (.dup, 1) := by decide +kernel
theorem dX6_init_31 : decode cX6_init 31 = .ok (.invokespecial 25, 3) := by decide +kernel
theorem dX6_init_34 : decode cX6_init 34 = .ok (.putfield 26, 3) := by decide +kernel
theorem dX6_init_37 : decode cX6_init 37 = .ok (.aload_n 0, 1) := by decide +kernel
theorem dX6_init_38 : decode cX6_init 38 = .ok (.new 30, 3) := by decide +kernel
theorem dX6_init_41 : decode cX6_init 41 = .ok (.dup, 1) := by decide +kernel
theorem dX6_init_42 : decode cX6_init 42 = .ok (.invokespecial 32, 3) := by decide +kernel
theorem dX6_init_45 : decode cX6_init 45 = .ok (.putfield 33, 3) := by decide +kernel
theorem dX6_init_48 : decode cX6_init 48 = .ok (.aload_n 0, 1) := by decide +kernel
theorem dX6_init_49 : decode cX6_init 49 = .ok (.new 37, 3) := by decide +kernel
theorem dX6_init_52 : decode cX6_init 52 = .ok (.dup, 1) := by decide +kernel
theorem dX6_init_53 : decode cX6_init 53 = .ok (.invokespecial 39, 3) := by decide +kernel
theorem dX6_init_56 : decode cX6_init 56 = .ok (.putfield 40, 3) := by decide +kernel
theorem dX6_init_59 : decode cX6_init 59 = .ok (.aload_n 0, 1) := by decide +kernel
theorem dX6_init_60 : decode cX6_init 60 = .ok (.new 44, 3) := by decide +kernel
theorem dX6_init_63 : decode cX6_init 63 = .ok (.dup, 1) := by decide +kernel
theorem dX6_init_64 : decode cX6_init 64 = .ok (.invokespecial 46, 3) := by decide +kernel
theorem dX6_init_67 : decode cX6_init 67 = .ok (.putfield 47, 3) := by decide +kernel
theorem dX6_init_70 : decode cX6_init 70 = .ok (.aload_n 0, 1) := by decide +kernel
theorem dX6_init_71 : decode cX6_init 71 = .ok (.sipush 2278, 3) := by decide +kernel
theorem dX6_init_74 : decode cX6_init 74 = .ok (.newarray .int, 2) := by decide +kernel
theorem dX6_init_76 : decode cX6_init 76 = .ok (.putfield 51, 3) := by decide +kernel
theorem dX6_init_79 : decode cX6_init 79 = .ok (.aload_n 0, 1) := by decide +kernel
theorem dX6_init_80 : decode cX6_init 80 = .ok (.iconst 0, 1) := by decide +kernel
theorem dX6_init_81 : decode cX6_init 81 = .ok (.putfield 55, 3) := by decide +kernel
theorem dX6_init_84 : decode cX6_init 84 = .ok (.aload_n 0, 1) := by decide +kernel
theorem dX6_init_85 : decode cX6_init 85 = .ok (.iconst 0, 1) := by decide +kernel
theorem dX6_init_86 : decode cX6_init 86 = .ok (.putfield 59, 3) := by decide +kernel
theorem dX6_init_89 : decode cX6_init 89 = .ok (.aload_n 0, 1) := by decide +kernel
theorem dX6_init_90 : decode cX6_init 90 = .ok (.iconst 2, 1) := by decide +kernel
theorem dX6_init_91 : decode cX6_init 91 = .ok (.putfield 63, 3) := by decide +kernel
theorem dX6_init_94 : decode cX6_init 94 = .ok (.return_, 1) := by decide +kernel
theorem jX6_init_X6 : ∀ w ∈ wsX60, w ∈ wsX6_init := by decide +kernel
theorem jX6_init_X5 : ∀ w ∈ wsX50, w ∈ wsX6_init := by decide +kernel
theorem jX6_init_X2 : ∀ w ∈ wsX20, w ∈ wsX6_init := by decide +kernel
theorem jX6_init_X1 : ∀ w ∈ wsX10, w ∈ wsX6_init := by decide +kernel
theorem jX6_init_X3 : ∀ w ∈ wsX30, w ∈ wsX6_init := by decide +kernel
theorem jX6_init_X4 : ∀ w ∈ wsX40, w ∈ wsX6_init := by decide +kernel
theorem jX6_init_X0 : ∀ w ∈ wsX00, w ∈ wsX6_init := by decide +kernel
abbrev w6 (cI cO : ClassId) (aS aT aB aH aM aC aZ : Nat → Nat) (aR : Nat → Nat → Nat) (zS zT zB zH : CS) (zR : Nat → CS) (zM zC zZ : CS) : va_W := wS cI aS aT aB aH aM aC aZ zS ++ (wT cI aT zT ++ (wB cI aB zB ++ (wH cO aH aR zH ++ (wR cI aR zR ++ (wM cI aM zM ++ (wC cI aC zC ++ wZ cI aZ zZ))))))
set_option maxRecDepth 100000 in
set_option maxHeartbeats 8000000 in
theorem mX6_init (l : Launch) (D : va_G) (cI cO : ClassId) (tA tS : Nat) (o : Nat) (sz : Nat) {post : CS → Prop} (h : qX5_init post z0) : Met l yX6_init wsX6_init ({ frames := 4, cells := 55, slots := 7776, locals := 91 } : Room) (xPreO D cI cO tA tS [.ref o] [(o, .inr (6, [.null, .null, .null, .null, .null, .null, .null, .int 0, .int 0, .int 0]))] sz) (va_Qv (fun u : ((Nat → Nat → Nat) × (Nat → Nat → Nat) × CS) => u.1 0 0 = o ∧ post u.2.2) (xB D cI cO (va_A [(o, .inr (6, [.null, .null, .null, .null, .null, .null, .null, .int 0, .int 0, .int 0]))] sz) (fun u : ((Nat → Nat → Nat) × (Nat → Nat → Nat) × CS) => w6 cI cO (u.1 0) (u.1 1) (u.1 2) (u.1 3) (u.1 4) (u.1 5) (u.1 6) u.2.1 (st z0 1 2 2) u.2.2 z0 z0 (fun _ => z0) z0 z0 z0)) (va_A [(o, .inr (6, [.null, .null, .null, .null, .null, .null, .null, .int 0, .int 0, .int 0]))] sz)) 55 7776 (va_A [(o, .inr (6, [.null, .null, .null, .null, .null, .null, .null, .int 0, .int 0, .int 0]))] sz) := by
  refine xMetO D cI cO tA tS (fun A => va_Qv (fun u : ((Nat → Nat → Nat) × (Nat → Nat → Nat) × CS) => u.1 0 0 = o ∧ post u.2.2) (xB D cI cO A (fun u : ((Nat → Nat → Nat) × (Nat → Nat → Nat) × CS) => w6 cI cO (u.1 0) (u.1 1) (u.1 2) (u.1 3) (u.1 4) (u.1 5) (u.1 6) u.2.1 (st z0 1 2 2) u.2.2 z0 z0 (fun _ => z0) z0 z0 z0)) A) (cc := cX6_init) (maxL := 1) (ret := none) (by decide) rfl (Nat.le_of_ble_eq_true rfl) ?_
  intro p e s m below meth c A ls hx hb hr hts hown hlocks hin hml hA hS hP hK hD hE hO hl
  have hown : s.vm.findClass RX6 = some m.cls := hown
  have hin : meth.name = "<init>" := hin
  have hl : lv_has ls 1 [(0, .ref o)] := hl
  refine lv_aload_n hx hb dX6_init_0 rfl (lv_at hl 0 rfl) ?_
  refine W.objInit hx hb hown (hts (.methodLink RX6 1 objectInit) (List.mem_of_getElem? (i := 1) rfl)) (hts (.instanceMethod objectInit) (List.mem_of_getElem? (i := 2) rfl)) (hts _ (List.mem_of_getElem? (i := 3) rfl)) rfl (by rw [hml]; exact hl.1) rfl dX6_init_1 (Nat.le_of_ble_eq_true rfl) (Nat.le_of_ble_eq_true rfl) ?_
  refine W.eq (g2 := F0 m 4 ls []) rfl ?_
  refine lv_aload_n hx hb dX6_init_4 rfl (lv_at hl 0 rfl) ?_
  refine va_new (ci := 5) (fs := [.null, .null, .int 0]) (C := RX5) (T := TX5) (N := 3) hx hb hts jX6_init_X5 tyX5 tyX5_ok hown (hts (.classLink RX6 7 RX5) (List.mem_of_getElem? (i := 4) rfl)) (hts (.instantiable RX5 3) (List.mem_of_getElem? (i := 5) rfl)) (hts (.initialized RX5) (List.mem_of_getElem? (i := 6) rfl)) hK hP hD hS hA rfl (fun j hj => by rcases (show j = 0 ∨ j = 1 ∨ j = 2 by omega) with rfl | rfl | rfl <;> rfl) (Nat.le_of_ble_eq_true rfl) (Nat.le_of_ble_eq_true rfl) dX6_init_5 (fun q5 H hP hD hS => ?_)
  have hP : va_P D vwCl ([(o, .inr (6, [.null, .null, .null, .null, .null, .null, .null, .int 0, .int 0, .int 0]))] ++ ([(q5, .inr (5, [.null, .null, .int 0]))])) H := hP
  have hD : va_D A ([(o, .inr (6, [.null, .null, .null, .null, .null, .null, .null, .int 0, .int 0, .int 0]))] ++ ([(q5, .inr (5, [.null, .null, .int 0]))])) := hD
  refine W.widen (k := 1) (n := 3) (Nat.le_of_ble_eq_true rfl) (Nat.le_of_ble_eq_true rfl) ?_
  refine lv_dup hx hb dX6_init_8 rfl ?_
  refine xcallN (wc := [(q5, .inr (5, [.null, .null, .int 0]))]) (wr := [(o, .inr (6, [.null, .null, .null, .null, .null, .null, .null, .int 0, .int 0, .int 0]))]) (va_runI (As := []) (rest := [.ref q5, .ref o]) ⟨hx, hb, hml, hown, hts⟩ (mX5_init l D cI cO tA tS q5 _ h) (cwI 0 hts gX6_init_X5_init rfl rfl rfl (hts (.initialized RX5) (List.mem_of_getElem? (i := 6) rfl)) (hts (.methodLink RX6 9 yX5_init) (List.mem_of_getElem? (i := 33) rfl)) (hts (.instanceMethod yX5_init) (List.mem_of_getElem? (i := 34) rfl)) rfl (by decide +kernel) ⟨Nat.le_of_ble_eq_true rfl, Nat.le_of_ble_eq_true rfl⟩) (xpreP hP hD hS hA hK hE [1] rfl rfl) rfl rfl hl.1 rfl (lv_room (Nat.le_of_ble_eq_true rfl)) dX6_init_9 ⟨Nat.le_of_ble_eq_true rfl, Nat.le_of_ble_eq_true rfl⟩) hP hD hS hA [1] [0] rfl rfl rfl (by decide) (fun u9 H9 locs9 hw hP9 hD9 hS9 => ?_)
  obtain ⟨hw, hpost⟩ := hw
  subst hw
  have hP : va_P D vwCl ([(o, .inr (6, [.null, .null, .null, .null, .null, .null, .null, .int 0, .int 0, .int 0]))] ++ (wT cI u9.1 u9.2)) H9 := hP9
  have hD : va_D A ([(o, .inr (6, [.null, .null, .null, .null, .null, .null, .null, .int 0, .int 0, .int 0]))] ++ (wT cI u9.1 u9.2)) := hD9
  have hS := hS9
  refine W.widen (k := 3) (n := 4559) (Nat.le_of_ble_eq_true rfl) (Nat.le_of_ble_eq_true rfl) ?_
  refine va_putF (D := D) (ci := 6) (v := .ref (u9.1 0)) (ty := .object "BrotherAutomata$SmallTrees") (C := RX6) (T := TX6) (N := 10) hx hb hts jX6_init_X6 tyX6 tyX6_ok nmX6 hown hK hP hD hS 0 rfl rfl 0 (by decide) (hts (.fieldLink RX6 10 "BrotherAutomata" "trees" "LBrotherAutomata$SmallTrees;") (List.mem_of_getElem? (i := 7) rfl)) (fun _ h9 => h9) rfl hin rfl (by decide +kernel) rfl rfl (Nat.le_of_ble_eq_true rfl) dX6_init_12 (fun H locs hP hD hS => ?_)
  have hP : va_P D vwCl ([(o, .inr (6, [.ref (u9.1 0), .null, .null, .null, .null, .null, .null, .int 0, .int 0, .int 0]))] ++ (wT cI u9.1 u9.2)) H := hP
  have hD : va_D A ([(o, .inr (6, [.ref (u9.1 0), .null, .null, .null, .null, .null, .null, .int 0, .int 0, .int 0]))] ++ (wT cI u9.1 u9.2)) := hD
  refine lv_aload_n hx hb dX6_init_15 rfl (lv_at hl 0 rfl) ?_
  refine va_new (ci := 2) (fs := [.null, .null, .null, .null, .null, .int 0, .int 0]) (C := RX2) (T := TX2) (N := 7) hx hb hts jX6_init_X2 tyX2 tyX2_ok hown (hts (.classLink RX6 16 RX2) (List.mem_of_getElem? (i := 8) rfl)) (hts (.instantiable RX2 7) (List.mem_of_getElem? (i := 9) rfl)) (hts (.initialized RX2) (List.mem_of_getElem? (i := 10) rfl)) hK hP hD hS hA rfl (fun j hj => by rcases (show j = 0 ∨ j = 1 ∨ j = 2 ∨ j = 3 ∨ j = 4 ∨ j = 5 ∨ j = 6 by omega) with rfl | rfl | rfl | rfl | rfl | rfl | rfl <;> rfl) (Nat.le_of_ble_eq_true rfl) (Nat.le_of_ble_eq_true rfl) dX6_init_16 (fun q16 H hP hD hS => ?_)
  have hP : va_P D vwCl ([(o, .inr (6, [.ref (u9.1 0), .null, .null, .null, .null, .null, .null, .int 0, .int 0, .int 0]))] ++ (wT cI u9.1 u9.2 ++ ([(q16, .inr (2, [.null, .null, .null, .null, .null, .int 0, .int 0]))]))) H := hP
  have hD : va_D A ([(o, .inr (6, [.ref (u9.1 0), .null, .null, .null, .null, .null, .null, .int 0, .int 0, .int 0]))] ++ (wT cI u9.1 u9.2 ++ ([(q16, .inr (2, [.null, .null, .null, .null, .null, .int 0, .int 0]))]))) := hD
  refine W.widen (k := 4) (n := 4566) (Nat.le_of_ble_eq_true rfl) (Nat.le_of_ble_eq_true rfl) ?_
  refine lv_dup hx hb dX6_init_19 rfl ?_
  refine xcallN (wc := [(q16, .inr (2, [.null, .null, .null, .null, .null, .int 0, .int 0]))]) (wr := [(o, .inr (6, [.ref (u9.1 0), .null, .null, .null, .null, .null, .null, .int 0, .int 0, .int 0]))] ++ (wT cI u9.1 u9.2)) (va_runI (As := []) (rest := [.ref q16, .ref o]) ⟨hx, hb, hml, hown, hts⟩ (mX2_init l D cI cO tA tS q16 _) (cwI 0 hts gX6_init_X2_init rfl rfl rfl (hts (.initialized RX2) (List.mem_of_getElem? (i := 10) rfl)) (hts (.methodLink RX6 18 yX2_init) (List.mem_of_getElem? (i := 63) rfl)) (hts (.instanceMethod yX2_init) (List.mem_of_getElem? (i := 64) rfl)) rfl (by decide +kernel) ⟨Nat.le_of_ble_eq_true rfl, Nat.le_of_ble_eq_true rfl⟩) (xpreP hP hD hS hA hK hE [4] rfl rfl) rfl rfl hl.1 rfl (lv_room (Nat.le_of_ble_eq_true rfl)) dX6_init_20 ⟨Nat.le_of_ble_eq_true rfl, Nat.le_of_ble_eq_true rfl⟩) hP hD hS hA [4] [0, 1, 2, 3] rfl rfl rfl (by decide) (fun u20 H9 locs9 hw hP9 hD9 hS9 => ?_)
  subst hw
  have hP : va_P D vwCl ([(o, .inr (6, [.ref (u9.1 0), .null, .null, .null, .null, .null, .null, .int 0, .int 0, .int 0]))] ++ (wT cI u9.1 u9.2 ++ (wB cI u20 z0))) H9 := hP9
  have hD : va_D A ([(o, .inr (6, [.ref (u9.1 0), .null, .null, .null, .null, .null, .null, .int 0, .int 0, .int 0]))] ++ (wT cI u9.1 u9.2 ++ (wB cI u20 z0))) := hD9
  have hS := hS9
  refine W.widen (k := 9) (n := 4646) (Nat.le_of_ble_eq_true rfl) (Nat.le_of_ble_eq_true rfl) ?_
  refine va_putF (D := D) (ci := 6) (v := .ref (u20 0)) (ty := .object "BrotherAutomata$RuleBook") (C := RX6) (T := TX6) (N := 10) hx hb hts jX6_init_X6 tyX6 tyX6_ok nmX6 hown hK hP hD hS 0 rfl rfl 1 (by decide) (hts (.fieldLink RX6 19 "BrotherAutomata" "book" "LBrotherAutomata$RuleBook;") (List.mem_of_getElem? (i := 11) rfl)) (fun _ h9 => h9) rfl hin rfl (by decide +kernel) rfl rfl (Nat.le_of_ble_eq_true rfl) dX6_init_23 (fun H locs hP hD hS => ?_)
  have hP : va_P D vwCl ([(o, .inr (6, [.ref (u9.1 0), .ref (u20 0), .null, .null, .null, .null, .null, .int 0, .int 0, .int 0]))] ++ (wT cI u9.1 u9.2 ++ (wB cI u20 z0))) H := hP
  have hD : va_D A ([(o, .inr (6, [.ref (u9.1 0), .ref (u20 0), .null, .null, .null, .null, .null, .int 0, .int 0, .int 0]))] ++ (wT cI u9.1 u9.2 ++ (wB cI u20 z0))) := hD
  refine lv_aload_n hx hb dX6_init_26 rfl (lv_at hl 0 rfl) ?_
  refine va_new (ci := 1) (fs := [.null, .int 0, .int 0]) (C := RX1) (T := TX1) (N := 3) hx hb hts jX6_init_X1 tyX1 tyX1_ok hown (hts (.classLink RX6 23 RX1) (List.mem_of_getElem? (i := 12) rfl)) (hts (.instantiable RX1 3) (List.mem_of_getElem? (i := 13) rfl)) (hts (.initialized RX1) (List.mem_of_getElem? (i := 14) rfl)) hK hP hD hS hA rfl (fun j hj => by rcases (show j = 0 ∨ j = 1 ∨ j = 2 by omega) with rfl | rfl | rfl <;> rfl) (Nat.le_of_ble_eq_true rfl) (Nat.le_of_ble_eq_true rfl) dX6_init_27 (fun q27 H hP hD hS => ?_)
  have hP : va_P D vwCl ([(o, .inr (6, [.ref (u9.1 0), .ref (u20 0), .null, .null, .null, .null, .null, .int 0, .int 0, .int 0]))] ++ (wT cI u9.1 u9.2 ++ (wB cI u20 z0 ++ ([(q27, .inr (1, [.null, .int 0, .int 0]))])))) H := hP
  have hD : va_D A ([(o, .inr (6, [.ref (u9.1 0), .ref (u20 0), .null, .null, .null, .null, .null, .int 0, .int 0, .int 0]))] ++ (wT cI u9.1 u9.2 ++ (wB cI u20 z0 ++ ([(q27, .inr (1, [.null, .int 0, .int 0]))])))) := hD
  refine W.widen (k := 10) (n := 4649) (Nat.le_of_ble_eq_true rfl) (Nat.le_of_ble_eq_true rfl) ?_
  refine lv_dup hx hb dX6_init_30 rfl ?_
  refine xcallN (wc := [(q27, .inr (1, [.null, .int 0, .int 0]))]) (wr := [(o, .inr (6, [.ref (u9.1 0), .ref (u20 0), .null, .null, .null, .null, .null, .int 0, .int 0, .int 0]))] ++ (wT cI u9.1 u9.2 ++ (wB cI u20 z0))) (va_runI (As := []) (rest := [.ref q27, .ref o]) ⟨hx, hb, hml, hown, hts⟩ (mX1_init l D cI cO tA tS q27 _) (cwI 0 hts gX6_init_X1_init rfl rfl rfl (hts (.initialized RX1) (List.mem_of_getElem? (i := 14) rfl)) (hts (.methodLink RX6 25 yX1_init) (List.mem_of_getElem? (i := 74) rfl)) (hts (.instanceMethod yX1_init) (List.mem_of_getElem? (i := 75) rfl)) rfl (by decide +kernel) ⟨Nat.le_of_ble_eq_true rfl, Nat.le_of_ble_eq_true rfl⟩) (xpreO hO hP hD hS hA hK hE [10] rfl rfl) rfl rfl hl.1 rfl (lv_room (Nat.le_of_ble_eq_true rfl)) dX6_init_31 ⟨Nat.le_of_ble_eq_true rfl, Nat.le_of_ble_eq_true rfl⟩) hP hD hS hA [10] [0, 1, 2, 3, 4, 5, 6, 7, 8, 9] rfl rfl rfl (by decide) (fun u31 H9 locs9 hw hP9 hD9 hS9 => ?_)
  subst hw
  have hP : va_P D vwCl ([(o, .inr (6, [.ref (u9.1 0), .ref (u20 0), .null, .null, .null, .null, .null, .int 0, .int 0, .int 0]))] ++ (wT cI u9.1 u9.2 ++ (wB cI u20 z0 ++ ((wH cO u31.1 u31.2 z0 ++ wR cI u31.2 (fun _ => z0)))))) H9 := hP9
  have hD : va_D A ([(o, .inr (6, [.ref (u9.1 0), .ref (u20 0), .null, .null, .null, .null, .null, .int 0, .int 0, .int 0]))] ++ (wT cI u9.1 u9.2 ++ (wB cI u20 z0 ++ ((wH cO u31.1 u31.2 z0 ++ wR cI u31.2 (fun _ => z0)))))) := hD9
  have hS := hS9
  refine W.widen (k := 41) (n := 5089) (Nat.le_of_ble_eq_true rfl) (Nat.le_of_ble_eq_true rfl) ?_
  refine va_putF (D := D) (ci := 6) (v := .ref (u31.1 0)) (ty := .object "BrotherAutomata$History") (C := RX6) (T := TX6) (N := 10) hx hb hts jX6_init_X6 tyX6 tyX6_ok nmX6 hown hK hP hD hS 0 rfl rfl 2 (by decide) (hts (.fieldLink RX6 26 "BrotherAutomata" "history" "LBrotherAutomata$History;") (List.mem_of_getElem? (i := 15) rfl)) (fun _ h9 => h9) rfl hin rfl (by decide +kernel) rfl rfl (Nat.le_of_ble_eq_true rfl) dX6_init_34 (fun H locs hP hD hS => ?_)
  have hP : va_P D vwCl ([(o, .inr (6, [.ref (u9.1 0), .ref (u20 0), .ref (u31.1 0), .null, .null, .null, .null, .int 0, .int 0, .int 0]))] ++ (wT cI u9.1 u9.2 ++ (wB cI u20 z0 ++ ((wH cO u31.1 u31.2 z0 ++ wR cI u31.2 (fun _ => z0)))))) H := hP
  have hD : va_D A ([(o, .inr (6, [.ref (u9.1 0), .ref (u20 0), .ref (u31.1 0), .null, .null, .null, .null, .int 0, .int 0, .int 0]))] ++ (wT cI u9.1 u9.2 ++ (wB cI u20 z0 ++ ((wH cO u31.1 u31.2 z0 ++ wR cI u31.2 (fun _ => z0)))))) := hD
  refine lv_aload_n hx hb dX6_init_37 rfl (lv_at hl 0 rfl) ?_
  refine va_new (ci := 3) (fs := [.null, .null, .null, .null, .int 0, .int 0]) (C := RX3) (T := TX3) (N := 6) hx hb hts jX6_init_X3 tyX3 tyX3_ok hown (hts (.classLink RX6 30 RX3) (List.mem_of_getElem? (i := 16) rfl)) (hts (.instantiable RX3 6) (List.mem_of_getElem? (i := 17) rfl)) (hts (.initialized RX3) (List.mem_of_getElem? (i := 18) rfl)) hK hP hD hS hA rfl (fun j hj => by rcases (show j = 0 ∨ j = 1 ∨ j = 2 ∨ j = 3 ∨ j = 4 ∨ j = 5 by omega) with rfl | rfl | rfl | rfl | rfl | rfl <;> rfl) (Nat.le_of_ble_eq_true rfl) (Nat.le_of_ble_eq_true rfl) dX6_init_38 (fun q38 H hP hD hS => ?_)
  have hP : va_P D vwCl ([(o, .inr (6, [.ref (u9.1 0), .ref (u20 0), .ref (u31.1 0), .null, .null, .null, .null, .int 0, .int 0, .int 0]))] ++ (wT cI u9.1 u9.2 ++ (wB cI u20 z0 ++ ((wH cO u31.1 u31.2 z0 ++ wR cI u31.2 (fun _ => z0)) ++ ([(q38, .inr (3, [.null, .null, .null, .null, .int 0, .int 0]))]))))) H := hP
  have hD : va_D A ([(o, .inr (6, [.ref (u9.1 0), .ref (u20 0), .ref (u31.1 0), .null, .null, .null, .null, .int 0, .int 0, .int 0]))] ++ (wT cI u9.1 u9.2 ++ (wB cI u20 z0 ++ ((wH cO u31.1 u31.2 z0 ++ wR cI u31.2 (fun _ => z0)) ++ ([(q38, .inr (3, [.null, .null, .null, .null, .int 0, .int 0]))]))))) := hD
  refine W.widen (k := 42) (n := 5095) (Nat.le_of_ble_eq_true rfl) (Nat.le_of_ble_eq_true rfl) ?_
  refine lv_dup hx hb dX6_init_41 rfl ?_
  refine xcallN (wc := [(q38, .inr (3, [.null, .null, .null, .null, .int 0, .int 0]))]) (wr := [(o, .inr (6, [.ref (u9.1 0), .ref (u20 0), .ref (u31.1 0), .null, .null, .null, .null, .int 0, .int 0, .int 0]))] ++ (wT cI u9.1 u9.2 ++ (wB cI u20 z0 ++ ((wH cO u31.1 u31.2 z0 ++ wR cI u31.2 (fun _ => z0)))))) (va_runI (As := []) (rest := [.ref q38, .ref o]) ⟨hx, hb, hml, hown, hts⟩ (mX3_init l D cI cO tA tS q38 _) (cwI 0 hts gX6_init_X3_init rfl rfl rfl (hts (.initialized RX3) (List.mem_of_getElem? (i := 18) rfl)) (hts (.methodLink RX6 32 yX3_init) (List.mem_of_getElem? (i := 83) rfl)) (hts (.instanceMethod yX3_init) (List.mem_of_getElem? (i := 84) rfl)) rfl (by decide +kernel) ⟨Nat.le_of_ble_eq_true rfl, Nat.le_of_ble_eq_true rfl⟩) (xpreP hP hD hS hA hK hE [42] rfl rfl) rfl rfl hl.1 rfl (lv_room (Nat.le_of_ble_eq_true rfl)) dX6_init_42 ⟨Nat.le_of_ble_eq_true rfl, Nat.le_of_ble_eq_true rfl⟩) hP hD hS hA [42] [0, 1, 2, 3, 4, 5, 6, 7, 8, 9, 10, 11, 12, 13, 14, 15, 16, 17, 18, 19, 20, 21, 22, 23, 24, 25, 26, 27, 28, 29, 30, 31, 32, 33, 34, 35, 36, 37, 38, 39, 40, 41] rfl rfl rfl (by decide) (fun u42 H9 locs9 hw hP9 hD9 hS9 => ?_)
  subst hw
  have hP : va_P D vwCl ([(o, .inr (6, [.ref (u9.1 0), .ref (u20 0), .ref (u31.1 0), .null, .null, .null, .null, .int 0, .int 0, .int 0]))] ++ (wT cI u9.1 u9.2 ++ (wB cI u20 z0 ++ ((wH cO u31.1 u31.2 z0 ++ wR cI u31.2 (fun _ => z0)) ++ (wM cI u42 z0))))) H9 := hP9
  have hD : va_D A ([(o, .inr (6, [.ref (u9.1 0), .ref (u20 0), .ref (u31.1 0), .null, .null, .null, .null, .int 0, .int 0, .int 0]))] ++ (wT cI u9.1 u9.2 ++ (wB cI u20 z0 ++ ((wH cO u31.1 u31.2 z0 ++ wR cI u31.2 (fun _ => z0)) ++ (wM cI u42 z0))))) := hD9
  have hS := hS9
  refine W.widen (k := 46) (n := 5244) (Nat.le_of_ble_eq_true rfl) (Nat.le_of_ble_eq_true rfl) ?_
  refine va_putF (D := D) (ci := 6) (v := .ref (u42 0)) (ty := .object "BrotherAutomata$RuleMasks") (C := RX6) (T := TX6) (N := 10) hx hb hts jX6_init_X6 tyX6 tyX6_ok nmX6 hown hK hP hD hS 0 rfl rfl 3 (by decide) (hts (.fieldLink RX6 33 "BrotherAutomata" "masks" "LBrotherAutomata$RuleMasks;") (List.mem_of_getElem? (i := 19) rfl)) (fun _ h9 => h9) rfl hin rfl (by decide +kernel) rfl rfl (Nat.le_of_ble_eq_true rfl) dX6_init_45 (fun H locs hP hD hS => ?_)
  have hP : va_P D vwCl ([(o, .inr (6, [.ref (u9.1 0), .ref (u20 0), .ref (u31.1 0), .ref (u42 0), .null, .null, .null, .int 0, .int 0, .int 0]))] ++ (wT cI u9.1 u9.2 ++ (wB cI u20 z0 ++ ((wH cO u31.1 u31.2 z0 ++ wR cI u31.2 (fun _ => z0)) ++ (wM cI u42 z0))))) H := hP
  have hD : va_D A ([(o, .inr (6, [.ref (u9.1 0), .ref (u20 0), .ref (u31.1 0), .ref (u42 0), .null, .null, .null, .int 0, .int 0, .int 0]))] ++ (wT cI u9.1 u9.2 ++ (wB cI u20 z0 ++ ((wH cO u31.1 u31.2 z0 ++ wR cI u31.2 (fun _ => z0)) ++ (wM cI u42 z0))))) := hD
  refine lv_aload_n hx hb dX6_init_48 rfl (lv_at hl 0 rfl) ?_
  refine va_new (ci := 4) (fs := [.null, .null, .null]) (C := RX4) (T := TX4) (N := 3) hx hb hts jX6_init_X4 tyX4 tyX4_ok hown (hts (.classLink RX6 37 RX4) (List.mem_of_getElem? (i := 20) rfl)) (hts (.instantiable RX4 3) (List.mem_of_getElem? (i := 21) rfl)) (hts (.initialized RX4) (List.mem_of_getElem? (i := 22) rfl)) hK hP hD hS hA rfl (fun j hj => by rcases (show j = 0 ∨ j = 1 ∨ j = 2 by omega) with rfl | rfl | rfl <;> rfl) (Nat.le_of_ble_eq_true rfl) (Nat.le_of_ble_eq_true rfl) dX6_init_49 (fun q49 H hP hD hS => ?_)
  have hP : va_P D vwCl ([(o, .inr (6, [.ref (u9.1 0), .ref (u20 0), .ref (u31.1 0), .ref (u42 0), .null, .null, .null, .int 0, .int 0, .int 0]))] ++ (wT cI u9.1 u9.2 ++ (wB cI u20 z0 ++ ((wH cO u31.1 u31.2 z0 ++ wR cI u31.2 (fun _ => z0)) ++ (wM cI u42 z0 ++ ([(q49, .inr (4, [.null, .null, .null]))])))))) H := hP
  have hD : va_D A ([(o, .inr (6, [.ref (u9.1 0), .ref (u20 0), .ref (u31.1 0), .ref (u42 0), .null, .null, .null, .int 0, .int 0, .int 0]))] ++ (wT cI u9.1 u9.2 ++ (wB cI u20 z0 ++ ((wH cO u31.1 u31.2 z0 ++ wR cI u31.2 (fun _ => z0)) ++ (wM cI u42 z0 ++ ([(q49, .inr (4, [.null, .null, .null]))])))))) := hD
  refine W.widen (k := 47) (n := 5247) (Nat.le_of_ble_eq_true rfl) (Nat.le_of_ble_eq_true rfl) ?_
  refine lv_dup hx hb dX6_init_52 rfl ?_
  refine xcallN (wc := [(q49, .inr (4, [.null, .null, .null]))]) (wr := [(o, .inr (6, [.ref (u9.1 0), .ref (u20 0), .ref (u31.1 0), .ref (u42 0), .null, .null, .null, .int 0, .int 0, .int 0]))] ++ (wT cI u9.1 u9.2 ++ (wB cI u20 z0 ++ ((wH cO u31.1 u31.2 z0 ++ wR cI u31.2 (fun _ => z0)) ++ (wM cI u42 z0))))) (va_runI (As := []) (rest := [.ref q49, .ref o]) ⟨hx, hb, hml, hown, hts⟩ (mX4_init l D cI cO tA tS q49 _) (cwI 0 hts gX6_init_X4_init rfl rfl rfl (hts (.initialized RX4) (List.mem_of_getElem? (i := 22) rfl)) (hts (.methodLink RX6 39 yX4_init) (List.mem_of_getElem? (i := 93) rfl)) (hts (.instanceMethod yX4_init) (List.mem_of_getElem? (i := 94) rfl)) rfl (by decide +kernel) ⟨Nat.le_of_ble_eq_true rfl, Nat.le_of_ble_eq_true rfl⟩) (xpreP hP hD hS hA hK hE [47] rfl rfl) rfl rfl hl.1 rfl (lv_room (Nat.le_of_ble_eq_true rfl)) dX6_init_53 ⟨Nat.le_of_ble_eq_true rfl, Nat.le_of_ble_eq_true rfl⟩) hP hD hS hA [47] [0, 1, 2, 3, 4, 5, 6, 7, 8, 9, 10, 11, 12, 13, 14, 15, 16, 17, 18, 19, 20, 21, 22, 23, 24, 25, 26, 27, 28, 29, 30, 31, 32, 33, 34, 35, 36, 37, 38, 39, 40, 41, 42, 43, 44, 45, 46] rfl rfl rfl (by decide) (fun u53 H9 locs9 hw hP9 hD9 hS9 => ?_)
  subst hw
  have hP : va_P D vwCl ([(o, .inr (6, [.ref (u9.1 0), .ref (u20 0), .ref (u31.1 0), .ref (u42 0), .null, .null, .null, .int 0, .int 0, .int 0]))] ++ (wT cI u9.1 u9.2 ++ (wB cI u20 z0 ++ ((wH cO u31.1 u31.2 z0 ++ wR cI u31.2 (fun _ => z0)) ++ (wM cI u42 z0 ++ (wC cI u53 z0)))))) H9 := hP9
  have hD : va_D A ([(o, .inr (6, [.ref (u9.1 0), .ref (u20 0), .ref (u31.1 0), .ref (u42 0), .null, .null, .null, .int 0, .int 0, .int 0]))] ++ (wT cI u9.1 u9.2 ++ (wB cI u20 z0 ++ ((wH cO u31.1 u31.2 z0 ++ wR cI u31.2 (fun _ => z0)) ++ (wM cI u42 z0 ++ (wC cI u53 z0)))))) := hD9
  have hS := hS9
  refine W.widen (k := 50) (n := 5303) (Nat.le_of_ble_eq_true rfl) (Nat.le_of_ble_eq_true rfl) ?_
  refine va_putF (D := D) (ci := 6) (v := .ref (u53 0)) (ty := .object "BrotherAutomata$RunCounter") (C := RX6) (T := TX6) (N := 10) hx hb hts jX6_init_X6 tyX6 tyX6_ok nmX6 hown hK hP hD hS 0 rfl rfl 4 (by decide) (hts (.fieldLink RX6 40 "BrotherAutomata" "runCounter" "LBrotherAutomata$RunCounter;") (List.mem_of_getElem? (i := 23) rfl)) (fun _ h9 => h9) rfl hin rfl (by decide +kernel) rfl rfl (Nat.le_of_ble_eq_true rfl) dX6_init_56 (fun H locs hP hD hS => ?_)
  have hP : va_P D vwCl ([(o, .inr (6, [.ref (u9.1 0), .ref (u20 0), .ref (u31.1 0), .ref (u42 0), .ref (u53 0), .null, .null, .int 0, .int 0, .int 0]))] ++ (wT cI u9.1 u9.2 ++ (wB cI u20 z0 ++ ((wH cO u31.1 u31.2 z0 ++ wR cI u31.2 (fun _ => z0)) ++ (wM cI u42 z0 ++ (wC cI u53 z0)))))) H := hP
  have hD : va_D A ([(o, .inr (6, [.ref (u9.1 0), .ref (u20 0), .ref (u31.1 0), .ref (u42 0), .ref (u53 0), .null, .null, .int 0, .int 0, .int 0]))] ++ (wT cI u9.1 u9.2 ++ (wB cI u20 z0 ++ ((wH cO u31.1 u31.2 z0 ++ wR cI u31.2 (fun _ => z0)) ++ (wM cI u42 z0 ++ (wC cI u53 z0)))))) := hD
  refine lv_aload_n hx hb dX6_init_59 rfl (lv_at hl 0 rfl) ?_
  refine va_new (ci := 0) (fs := [.null, .null, .null]) (C := RX0) (T := TX0) (N := 3) hx hb hts jX6_init_X0 tyX0 tyX0_ok hown (hts (.classLink RX6 44 RX0) (List.mem_of_getElem? (i := 24) rfl)) (hts (.instantiable RX0 3) (List.mem_of_getElem? (i := 25) rfl)) (hts (.initialized RX0) (List.mem_of_getElem? (i := 26) rfl)) hK hP hD hS hA rfl (fun j hj => by rcases (show j = 0 ∨ j = 1 ∨ j = 2 by omega) with rfl | rfl | rfl <;> rfl) (Nat.le_of_ble_eq_true rfl) (Nat.le_of_ble_eq_true rfl) dX6_init_60 (fun q60 H hP hD hS => ?_)
  have hP : va_P D vwCl ([(o, .inr (6, [.ref (u9.1 0), .ref (u20 0), .ref (u31.1 0), .ref (u42 0), .ref (u53 0), .null, .null, .int 0, .int 0, .int 0]))] ++ (wT cI u9.1 u9.2 ++ (wB cI u20 z0 ++ ((wH cO u31.1 u31.2 z0 ++ wR cI u31.2 (fun _ => z0)) ++ (wM cI u42 z0 ++ (wC cI u53 z0 ++ ([(q60, .inr (0, [.null, .null, .null]))]))))))) H := hP
  have hD : va_D A ([(o, .inr (6, [.ref (u9.1 0), .ref (u20 0), .ref (u31.1 0), .ref (u42 0), .ref (u53 0), .null, .null, .int 0, .int 0, .int 0]))] ++ (wT cI u9.1 u9.2 ++ (wB cI u20 z0 ++ ((wH cO u31.1 u31.2 z0 ++ wR cI u31.2 (fun _ => z0)) ++ (wM cI u42 z0 ++ (wC cI u53 z0 ++ ([(q60, .inr (0, [.null, .null, .null]))]))))))) := hD
  refine W.widen (k := 51) (n := 5306) (Nat.le_of_ble_eq_true rfl) (Nat.le_of_ble_eq_true rfl) ?_
  refine lv_dup hx hb dX6_init_63 rfl ?_
  refine xcallN (wc := [(q60, .inr (0, [.null, .null, .null]))]) (wr := [(o, .inr (6, [.ref (u9.1 0), .ref (u20 0), .ref (u31.1 0), .ref (u42 0), .ref (u53 0), .null, .null, .int 0, .int 0, .int 0]))] ++ (wT cI u9.1 u9.2 ++ (wB cI u20 z0 ++ ((wH cO u31.1 u31.2 z0 ++ wR cI u31.2 (fun _ => z0)) ++ (wM cI u42 z0 ++ (wC cI u53 z0)))))) (va_runI (As := []) (rest := [.ref q60, .ref o]) ⟨hx, hb, hml, hown, hts⟩ (mX0_init l D cI cO tA tS q60 _) (cwI 0 hts gX6_init_X0_init rfl rfl rfl (hts (.initialized RX0) (List.mem_of_getElem? (i := 26) rfl)) (hts (.methodLink RX6 46 yX0_init) (List.mem_of_getElem? (i := 100) rfl)) (hts (.instanceMethod yX0_init) (List.mem_of_getElem? (i := 101) rfl)) rfl (by decide +kernel) ⟨Nat.le_of_ble_eq_true rfl, Nat.le_of_ble_eq_true rfl⟩) (xpreP hP hD hS hA hK hE [51] rfl rfl) rfl rfl hl.1 rfl (lv_room (Nat.le_of_ble_eq_true rfl)) dX6_init_64 ⟨Nat.le_of_ble_eq_true rfl, Nat.le_of_ble_eq_true rfl⟩) hP hD hS hA [51] [0, 1, 2, 3, 4, 5, 6, 7, 8, 9, 10, 11, 12, 13, 14, 15, 16, 17, 18, 19, 20, 21, 22, 23, 24, 25, 26, 27, 28, 29, 30, 31, 32, 33, 34, 35, 36, 37, 38, 39, 40, 41, 42, 43, 44, 45, 46, 47, 48, 49, 50] rfl rfl rfl (by decide) (fun u64 H9 locs9 hw hP9 hD9 hS9 => ?_)
  subst hw
  have hP : va_P D vwCl ([(o, .inr (6, [.ref (u9.1 0), .ref (u20 0), .ref (u31.1 0), .ref (u42 0), .ref (u53 0), .null, .null, .int 0, .int 0, .int 0]))] ++ (wT cI u9.1 u9.2 ++ (wB cI u20 z0 ++ ((wH cO u31.1 u31.2 z0 ++ wR cI u31.2 (fun _ => z0)) ++ (wM cI u42 z0 ++ (wC cI u53 z0 ++ (wZ cI u64 z0))))))) H9 := hP9
  have hD : va_D A ([(o, .inr (6, [.ref (u9.1 0), .ref (u20 0), .ref (u31.1 0), .ref (u42 0), .ref (u53 0), .null, .null, .int 0, .int 0, .int 0]))] ++ (wT cI u9.1 u9.2 ++ (wB cI u20 z0 ++ ((wH cO u31.1 u31.2 z0 ++ wR cI u31.2 (fun _ => z0)) ++ (wM cI u42 z0 ++ (wC cI u53 z0 ++ (wZ cI u64 z0))))))) := hD9
  have hS := hS9
  refine W.widen (k := 54) (n := 5498) (Nat.le_of_ble_eq_true rfl) (Nat.le_of_ble_eq_true rfl) ?_
  refine va_putF (D := D) (ci := 6) (v := .ref (u64 0)) (ty := .object "BrotherAutomata$Census") (C := RX6) (T := TX6) (N := 10) hx hb hts jX6_init_X6 tyX6 tyX6_ok nmX6 hown hK hP hD hS 0 rfl rfl 5 (by decide) (hts (.fieldLink RX6 47 "BrotherAutomata" "census" "LBrotherAutomata$Census;") (List.mem_of_getElem? (i := 27) rfl)) (fun _ h9 => h9) rfl hin rfl (by decide +kernel) rfl rfl (Nat.le_of_ble_eq_true rfl) dX6_init_67 (fun H locs hP hD hS => ?_)
  have hP : va_P D vwCl ([(o, .inr (6, [.ref (u9.1 0), .ref (u20 0), .ref (u31.1 0), .ref (u42 0), .ref (u53 0), .ref (u64 0), .null, .int 0, .int 0, .int 0]))] ++ (wT cI u9.1 u9.2 ++ (wB cI u20 z0 ++ ((wH cO u31.1 u31.2 z0 ++ wR cI u31.2 (fun _ => z0)) ++ (wM cI u42 z0 ++ (wC cI u53 z0 ++ (wZ cI u64 z0))))))) H := hP
  have hD : va_D A ([(o, .inr (6, [.ref (u9.1 0), .ref (u20 0), .ref (u31.1 0), .ref (u42 0), .ref (u53 0), .ref (u64 0), .null, .int 0, .int 0, .int 0]))] ++ (wT cI u9.1 u9.2 ++ (wB cI u20 z0 ++ ((wH cO u31.1 u31.2 z0 ++ wR cI u31.2 (fun _ => z0)) ++ (wM cI u42 z0 ++ (wC cI u53 z0 ++ (wZ cI u64 z0))))))) := hD
  refine lv_aload_n hx hb dX6_init_70 rfl (lv_at hl 0 rfl) ?_
  refine lv_sipush (v := 2278) hx hb dX6_init_71 (by decide) ?_
  refine xnewa (N' := 2278) hx hb (hts (.arrayClass .int) (List.mem_of_getElem? (i := 28) rfl)) hK hP hD hS hA (by decide) rfl (Nat.le_of_ble_eq_true rfl) (Nat.le_of_ble_eq_true rfl) (Nat.le_of_ble_eq_true rfl) dX6_init_74 (fun q74 H hP hD hS => ?_)
  have hP : va_P D vwCl ([(o, .inr (6, [.ref (u9.1 0), .ref (u20 0), .ref (u31.1 0), .ref (u42 0), .ref (u53 0), .ref (u64 0), .null, .int 0, .int 0, .int 0]))] ++ (wT cI u9.1 u9.2 ++ (wB cI u20 z0 ++ ((wH cO u31.1 u31.2 z0 ++ wR cI u31.2 (fun _ => z0)) ++ (wM cI u42 z0 ++ (wC cI u53 z0 ++ (wZ cI u64 z0 ++ ([(q74, .inl (cI, 2278, .inl (fun _ => 0)))])))))))) H := hP
  have hD : va_D A ([(o, .inr (6, [.ref (u9.1 0), .ref (u20 0), .ref (u31.1 0), .ref (u42 0), .ref (u53 0), .ref (u64 0), .null, .int 0, .int 0, .int 0]))] ++ (wT cI u9.1 u9.2 ++ (wB cI u20 z0 ++ ((wH cO u31.1 u31.2 z0 ++ wR cI u31.2 (fun _ => z0)) ++ (wM cI u42 z0 ++ (wC cI u53 z0 ++ (wZ cI u64 z0 ++ ([(q74, .inl (cI, 2278, .inl (fun _ => 0)))])))))))) := hD
  refine W.widen (k := 55) (n := 7776) (Nat.le_of_ble_eq_true rfl) (Nat.le_of_ble_eq_true rfl) ?_
  refine va_putF (D := D) (ci := 6) (v := .ref q74) (ty := .array .int) (C := RX6) (T := TX6) (N := 10) hx hb hts jX6_init_X6 tyX6 tyX6_ok nmX6 hown hK hP hD hS 0 rfl rfl 6 (by decide) (hts (.fieldLink RX6 51 "BrotherAutomata" "subsets" "[I") (List.mem_of_getElem? (i := 29) rfl)) (fun _ h9 => h9) rfl hin rfl (by decide +kernel) rfl rfl (Nat.le_of_ble_eq_true rfl) dX6_init_76 (fun H locs hP hD hS => ?_)
  have hP : va_P D vwCl ([(o, .inr (6, [.ref (u9.1 0), .ref (u20 0), .ref (u31.1 0), .ref (u42 0), .ref (u53 0), .ref (u64 0), .ref q74, .int 0, .int 0, .int 0]))] ++ (wT cI u9.1 u9.2 ++ (wB cI u20 z0 ++ ((wH cO u31.1 u31.2 z0 ++ wR cI u31.2 (fun _ => z0)) ++ (wM cI u42 z0 ++ (wC cI u53 z0 ++ (wZ cI u64 z0 ++ ([(q74, .inl (cI, 2278, .inl (fun _ => 0)))])))))))) H := hP
  have hD : va_D A ([(o, .inr (6, [.ref (u9.1 0), .ref (u20 0), .ref (u31.1 0), .ref (u42 0), .ref (u53 0), .ref (u64 0), .ref q74, .int 0, .int 0, .int 0]))] ++ (wT cI u9.1 u9.2 ++ (wB cI u20 z0 ++ ((wH cO u31.1 u31.2 z0 ++ wR cI u31.2 (fun _ => z0)) ++ (wM cI u42 z0 ++ (wC cI u53 z0 ++ (wZ cI u64 z0 ++ ([(q74, .inl (cI, 2278, .inl (fun _ => 0)))])))))))) := hD
  refine lv_aload_n hx hb dX6_init_79 rfl (lv_at hl 0 rfl) ?_
  refine lv_iconst (v := 0) hx hb dX6_init_80 (by decide) ?_
  refine va_put (D := D) (ci := 6) (v := .int 0) (ty := .int) (C := RX6) (T := TX6) (N := 10) hx hb hts jX6_init_X6 tyX6 tyX6_ok nmX6 hown hK hP hD hS 0 rfl rfl 7 (by decide) (hts (.fieldLink RX6 55 "BrotherAutomata" "subsetsKnown" "I") (List.mem_of_getElem? (i := 30) rfl)) (fun _ h9 => h9) rfl (by decide +kernel) rfl rfl (Nat.le_of_ble_eq_true rfl) dX6_init_81 (fun H locs hP hD hS => ?_)
  have hP : va_P D vwCl ([(o, .inr (6, [.ref (u9.1 0), .ref (u20 0), .ref (u31.1 0), .ref (u42 0), .ref (u53 0), .ref (u64 0), .ref q74, .int 0, .int 0, .int 0]))] ++ (wT cI u9.1 u9.2 ++ (wB cI u20 z0 ++ ((wH cO u31.1 u31.2 z0 ++ wR cI u31.2 (fun _ => z0)) ++ (wM cI u42 z0 ++ (wC cI u53 z0 ++ (wZ cI u64 z0 ++ ([(q74, .inl (cI, 2278, .inl (fun _ => 0)))])))))))) H := hP
  have hD : va_D A ([(o, .inr (6, [.ref (u9.1 0), .ref (u20 0), .ref (u31.1 0), .ref (u42 0), .ref (u53 0), .ref (u64 0), .ref q74, .int 0, .int 0, .int 0]))] ++ (wT cI u9.1 u9.2 ++ (wB cI u20 z0 ++ ((wH cO u31.1 u31.2 z0 ++ wR cI u31.2 (fun _ => z0)) ++ (wM cI u42 z0 ++ (wC cI u53 z0 ++ (wZ cI u64 z0 ++ ([(q74, .inl (cI, 2278, .inl (fun _ => 0)))])))))))) := hD
  refine lv_aload_n hx hb dX6_init_84 rfl (lv_at hl 0 rfl) ?_
  refine lv_iconst (v := 0) hx hb dX6_init_85 (by decide) ?_
  refine va_put (D := D) (ci := 6) (v := .int 0) (ty := .boolean) (C := RX6) (T := TX6) (N := 10) hx hb hts jX6_init_X6 tyX6 tyX6_ok nmX6 hown hK hP hD hS 0 rfl rfl 8 (by decide) (hts (.fieldLink RX6 59 "BrotherAutomata" "censusKnown" "Z") (List.mem_of_getElem? (i := 31) rfl)) (fun _ h9 => h9) rfl (by decide +kernel) rfl rfl (Nat.le_of_ble_eq_true rfl) dX6_init_86 (fun H locs hP hD hS => ?_)
  have hP : va_P D vwCl ([(o, .inr (6, [.ref (u9.1 0), .ref (u20 0), .ref (u31.1 0), .ref (u42 0), .ref (u53 0), .ref (u64 0), .ref q74, .int 0, .int 0, .int 0]))] ++ (wT cI u9.1 u9.2 ++ (wB cI u20 z0 ++ ((wH cO u31.1 u31.2 z0 ++ wR cI u31.2 (fun _ => z0)) ++ (wM cI u42 z0 ++ (wC cI u53 z0 ++ (wZ cI u64 z0 ++ ([(q74, .inl (cI, 2278, .inl (fun _ => 0)))])))))))) H := hP
  have hD : va_D A ([(o, .inr (6, [.ref (u9.1 0), .ref (u20 0), .ref (u31.1 0), .ref (u42 0), .ref (u53 0), .ref (u64 0), .ref q74, .int 0, .int 0, .int 0]))] ++ (wT cI u9.1 u9.2 ++ (wB cI u20 z0 ++ ((wH cO u31.1 u31.2 z0 ++ wR cI u31.2 (fun _ => z0)) ++ (wM cI u42 z0 ++ (wC cI u53 z0 ++ (wZ cI u64 z0 ++ ([(q74, .inl (cI, 2278, .inl (fun _ => 0)))])))))))) := hD
  refine lv_aload_n hx hb dX6_init_89 rfl (lv_at hl 0 rfl) ?_
  refine lv_iconst (v := 2) hx hb dX6_init_90 (by decide) ?_
  refine va_put (D := D) (ci := 6) (v := .int 2) (ty := .int) (C := RX6) (T := TX6) (N := 10) hx hb hts jX6_init_X6 tyX6 tyX6_ok nmX6 hown hK hP hD hS 0 rfl rfl 9 (by decide) (hts (.fieldLink RX6 63 "BrotherAutomata" "states" "I") (List.mem_of_getElem? (i := 32) rfl)) (fun _ h9 => h9) rfl (by decide +kernel) rfl rfl (Nat.le_of_ble_eq_true rfl) dX6_init_91 (fun H locs hP hD hS => ?_)
  have hP : va_P D vwCl ([(o, .inr (6, [.ref (u9.1 0), .ref (u20 0), .ref (u31.1 0), .ref (u42 0), .ref (u53 0), .ref (u64 0), .ref q74, .int 0, .int 0, .int 2]))] ++ (wT cI u9.1 u9.2 ++ (wB cI u20 z0 ++ ((wH cO u31.1 u31.2 z0 ++ wR cI u31.2 (fun _ => z0)) ++ (wM cI u42 z0 ++ (wC cI u53 z0 ++ (wZ cI u64 z0 ++ ([(q74, .inl (cI, 2278, .inl (fun _ => 0)))])))))))) H := hP
  have hD : va_D A ([(o, .inr (6, [.ref (u9.1 0), .ref (u20 0), .ref (u31.1 0), .ref (u42 0), .ref (u53 0), .ref (u64 0), .ref q74, .int 0, .int 0, .int 2]))] ++ (wT cI u9.1 u9.2 ++ (wB cI u20 z0 ++ ((wH cO u31.1 u31.2 z0 ++ wR cI u31.2 (fun _ => z0)) ++ (wM cI u42 z0 ++ (wC cI u53 z0 ++ (wZ cI u64 z0 ++ ([(q74, .inl (cI, 2278, .inl (fun _ => 0)))])))))))) := hD
  exact xvret (w := (fun u : ((Nat → Nat → Nat) × (Nat → Nat → Nat) × CS) => w6 cI cO (u.1 0) (u.1 1) (u.1 2) (u.1 3) (u.1 4) (u.1 5) (u.1 6) u.2.1 (st z0 1 2 2) u.2.2 z0 z0 (fun _ => z0) z0 z0 z0)) ((fun k => match k with | 0 => (fun j => match j with | 0 => o | _ => q74) | 1 => u9.1 | 2 => u20 | 3 => u31.1 | 4 => u42 | 5 => u53 | _ => u64), u31.2, u9.2) hx hb hr hlocks ⟨rfl, hpost⟩ (hP.subM [0, 55, 1, 2, 3, 4, 5, 6, 7, 8, 9, 10, 11, 12, 13, 14, 15, 16, 17, 18, 19, 20, 21, 22, 23, 24, 25, 26, 27, 28, 29, 30, 31, 32, 33, 34, 35, 36, 37, 38, 39, 40, 41, 42, 43, 44, 45, 46, 47, 48, 49, 50, 51, 52, 53, 54] rfl) hK (hD.sub [0, 55, 1, 2, 3, 4, 5, 6, 7, 8, 9, 10, 11, 12, 13, 14, 15, 16, 17, 18, 19, 20, 21, 22, 23, 24, 25, 26, 27, 28, 29, 30, 31, 32, 33, 34, 35, 36, 37, 38, 39, 40, 41, 42, 43, 44, 45, 46, 47, 48, 49, 50, 51, 52, 53, 54] (by decide) rfl) hS dX6_init_94
