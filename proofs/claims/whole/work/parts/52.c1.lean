set_option maxRecDepth 20000 in
theorem ggX1_init_X2_init : GoodIn wsX1_init wsX2_init := goodIn_r _ [12, 13, 2, 3, 14, 15, 16, 17, 18, 19, 20, 21, 25, 26, 27, 28, 29, 30, 31] (by decide +kernel) (by decide +kernel)
set_option maxRecDepth 20000 in
theorem gX1_init_X2_init : GoodIn wsX1_init (wsX2_init) := ggX1_init_X2_init
theorem dX1_init_0 : decode cX1_init 0 = .ok (.aload_n 0, 1) := by decide +kernel
theorem dX1_init_1 : decode cX1_init 1 = .ok (.invokespecial 3, 3) := by decide +kernel
theorem dX1_init_4 : decode cX1_init 4 = .ok (.aload_n 0, 1) := by decide +kernel
theorem dX1_init_5 : decode cX1_init 5 = .ok (.iconst 5, 1) := by decide +kernel
theorem dX1_init_6 : decode cX1_init 6 = .ok (.anewarray 9, 3) := by decide +kernel
theorem dX1_init_9 : decode cX1_init 9 = .ok (.putfield 11, 3) := by decide +kernel
theorem dX1_init_12 : decode cX1_init 12 = .ok (.iconst 0, 1) := by decide +kernel
theorem dX1_init_13 : decode cX1_init 13 = .ok (.istore_n 1, 1) := by decide +kernel
theorem dX1_init_14 : decode cX1_init 14 = .ok (.iload_n 1, 1) := by decide +kernel
theorem dX1_init_15 : decode cX1_init 15 = .ok (.iconst 5, 1) := by decide +kernel
theorem dX1_init_16 : decode cX1_init 16 = .ok (.if_icmp .ge 22, 3) := by decide +kernel
theorem dX1_init_19 : decode cX1_init 19 = .ok (.aload_n 0, 1) := by decide +kernel
theorem dX1_init_20 : decode cX1_init 20 = .ok (.getfield 11, 3) := by decide +kernel
theorem dX1_init_23 : decode cX1_init 23 = .ok (.iload_n 1, 1) := by decide +kernel
theorem dX1_init_24 : decode cX1_init 24 = .ok (.new 9, 3) := by decide +kernel
theorem dX1_init_27 : decode cX1_init 27 = .ok (.dup, 1) := by decide +kernel
theorem dX1_init_28 : decode cX1_init 28 = .ok (.invokespecial 17, 3) := by decide +kernel
theorem dX1_init_31 : decode cX1_init 31 = .ok (.aastore, 1) := by decide +kernel
theorem dX1_init_32 : decode cX1_init 32 = .ok (.iinc 1 1, 3) := by decide +kernel
theorem dX1_init_35 : decode cX1_init 35 = .ok (.goto (-21), 3) := by decide +kernel
theorem dX1_init_38 : decode cX1_init 38 = .ok (.aload_n 0, 1) := by decide +kernel
theorem dX1_init_39 : decode cX1_init 39 = .ok (.iconst 0, 1) := by decide +kernel
theorem dX1_init_40 : decode cX1_init 40 = .ok (.putfield 18, 3) := by decide +kernel
theorem dX1_init_43 : decode cX1_init 43 = .ok (.aload_n 0, 1) := by decide +kernel
theorem dX1_init_44 : decode cX1_init 44 = .ok (.iconst 0, 1) := by decide +kernel
theorem dX1_init_45 : decode cX1_init 45 = .ok (.putfield 22, 3) := by decide +kernel
theorem dX1_init_48 : decode cX1_init 48 = .ok (.return_, 1) := by decide +kernel
theorem jX1_init_X1 : ∀ w ∈ wsX10, w ∈ wsX1_init := by decide +kernel
theorem jX1_init_X2 : ∀ w ∈ wsX20, w ∈ wsX1_init := by decide +kernel
set_option maxRecDepth 100000 in
set_option maxHeartbeats 8000000 in
theorem mX1_init (l : Launch) (D : va_G) (cI cO : ClassId) (tA tS : Nat) (o : Nat) (sz : Nat) : Met l yX1_init wsX1_init ({ frames := 2, cells := 31, slots := 440, locals := 32 } : Room) (xPreO D cI cO tA tS [.ref o] [(o, .inr (1, [.null, .int 0, .int 0]))] sz) (va_Qv (fun u : ((Nat → Nat) × (Nat → Nat → Nat)) => u.1 0 = o) (xB D cI cO (va_A [(o, .inr (1, [.null, .int 0, .int 0]))] sz) (fun u : ((Nat → Nat) × (Nat → Nat → Nat)) => wH cO u.1 u.2 z0 ++ wR cI u.2 (fun _ => z0))) (va_A [(o, .inr (1, [.null, .int 0, .int 0]))] sz)) 31 440 (va_A [(o, .inr (1, [.null, .int 0, .int 0]))] sz) := by
  refine xMetO D cI cO tA tS (fun A => va_Qv (fun u : ((Nat → Nat) × (Nat → Nat → Nat)) => u.1 0 = o) (xB D cI cO A (fun u : ((Nat → Nat) × (Nat → Nat → Nat)) => wH cO u.1 u.2 z0 ++ wR cI u.2 (fun _ => z0))) A) (cc := cX1_init) (maxL := 2) (ret := none) (by decide) rfl (Nat.le_of_ble_eq_true rfl) ?_
  intro p e s m below meth c A ls hx hb hr hts hown hlocks hin hml hA hS hP hK hD hE hO hl
  have hown : s.vm.findClass RX1 = some m.cls := hown
  have hin : meth.name = "<init>" := hin
  have hl : lv_has ls 2 [(0, .ref o)] := hl
  refine lv_aload_n hx hb dX1_init_0 rfl (lv_at hl 0 rfl) ?_
  refine W.objInit hx hb hown (hts (.methodLink RX1 3 objectInit) (List.mem_of_getElem? (i := 1) rfl)) (hts (.instanceMethod objectInit) (List.mem_of_getElem? (i := 2) rfl)) (hts _ (List.mem_of_getElem? (i := 3) rfl)) rfl (by rw [hml]; exact hl.1) rfl dX1_init_1 (Nat.le_of_ble_eq_true rfl) (Nat.le_of_ble_eq_true rfl) ?_
  refine W.eq (g2 := F0 m 4 ls []) rfl ?_
  refine lv_aload_n hx hb dX1_init_4 rfl (lv_at hl 0 rfl) ?_
  refine lv_iconst (v := 5) hx hb dX1_init_5 (by decide) ?_
  refine xnewq (N' := 5) hx hb hown (hts (.classLink RX1 9 RX2) (List.mem_of_getElem? (i := 4) rfl)) hO hK hP hD hS hA (by decide) rfl (by decide) (Nat.le_of_ble_eq_true rfl) (Nat.le_of_ble_eq_true rfl) dX1_init_6 (fun q6 H hP hD hS => ?_)
  have hP : va_P D vwCl ([(o, .inr (1, [.null, .int 0, .int 0])), (q6, .inl (cO, 5, .inr (.inr (.inr (.inr (fun _ => none))))))]) H := hP
  have hD : va_D A ([(o, .inr (1, [.null, .int 0, .int 0])), (q6, .inl (cO, 5, .inr (.inr (.inr (.inr (fun _ => none))))))]) := hD
  refine W.widen (k := 1) (n := 5) (Nat.le_of_ble_eq_true rfl) (Nat.le_of_ble_eq_true rfl) ?_
  refine va_putF (D := D) (ci := 1) (v := .ref q6) (ty := .array (.object "BrotherAutomata$RuleBook")) (C := RX1) (T := TX1) (N := 3) hx hb hts jX1_init_X1 tyX1 tyX1_ok nmX1 hown hK hP hD hS 0 rfl rfl 0 (by decide) (hts (.fieldLink RX1 11 "BrotherAutomata$History" "ring" "[LBrotherAutomata$RuleBook;") (List.mem_of_getElem? (i := 5) rfl)) (fun _ h9 => h9) rfl hin rfl (by decide +kernel) rfl rfl (Nat.le_of_ble_eq_true rfl) dX1_init_9 (fun H locs hP hD hS => ?_)
  have hP : va_P D vwCl ([(o, .inr (1, [.ref q6, .int 0, .int 0])), (q6, .inl (cO, 5, .inr (.inr (.inr (.inr (fun _ => none))))))]) H := hP
  have hD : va_D A ([(o, .inr (1, [.ref q6, .int 0, .int 0])), (q6, .inl (cO, 5, .inr (.inr (.inr (.inr (fun _ => none))))))]) := hD
  refine lv_iconst (v := 0) hx hb dX1_init_12 (by decide) ?_
  refine lv_istore_n (lv' := [(1, .int 0), (0, .ref o)]) hx hb dX1_init_13 rfl hl (by decide) rfl (fun ls hl => ?_)
  refine lv_iload_n hx hb dX1_init_14 rfl (lv_at hl 0 rfl) ?_
  refine lv_iconst (v := 5) hx hb dX1_init_15 (by decide) ?_
  refine lv_icmp_ge (tgt := 38) hx hb dX1_init_16 (by decide) (fun hc => absurd hc (by decide)) (fun hc => ?_)
  refine lv_aload_n hx hb dX1_init_19 rfl (lv_at hl 1 rfl) ?_
  refine va_get (D := D) (ci := 1) (v := .ref q6) (C := RX1) (T := TX1) (N := 3) hx hb hts jX1_init_X1 hown hK hP 0 rfl rfl 0 (by decide) (hts (.fieldLink RX1 11 "BrotherAutomata$History" "ring" "[LBrotherAutomata$RuleBook;") (List.mem_of_getElem? (i := 5) rfl)) (fun _ h9 => h9) rfl dX1_init_20 ?_
  refine lv_iload_n hx hb dX1_init_23 rfl (lv_at hl 0 rfl) ?_
  refine va_new (ci := 2) (fs := [.null, .null, .null, .null, .null, .int 0, .int 0]) (C := RX2) (T := TX2) (N := 7) hx hb hts jX1_init_X2 tyX2 tyX2_ok hown (hts (.classLink RX1 9 RX2) (List.mem_of_getElem? (i := 4) rfl)) (hts (.instantiable RX2 7) (List.mem_of_getElem? (i := 6) rfl)) (hts (.initialized RX2) (List.mem_of_getElem? (i := 7) rfl)) hK hP hD hS hA rfl (fun j hj => by rcases (show j = 0 ∨ j = 1 ∨ j = 2 ∨ j = 3 ∨ j = 4 ∨ j = 5 ∨ j = 6 by omega) with rfl | rfl | rfl | rfl | rfl | rfl | rfl <;> rfl) (Nat.le_of_ble_eq_true rfl) (Nat.le_of_ble_eq_true rfl) dX1_init_24 (fun q24_0 H hP hD hS => ?_)
  have hP : va_P D vwCl ([(o, .inr (1, [.ref q6, .int 0, .int 0])), (q6, .inl (cO, 5, .inr (.inr (.inr (.inr (fun _ => none))))))] ++ ([(q24_0, .inr (2, [.null, .null, .null, .null, .null, .int 0, .int 0]))])) H := hP
  have hD : va_D A ([(o, .inr (1, [.ref q6, .int 0, .int 0])), (q6, .inl (cO, 5, .inr (.inr (.inr (.inr (fun _ => none))))))] ++ ([(q24_0, .inr (2, [.null, .null, .null, .null, .null, .int 0, .int 0]))])) := hD
  refine W.widen (k := 2) (n := 12) (Nat.le_of_ble_eq_true rfl) (Nat.le_of_ble_eq_true rfl) ?_
  refine lv_dup hx hb dX1_init_27 rfl ?_
  refine xcallN (wc := [(q24_0, .inr (2, [.null, .null, .null, .null, .null, .int 0, .int 0]))]) (wr := [(o, .inr (1, [.ref q6, .int 0, .int 0])), (q6, .inl (cO, 5, .inr (.inr (.inr (.inr (fun _ => none))))))]) (va_runI (As := []) (rest := [.ref q24_0, .int 0, .ref q6]) ⟨hx, hb, hml, hown, hts⟩ (mX2_init l D cI cO tA tS q24_0 _) (cwI 0 hts gX1_init_X2_init rfl rfl rfl (hts (.initialized RX2) (List.mem_of_getElem? (i := 7) rfl)) (hts (.methodLink RX1 17 yX2_init) (List.mem_of_getElem? (i := 10) rfl)) (hts (.instanceMethod yX2_init) (List.mem_of_getElem? (i := 11) rfl)) rfl (by decide +kernel) ⟨Nat.le_of_ble_eq_true rfl, Nat.le_of_ble_eq_true rfl⟩) (xpreP hP hD hS hA hK hE [2] rfl rfl) rfl rfl hl.1 rfl (lv_room (Nat.le_of_ble_eq_true rfl)) dX1_init_28 ⟨Nat.le_of_ble_eq_true rfl, Nat.le_of_ble_eq_true rfl⟩) hP hD hS hA [2] [0, 1] rfl rfl rfl (by decide) (fun u28_0 H9 locs9 hw hP9 hD9 hS9 => ?_)
  subst hw
  have hP : va_P D vwCl ([(o, .inr (1, [.ref q6, .int 0, .int 0])), (q6, .inl (cO, 5, .inr (.inr (.inr (.inr (fun _ => none))))))] ++ (wB cI u28_0 z0)) H9 := hP9
  have hD : va_D A ([(o, .inr (1, [.ref q6, .int 0, .int 0])), (q6, .inl (cO, 5, .inr (.inr (.inr (.inr (fun _ => none))))))] ++ (wB cI u28_0 z0)) := hD9
  have hS := hS9
  refine W.widen (k := 7) (n := 92) (Nat.le_of_ble_eq_true rfl) (Nat.le_of_ble_eq_true rfl) ?_
  refine va_astq (r := (RX2, TX2, 7)) hx hb hK hP hD hS 1 1 2 2 rfl rfl rfl rfl (pk_in 0 5 (by omega)) dX1_init_31 (fun H locs hP hD hS => ?_)
  have hP : va_P D vwCl ([(o, .inr (1, [.ref q6, .int 0, .int 0])), (q6, .inl (cO, 5, .inr (.inr (.inr (.inr (va_up (fun _ => none) (0 : Int32).toNatClampNeg (some (u28_0 0))))))))] ++ (wB cI u28_0 z0)) H := hP
  have hD : va_D A ([(o, .inr (1, [.ref q6, .int 0, .int 0])), (q6, .inl (cO, 5, .inr (.inr (.inr (.inr (va_up (fun _ => none) (0 : Int32).toNatClampNeg (some (u28_0 0))))))))] ++ (wB cI u28_0 z0)) := hD
  refine lv_iinc (v := 1) (lv' := [(1, .int 1), (0, .ref o)]) hx hb dX1_init_32 hl (k := 0) rfl (by decide) (by decide) rfl (fun ls hl => ?_)
  refine lv_goto (tgt := 14) hx hb dX1_init_35 (by decide) ?_
  refine lv_iload_n hx hb dX1_init_14 rfl (lv_at hl 0 rfl) ?_
  refine lv_iconst (v := 5) hx hb dX1_init_15 (by decide) ?_
  refine lv_icmp_ge (tgt := 38) hx hb dX1_init_16 (by decide) (fun hc => absurd hc (by decide)) (fun hc => ?_)
  refine lv_aload_n hx hb dX1_init_19 rfl (lv_at hl 1 rfl) ?_
  refine va_get (D := D) (ci := 1) (v := .ref q6) (C := RX1) (T := TX1) (N := 3) hx hb hts jX1_init_X1 hown hK hP 0 rfl rfl 0 (by decide) (hts (.fieldLink RX1 11 "BrotherAutomata$History" "ring" "[LBrotherAutomata$RuleBook;") (List.mem_of_getElem? (i := 5) rfl)) (fun _ h9 => h9) rfl dX1_init_20 ?_
  refine lv_iload_n hx hb dX1_init_23 rfl (lv_at hl 0 rfl) ?_
  refine va_new (ci := 2) (fs := [.null, .null, .null, .null, .null, .int 0, .int 0]) (C := RX2) (T := TX2) (N := 7) hx hb hts jX1_init_X2 tyX2 tyX2_ok hown (hts (.classLink RX1 9 RX2) (List.mem_of_getElem? (i := 4) rfl)) (hts (.instantiable RX2 7) (List.mem_of_getElem? (i := 6) rfl)) (hts (.initialized RX2) (List.mem_of_getElem? (i := 7) rfl)) hK hP hD hS hA rfl (fun j hj => by rcases (show j = 0 ∨ j = 1 ∨ j = 2 ∨ j = 3 ∨ j = 4 ∨ j = 5 ∨ j = 6 by omega) with rfl | rfl | rfl | rfl | rfl | rfl | rfl <;> rfl) (Nat.le_of_ble_eq_true rfl) (Nat.le_of_ble_eq_true rfl) dX1_init_24 (fun q24_1 H hP hD hS => ?_)
  have hP : va_P D vwCl ([(o, .inr (1, [.ref q6, .int 0, .int 0])), (q6, .inl (cO, 5, .inr (.inr (.inr (.inr (va_up (fun _ => none) (0 : Int32).toNatClampNeg (some (u28_0 0))))))))] ++ (wB cI u28_0 z0 ++ ([(q24_1, .inr (2, [.null, .null, .null, .null, .null, .int 0, .int 0]))]))) H := hP
  have hD : va_D A ([(o, .inr (1, [.ref q6, .int 0, .int 0])), (q6, .inl (cO, 5, .inr (.inr (.inr (.inr (va_up (fun _ => none) (0 : Int32).toNatClampNeg (some (u28_0 0))))))))] ++ (wB cI u28_0 z0 ++ ([(q24_1, .inr (2, [.null, .null, .null, .null, .null, .int 0, .int 0]))]))) := hD
  refine W.widen (k := 8) (n := 99) (Nat.le_of_ble_eq_true rfl) (Nat.le_of_ble_eq_true rfl) ?_
  refine lv_dup hx hb dX1_init_27 rfl ?_
  refine xcallN (wc := [(q24_1, .inr (2, [.null, .null, .null, .null, .null, .int 0, .int 0]))]) (wr := [(o, .inr (1, [.ref q6, .int 0, .int 0])), (q6, .inl (cO, 5, .inr (.inr (.inr (.inr (va_up (fun _ => none) (0 : Int32).toNatClampNeg (some (u28_0 0))))))))] ++ (wB cI u28_0 z0)) (va_runI (As := []) (rest := [.ref q24_1, .int 1, .ref q6]) ⟨hx, hb, hml, hown, hts⟩ (mX2_init l D cI cO tA tS q24_1 _) (cwI 0 hts gX1_init_X2_init rfl rfl rfl (hts (.initialized RX2) (List.mem_of_getElem? (i := 7) rfl)) (hts (.methodLink RX1 17 yX2_init) (List.mem_of_getElem? (i := 10) rfl)) (hts (.instanceMethod yX2_init) (List.mem_of_getElem? (i := 11) rfl)) rfl (by decide +kernel) ⟨Nat.le_of_ble_eq_true rfl, Nat.le_of_ble_eq_true rfl⟩) (xpreP hP hD hS hA hK hE [8] rfl rfl) rfl rfl hl.1 rfl (lv_room (Nat.le_of_ble_eq_true rfl)) dX1_init_28 ⟨Nat.le_of_ble_eq_true rfl, Nat.le_of_ble_eq_true rfl⟩) hP hD hS hA [8] [0, 1, 2, 3, 4, 5, 6, 7] rfl rfl rfl (by decide) (fun u28_1 H9 locs9 hw hP9 hD9 hS9 => ?_)
  subst hw
  have hP : va_P D vwCl ([(o, .inr (1, [.ref q6, .int 0, .int 0])), (q6, .inl (cO, 5, .inr (.inr (.inr (.inr (va_up (fun _ => none) (0 : Int32).toNatClampNeg (some (u28_0 0))))))))] ++ (wB cI u28_0 z0 ++ (wB cI u28_1 z0))) H9 := hP9
  have hD : va_D A ([(o, .inr (1, [.ref q6, .int 0, .int 0])), (q6, .inl (cO, 5, .inr (.inr (.inr (.inr (va_up (fun _ => none) (0 : Int32).toNatClampNeg (some (u28_0 0))))))))] ++ (wB cI u28_0 z0 ++ (wB cI u28_1 z0))) := hD9
  have hS := hS9
  refine W.widen (k := 13) (n := 179) (Nat.le_of_ble_eq_true rfl) (Nat.le_of_ble_eq_true rfl) ?_
  refine va_astq (r := (RX2, TX2, 7)) hx hb hK hP hD hS 1 1 8 2 rfl rfl rfl rfl (pk_in 1 5 (by omega)) dX1_init_31 (fun H locs hP hD hS => ?_)
  have hP : va_P D vwCl ([(o, .inr (1, [.ref q6, .int 0, .int 0])), (q6, .inl (cO, 5, .inr (.inr (.inr (.inr (va_up (va_up (fun _ => none) (0 : Int32).toNatClampNeg (some (u28_0 0))) (1 : Int32).toNatClampNeg (some (u28_1 0))))))))] ++ (wB cI u28_0 z0 ++ (wB cI u28_1 z0))) H := hP
  have hD : va_D A ([(o, .inr (1, [.ref q6, .int 0, .int 0])), (q6, .inl (cO, 5, .inr (.inr (.inr (.inr (va_up (va_up (fun _ => none) (0 : Int32).toNatClampNeg (some (u28_0 0))) (1 : Int32).toNatClampNeg (some (u28_1 0))))))))] ++ (wB cI u28_0 z0 ++ (wB cI u28_1 z0))) := hD
  refine lv_iinc (v := 2) (lv' := [(1, .int 2), (0, .ref o)]) hx hb dX1_init_32 hl (k := 0) rfl (by decide) (by decide) rfl (fun ls hl => ?_)
  refine lv_goto (tgt := 14) hx hb dX1_init_35 (by decide) ?_
  refine lv_iload_n hx hb dX1_init_14 rfl (lv_at hl 0 rfl) ?_
  refine lv_iconst (v := 5) hx hb dX1_init_15 (by decide) ?_
  refine lv_icmp_ge (tgt := 38) hx hb dX1_init_16 (by decide) (fun hc => absurd hc (by decide)) (fun hc => ?_)
  refine lv_aload_n hx hb dX1_init_19 rfl (lv_at hl 1 rfl) ?_
  refine va_get (D := D) (ci := 1) (v := .ref q6) (C := RX1) (T := TX1) (N := 3) hx hb hts jX1_init_X1 hown hK hP 0 rfl rfl 0 (by decide) (hts (.fieldLink RX1 11 "BrotherAutomata$History" "ring" "[LBrotherAutomata$RuleBook;") (List.mem_of_getElem? (i := 5) rfl)) (fun _ h9 => h9) rfl dX1_init_20 ?_
  refine lv_iload_n hx hb dX1_init_23 rfl (lv_at hl 0 rfl) ?_
  refine va_new (ci := 2) (fs := [.null, .null, .null, .null, .null, .int 0, .int 0]) (C := RX2) (T := TX2) (N := 7) hx hb hts jX1_init_X2 tyX2 tyX2_ok hown (hts (.classLink RX1 9 RX2) (List.mem_of_getElem? (i := 4) rfl)) (hts (.instantiable RX2 7) (List.mem_of_getElem? (i := 6) rfl)) (hts (.initialized RX2) (List.mem_of_getElem? (i := 7) rfl)) hK hP hD hS hA rfl (fun j hj => by rcases (show j = 0 ∨ j = 1 ∨ j = 2 ∨ j = 3 ∨ j = 4 ∨ j = 5 ∨ j = 6 by omega) with rfl | rfl | rfl | rfl | rfl | rfl | rfl <;> rfl) (Nat.le_of_ble_eq_true rfl) (Nat.le_of_ble_eq_true rfl) dX1_init_24 (fun q24_2 H hP hD hS => ?_)
  have hP : va_P D vwCl ([(o, .inr (1, [.ref q6, .int 0, .int 0])), (q6, .inl (cO, 5, .inr (.inr (.inr (.inr (va_up (va_up (fun _ => none) (0 : Int32).toNatClampNeg (some (u28_0 0))) (1 : Int32).toNatClampNeg (some (u28_1 0))))))))] ++ (wB cI u28_0 z0 ++ (wB cI u28_1 z0 ++ ([(q24_2, .inr (2, [.null, .null, .null, .null, .null, .int 0, .int 0]))])))) H := hP
  have hD : va_D A ([(o, .inr (1, [.ref q6, .int 0, .int 0])), (q6, .inl (cO, 5, .inr (.inr (.inr (.inr (va_up (va_up (fun _ => none) (0 : Int32).toNatClampNeg (some (u28_0 0))) (1 : Int32).toNatClampNeg (some (u28_1 0))))))))] ++ (wB cI u28_0 z0 ++ (wB cI u28_1 z0 ++ ([(q24_2, .inr (2, [.null, .null, .null, .null, .null, .int 0, .int 0]))])))) := hD
  refine W.widen (k := 14) (n := 186) (Nat.le_of_ble_eq_true rfl) (Nat.le_of_ble_eq_true rfl) ?_
  refine lv_dup hx hb dX1_init_27 rfl ?_
  refine xcallN (wc := [(q24_2, .inr (2, [.null, .null, .null, .null, .null, .int 0, .int 0]))]) (wr := [(o, .inr (1, [.ref q6, .int 0, .int 0])), (q6, .inl (cO, 5, .inr (.inr (.inr (.inr (va_up (va_up (fun _ => none) (0 : Int32).toNatClampNeg (some (u28_0 0))) (1 : Int32).toNatClampNeg (some (u28_1 0))))))))] ++ (wB cI u28_0 z0 ++ (wB cI u28_1 z0))) (va_runI (As := []) (rest := [.ref q24_2, .int 2, .ref q6]) ⟨hx, hb, hml, hown, hts⟩ (mX2_init l D cI cO tA tS q24_2 _) (cwI 0 hts gX1_init_X2_init rfl rfl rfl (hts (.initialized RX2) (List.mem_of_getElem? (i := 7) rfl)) (hts (.methodLink RX1 17 yX2_init) (List.mem_of_getElem? (i := 10) rfl)) (hts (.instanceMethod yX2_init) (List.mem_of_getElem? (i := 11) rfl)) rfl (by decide +kernel) ⟨Nat.le_of_ble_eq_true rfl, Nat.le_of_ble_eq_true rfl⟩) (xpreP hP hD hS hA hK hE [14] rfl rfl) rfl rfl hl.1 rfl (lv_room (Nat.le_of_ble_eq_true rfl)) dX1_init_28 ⟨Nat.le_of_ble_eq_true rfl, Nat.le_of_ble_eq_true rfl⟩) hP hD hS hA [14] [0, 1, 2, 3, 4, 5, 6, 7, 8, 9, 10, 11, 12, 13] rfl rfl rfl (by decide) (fun u28_2 H9 locs9 hw hP9 hD9 hS9 => ?_)
  subst hw
  have hP : va_P D vwCl ([(o, .inr (1, [.ref q6, .int 0, .int 0])), (q6, .inl (cO, 5, .inr (.inr (.inr (.inr (va_up (va_up (fun _ => none) (0 : Int32).toNatClampNeg (some (u28_0 0))) (1 : Int32).toNatClampNeg (some (u28_1 0))))))))] ++ (wB cI u28_0 z0 ++ (wB cI u28_1 z0 ++ (wB cI u28_2 z0)))) H9 := hP9
  have hD : va_D A ([(o, .inr (1, [.ref q6, .int 0, .int 0])), (q6, .inl (cO, 5, .inr (.inr (.inr (.inr (va_up (va_up (fun _ => none) (0 : Int32).toNatClampNeg (some (u28_0 0))) (1 : Int32).toNatClampNeg (some (u28_1 0))))))))] ++ (wB cI u28_0 z0 ++ (wB cI u28_1 z0 ++ (wB cI u28_2 z0)))) := hD9
  have hS := hS9
  refine W.widen (k := 19) (n := 266) (Nat.le_of_ble_eq_true rfl) (Nat.le_of_ble_eq_true rfl) ?_
  refine va_astq (r := (RX2, TX2, 7)) hx hb hK hP hD hS 1 1 14 2 rfl rfl rfl rfl (pk_in 2 5 (by omega)) dX1_init_31 (fun H locs hP hD hS => ?_)
  have hP : va_P D vwCl ([(o, .inr (1, [.ref q6, .int 0, .int 0])), (q6, .inl (cO, 5, .inr (.inr (.inr (.inr (va_up (va_up (va_up (fun _ => none) (0 : Int32).toNatClampNeg (some (u28_0 0))) (1 : Int32).toNatClampNeg (some (u28_1 0))) (2 : Int32).toNatClampNeg (some (u28_2 0))))))))] ++ (wB cI u28_0 z0 ++ (wB cI u28_1 z0 ++ (wB cI u28_2 z0)))) H := hP
  have hD : va_D A ([(o, .inr (1, [.ref q6, .int 0, .int 0])), (q6, .inl (cO, 5, .inr (.inr (.inr (.inr (va_up (va_up (va_up (fun _ => none) (0 : Int32).toNatClampNeg (some (u28_0 0))) (1 : Int32).toNatClampNeg (some (u28_1 0))) (2 : Int32).toNatClampNeg (some (u28_2 0))))))))] ++ (wB cI u28_0 z0 ++ (wB cI u28_1 z0 ++ (wB cI u28_2 z0)))) := hD
  refine lv_iinc (v := 3) (lv' := [(1, .int 3), (0, .ref o)]) hx hb dX1_init_32 hl (k := 0) rfl (by decide) (by decide) rfl (fun ls hl => ?_)
  refine lv_goto (tgt := 14) hx hb dX1_init_35 (by decide) ?_
  refine lv_iload_n hx hb dX1_init_14 rfl (lv_at hl 0 rfl) ?_
  refine lv_iconst (v := 5) hx hb dX1_init_15 (by decide) ?_
  refine lv_icmp_ge (tgt := 38) hx hb dX1_init_16 (by decide) (fun hc => absurd hc (by decide)) (fun hc => ?_)
  refine lv_aload_n hx hb dX1_init_19 rfl (lv_at hl 1 rfl) ?_
  refine va_get (D := D) (ci := 1) (v := .ref q6) (C := RX1) (T := TX1) (N := 3) hx hb hts jX1_init_X1 hown hK hP 0 rfl rfl 0 (by decide) (hts (.fieldLink RX1 11 "BrotherAutomata$History" "ring" "[LBrotherAutomata$RuleBook;") (List.mem_of_getElem? (i := 5) rfl)) (fun _ h9 => h9) rfl dX1_init_20 ?_
  refine lv_iload_n hx hb dX1_init_23 rfl (lv_at hl 0 rfl) ?_
  refine va_new (ci := 2) (fs := [.null, .null, .null, .null, .null, .int 0, .int 0]) (C := RX2) (T := TX2) (N := 7) hx hb hts jX1_init_X2 tyX2 tyX2_ok hown (hts (.classLink RX1 9 RX2) (List.mem_of_getElem? (i := 4) rfl)) (hts (.instantiable RX2 7) (List.mem_of_getElem? (i := 6) rfl)) (hts (.initialized RX2) (List.mem_of_getElem? (i := 7) rfl)) hK hP hD hS hA rfl (fun j hj => by rcases (show j = 0 ∨ j = 1 ∨ j = 2 ∨ j = 3 ∨ j = 4 ∨ j = 5 ∨ j = 6 by omega) with rfl | rfl | rfl | rfl | rfl | rfl | rfl <;> rfl) (Nat.le_of_ble_eq_true rfl) (Nat.le_of_ble_eq_true rfl) dX1_init_24 (fun q24_3 H hP hD hS => ?_)
  have hP : va_P D vwCl ([(o, .inr (1, [.ref q6, .int 0, .int 0])), (q6, .inl (cO, 5, .inr (.inr (.inr (.inr (va_up (va_up (va_up (fun _ => none) (0 : Int32).toNatClampNeg (some (u28_0 0))) (1 : Int32).toNatClampNeg (some (u28_1 0))) (2 : Int32).toNatClampNeg (some (u28_2 0))))))))] ++ (wB cI u28_0 z0 ++ (wB cI u28_1 z0 ++ (wB cI u28_2 z0 ++ ([(q24_3, .inr (2, [.null, .null, .null, .null, .null, .int 0, .int 0]))]))))) H := hP
  have hD : va_D A ([(o, .inr (1, [.ref q6, .int 0, .int 0])), (q6, .inl (cO, 5, .inr (.inr (.inr (.inr (va_up (va_up (va_up (fun _ => none) (0 : Int32).toNatClampNeg (some (u28_0 0))) (1 : Int32).toNatClampNeg (some (u28_1 0))) (2 : Int32).toNatClampNeg (some (u28_2 0))))))))] ++ (wB cI u28_0 z0 ++ (wB cI u28_1 z0 ++ (wB cI u28_2 z0 ++ ([(q24_3, .inr (2, [.null, .null, .null, .null, .null, .int 0, .int 0]))]))))) := hD
  refine W.widen (k := 20) (n := 273) (Nat.le_of_ble_eq_true rfl) (Nat.le_of_ble_eq_true rfl) ?_
  refine lv_dup hx hb dX1_init_27 rfl ?_
  refine xcallN (wc := [(q24_3, .inr (2, [.null, .null, .null, .null, .null, .int 0, .int 0]))]) (wr := [(o, .inr (1, [.ref q6, .int 0, .int 0])), (q6, .inl (cO, 5, .inr (.inr (.inr (.inr (va_up (va_up (va_up (fun _ => none) (0 : Int32).toNatClampNeg (some (u28_0 0))) (1 : Int32).toNatClampNeg (some (u28_1 0))) (2 : Int32).toNatClampNeg (some (u28_2 0))))))))] ++ (wB cI u28_0 z0 ++ (wB cI u28_1 z0 ++ (wB cI u28_2 z0)))) (va_runI (As := []) (rest := [.ref q24_3, .int 3, .ref q6]) ⟨hx, hb, hml, hown, hts⟩ (mX2_init l D cI cO tA tS q24_3 _) (cwI 0 hts gX1_init_X2_init rfl rfl rfl (hts (.initialized RX2) (List.mem_of_getElem? (i := 7) rfl)) (hts (.methodLink RX1 17 yX2_init) (List.mem_of_getElem? (i := 10) rfl)) (hts (.instanceMethod yX2_init) (List.mem_of_getElem? (i := 11) rfl)) rfl (by decide +kernel) ⟨Nat.le_of_ble_eq_true rfl, Nat.le_of_ble_eq_true rfl⟩) (xpreP hP hD hS hA hK hE [20] rfl rfl) rfl rfl hl.1 rfl (lv_room (Nat.le_of_ble_eq_true rfl)) dX1_init_28 ⟨Nat.le_of_ble_eq_true rfl, Nat.le_of_ble_eq_true rfl⟩) hP hD hS hA [20] [0, 1, 2, 3, 4, 5, 6, 7, 8, 9, 10, 11, 12, 13, 14, 15, 16, 17, 18, 19] rfl rfl rfl (by decide) (fun u28_3 H9 locs9 hw hP9 hD9 hS9 => ?_)
  subst hw
  have hP : va_P D vwCl ([(o, .inr (1, [.ref q6, .int 0, .int 0])), (q6, .inl (cO, 5, .inr (.inr (.inr (.inr (va_up (va_up (va_up (fun _ => none) (0 : Int32).toNatClampNeg (some (u28_0 0))) (1 : Int32).toNatClampNeg (some (u28_1 0))) (2 : Int32).toNatClampNeg (some (u28_2 0))))))))] ++ (wB cI u28_0 z0 ++ (wB cI u28_1 z0 ++ (wB cI u28_2 z0 ++ (wB cI u28_3 z0))))) H9 := hP9
  have hD : va_D A ([(o, .inr (1, [.ref q6, .int 0, .int 0])), (q6, .inl (cO, 5, .inr (.inr (.inr (.inr (va_up (va_up (va_up (fun _ => none) (0 : Int32).toNatClampNeg (some (u28_0 0))) (1 : Int32).toNatClampNeg (some (u28_1 0))) (2 : Int32).toNatClampNeg (some (u28_2 0))))))))] ++ (wB cI u28_0 z0 ++ (wB cI u28_1 z0 ++ (wB cI u28_2 z0 ++ (wB cI u28_3 z0))))) := hD9
  have hS := hS9
  refine W.widen (k := 25) (n := 353) (Nat.le_of_ble_eq_true rfl) (Nat.le_of_ble_eq_true rfl) ?_
  refine va_astq (r := (RX2, TX2, 7)) hx hb hK hP hD hS 1 1 20 2 rfl rfl rfl rfl (pk_in 3 5 (by omega)) dX1_init_31 (fun H locs hP hD hS => ?_)
  have hP : va_P D vwCl ([(o, .inr (1, [.ref q6, .int 0, .int 0])), (q6, .inl (cO, 5, .inr (.inr (.inr (.inr (va_up (va_up (va_up (va_up (fun _ => none) (0 : Int32).toNatClampNeg (some (u28_0 0))) (1 : Int32).toNatClampNeg (some (u28_1 0))) (2 : Int32).toNatClampNeg (some (u28_2 0))) (3 : Int32).toNatClampNeg (some (u28_3 0))))))))] ++ (wB cI u28_0 z0 ++ (wB cI u28_1 z0 ++ (wB cI u28_2 z0 ++ (wB cI u28_3 z0))))) H := hP
  have hD : va_D A ([(o, .inr (1, [.ref q6, .int 0, .int 0])), (q6, .inl (cO, 5, .inr (.inr (.inr (.inr (va_up (va_up (va_up (va_up (fun _ => none) (0 : Int32).toNatClampNeg (some (u28_0 0))) (1 : Int32).toNatClampNeg (some (u28_1 0))) (2 : Int32).toNatClampNeg (some (u28_2 0))) (3 : Int32).toNatClampNeg (some (u28_3 0))))))))] ++ (wB cI u28_0 z0 ++ (wB cI u28_1 z0 ++ (wB cI u28_2 z0 ++ (wB cI u28_3 z0))))) := hD
  refine lv_iinc (v := 4) (lv' := [(1, .int 4), (0, .ref o)]) hx hb dX1_init_32 hl (k := 0) rfl (by decide) (by decide) rfl (fun ls hl => ?_)
  refine lv_goto (tgt := 14) hx hb dX1_init_35 (by decide) ?_
  refine lv_iload_n hx hb dX1_init_14 rfl (lv_at hl 0 rfl) ?_
  refine lv_iconst (v := 5) hx hb dX1_init_15 (by decide) ?_
  refine lv_icmp_ge (tgt := 38) hx hb dX1_init_16 (by decide) (fun hc => absurd hc (by decide)) (fun hc => ?_)
  refine lv_aload_n hx hb dX1_init_19 rfl (lv_at hl 1 rfl) ?_
  refine va_get (D := D) (ci := 1) (v := .ref q6) (C := RX1) (T := TX1) (N := 3) hx hb hts jX1_init_X1 hown hK hP 0 rfl rfl 0 (by decide) (hts (.fieldLink RX1 11 "BrotherAutomata$History" "ring" "[LBrotherAutomata$RuleBook;") (List.mem_of_getElem? (i := 5) rfl)) (fun _ h9 => h9) rfl dX1_init_20 ?_
  refine lv_iload_n hx hb dX1_init_23 rfl (lv_at hl 0 rfl) ?_
  refine va_new (ci := 2) (fs := [.null, .null, .null, .null, .null, .int 0, .int 0]) (C := RX2) (T := TX2) (N := 7) hx hb hts jX1_init_X2 tyX2 tyX2_ok hown (hts (.classLink RX1 9 RX2) (List.mem_of_getElem? (i := 4) rfl)) (hts (.instantiable RX2 7) (List.mem_of_getElem? (i := 6) rfl)) (hts (.initialized RX2) (List.mem_of_getElem? (i := 7) rfl)) hK hP hD hS hA rfl (fun j hj => by rcases (show j = 0 ∨ j = 1 ∨ j = 2 ∨ j = 3 ∨ j = 4 ∨ j = 5 ∨ j = 6 by omega) with rfl | rfl | rfl | rfl | rfl | rfl | rfl <;> rfl) (Nat.le_of_ble_eq_true rfl) (Nat.le_of_ble_eq_true rfl) dX1_init_24 (fun q24_4 H hP hD hS => ?_)
  have hP : va_P D vwCl ([(o, .inr (1, [.ref q6, .int 0, .int 0])), (q6, .inl (cO, 5, .inr (.inr (.inr (.inr (va_up (va_up (va_up (va_up (fun _ => none) (0 : Int32).toNatClampNeg (some (u28_0 0))) (1 : Int32).toNatClampNeg (some (u28_1 0))) (2 : Int32).toNatClampNeg (some (u28_2 0))) (3 : Int32).toNatClampNeg (some (u28_3 0))))))))] ++ (wB cI u28_0 z0 ++ (wB cI u28_1 z0 ++ (wB cI u28_2 z0 ++ (wB cI u28_3 z0 ++ ([(q24_4, .inr (2, [.null, .null, .null, .null, .null, .int 0, .int 0]))])))))) H := hP
  have hD : va_D A ([(o, .inr (1, [.ref q6, .int 0, .int 0])), (q6, .inl (cO, 5, .inr (.inr (.inr (.inr (va_up (va_up (va_up (va_up (fun _ => none) (0 : Int32).toNatClampNeg (some (u28_0 0))) (1 : Int32).toNatClampNeg (some (u28_1 0))) (2 : Int32).toNatClampNeg (some (u28_2 0))) (3 : Int32).toNatClampNeg (some (u28_3 0))))))))] ++ (wB cI u28_0 z0 ++ (wB cI u28_1 z0 ++ (wB cI u28_2 z0 ++ (wB cI u28_3 z0 ++ ([(q24_4, .inr (2, [.null, .null, .null, .null, .null, .int 0, .int 0]))])))))) := hD
  refine W.widen (k := 26) (n := 360) (Nat.le_of_ble_eq_true rfl) (Nat.le_of_ble_eq_true rfl) ?_
  refine lv_dup hx hb dX1_init_27 rfl ?_
  refine xcallN (wc := [(q24_4, .inr (2, [.null, .null, .null, .null, .null, .int 0, .int 0]))]) (wr := [(o, .inr (1, [.ref q6, .int 0, .int 0])), (q6, .inl (cO, 5, .inr (.inr (.inr (.inr (va_up (va_up (va_up (va_up (fun _ => none) (0 : Int32).toNatClampNeg (some (u28_0 0))) (1 : Int32).toNatClampNeg (some (u28_1 0))) (2 : Int32).toNatClampNeg (some (u28_2 0))) (3 : Int32).toNatClampNeg (some (u28_3 0))))))))] ++ (wB cI u28_0 z0 ++ (wB cI u28_1 z0 ++ (wB cI u28_2 z0 ++ (wB cI u28_3 z0))))) (va_runI (As := []) (rest := [.ref q24_4, .int 4, .ref q6]) ⟨hx, hb, hml, hown, hts⟩ (mX2_init l D cI cO tA tS q24_4 _) (cwI 0 hts gX1_init_X2_init rfl rfl rfl (hts (.initialized RX2) (List.mem_of_getElem? (i := 7) rfl)) (hts (.methodLink RX1 17 yX2_init) (List.mem_of_getElem? (i := 10) rfl)) (hts (.instanceMethod yX2_init) (List.mem_of_getElem? (i := 11) rfl)) rfl (by decide +kernel) ⟨Nat.le_of_ble_eq_true rfl, Nat.le_of_ble_eq_true rfl⟩) (xpreP hP hD hS hA hK hE [26] rfl rfl) rfl rfl hl.1 rfl (lv_room (Nat.le_of_ble_eq_true rfl)) dX1_init_28 ⟨Nat.le_of_ble_eq_true rfl, Nat.le_of_ble_eq_true rfl⟩) hP hD hS hA [26] [0, 1, 2, 3, 4, 5, 6, 7, 8, 9, 10, 11, 12, 13, 14, 15, 16, 17, 18, 19, 20, 21, 22, 23, 24, 25] rfl rfl rfl (by decide) (fun u28_4 H9 locs9 hw hP9 hD9 hS9 => ?_)
  subst hw
  have hP : va_P D vwCl ([(o, .inr (1, [.ref q6, .int 0, .int 0])), (q6, .inl (cO, 5, .inr (.inr (.inr (.inr (va_up (va_up (va_up (va_up (fun _ => none) (0 : Int32).toNatClampNeg (some (u28_0 0))) (1 : Int32).toNatClampNeg (some (u28_1 0))) (2 : Int32).toNatClampNeg (some (u28_2 0))) (3 : Int32).toNatClampNeg (some (u28_3 0))))))))] ++ (wB cI u28_0 z0 ++ (wB cI u28_1 z0 ++ (wB cI u28_2 z0 ++ (wB cI u28_3 z0 ++ (wB cI u28_4 z0)))))) H9 := hP9
  have hD : va_D A ([(o, .inr (1, [.ref q6, .int 0, .int 0])), (q6, .inl (cO, 5, .inr (.inr (.inr (.inr (va_up (va_up (va_up (va_up (fun _ => none) (0 : Int32).toNatClampNeg (some (u28_0 0))) (1 : Int32).toNatClampNeg (some (u28_1 0))) (2 : Int32).toNatClampNeg (some (u28_2 0))) (3 : Int32).toNatClampNeg (some (u28_3 0))))))))] ++ (wB cI u28_0 z0 ++ (wB cI u28_1 z0 ++ (wB cI u28_2 z0 ++ (wB cI u28_3 z0 ++ (wB cI u28_4 z0)))))) := hD9
  have hS := hS9
  refine W.widen (k := 31) (n := 440) (Nat.le_of_ble_eq_true rfl) (Nat.le_of_ble_eq_true rfl) ?_
  refine va_astq (r := (RX2, TX2, 7)) hx hb hK hP hD hS 1 1 26 2 rfl rfl rfl rfl (pk_in 4 5 (by omega)) dX1_init_31 (fun H locs hP hD hS => ?_)
  have hP : va_P D vwCl ([(o, .inr (1, [.ref q6, .int 0, .int 0])), (q6, .inl (cO, 5, .inr (.inr (.inr (.inr (va_up (va_up (va_up (va_up (va_up (fun _ => none) (0 : Int32).toNatClampNeg (some (u28_0 0))) (1 : Int32).toNatClampNeg (some (u28_1 0))) (2 : Int32).toNatClampNeg (some (u28_2 0))) (3 : Int32).toNatClampNeg (some (u28_3 0))) (4 : Int32).toNatClampNeg (some (u28_4 0))))))))] ++ (wB cI u28_0 z0 ++ (wB cI u28_1 z0 ++ (wB cI u28_2 z0 ++ (wB cI u28_3 z0 ++ (wB cI u28_4 z0)))))) H := hP
  have hD : va_D A ([(o, .inr (1, [.ref q6, .int 0, .int 0])), (q6, .inl (cO, 5, .inr (.inr (.inr (.inr (va_up (va_up (va_up (va_up (va_up (fun _ => none) (0 : Int32).toNatClampNeg (some (u28_0 0))) (1 : Int32).toNatClampNeg (some (u28_1 0))) (2 : Int32).toNatClampNeg (some (u28_2 0))) (3 : Int32).toNatClampNeg (some (u28_3 0))) (4 : Int32).toNatClampNeg (some (u28_4 0))))))))] ++ (wB cI u28_0 z0 ++ (wB cI u28_1 z0 ++ (wB cI u28_2 z0 ++ (wB cI u28_3 z0 ++ (wB cI u28_4 z0)))))) := hD
  refine lv_iinc (v := 5) (lv' := [(1, .int 5), (0, .ref o)]) hx hb dX1_init_32 hl (k := 0) rfl (by decide) (by decide) rfl (fun ls hl => ?_)
  refine lv_goto (tgt := 14) hx hb dX1_init_35 (by decide) ?_
  refine lv_iload_n hx hb dX1_init_14 rfl (lv_at hl 0 rfl) ?_
  refine lv_iconst (v := 5) hx hb dX1_init_15 (by decide) ?_
  refine lv_icmp_ge (tgt := 38) hx hb dX1_init_16 (by decide) (fun hc => ?_) (fun hc => absurd (by decide) hc)
  refine lv_aload_n hx hb dX1_init_38 rfl (lv_at hl 1 rfl) ?_
  refine lv_iconst (v := 0) hx hb dX1_init_39 (by decide) ?_
  refine va_put (D := D) (ci := 1) (v := .int 0) (ty := .int) (C := RX1) (T := TX1) (N := 3) hx hb hts jX1_init_X1 tyX1 tyX1_ok nmX1 hown hK hP hD hS 0 rfl rfl 1 (by decide) (hts (.fieldLink RX1 18 "BrotherAutomata$History" "next" "I") (List.mem_of_getElem? (i := 8) rfl)) (fun _ h9 => h9) rfl (by decide +kernel) rfl rfl (Nat.le_of_ble_eq_true rfl) dX1_init_40 (fun H locs hP hD hS => ?_)
  have hP : va_P D vwCl ([(o, .inr (1, [.ref q6, .int 0, .int 0])), (q6, .inl (cO, 5, .inr (.inr (.inr (.inr (va_up (va_up (va_up (va_up (va_up (fun _ => none) (0 : Int32).toNatClampNeg (some (u28_0 0))) (1 : Int32).toNatClampNeg (some (u28_1 0))) (2 : Int32).toNatClampNeg (some (u28_2 0))) (3 : Int32).toNatClampNeg (some (u28_3 0))) (4 : Int32).toNatClampNeg (some (u28_4 0))))))))] ++ (wB cI u28_0 z0 ++ (wB cI u28_1 z0 ++ (wB cI u28_2 z0 ++ (wB cI u28_3 z0 ++ (wB cI u28_4 z0)))))) H := hP
  have hD : va_D A ([(o, .inr (1, [.ref q6, .int 0, .int 0])), (q6, .inl (cO, 5, .inr (.inr (.inr (.inr (va_up (va_up (va_up (va_up (va_up (fun _ => none) (0 : Int32).toNatClampNeg (some (u28_0 0))) (1 : Int32).toNatClampNeg (some (u28_1 0))) (2 : Int32).toNatClampNeg (some (u28_2 0))) (3 : Int32).toNatClampNeg (some (u28_3 0))) (4 : Int32).toNatClampNeg (some (u28_4 0))))))))] ++ (wB cI u28_0 z0 ++ (wB cI u28_1 z0 ++ (wB cI u28_2 z0 ++ (wB cI u28_3 z0 ++ (wB cI u28_4 z0)))))) := hD
  refine lv_aload_n hx hb dX1_init_43 rfl (lv_at hl 1 rfl) ?_
  refine lv_iconst (v := 0) hx hb dX1_init_44 (by decide) ?_
  refine va_put (D := D) (ci := 1) (v := .int 0) (ty := .int) (C := RX1) (T := TX1) (N := 3) hx hb hts jX1_init_X1 tyX1 tyX1_ok nmX1 hown hK hP hD hS 0 rfl rfl 2 (by decide) (hts (.fieldLink RX1 22 "BrotherAutomata$History" "kept" "I") (List.mem_of_getElem? (i := 9) rfl)) (fun _ h9 => h9) rfl (by decide +kernel) rfl rfl (Nat.le_of_ble_eq_true rfl) dX1_init_45 (fun H locs hP hD hS => ?_)
  have hP : va_P D vwCl ([(o, .inr (1, [.ref q6, .int 0, .int 0])), (q6, .inl (cO, 5, .inr (.inr (.inr (.inr (va_up (va_up (va_up (va_up (va_up (fun _ => none) (0 : Int32).toNatClampNeg (some (u28_0 0))) (1 : Int32).toNatClampNeg (some (u28_1 0))) (2 : Int32).toNatClampNeg (some (u28_2 0))) (3 : Int32).toNatClampNeg (some (u28_3 0))) (4 : Int32).toNatClampNeg (some (u28_4 0))))))))] ++ (wB cI u28_0 z0 ++ (wB cI u28_1 z0 ++ (wB cI u28_2 z0 ++ (wB cI u28_3 z0 ++ (wB cI u28_4 z0)))))) H := hP
  have hD : va_D A ([(o, .inr (1, [.ref q6, .int 0, .int 0])), (q6, .inl (cO, 5, .inr (.inr (.inr (.inr (va_up (va_up (va_up (va_up (va_up (fun _ => none) (0 : Int32).toNatClampNeg (some (u28_0 0))) (1 : Int32).toNatClampNeg (some (u28_1 0))) (2 : Int32).toNatClampNeg (some (u28_2 0))) (3 : Int32).toNatClampNeg (some (u28_3 0))) (4 : Int32).toNatClampNeg (some (u28_4 0))))))))] ++ (wB cI u28_0 z0 ++ (wB cI u28_1 z0 ++ (wB cI u28_2 z0 ++ (wB cI u28_3 z0 ++ (wB cI u28_4 z0)))))) := hD
  obtain ⟨aR, hr0, hr1, hr2, hr3, hr4⟩ : ∃ aR : Nat → Nat → Nat, aR 0 = u28_0 ∧ aR 1 = u28_1 ∧ aR 2 = u28_2 ∧ aR 3 = u28_3 ∧ aR 4 = u28_4 := ⟨fun j => match j with | 0 => u28_0 | 1 => u28_1 | 2 => u28_2 | 3 => u28_3 | _ => u28_4, rfl, rfl, rfl, rfl, rfl⟩
  subst hr0 hr1 hr2 hr3 hr4
  have hg : ∀ j : Nat, j < 5 → (va_up (va_up (va_up (va_up (va_up (fun _ => none) (0 : Int32).toNatClampNeg (some (aR 0 0))) (1 : Int32).toNatClampNeg (some (aR 1 0))) (2 : Int32).toNatClampNeg (some (aR 2 0))) (3 : Int32).toNatClampNeg (some (aR 3 0))) (4 : Int32).toNatClampNeg (some (aR 4 0))) j = (fun j => some (aR j 0)) j := fun j hj => by rcases (show j = 0 ∨ j = 1 ∨ j = 2 ∨ j = 3 ∨ j = 4 by omega) with rfl | rfl | rfl | rfl | rfl <;> rfl
  have hP := hP.ring (k := 1) rfl hg
  have hD := hD.ring (k := 1) (g := fun j => some (aR j 0)) rfl
  exact xvret (w := (fun u : ((Nat → Nat) × (Nat → Nat → Nat)) => wH cO u.1 u.2 z0 ++ wR cI u.2 (fun _ => z0))) ((fun j => match j with | 0 => o | _ => q6), aR) hx hb hr hlocks rfl hP hK hD hS dX1_init_48
