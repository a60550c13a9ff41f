theorem dJ7_fill_53178_0 : decode cJ7_fill_53178 0 = .ok (.iconst 0, 1) := by decide +kernel
theorem dJ7_fill_53178_1 : decode cJ7_fill_53178 1 = .ok (.istore_n 2, 1) := by decide +kernel
theorem dJ7_fill_53178_2 : decode cJ7_fill_53178 2 = .ok (.aload_n 0, 1) := by decide +kernel
theorem dJ7_fill_53178_3 : decode cJ7_fill_53178 3 = .ok (.arraylength, 1) := by decide +kernel
theorem dJ7_fill_53178_4 : decode cJ7_fill_53178 4 = .ok (.istore_n 3, 1) := by decide +kernel
theorem dJ7_fill_53178_5 : decode cJ7_fill_53178 5 = .ok (.iload_n 2, 1) := by decide +kernel
theorem dJ7_fill_53178_6 : decode cJ7_fill_53178 6 = .ok (.iload_n 3, 1) := by decide +kernel
theorem dJ7_fill_53178_7 : decode cJ7_fill_53178 7 = .ok (.if_icmp .ge 13, 3) := by decide +kernel
theorem dJ7_fill_53178_10 : decode cJ7_fill_53178 10 = .ok (.aload_n 0, 1) := by decide +kernel
theorem dJ7_fill_53178_11 : decode cJ7_fill_53178 11 = .ok (.iload_n 2, 1) := by decide +kernel
theorem dJ7_fill_53178_12 : decode cJ7_fill_53178 12 = .ok (.iload_n 1, 1) := by decide +kernel
theorem dJ7_fill_53178_13 : decode cJ7_fill_53178 13 = .ok (.iastore, 1) := by decide +kernel
theorem dJ7_fill_53178_14 : decode cJ7_fill_53178 14 = .ok (.iinc 2 1, 3) := by decide +kernel
theorem dJ7_fill_53178_17 : decode cJ7_fill_53178 17 = .ok (.goto (-12), 3) := by decide +kernel
theorem dJ7_fill_53178_20 : decode cJ7_fill_53178 20 = .ok (.return_, 1) := by decide +kernel
abbrev w_J7_fill_53178 (cI cO : ClassId) (ra : Nat) (fn : Nat)  : ((Nat → Int32)) → va_W := fun u => ([(ra, .inl (cI, fn, .inl u))])
set_option maxRecDepth 100000 in
set_option maxHeartbeats 8000000 in
theorem mJ7_fill_53178 (l : Launch) (D : va_G) (cI cO : ClassId) (tA tS : Nat) (ra : Nat) (fn : Nat) (zF : Nat → Int32) (x1 : Int32) (sz : Nat) {post : ((Nat → Int32)) → Prop} (h : qJ7_fill_53178 post fn x1 zF) : Met l yJ7_fill_53178 wsJ7_fill_53178 ({ frames := 0, cells := 0, slots := 0, locals := 0 } : Room) (xPre D cI cO tA tS [.ref ra, .int x1] ([(ra, .inl (cI, fn, .inl zF))]) sz) (va_Qv post (xB D cI cO (va_A ([(ra, .inl (cI, fn, .inl zF))]) sz) (w_J7_fill_53178 cI cO ra fn)) (va_A ([(ra, .inl (cI, fn, .inl zF))]) sz)) 0 0 (va_A ([(ra, .inl (cI, fn, .inl zF))]) sz) := by
  refine xMet D cI cO tA tS (fun A => va_Qv post (xB D cI cO A (w_J7_fill_53178 cI cO ra fn)) A) (cc := cJ7_fill_53178) (maxL := 4) (ret := none) (by decide) rfl (Nat.le_of_ble_eq_true rfl) ?_
  intro p e s m below meth c A ls hx hb hr hts hown hlocks hin hml hA hS hP hK hD hE hl
  have hown : s.vm.findClass RJ7 = some m.cls := hown
  have hl : lv_has ls 4 [(0, .ref ra), (1, .int x1)] := hl
  have g5 : ∀ (n : Nat) (y2 : Int32) (y3 : Int32) (zF : Nat → Int32) (H : Heap) (locs : List Loc) (ls : Array Slot), qJ7_fill_53178_5 post fn x1 n y2 y3 zF → va_P D vwCl ([(ra, .inl (cI, fn, .inl zF))]) H → va_D A ([(ra, .inl (cI, fn, .inl zF))]) → va_S A s.heap H locs → lv_has ls 4 [(3, .int y3), (2, .int y2), (0, .ref ra), (1, .int x1)] → W p l e ({ frames := 0, cells := 0, slots := 0, locals := 0 } : Room) s m ([.ref ra, .int x1] : List Value).toArray below meth c H locs 0 0 (MQ below (va_Qv post (xB D cI cO A (w_J7_fill_53178 cI cO ra fn)) A) ([.ref ra, .int x1] : List Value).toArray s 0 0 A) (F0 m 5 ls []) := by
    intro n
    induction n with
    | zero => intro y2 y3 zF H locs ls h; exact False.elim h
    | succ n hk5 =>
      intro y2 y3 zF H locs ls h hP hD hS hl
      have h : qJ7_fill_53178_5b post fn x1 (qJ7_fill_53178_5 post fn x1 n) y2 y3 zF := h
      refine lv_iload_n hx hb dJ7_fill_53178_5 rfl (lv_at hl 1 rfl) ?_
      refine lv_iload_n hx hb dJ7_fill_53178_6 rfl (lv_at hl 0 rfl) ?_
      obtain ⟨hh1, hh2⟩ := h
      refine lv_icmp_ge (tgt := 20) hx hb dJ7_fill_53178_7 (by decide) (fun hc => ?_) (fun hc => ?_)
      · have h := hh1 hc
        exact xvret (w := (w_J7_fill_53178 cI cO ra fn)) (zF) hx hb hr hlocks h hP hK hD hS dJ7_fill_53178_20
      · have h := hh2 hc
        refine lv_aload_n hx hb dJ7_fill_53178_10 rfl (lv_at hl 2 rfl) ?_
        refine lv_iload_n hx hb dJ7_fill_53178_11 rfl (lv_at hl 1 rfl) ?_
        refine lv_iload_n hx hb dJ7_fill_53178_12 rfl (lv_at hl 3 rfl) ?_
        obtain ⟨hi, h⟩ := h
        refine va_iast hx hb hK hP hD hS 0 0 rfl rfl hi dJ7_fill_53178_13 (fun H locs hP hD hS => ?_)
        have hP : va_P D vwCl ([(ra, .inl (cI, fn, .inl (upd zF y2.toNatClampNeg x1)))]) H := hP
        have hD : va_D A ([(ra, .inl (cI, fn, .inl (upd zF y2.toNatClampNeg x1)))]) := hD
        refine lv_iinc (v := (y2 + (1 : Int32))) (lv' := [(2, .int (y2 + (1 : Int32))), (3, .int y3), (0, .ref ra), (1, .int x1)]) hx hb dJ7_fill_53178_14 hl (k := 1) rfl rfl (by decide) rfl (fun ls hl => ?_)
        refine lv_goto (tgt := 5) hx hb dJ7_fill_53178_17 (by decide) ?_
        exact hk5 (y2 + (1 : Int32)) y3 (upd zF y2.toNatClampNeg x1) _ _ _ h hP hD hS (lv_sub hl [1, 0, 2, 3] rfl)
  refine lv_iconst (v := 0) hx hb dJ7_fill_53178_0 (by decide) ?_
  refine lv_istore_n (lv' := [(2, .int (0 : Int32)), (0, .ref ra), (1, .int x1)]) hx hb dJ7_fill_53178_1 rfl hl (by decide) rfl (fun ls hl => ?_)
  refine lv_aload_n hx hb dJ7_fill_53178_2 rfl (lv_at hl 1 rfl) ?_
  refine va_alen hx hb hK hP 0 0 rfl rfl rfl dJ7_fill_53178_3 ?_
  refine lv_istore_n (lv' := [(3, .int (Int32.ofNat fn)), (2, .int (0 : Int32)), (0, .ref ra), (1, .int x1)]) hx hb dJ7_fill_53178_4 rfl hl (by decide) rfl (fun ls hl => ?_)
  obtain ⟨n0, h⟩ := h
  exact g5 n0 (0 : Int32) (Int32.ofNat fn) zF _ _ _ h hP hD hS hl
theorem dJ6_bitCount_0f7a4_0 : decode cJ6_bitCount_0f7a4 0 = .ok (.iload_n 0, 1) := by decide +kernel
theorem dJ6_bitCount_0f7a4_1 : decode cJ6_bitCount_0f7a4 1 = .ok (.iload_n 0, 1) := by decide +kernel
theorem dJ6_bitCount_0f7a4_2 : decode cJ6_bitCount_0f7a4 2 = .ok (.iconst 1, 1) := by decide +kernel
theorem dJ6_bitCount_0f7a4_3 : decode cJ6_bitCount_0f7a4 3 = .ok (.iushr, 1) := by decide +kernel
theorem dJ6_bitCount_0f7a4_4 : decode cJ6_bitCount_0f7a4 4 = .ok (.ldc_w 265, 3) := by decide +kernel
theorem dJ6_bitCount_0f7a4_7 : decode cJ6_bitCount_0f7a4 7 = .ok (.iand, 1) := by decide +kernel
theorem dJ6_bitCount_0f7a4_8 : decode cJ6_bitCount_0f7a4 8 = .ok (.isub, 1) := by decide +kernel
theorem dJ6_bitCount_0f7a4_9 : decode cJ6_bitCount_0f7a4 9 = .ok (.istore_n 0, 1) := by decide +kernel
theorem dJ6_bitCount_0f7a4_10 : decode cJ6_bitCount_0f7a4 10 = .ok (.iload_n 0, 1) := by decide +kernel
theorem dJ6_bitCount_0f7a4_11 : decode cJ6_bitCount_0f7a4 11 = .ok (.ldc_w 266, 3) := by decide +kernel
theorem dJ6_bitCount_0f7a4_14 : decode cJ6_bitCount_0f7a4 14 = .ok (.iand, 1) := by decide +kernel
theorem dJ6_bitCount_0f7a4_15 : decode cJ6_bitCount_0f7a4 15 = .ok (.iload_n 0, 1) := by decide +kernel
theorem dJ6_bitCount_0f7a4_16 : decode cJ6_bitCount_0f7a4 16 = .ok (.iconst 2, 1) := by decide +kernel
theorem dJ6_bitCount_0f7a4_17 : decode cJ6_bitCount_0f7a4 17 = .ok (.iushr, 1) := by decide +kernel
theorem dJ6_bitCount_0f7a4_18 : decode cJ6_bitCount_0f7a4 18 = .ok (.ldc_w 266, 3) := by decide +kernel
theorem dJ6_bitCount_0f7a4_21 : decode cJ6_bitCount_0f7a4 21 = .ok (.iand, 1) := by decide +kernel
theorem dJ6_bitCount_0f7a4_22 : decode cJ6_bitCount_0f7a4 22 = .ok (.iadd, 1) := by decide +kernel
theorem dJ6_bitCount_0f7a4_23 : decode cJ6_bitCount_0f7a4 23 = .ok (.istore_n 0, 1) := by decide +kernel
theorem dJ6_bitCount_0f7a4_24 : decode cJ6_bitCount_0f7a4 24 = .ok (.iload_n 0, 1) := by decide +kernel
theorem dJ6_bitCount_0f7a4_25 : decode cJ6_bitCount_0f7a4 25 = .ok (.iload_n 0, 1) := by decide +kernel
theorem dJ6_bitCount_0f7a4_26 : decode cJ6_bitCount_0f7a4 26 = .ok (.iconst 4, 1) := by decide +kernel
theorem dJ6_bitCount_0f7a4_27 : decode cJ6_bitCount_0f7a4 27 = .ok (.iushr, 1) := by decide +kernel
theorem dJ6_bitCount_0f7a4_28 : decode cJ6_bitCount_0f7a4 28 = .ok (.iadd, 1) := by decide +kernel
theorem dJ6_bitCount_0f7a4_29 : decode cJ6_bitCount_0f7a4 29 = .ok (.ldc_w 267, 3) := by decide +kernel
theorem dJ6_bitCount_0f7a4_32 : decode cJ6_bitCount_0f7a4 32 = .ok (.iand, 1) := by decide +kernel
theorem dJ6_bitCount_0f7a4_33 : decode cJ6_bitCount_0f7a4 33 = .ok (.istore_n 0, 1) := by decide +kernel
theorem dJ6_bitCount_0f7a4_34 : decode cJ6_bitCount_0f7a4 34 = .ok (.iload_n 0, 1) := by decide +kernel
theorem dJ6_bitCount_0f7a4_35 : decode cJ6_bitCount_0f7a4 35 = .ok (.iload_n 0, 1) := by decide +kernel
theorem dJ6_bitCount_0f7a4_36 : decode cJ6_bitCount_0f7a4 36 = .ok (.bipush 8, 2) := by decide +kernel
theorem dJ6_bitCount_0f7a4_38 : decode cJ6_bitCount_0f7a4 38 = .ok (.iushr, 1) := by decide +kernel
theorem dJ6_bitCount_0f7a4_39 : decode cJ6_bitCount_0f7a4 39 = .ok (.iadd, 1) := by decide +kernel
theorem dJ6_bitCount_0f7a4_40 : decode cJ6_bitCount_0f7a4 40 = .ok (.istore_n 0, 1) := by decide +kernel
theorem dJ6_bitCount_0f7a4_41 : decode cJ6_bitCount_0f7a4 41 = .ok (.iload_n 0, 1) := by decide +kernel
theorem dJ6_bitCount_0f7a4_42 : decode cJ6_bitCount_0f7a4 42 = .ok (.iload_n 0, 1) := by decide +kernel
theorem dJ6_bitCount_0f7a4_43 : decode cJ6_bitCount_0f7a4 43 = .ok (.bipush 16, 2) := by decide +kernel
theorem dJ6_bitCount_0f7a4_45 : decode cJ6_bitCount_0f7a4 45 = .ok (.iushr, 1) := by decide +kernel
theorem dJ6_bitCount_0f7a4_46 : decode cJ6_bitCount_0f7a4 46 = .ok (.iadd, 1) := by decide +kernel
theorem dJ6_bitCount_0f7a4_47 : decode cJ6_bitCount_0f7a4 47 = .ok (.istore_n 0, 1) := by decide +kernel
theorem dJ6_bitCount_0f7a4_48 : decode cJ6_bitCount_0f7a4 48 = .ok (.iload_n 0, 1) := by decide +kernel
theorem dJ6_bitCount_0f7a4_49 : decode cJ6_bitCount_0f7a4 49 = .ok (.bipush 63, 2) := by decide +kernel
theorem dJ6_bitCount_0f7a4_51 : decode cJ6_bitCount_0f7a4 51 = .ok (.iand, 1) := by decide +kernel
theorem dJ6_bitCount_0f7a4_52 : decode cJ6_bitCount_0f7a4 52 = .ok (.ireturn, 1) := by decide +kernel
abbrev w_J6_bitCount_0f7a4 (cI cO : ClassId)   : (Unit) → va_W := fun u => ([] : va_W)
set_option maxRecDepth 100000 in
set_option maxHeartbeats 8000000 in
theorem mJ6_bitCount_0f7a4 (l : Launch) (D : va_G) (cI cO : ClassId) (tA tS : Nat)   (x0 : Int32) (sz : Nat) {post : Int32 → (Unit) → Prop} (h : qJ6_bitCount_0f7a4 post x0) : Met l yJ6_bitCount_0f7a4 wsJ6_bitCount_0f7a4 ({ frames := 0, cells := 0, slots := 0, locals := 0 } : Room) (xPre D cI cO tA tS [.int x0] ([] : va_W) sz) (va_Qi post (xB D cI cO (va_A ([] : va_W) sz) (w_J6_bitCount_0f7a4 cI cO)) (va_A ([] : va_W) sz)) 0 0 (va_A ([] : va_W) sz) := by
  refine xMet D cI cO tA tS (fun A => va_Qi post (xB D cI cO A (w_J6_bitCount_0f7a4 cI cO)) A) (cc := cJ6_bitCount_0f7a4) (maxL := 1) (ret := (some .int)) (by decide) rfl (Nat.le_of_ble_eq_true rfl) ?_
  intro p e s m below meth c A ls hx hb hr hts hown hlocks hin hml hA hS hP hK hD hE hl
  have hown : s.vm.findClass RJ6 = some m.cls := hown
  have hl : lv_has ls 1 [(0, .int x0)] := hl
  refine lv_iload_n hx hb dJ6_bitCount_0f7a4_0 rfl (lv_at hl 0 rfl) ?_
  refine lv_iload_n hx hb dJ6_bitCount_0f7a4_1 rfl (lv_at hl 0 rfl) ?_
  refine lv_iconst (v := 1) hx hb dJ6_bitCount_0f7a4_2 (by decide) ?_
  refine lv_iushr (v := (x0.toUInt32 >>> ((1 : Int32).toUInt32 &&& Int32.toUInt32 31)).toInt32) hx hb dJ6_bitCount_0f7a4_3 rfl ?_
  refine lv_ldcw (v := 1431655765) hx hb hown (hts (.constant RJ6 265 (1431655765)) (List.mem_of_getElem? (i := 1) rfl)) dJ6_bitCount_0f7a4_4 ?_
  refine lv_iand hx hb dJ6_bitCount_0f7a4_7 ?_
  refine lv_isub hx hb dJ6_bitCount_0f7a4_8 ?_
  refine lv_istore_n (lv' := [(0, .int (x0 - (((x0.toUInt32 >>> ((1 : Int32).toUInt32 &&& Int32.toUInt32 31)).toInt32) &&& (1431655765 : Int32))))]) hx hb dJ6_bitCount_0f7a4_9 rfl hl (by decide) rfl (fun ls hl => ?_)
  refine lv_iload_n hx hb dJ6_bitCount_0f7a4_10 rfl (lv_at hl 0 rfl) ?_
  refine lv_ldcw (v := 858993459) hx hb hown (hts (.constant RJ6 266 (858993459)) (List.mem_of_getElem? (i := 2) rfl)) dJ6_bitCount_0f7a4_11 ?_
  refine lv_iand hx hb dJ6_bitCount_0f7a4_14 ?_
  refine lv_iload_n hx hb dJ6_bitCount_0f7a4_15 rfl (lv_at hl 0 rfl) ?_
  refine lv_iconst (v := 2) hx hb dJ6_bitCount_0f7a4_16 (by decide) ?_
  refine lv_iushr (v := ((x0 - (((x0.toUInt32 >>> ((1 : Int32).toUInt32 &&& Int32.toUInt32 31)).toInt32) &&& (1431655765 : Int32))).toUInt32 >>> ((2 : Int32).toUInt32 &&& Int32.toUInt32 31)).toInt32) hx hb dJ6_bitCount_0f7a4_17 rfl ?_
  refine lv_ldcw (v := 858993459) hx hb hown (hts (.constant RJ6 266 (858993459)) (List.mem_of_getElem? (i := 2) rfl)) dJ6_bitCount_0f7a4_18 ?_
  refine lv_iand hx hb dJ6_bitCount_0f7a4_21 ?_
  refine lv_iadd hx hb dJ6_bitCount_0f7a4_22 ?_
  refine lv_istore_n (lv' := [(0, .int (((x0 - (((x0.toUInt32 >>> ((1 : Int32).toUInt32 &&& Int32.toUInt32 31)).toInt32) &&& (1431655765 : Int32))) &&& (858993459 : Int32)) + ((((x0 - (((x0.toUInt32 >>> ((1 : Int32).toUInt32 &&& Int32.toUInt32 31)).toInt32) &&& (1431655765 : Int32))).toUInt32 >>> ((2 : Int32).toUInt32 &&& Int32.toUInt32 31)).toInt32) &&& (858993459 : Int32))))]) hx hb dJ6_bitCount_0f7a4_23 rfl hl (by decide) rfl (fun ls hl => ?_)
  refine lv_iload_n hx hb dJ6_bitCount_0f7a4_24 rfl (lv_at hl 0 rfl) ?_
  refine lv_iload_n hx hb dJ6_bitCount_0f7a4_25 rfl (lv_at hl 0 rfl) ?_
  refine lv_iconst (v := 4) hx hb dJ6_bitCount_0f7a4_26 (by decide) ?_
  refine lv_iushr (v := ((((x0 - (((x0.toUInt32 >>> ((1 : Int32).toUInt32 &&& Int32.toUInt32 31)).toInt32) &&& (1431655765 : Int32))) &&& (858993459 : Int32)) + ((((x0 - (((x0.toUInt32 >>> ((1 : Int32).toUInt32 &&& Int32.toUInt32 31)).toInt32) &&& (1431655765 : Int32))).toUInt32 >>> ((2 : Int32).toUInt32 &&& Int32.toUInt32 31)).toInt32) &&& (858993459 : Int32))).toUInt32 >>> ((4 : Int32).toUInt32 &&& Int32.toUInt32 31)).toInt32) hx hb dJ6_bitCount_0f7a4_27 rfl ?_
  refine lv_iadd hx hb dJ6_bitCount_0f7a4_28 ?_
  refine lv_ldcw (v := 252645135) hx hb hown (hts (.constant RJ6 267 (252645135)) (List.mem_of_getElem? (i := 3) rfl)) dJ6_bitCount_0f7a4_29 ?_
  refine lv_iand hx hb dJ6_bitCount_0f7a4_32 ?_
  refine lv_istore_n (lv' := [(0, .int (((((x0 - (((x0.toUInt32 >>> ((1 : Int32).toUInt32 &&& Int32.toUInt32 31)).toInt32) &&& (1431655765 : Int32))) &&& (858993459 : Int32)) + ((((x0 - (((x0.toUInt32 >>> ((1 : Int32).toUInt32 &&& Int32.toUInt32 31)).toInt32) &&& (1431655765 : Int32))).toUInt32 >>> ((2 : Int32).toUInt32 &&& Int32.toUInt32 31)).toInt32) &&& (858993459 : Int32))) + (((((x0 - (((x0.toUInt32 >>> ((1 : Int32).toUInt32 &&& Int32.toUInt32 31)).toInt32) &&& (1431655765 : Int32))) &&& (858993459 : Int32)) + ((((x0 - (((x0.toUInt32 >>> ((1 : Int32).toUInt32 &&& Int32.toUInt32 31)).toInt32) &&& (1431655765 : Int32))).toUInt32 >>> ((2 : Int32).toUInt32 &&& Int32.toUInt32 31)).toInt32) &&& (858993459 : Int32))).toUInt32 >>> ((4 : Int32).toUInt32 &&& Int32.toUInt32 31)).toInt32)) &&& (252645135 : Int32)))]) hx hb dJ6_bitCount_0f7a4_33 rfl hl (by decide) rfl (fun ls hl => ?_)
  refine lv_iload_n hx hb dJ6_bitCount_0f7a4_34 rfl (lv_at hl 0 rfl) ?_
  refine lv_iload_n hx hb dJ6_bitCount_0f7a4_35 rfl (lv_at hl 0 rfl) ?_
  refine lv_bipush (v := 8) hx hb dJ6_bitCount_0f7a4_36 (by decide) ?_
  refine lv_iushr (v := ((((((x0 - (((x0.toUInt32 >>> ((1 : Int32).toUInt32 &&& Int32.toUInt32 31)).toInt32) &&& (1431655765 : Int32))) &&& (858993459 : Int32)) + ((((x0 - (((x0.toUInt32 >>> ((1 : Int32).toUInt32 &&& Int32.toUInt32 31)).toInt32) &&& (1431655765 : Int32))).toUInt32 >>> ((2 : Int32).toUInt32 &&& Int32.toUInt32 31)).toInt32) &&& (858993459 : Int32))) + (((((x0 - (((x0.toUInt32 >>> ((1 : Int32).toUInt32 &&& Int32.toUInt32 31)).toInt32) &&& (1431655765 : Int32))) &&& (858993459 : Int32)) + ((((x0 - (((x0.toUInt32 >>> ((1 : Int32).toUInt32 &&& Int32.toUInt32 31)).toInt32) &&& (1431655765 : Int32))).toUInt32 >>> ((2 : Int32).toUInt32 &&& Int32.toUInt32 31)).toInt32) &&& (858993459 : Int32))).toUInt32 >>> ((4 : Int32).toUInt32 &&& Int32.toUInt32 31)).toInt32)) &&& (252645135 : Int32)).toUInt32 >>> ((8 : Int32).toUInt32 &&& Int32.toUInt32 31)).toInt32) hx hb dJ6_bitCount_0f7a4_38 rfl ?_
  refine lv_iadd hx hb dJ6_bitCount_0f7a4_39 ?_
  refine lv_istore_n (lv' := [(0, .int ((((((x0 - (((x0.toUInt32 >>> ((1 : Int32).toUInt32 &&& Int32.toUInt32 31)).toInt32) &&& (1431655765 : Int32))) &&& (858993459 : Int32)) + ((((x0 - (((x0.toUInt32 >>> ((1 : Int32).toUInt32 &&& Int32.toUInt32 31)).toInt32) &&& (1431655765 : Int32))).toUInt32 >>> ((2 : Int32).toUInt32 &&& Int32.toUInt32 31)).toInt32) &&& (858993459 : Int32))) + (((((x0 - (((x0.toUInt32 >>> ((1 : Int32).toUInt32 &&& Int32.toUInt32 31)).toInt32) &&& (1431655765 : Int32))) &&& (858993459 : Int32)) + ((((x0 - (((x0.toUInt32 >>> ((1 : Int32).toUInt32 &&& Int32.toUInt32 31)).toInt32) &&& (1431655765 : Int32))).toUInt32 >>> ((2 : Int32).toUInt32 &&& Int32.toUInt32 31)).toInt32) &&& (858993459 : Int32))).toUInt32 >>> ((4 : Int32).toUInt32 &&& Int32.toUInt32 31)).toInt32)) &&& (252645135 : Int32)) + (((((((x0 - (((x0.toUInt32 >>> ((1 : Int32).toUInt32 &&& Int32.toUInt32 31)).toInt32) &&& (1431655765 : Int32))) &&& (858993459 : Int32)) + ((((x0 - (((x0.toUInt32 >>> ((1 : Int32).toUInt32 &&& Int32.toUInt32 31)).toInt32) &&& (1431655765 : Int32))).toUInt32 >>> ((2 : Int32).toUInt32 &&& Int32.toUInt32 31)).toInt32) &&& (858993459 : Int32))) + (((((x0 - (((x0.toUInt32 >>> ((1 : Int32).toUInt32 &&& Int32.toUInt32 31)).toInt32) &&& (1431655765 : Int32))) &&& (858993459 : Int32)) + ((((x0 - (((x0.toUInt32 >>> ((1 : Int32).toUInt32 &&& Int32.toUInt32 31)).toInt32) &&& (1431655765 : Int32))).toUInt32 >>> ((2 : Int32).toUInt32 &&& Int32.toUInt32 31)).toInt32) &&& (858993459 : Int32))).toUInt32 >>> ((4 : Int32).toUInt32 &&& Int32.toUInt32 31)).toInt32)) &&& (252645135 : Int32)).toUInt32 >>> ((8 : Int32).toUInt32 &&& Int32.toUInt32 31)).toInt32)))]) hx hb dJ6_bitCount_0f7a4_40 rfl hl (by decide) rfl (fun ls hl => ?_)
  refine lv_iload_n hx hb dJ6_bitCount_0f7a4_41 rfl (lv_at hl 0 rfl) ?_
  refine lv_iload_n hx hb dJ6_bitCount_0f7a4_42 rfl (lv_at hl 0 rfl) ?_
  refine lv_bipush (v := 16) hx hb dJ6_bitCount_0f7a4_43 (by decide) ?_
  refine lv_iushr (v := (((((((x0 - (((x0.toUInt32 >>> ((1 : Int32).toUInt32 &&& Int32.toUInt32 31)).toInt32) &&& (1431655765 : Int32))) &&& (858993459 : Int32)) + ((((x0 - (((x0.toUInt32 >>> ((1 : Int32).toUInt32 &&& Int32.toUInt32 31)).toInt32) &&& (1431655765 : Int32))).toUInt32 >>> ((2 : Int32).toUInt32 &&& Int32.toUInt32 31)).toInt32) &&& (858993459 : Int32))) + (((((x0 - (((x0.toUInt32 >>> ((1 : Int32).toUInt32 &&& Int32.toUInt32 31)).toInt32) &&& (1431655765 : Int32))) &&& (858993459 : Int32)) + ((((x0 - (((x0.toUInt32 >>> ((1 : Int32).toUInt32 &&& Int32.toUInt32 31)).toInt32) &&& (1431655765 : Int32))).toUInt32 >>> ((2 : Int32).toUInt32 &&& Int32.toUInt32 31)).toInt32) &&& (858993459 : Int32))).toUInt32 >>> ((4 : Int32).toUInt32 &&& Int32.toUInt32 31)).toInt32)) &&& (252645135 : Int32)) + (((((((x0 - (((x0.toUInt32 >>> ((1 : Int32).toUInt32 &&& Int32.toUInt32 31)).toInt32) &&& (1431655765 : Int32))) &&& (858993459 : Int32)) + ((((x0 - (((x0.toUInt32 >>> ((1 : Int32).toUInt32 &&& Int32.toUInt32 31)).toInt32) &&& (1431655765 : Int32))).toUInt32 >>> ((2 : Int32).toUInt32 &&& Int32.toUInt32 31)).toInt32) &&& (858993459 : Int32))) + (((((x0 - (((x0.toUInt32 >>> ((1 : Int32).toUInt32 &&& Int32.toUInt32 31)).toInt32) &&& (1431655765 : Int32))) &&& (858993459 : Int32)) + ((((x0 - (((x0.toUInt32 >>> ((1 : Int32).toUInt32 &&& Int32.toUInt32 31)).toInt32) &&& (1431655765 : Int32))).toUInt32 >>> ((2 : Int32).toUInt32 &&& Int32.toUInt32 31)).toInt32) &&& (858993459 : Int32))).toUInt32 >>> ((4 : Int32).toUInt32 &&& Int32.toUInt32 31)).toInt32)) &&& (252645135 : Int32)).toUInt32 >>> ((8 : Int32).toUInt32 &&& Int32.toUInt32 31)).toInt32)).toUInt32 >>> ((16 : Int32).toUInt32 &&& Int32.toUInt32 31)).toInt32) hx hb dJ6_bitCount_0f7a4_45 rfl ?_
  refine lv_iadd hx hb dJ6_bitCount_0f7a4_46 ?_
  refine lv_istore_n (lv' := [(0, .int (((((((x0 - (((x0.toUInt32 >>> ((1 : Int32).toUInt32 &&& Int32.toUInt32 31)).toInt32) &&& (1431655765 : Int32))) &&& (858993459 : Int32)) + ((((x0 - (((x0.toUInt32 >>> ((1 : Int32).toUInt32 &&& Int32.toUInt32 31)).toInt32) &&& (1431655765 : Int32))).toUInt32 >>> ((2 : Int32).toUInt32 &&& Int32.toUInt32 31)).toInt32) &&& (858993459 : Int32))) + (((((x0 - (((x0.toUInt32 >>> ((1 : Int32).toUInt32 &&& Int32.toUInt32 31)).toInt32) &&& (1431655765 : Int32))) &&& (858993459 : Int32)) + ((((x0 - (((x0.toUInt32 >>> ((1 : Int32).toUInt32 &&& Int32.toUInt32 31)).toInt32) &&& (1431655765 : Int32))).toUInt32 >>> ((2 : Int32).toUInt32 &&& Int32.toUInt32 31)).toInt32) &&& (858993459 : Int32))).toUInt32 >>> ((4 : Int32).toUInt32 &&& Int32.toUInt32 31)).toInt32)) &&& (252645135 : Int32)) + (((((((x0 - (((x0.toUInt32 >>> ((1 : Int32).toUInt32 &&& Int32.toUInt32 31)).toInt32) &&& (1431655765 : Int32))) &&& (858993459 : Int32)) + ((((x0 - (((x0.toUInt32 >>> ((1 : Int32).toUInt32 &&& Int32.toUInt32 31)).toInt32) &&& (1431655765 : Int32))).toUInt32 >>> ((2 : Int32).toUInt32 &&& Int32.toUInt32 31)).toInt32) &&& (858993459 : Int32))) + (((((x0 - (((x0.toUInt32 >>> ((1 : Int32).toUInt32 &&& Int32.toUInt32 31)).toInt32) &&& (1431655765 : Int32))) &&& (858993459 : Int32)) + ((((x0 - (((x0.toUInt32 >>> ((1 : Int32).toUInt32 &&& Int32.toUInt32 31)).toInt32) &&& (1431655765 : Int32))).toUInt32 >>> ((2 : Int32).toUInt32 &&& Int32.toUInt32 31)).toInt32) &&& (858993459 : Int32))).toUInt32 >>> ((4 : Int32).toUInt32 &&& Int32.toUInt32 31)).toInt32)) &&& (252645135 : Int32)).toUInt32 >>> ((8 : Int32).toUInt32 &&& Int32.toUInt32 31)).toInt32)) + ((((((((x0 - (((x0.toUInt32 >>> ((1 : Int32).toUInt32 &&& Int32.toUInt32 31)).toInt32) &&& (1431655765 : Int32))) &&& (858993459 : Int32)) + ((((x0 - (((x0.toUInt32 >>> ((1 : Int32).toUInt32 &&& Int32.toUInt32 31)).toInt32) &&& (1431655765 : Int32))).toUInt32 >>> ((2 : Int32).toUInt32 &&& Int32.toUInt32 31)).toInt32) &&& (858993459 : Int32))) + (((((x0 - (((x0.toUInt32 >>> ((1 : Int32).toUInt32 &&& Int32.toUInt32 31)).toInt32) &&& (1431655765 : Int32))) &&& (858993459 : Int32)) + ((((x0 - (((x0.toUInt32 >>> ((1 : Int32).toUInt32 &&& Int32.toUInt32 31)).toInt32) &&& (1431655765 : Int32))).toUInt32 >>> ((2 : Int32).toUInt32 &&& Int32.toUInt32 31)).toInt32) &&& (858993459 : Int32))).toUInt32 >>> ((4 : Int32).toUInt32 &&& Int32.toUInt32 31)).toInt32)) &&& (252645135 : Int32)) + (((((((x0 - (((x0.toUInt32 >>> ((1 : Int32).toUInt32 &&& Int32.toUInt32 31)).toInt32) &&& (1431655765 : Int32))) &&& (858993459 : Int32)) + ((((x0 - (((x0.toUInt32 >>> ((1 : Int32).toUInt32 &&& Int32.toUInt32 31)).toInt32) &&& (1431655765 : Int32))).toUInt32 >>> ((2 : Int32).toUInt32 &&& Int32.toUInt32 31)).toInt32) &&& (858993459 : Int32))) + (((((x0 - (((x0.toUInt32 >>> ((1 : Int32).toUInt32 &&& Int32.toUInt32 31)).toInt32) &&& (1431655765 : Int32))) &&& (858993459 : Int32)) + ((((x0 - (((x0.toUInt32 >>> ((1 : Int32).toUInt32 &&& Int32.toUInt32 31)).toInt32) &&& (1431655765 : Int32))).toUInt32 >>> ((2 : Int32).toUInt32 &&& Int32.toUInt32 31)).toInt32) &&& (858993459 : Int32))).toUInt32 >>> ((4 : Int32).toUInt32 &&& Int32.toUInt32 31)).toInt32)) &&& (252645135 : Int32)).toUInt32 >>> ((8 : Int32).toUInt32 &&& Int32.toUInt32 31)).toInt32)).toUInt32 >>> ((16 : Int32).toUInt32 &&& Int32.toUInt32 31)).toInt32)))]) hx hb dJ6_bitCount_0f7a4_47 rfl hl (by decide) rfl (fun ls hl => ?_)
  refine lv_iload_n hx hb dJ6_bitCount_0f7a4_48 rfl (lv_at hl 0 rfl) ?_
  refine lv_bipush (v := 63) hx hb dJ6_bitCount_0f7a4_49 (by decide) ?_
  refine lv_iand hx hb dJ6_bitCount_0f7a4_51 ?_
  exact xiret (w := (w_J6_bitCount_0f7a4 cI cO)) () hx hb hr hlocks h hP hK hD hS dJ6_bitCount_0f7a4_52
theorem dX2_copyFrom_0 : decode cX2_copyFrom 0 = .ok (.aload_n 0, 1) := by decide +kernel
theorem dX2_copyFrom_1 : decode cX2_copyFrom 1 = .ok (.aload_n 1, 1) := by decide +kernel
theorem dX2_copyFrom_2 : decode cX2_copyFrom 2 = .ok (.getfield 27, 3) := by decide +kernel
theorem dX2_copyFrom_5 : decode cX2_copyFrom 5 = .ok (.putfield 27, 3) := by decide +kernel
theorem dX2_copyFrom_8 : decode cX2_copyFrom 8 = .ok (.aload_n 0, 1) := by decide +kernel
theorem dX2_copyFrom_9 : decode cX2_copyFrom 9 = .ok (.aload_n 1, 1) := by decide +kernel
theorem dX2_copyFrom_10 : decode cX2_copyFrom 10 = .ok (.getfield 31, 3) := by decide +kernel
theorem dX2_copyFrom_13 : decode cX2_copyFrom 13 = .ok (.putfield 31, 3) := by decide +kernel
theorem dX2_copyFrom_16 : decode cX2_copyFrom 16 = .ok (.aload_n 1, 1) := by decide +kernel
theorem dX2_copyFrom_17 : decode cX2_copyFrom 17 = .ok (.getfield 9, 3) := by decide +kernel
theorem dX2_copyFrom_20 : decode cX2_copyFrom 20 = .ok (.iconst 0, 1) := by decide +kernel
theorem dX2_copyFrom_21 : decode cX2_copyFrom 21 = .ok (.aload_n 0, 1) := by decide +kernel
theorem dX2_copyFrom_22 : decode cX2_copyFrom 22 = .ok (.getfield 9, 3) := by decide +kernel
theorem dX2_copyFrom_25 : decode cX2_copyFrom 25 = .ok (.iconst 0, 1) := by decide +kernel
theorem dX2_copyFrom_26 : decode cX2_copyFrom 26 = .ok (.bipush 16, 2) := by decide +kernel
theorem dX2_copyFrom_28 : decode cX2_copyFrom 28 = .ok (.invokestatic 34, 3) := by decide +kernel
theorem dX2_copyFrom_31 : decode cX2_copyFrom 31 = .ok (.aload_n 1, 1) := by decide +kernel
theorem dX2_copyFrom_32 : decode cX2_copyFrom 32 = .ok (.getfield 15, 3) := by decide +kernel
theorem dX2_copyFrom_35 : decode cX2_copyFrom 35 = .ok (.iconst 0, 1) := by decide +kernel
theorem dX2_copyFrom_36 : decode cX2_copyFrom 36 = .ok (.aload_n 0, 1) := by decide +kernel
theorem dX2_copyFrom_37 : decode cX2_copyFrom 37 = .ok (.getfield 15, 3) := by decide +kernel
theorem dX2_copyFrom_40 : decode cX2_copyFrom 40 = .ok (.iconst 0, 1) := by decide +kernel
theorem dX2_copyFrom_41 : decode cX2_copyFrom 41 = .ok (.bipush 16, 2) := by decide +kernel
theorem dX2_copyFrom_43 : decode cX2_copyFrom 43 = .ok (.invokestatic 34, 3) := by decide +kernel
theorem dX2_copyFrom_46 : decode cX2_copyFrom 46 = .ok (.aload_n 1, 1) := by decide +kernel
theorem dX2_copyFrom_47 : decode cX2_copyFrom 47 = .ok (.getfield 18, 3) := by decide +kernel
theorem dX2_copyFrom_50 : decode cX2_copyFrom 50 = .ok (.iconst 0, 1) := by decide +kernel
theorem dX2_copyFrom_51 : decode cX2_copyFrom 51 = .ok (.aload_n 0, 1) := by decide +kernel
theorem dX2_copyFrom_52 : decode cX2_copyFrom 52 = .ok (.getfield 18, 3) := by decide +kernel
theorem dX2_copyFrom_55 : decode cX2_copyFrom 55 = .ok (.iconst 0, 1) := by decide +kernel
theorem dX2_copyFrom_56 : decode cX2_copyFrom 56 = .ok (.bipush 16, 2) := by decide +kernel
theorem dX2_copyFrom_58 : decode cX2_copyFrom 58 = .ok (.invokestatic 34, 3) := by decide +kernel
theorem dX2_copyFrom_61 : decode cX2_copyFrom 61 = .ok (.aload_n 1, 1) := by decide +kernel
theorem dX2_copyFrom_62 : decode cX2_copyFrom 62 = .ok (.getfield 21, 3) := by decide +kernel
theorem dX2_copyFrom_65 : decode cX2_copyFrom 65 = .ok (.iconst 0, 1) := by decide +kernel
theorem dX2_copyFrom_66 : decode cX2_copyFrom 66 = .ok (.aload_n 0, 1) := by decide +kernel
theorem dX2_copyFrom_67 : decode cX2_copyFrom 67 = .ok (.getfield 21, 3) := by decide +kernel
theorem dX2_copyFrom_70 : decode cX2_copyFrom 70 = .ok (.iconst 0, 1) := by decide +kernel
theorem dX2_copyFrom_71 : decode cX2_copyFrom 71 = .ok (.bipush 16, 2) := by decide +kernel
theorem dX2_copyFrom_73 : decode cX2_copyFrom 73 = .ok (.invokestatic 34, 3) := by decide +kernel
theorem dX2_copyFrom_76 : decode cX2_copyFrom 76 = .ok (.aload_n 1, 1) := by decide +kernel
theorem dX2_copyFrom_77 : decode cX2_copyFrom 77 = .ok (.getfield 24, 3) := by decide +kernel
theorem dX2_copyFrom_80 : decode cX2_copyFrom 80 = .ok (.iconst 0, 1) := by decide +kernel
theorem dX2_copyFrom_81 : decode cX2_copyFrom 81 = .ok (.aload_n 0, 1) := by decide +kernel
theorem dX2_copyFrom_82 : decode cX2_copyFrom 82 = .ok (.getfield 24, 3) := by decide +kernel
theorem dX2_copyFrom_85 : decode cX2_copyFrom 85 = .ok (.iconst 0, 1) := by decide +kernel
theorem dX2_copyFrom_86 : decode cX2_copyFrom 86 = .ok (.bipush 16, 2) := by decide +kernel
theorem dX2_copyFrom_88 : decode cX2_copyFrom 88 = .ok (.invokestatic 34, 3) := by decide +kernel
theorem dX2_copyFrom_91 : decode cX2_copyFrom 91 = .ok (.return_, 1) := by decide +kernel
theorem jX2_copyFrom_X2 : ∀ w ∈ wsX20, w ∈ wsX2_copyFrom := by decide +kernel
abbrev w_X2_copyFrom (cI cO : ClassId) (aB : Nat → Nat) (aO : Nat → Nat) (zO : CS) : ((CS)) → va_W := fun u => (wB cI aB u ++ (wB cI aO zO))
set_option maxRecDepth 100000 in
set_option maxHeartbeats 8000000 in
theorem mX2_copyFrom (l : Launch) (D : va_G) (cI cO : ClassId) (tA tS : Nat) (aB : Nat → Nat) (aO : Nat → Nat) (zB : CS) (zO : CS)  (sz : Nat) {post : ((CS)) → Prop} (h : qX2_copyFrom post zB zO) : Met l yX2_copyFrom wsX2_copyFrom ({ frames := 1, cells := 0, slots := 0, locals := 26 } : Room) (xPre D cI cO tA tS [.ref (aB 0), .ref (aO 0)] (wB cI aB zB ++ (wB cI aO zO)) sz) (va_Qv post (xB D cI cO (va_A (wB cI aB zB ++ (wB cI aO zO)) sz) (w_X2_copyFrom cI cO aB aO zO)) (va_A (wB cI aB zB ++ (wB cI aO zO)) sz)) 0 0 (va_A (wB cI aB zB ++ (wB cI aO zO)) sz) := by
  refine xMet D cI cO tA tS (fun A => va_Qv post (xB D cI cO A (w_X2_copyFrom cI cO aB aO zO)) A) (cc := cX2_copyFrom) (maxL := 2) (ret := none) (by decide) rfl (Nat.le_of_ble_eq_true rfl) ?_
  intro p e s m below meth c A ls hx hb hr hts hown hlocks hin hml hA hS hP hK hD hE hl
  have hown : s.vm.findClass RX2 = some m.cls := hown
  have hl : lv_has ls 2 [(0, .ref (aB 0)), (1, .ref (aO 0))] := hl
  refine lv_aload_n hx hb dX2_copyFrom_0 rfl (lv_at hl 0 rfl) ?_
  refine lv_aload_n hx hb dX2_copyFrom_1 rfl (lv_at hl 1 rfl) ?_
  refine va_get (D := D) (ci := 2) (v := .int (zO 5 0)) (C := RX2) (T := TX2) (N := 7) hx hb hts jX2_copyFrom_X2 hown hK hP 6 rfl rfl 5 (by decide) (hts (.fieldLink RX2 27 "BrotherAutomata$RuleBook" "count" "I") (List.mem_of_getElem? (i := 1) rfl)) (fun _ h9 => h9) rfl dX2_copyFrom_2 ?_
  refine va_put (D := D) (ci := 2) (v := .int (zO 5 0)) (ty := .int) (C := RX2) (T := TX2) (N := 7) hx hb hts jX2_copyFrom_X2 tyX2 tyX2_ok nmX2 hown hK hP hD hS 0 rfl rfl 5 (by decide) (hts (.fieldLink RX2 27 "BrotherAutomata$RuleBook" "count" "I") (List.mem_of_getElem? (i := 1) rfl)) (fun _ h9 => h9) rfl (by decide +kernel) rfl rfl (Nat.le_of_ble_eq_true rfl) dX2_copyFrom_5 (fun H locs hP hD hS => ?_)
  have hP : va_P D vwCl (wB cI aB (st zB 5 0 (zO 5 0)) ++ (wB cI aO zO)) H := hP
  have hD : va_D A (wB cI aB (st zB 5 0 (zO 5 0)) ++ (wB cI aO zO)) := hD
  refine lv_aload_n hx hb dX2_copyFrom_8 rfl (lv_at hl 0 rfl) ?_
  refine lv_aload_n hx hb dX2_copyFrom_9 rfl (lv_at hl 1 rfl) ?_
  refine va_get (D := D) (ci := 2) (v := .int (zO 5 1)) (C := RX2) (T := TX2) (N := 7) hx hb hts jX2_copyFrom_X2 hown hK hP 6 rfl rfl 6 (by decide) (hts (.fieldLink RX2 31 "BrotherAutomata$RuleBook" "finals" "I") (List.mem_of_getElem? (i := 2) rfl)) (fun _ h9 => h9) rfl dX2_copyFrom_10 ?_
  refine va_put (D := D) (ci := 2) (v := .int (zO 5 1)) (ty := .int) (C := RX2) (T := TX2) (N := 7) hx hb hts jX2_copyFrom_X2 tyX2 tyX2_ok nmX2 hown hK hP hD hS 0 rfl rfl 6 (by decide) (hts (.fieldLink RX2 31 "BrotherAutomata$RuleBook" "finals" "I") (List.mem_of_getElem? (i := 2) rfl)) (fun _ h9 => h9) rfl (by decide +kernel) rfl rfl (Nat.le_of_ble_eq_true rfl) dX2_copyFrom_13 (fun H locs hP hD hS => ?_)
  have hP : va_P D vwCl (wB cI aB (st (st zB 5 0 (zO 5 0)) 5 1 (zO 5 1)) ++ (wB cI aO zO)) H := hP
  have hD : va_D A (wB cI aB (st (st zB 5 0 (zO 5 0)) 5 1 (zO 5 1)) ++ (wB cI aO zO)) := hD
  refine lv_aload_n hx hb dX2_copyFrom_16 rfl (lv_at hl 1 rfl) ?_
  refine va_get (D := D) (ci := 2) (v := .ref (aO 1)) (C := RX2) (T := TX2) (N := 7) hx hb hts jX2_copyFrom_X2 hown hK hP 6 rfl rfl 0 (by decide) (hts (.fieldLink RX2 9 "BrotherAutomata$RuleBook" "symbols" "[I") (List.mem_of_getElem? (i := 3) rfl)) (fun _ h9 => h9) rfl dX2_copyFrom_17 ?_
  refine lv_iconst (v := 0) hx hb dX2_copyFrom_20 (by decide) ?_
  refine lv_aload_n hx hb dX2_copyFrom_21 rfl (lv_at hl 0 rfl) ?_
  refine va_get (D := D) (ci := 2) (v := .ref (aB 1)) (C := RX2) (T := TX2) (N := 7) hx hb hts jX2_copyFrom_X2 hown hK hP 0 rfl rfl 0 (by decide) (hts (.fieldLink RX2 9 "BrotherAutomata$RuleBook" "symbols" "[I") (List.mem_of_getElem? (i := 3) rfl)) (fun _ h9 => h9) rfl dX2_copyFrom_22 ?_
  refine lv_iconst (v := 0) hx hb dX2_copyFrom_25 (by decide) ?_
  refine lv_bipush (v := 16) hx hb dX2_copyFrom_26 (by decide) ?_
  refine va_copyi (sp := 0) (dp := 0) (n := 16) hx hb (hml.trans hl.1.symm) hown (hts (.methodLink RX2 34 arraycopyName) (List.mem_of_getElem? (i := 4) rfl)) (hts (.native arraycopyName) (List.mem_of_getElem? (i := 5) rfl)) (hts (.static arraycopyName) (List.mem_of_getElem? (i := 6) rfl)) (hts (.initialized "java/lang/System") (List.mem_of_getElem? (i := 7) rfl)) hK hP hD hS 7 1 0 0 rfl rfl rfl rfl rfl (by decide) (by decide) (by decide) (by decide) (by decide) (fun _ _ => rfl) (Nat.le_of_ble_eq_true rfl) (Nat.le_of_ble_eq_true rfl) dX2_copyFrom_28 (fun H locs hP hD hS => ?_)
  have hP : va_P D vwCl (wB cI aB (sr (st (st zB 5 0 (zO 5 0)) 5 1 (zO 5 1)) 0 (va_cpy (zO 0) ((st (st zB 5 0 (zO 5 0)) 5 1 (zO 5 1)) 0) 0 0 16)) ++ (wB cI aO zO)) H := hP
  have hD : va_D A (wB cI aB (sr (st (st zB 5 0 (zO 5 0)) 5 1 (zO 5 1)) 0 (va_cpy (zO 0) ((st (st zB 5 0 (zO 5 0)) 5 1 (zO 5 1)) 0) 0 0 16)) ++ (wB cI aO zO)) := hD
  refine lv_aload_n hx hb dX2_copyFrom_31 rfl (lv_at hl 1 rfl) ?_
  refine va_get (D := D) (ci := 2) (v := .ref (aO 2)) (C := RX2) (T := TX2) (N := 7) hx hb hts jX2_copyFrom_X2 hown hK hP 6 rfl rfl 1 (by decide) (hts (.fieldLink RX2 15 "BrotherAutomata$RuleBook" "firsts" "[I") (List.mem_of_getElem? (i := 8) rfl)) (fun _ h9 => h9) rfl dX2_copyFrom_32 ?_
  refine lv_iconst (v := 0) hx hb dX2_copyFrom_35 (by decide) ?_
  refine lv_aload_n hx hb dX2_copyFrom_36 rfl (lv_at hl 0 rfl) ?_
  refine va_get (D := D) (ci := 2) (v := .ref (aB 2)) (C := RX2) (T := TX2) (N := 7) hx hb hts jX2_copyFrom_X2 hown hK hP 0 rfl rfl 1 (by decide) (hts (.fieldLink RX2 15 "BrotherAutomata$RuleBook" "firsts" "[I") (List.mem_of_getElem? (i := 8) rfl)) (fun _ h9 => h9) rfl dX2_copyFrom_37 ?_
  refine lv_iconst (v := 0) hx hb dX2_copyFrom_40 (by decide) ?_
  refine lv_bipush (v := 16) hx hb dX2_copyFrom_41 (by decide) ?_
  refine va_copyi (sp := 0) (dp := 0) (n := 16) hx hb (hml.trans hl.1.symm) hown (hts (.methodLink RX2 34 arraycopyName) (List.mem_of_getElem? (i := 4) rfl)) (hts (.native arraycopyName) (List.mem_of_getElem? (i := 5) rfl)) (hts (.static arraycopyName) (List.mem_of_getElem? (i := 6) rfl)) (hts (.initialized "java/lang/System") (List.mem_of_getElem? (i := 7) rfl)) hK hP hD hS 8 2 0 0 rfl rfl rfl rfl rfl (by decide) (by decide) (by decide) (by decide) (by decide) (fun _ _ => rfl) (Nat.le_of_ble_eq_true rfl) (Nat.le_of_ble_eq_true rfl) dX2_copyFrom_43 (fun H locs hP hD hS => ?_)
  have hP : va_P D vwCl (wB cI aB (sr (sr (st (st zB 5 0 (zO 5 0)) 5 1 (zO 5 1)) 0 (va_cpy (zO 0) ((st (st zB 5 0 (zO 5 0)) 5 1 (zO 5 1)) 0) 0 0 16)) 1 (va_cpy (zO 1) ((sr (st (st zB 5 0 (zO 5 0)) 5 1 (zO 5 1)) 0 (va_cpy (zO 0) ((st (st zB 5 0 (zO 5 0)) 5 1 (zO 5 1)) 0) 0 0 16)) 1) 0 0 16)) ++ (wB cI aO zO)) H := hP
  have hD : va_D A (wB cI aB (sr (sr (st (st zB 5 0 (zO 5 0)) 5 1 (zO 5 1)) 0 (va_cpy (zO 0) ((st (st zB 5 0 (zO 5 0)) 5 1 (zO 5 1)) 0) 0 0 16)) 1 (va_cpy (zO 1) ((sr (st (st zB 5 0 (zO 5 0)) 5 1 (zO 5 1)) 0 (va_cpy (zO 0) ((st (st zB 5 0 (zO 5 0)) 5 1 (zO 5 1)) 0) 0 0 16)) 1) 0 0 16)) ++ (wB cI aO zO)) := hD
  refine lv_aload_n hx hb dX2_copyFrom_46 rfl (lv_at hl 1 rfl) ?_
  refine va_get (D := D) (ci := 2) (v := .ref (aO 3)) (C := RX2) (T := TX2) (N := 7) hx hb hts jX2_copyFrom_X2 hown hK hP 6 rfl rfl 2 (by decide) (hts (.fieldLink RX2 18 "BrotherAutomata$RuleBook" "seconds" "[I") (List.mem_of_getElem? (i := 9) rfl)) (fun _ h9 => h9) rfl dX2_copyFrom_47 ?_
  refine lv_iconst (v := 0) hx hb dX2_copyFrom_50 (by decide) ?_
  refine lv_aload_n hx hb dX2_copyFrom_51 rfl (lv_at hl 0 rfl) ?_
  refine va_get (D := D) (ci := 2) (v := .ref (aB 3)) (C := RX2) (T := TX2) (N := 7) hx hb hts jX2_copyFrom_X2 hown hK hP 0 rfl rfl 2 (by decide) (hts (.fieldLink RX2 18 "BrotherAutomata$RuleBook" "seconds" "[I") (List.mem_of_getElem? (i := 9) rfl)) (fun _ h9 => h9) rfl dX2_copyFrom_52 ?_
  refine lv_iconst (v := 0) hx hb dX2_copyFrom_55 (by decide) ?_
  refine lv_bipush (v := 16) hx hb dX2_copyFrom_56 (by decide) ?_
  refine va_copyi (sp := 0) (dp := 0) (n := 16) hx hb (hml.trans hl.1.symm) hown (hts (.methodLink RX2 34 arraycopyName) (List.mem_of_getElem? (i := 4) rfl)) (hts (.native arraycopyName) (List.mem_of_getElem? (i := 5) rfl)) (hts (.static arraycopyName) (List.mem_of_getElem? (i := 6) rfl)) (hts (.initialized "java/lang/System") (List.mem_of_getElem? (i := 7) rfl)) hK hP hD hS 9 3 0 0 rfl rfl rfl rfl rfl (by decide) (by decide) (by decide) (by decide) (by decide) (fun _ _ => rfl) (Nat.le_of_ble_eq_true rfl) (Nat.le_of_ble_eq_true rfl) dX2_copyFrom_58 (fun H locs hP hD hS => ?_)
  have hP : va_P D vwCl (wB cI aB (sr (sr (sr (st (st zB 5 0 (zO 5 0)) 5 1 (zO 5 1)) 0 (va_cpy (zO 0) ((st (st zB 5 0 (zO 5 0)) 5 1 (zO 5 1)) 0) 0 0 16)) 1 (va_cpy (zO 1) ((sr (st (st zB 5 0 (zO 5 0)) 5 1 (zO 5 1)) 0 (va_cpy (zO 0) ((st (st zB 5 0 (zO 5 0)) 5 1 (zO 5 1)) 0) 0 0 16)) 1) 0 0 16)) 2 (va_cpy (zO 2) ((sr (sr (st (st zB 5 0 (zO 5 0)) 5 1 (zO 5 1)) 0 (va_cpy (zO 0) ((st (st zB 5 0 (zO 5 0)) 5 1 (zO 5 1)) 0) 0 0 16)) 1 (va_cpy (zO 1) ((sr (st (st zB 5 0 (zO 5 0)) 5 1 (zO 5 1)) 0 (va_cpy (zO 0) ((st (st zB 5 0 (zO 5 0)) 5 1 (zO 5 1)) 0) 0 0 16)) 1) 0 0 16)) 2) 0 0 16)) ++ (wB cI aO zO)) H := hP
  have hD : va_D A (wB cI aB (sr (sr (sr (st (st zB 5 0 (zO 5 0)) 5 1 (zO 5 1)) 0 (va_cpy (zO 0) ((st (st zB 5 0 (zO 5 0)) 5 1 (zO 5 1)) 0) 0 0 16)) 1 (va_cpy (zO 1) ((sr (st (st zB 5 0 (zO 5 0)) 5 1 (zO 5 1)) 0 (va_cpy (zO 0) ((st (st zB 5 0 (zO 5 0)) 5 1 (zO 5 1)) 0) 0 0 16)) 1) 0 0 16)) 2 (va_cpy (zO 2) ((sr (sr (st (st zB 5 0 (zO 5 0)) 5 1 (zO 5 1)) 0 (va_cpy (zO 0) ((st (st zB 5 0 (zO 5 0)) 5 1 (zO 5 1)) 0) 0 0 16)) 1 (va_cpy (zO 1) ((sr (st (st zB 5 0 (zO 5 0)) 5 1 (zO 5 1)) 0 (va_cpy (zO 0) ((st (st zB 5 0 (zO 5 0)) 5 1 (zO 5 1)) 0) 0 0 16)) 1) 0 0 16)) 2) 0 0 16)) ++ (wB cI aO zO)) := hD
  refine lv_aload_n hx hb dX2_copyFrom_61 rfl (lv_at hl 1 rfl) ?_
  refine va_get (D := D) (ci := 2) (v := .ref (aO 4)) (C := RX2) (T := TX2) (N := 7) hx hb hts jX2_copyFrom_X2 hown hK hP 6 rfl rfl 3 (by decide) (hts (.fieldLink RX2 21 "BrotherAutomata$RuleBook" "constraints" "[I") (List.mem_of_getElem? (i := 10) rfl)) (fun _ h9 => h9) rfl dX2_copyFrom_62 ?_
  refine lv_iconst (v := 0) hx hb dX2_copyFrom_65 (by decide) ?_
  refine lv_aload_n hx hb dX2_copyFrom_66 rfl (lv_at hl 0 rfl) ?_
  refine va_get (D := D) (ci := 2) (v := .ref (aB 4)) (C := RX2) (T := TX2) (N := 7) hx hb hts jX2_copyFrom_X2 hown hK hP 0 rfl rfl 3 (by decide) (hts (.fieldLink RX2 21 "BrotherAutomata$RuleBook" "constraints" "[I") (List.mem_of_getElem? (i := 10) rfl)) (fun _ h9 => h9) rfl dX2_copyFrom_67 ?_
  refine lv_iconst (v := 0) hx hb dX2_copyFrom_70 (by decide) ?_
  refine lv_bipush (v := 16) hx hb dX2_copyFrom_71 (by decide) ?_
  refine va_copyi (sp := 0) (dp := 0) (n := 16) hx hb (hml.trans hl.1.symm) hown (hts (.methodLink RX2 34 arraycopyName) (List.mem_of_getElem? (i := 4) rfl)) (hts (.native arraycopyName) (List.mem_of_getElem? (i := 5) rfl)) (hts (.static arraycopyName) (List.mem_of_getElem? (i := 6) rfl)) (hts (.initialized "java/lang/System") (List.mem_of_getElem? (i := 7) rfl)) hK hP hD hS 10 4 0 0 rfl rfl rfl rfl rfl (by decide) (by decide) (by decide) (by decide) (by decide) (fun _ _ => rfl) (Nat.le_of_ble_eq_true rfl) (Nat.le_of_ble_eq_true rfl) dX2_copyFrom_73 (fun H locs hP hD hS => ?_)
  have hP : va_P D vwCl (wB cI aB (sr (sr (sr (sr (st (st zB 5 0 (zO 5 0)) 5 1 (zO 5 1)) 0 (va_cpy (zO 0) ((st (st zB 5 0 (zO 5 0)) 5 1 (zO 5 1)) 0) 0 0 16)) 1 (va_cpy (zO 1) ((sr (st (st zB 5 0 (zO 5 0)) 5 1 (zO 5 1)) 0 (va_cpy (zO 0) ((st (st zB 5 0 (zO 5 0)) 5 1 (zO 5 1)) 0) 0 0 16)) 1) 0 0 16)) 2 (va_cpy (zO 2) ((sr (sr (st (st zB 5 0 (zO 5 0)) 5 1 (zO 5 1)) 0 (va_cpy (zO 0) ((st (st zB 5 0 (zO 5 0)) 5 1 (zO 5 1)) 0) 0 0 16)) 1 (va_cpy (zO 1) ((sr (st (st zB 5 0 (zO 5 0)) 5 1 (zO 5 1)) 0 (va_cpy (zO 0) ((st (st zB 5 0 (zO 5 0)) 5 1 (zO 5 1)) 0) 0 0 16)) 1) 0 0 16)) 2) 0 0 16)) 3 (va_cpy (zO 3) ((sr (sr (sr (st (st zB 5 0 (zO 5 0)) 5 1 (zO 5 1)) 0 (va_cpy (zO 0) ((st (st zB 5 0 (zO 5 0)) 5 1 (zO 5 1)) 0) 0 0 16)) 1 (va_cpy (zO 1) ((sr (st (st zB 5 0 (zO 5 0)) 5 1 (zO 5 1)) 0 (va_cpy (zO 0) ((st (st zB 5 0 (zO 5 0)) 5 1 (zO 5 1)) 0) 0 0 16)) 1) 0 0 16)) 2 (va_cpy (zO 2) ((sr (sr (st (st zB 5 0 (zO 5 0)) 5 1 (zO 5 1)) 0 (va_cpy (zO 0) ((st (st zB 5 0 (zO 5 0)) 5 1 (zO 5 1)) 0) 0 0 16)) 1 (va_cpy (zO 1) ((sr (st (st zB 5 0 (zO 5 0)) 5 1 (zO 5 1)) 0 (va_cpy (zO 0) ((st (st zB 5 0 (zO 5 0)) 5 1 (zO 5 1)) 0) 0 0 16)) 1) 0 0 16)) 2) 0 0 16)) 3) 0 0 16)) ++ (wB cI aO zO)) H := hP
  have hD : va_D A (wB cI aB (sr (sr (sr (sr (st (st zB 5 0 (zO 5 0)) 5 1 (zO 5 1)) 0 (va_cpy (zO 0) ((st (st zB 5 0 (zO 5 0)) 5 1 (zO 5 1)) 0) 0 0 16)) 1 (va_cpy (zO 1) ((sr (st (st zB 5 0 (zO 5 0)) 5 1 (zO 5 1)) 0 (va_cpy (zO 0) ((st (st zB 5 0 (zO 5 0)) 5 1 (zO 5 1)) 0) 0 0 16)) 1) 0 0 16)) 2 (va_cpy (zO 2) ((sr (sr (st (st zB 5 0 (zO 5 0)) 5 1 (zO 5 1)) 0 (va_cpy (zO 0) ((st (st zB 5 0 (zO 5 0)) 5 1 (zO 5 1)) 0) 0 0 16)) 1 (va_cpy (zO 1) ((sr (st (st zB 5 0 (zO 5 0)) 5 1 (zO 5 1)) 0 (va_cpy (zO 0) ((st (st zB 5 0 (zO 5 0)) 5 1 (zO 5 1)) 0) 0 0 16)) 1) 0 0 16)) 2) 0 0 16)) 3 (va_cpy (zO 3) ((sr (sr (sr (st (st zB 5 0 (zO 5 0)) 5 1 (zO 5 1)) 0 (va_cpy (zO 0) ((st (st zB 5 0 (zO 5 0)) 5 1 (zO 5 1)) 0) 0 0 16)) 1 (va_cpy (zO 1) ((sr (st (st zB 5 0 (zO 5 0)) 5 1 (zO 5 1)) 0 (va_cpy (zO 0) ((st (st zB 5 0 (zO 5 0)) 5 1 (zO 5 1)) 0) 0 0 16)) 1) 0 0 16)) 2 (va_cpy (zO 2) ((sr (sr (st (st zB 5 0 (zO 5 0)) 5 1 (zO 5 1)) 0 (va_cpy (zO 0) ((st (st zB 5 0 (zO 5 0)) 5 1 (zO 5 1)) 0) 0 0 16)) 1 (va_cpy (zO 1) ((sr (st (st zB 5 0 (zO 5 0)) 5 1 (zO 5 1)) 0 (va_cpy (zO 0) ((st (st zB 5 0 (zO 5 0)) 5 1 (zO 5 1)) 0) 0 0 16)) 1) 0 0 16)) 2) 0 0 16)) 3) 0 0 16)) ++ (wB cI aO zO)) := hD
  refine lv_aload_n hx hb dX2_copyFrom_76 rfl (lv_at hl 1 rfl) ?_
  refine va_get (D := D) (ci := 2) (v := .ref (aO 5)) (C := RX2) (T := TX2) (N := 7) hx hb hts jX2_copyFrom_X2 hown hK hP 6 rfl rfl 4 (by decide) (hts (.fieldLink RX2 24 "BrotherAutomata$RuleBook" "targets" "[I") (List.mem_of_getElem? (i := 11) rfl)) (fun _ h9 => h9) rfl dX2_copyFrom_77 ?_
  refine lv_iconst (v := 0) hx hb dX2_copyFrom_80 (by decide) ?_
  refine lv_aload_n hx hb dX2_copyFrom_81 rfl (lv_at hl 0 rfl) ?_
  refine va_get (D := D) (ci := 2) (v := .ref (aB 5)) (C := RX2) (T := TX2) (N := 7) hx hb hts jX2_copyFrom_X2 hown hK hP 0 rfl rfl 4 (by decide) (hts (.fieldLink RX2 24 "BrotherAutomata$RuleBook" "targets" "[I") (List.mem_of_getElem? (i := 11) rfl)) (fun _ h9 => h9) rfl dX2_copyFrom_82 ?_
  refine lv_iconst (v := 0) hx hb dX2_copyFrom_85 (by decide) ?_
  refine lv_bipush (v := 16) hx hb dX2_copyFrom_86 (by decide) ?_
  refine va_copyi (sp := 0) (dp := 0) (n := 16) hx hb (hml.trans hl.1.symm) hown (hts (.methodLink RX2 34 arraycopyName) (List.mem_of_getElem? (i := 4) rfl)) (hts (.native arraycopyName) (List.mem_of_getElem? (i := 5) rfl)) (hts (.static arraycopyName) (List.mem_of_getElem? (i := 6) rfl)) (hts (.initialized "java/lang/System") (List.mem_of_getElem? (i := 7) rfl)) hK hP hD hS 11 5 0 0 rfl rfl rfl rfl rfl (by decide) (by decide) (by decide) (by decide) (by decide) (fun _ _ => rfl) (Nat.le_of_ble_eq_true rfl) (Nat.le_of_ble_eq_true rfl) dX2_copyFrom_88 (fun H locs hP hD hS => ?_)
  have hP : va_P D vwCl (wB cI aB (sr (sr (sr (sr (sr (st (st zB 5 0 (zO 5 0)) 5 1 (zO 5 1)) 0 (va_cpy (zO 0) ((st (st zB 5 0 (zO 5 0)) 5 1 (zO 5 1)) 0) 0 0 16)) 1 (va_cpy (zO 1) ((sr (st (st zB 5 0 (zO 5 0)) 5 1 (zO 5 1)) 0 (va_cpy (zO 0) ((st (st zB 5 0 (zO 5 0)) 5 1 (zO 5 1)) 0) 0 0 16)) 1) 0 0 16)) 2 (va_cpy (zO 2) ((sr (sr (st (st zB 5 0 (zO 5 0)) 5 1 (zO 5 1)) 0 (va_cpy (zO 0) ((st (st zB 5 0 (zO 5 0)) 5 1 (zO 5 1)) 0) 0 0 16)) 1 (va_cpy (zO 1) ((sr (st (st zB 5 0 (zO 5 0)) 5 1 (zO 5 1)) 0 (va_cpy (zO 0) ((st (st zB 5 0 (zO 5 0)) 5 1 (zO 5 1)) 0) 0 0 16)) 1) 0 0 16)) 2) 0 0 16)) 3 (va_cpy (zO 3) ((sr (sr (sr (st (st zB 5 0 (zO 5 0)) 5 1 (zO 5 1)) 0 (va_cpy (zO 0) ((st (st zB 5 0 (zO 5 0)) 5 1 (zO 5 1)) 0) 0 0 16)) 1 (va_cpy (zO 1) ((sr (st (st zB 5 0 (zO 5 0)) 5 1 (zO 5 1)) 0 (va_cpy (zO 0) ((st (st zB 5 0 (zO 5 0)) 5 1 (zO 5 1)) 0) 0 0 16)) 1) 0 0 16)) 2 (va_cpy (zO 2) ((sr (sr (st (st zB 5 0 (zO 5 0)) 5 1 (zO 5 1)) 0 (va_cpy (zO 0) ((st (st zB 5 0 (zO 5 0)) 5 1 (zO 5 1)) 0) 0 0 16)) 1 (va_cpy (zO 1) ((sr (st (st zB 5 0 (zO 5 0)) 5 1 (zO 5 1)) 0 (va_cpy (zO 0) ((st (st zB 5 0 (zO 5 0)) 5 1 (zO 5 1)) 0) 0 0 16)) 1) 0 0 16)) 2) 0 0 16)) 3) 0 0 16)) 4 (va_cpy (zO 4) ((sr (sr (sr (sr (st (st zB 5 0 (zO 5 0)) 5 1 (zO 5 1)) 0 (va_cpy (zO 0) ((st (st zB 5 0 (zO 5 0)) 5 1 (zO 5 1)) 0) 0 0 16)) 1 (va_cpy (zO 1) ((sr (st (st zB 5 0 (zO 5 0)) 5 1 (zO 5 1)) 0 (va_cpy (zO 0) ((st (st zB 5 0 (zO 5 0)) 5 1 (zO 5 1)) 0) 0 0 16)) 1) 0 0 16)) 2 (va_cpy (zO 2) ((sr (sr (st (st zB 5 0 (zO 5 0)) 5 1 (zO 5 1)) 0 (va_cpy (zO 0) ((st (st zB 5 0 (zO 5 0)) 5 1 (zO 5 1)) 0) 0 0 16)) 1 (va_cpy (zO 1) ((sr (st (st zB 5 0 (zO 5 0)) 5 1 (zO 5 1)) 0 (va_cpy (zO 0) ((st (st zB 5 0 (zO 5 0)) 5 1 (zO 5 1)) 0) 0 0 16)) 1) 0 0 16)) 2) 0 0 16)) 3 (va_cpy (zO 3) ((sr (sr (sr (st (st zB 5 0 (zO 5 0)) 5 1 (zO 5 1)) 0 (va_cpy (zO 0) ((st (st zB 5 0 (zO 5 0)) 5 1 (zO 5 1)) 0) 0 0 16)) 1 (va_cpy (zO 1) ((sr (st (st zB 5 0 (zO 5 0)) 5 1 (zO 5 1)) 0 (va_cpy (zO 0) ((st (st zB 5 0 (zO 5 0)) 5 1 (zO 5 1)) 0) 0 0 16)) 1) 0 0 16)) 2 (va_cpy (zO 2) ((sr (sr (st (st zB 5 0 (zO 5 0)) 5 1 (zO 5 1)) 0 (va_cpy (zO 0) ((st (st zB 5 0 (zO 5 0)) 5 1 (zO 5 1)) 0) 0 0 16)) 1 (va_cpy (zO 1) ((sr (st (st zB 5 0 (zO 5 0)) 5 1 (zO 5 1)) 0 (va_cpy (zO 0) ((st (st zB 5 0 (zO 5 0)) 5 1 (zO 5 1)) 0) 0 0 16)) 1) 0 0 16)) 2) 0 0 16)) 3) 0 0 16)) 4) 0 0 16)) ++ (wB cI aO zO)) H := hP
  have hD : va_D A (wB cI aB (sr (sr (sr (sr (sr (st (st zB 5 0 (zO 5 0)) 5 1 (zO 5 1)) 0 (va_cpy (zO 0) ((st (st zB 5 0 (zO 5 0)) 5 1 (zO 5 1)) 0) 0 0 16)) 1 (va_cpy (zO 1) ((sr (st (st zB 5 0 (zO 5 0)) 5 1 (zO 5 1)) 0 (va_cpy (zO 0) ((st (st zB 5 0 (zO 5 0)) 5 1 (zO 5 1)) 0) 0 0 16)) 1) 0 0 16)) 2 (va_cpy (zO 2) ((sr (sr (st (st zB 5 0 (zO 5 0)) 5 1 (zO 5 1)) 0 (va_cpy (zO 0) ((st (st zB 5 0 (zO 5 0)) 5 1 (zO 5 1)) 0) 0 0 16)) 1 (va_cpy (zO 1) ((sr (st (st zB 5 0 (zO 5 0)) 5 1 (zO 5 1)) 0 (va_cpy (zO 0) ((st (st zB 5 0 (zO 5 0)) 5 1 (zO 5 1)) 0) 0 0 16)) 1) 0 0 16)) 2) 0 0 16)) 3 (va_cpy (zO 3) ((sr (sr (sr (st (st zB 5 0 (zO 5 0)) 5 1 (zO 5 1)) 0 (va_cpy (zO 0) ((st (st zB 5 0 (zO 5 0)) 5 1 (zO 5 1)) 0) 0 0 16)) 1 (va_cpy (zO 1) ((sr (st (st zB 5 0 (zO 5 0)) 5 1 (zO 5 1)) 0 (va_cpy (zO 0) ((st (st zB 5 0 (zO 5 0)) 5 1 (zO 5 1)) 0) 0 0 16)) 1) 0 0 16)) 2 (va_cpy (zO 2) ((sr (sr (st (st zB 5 0 (zO 5 0)) 5 1 (zO 5 1)) 0 (va_cpy (zO 0) ((st (st zB 5 0 (zO 5 0)) 5 1 (zO 5 1)) 0) 0 0 16)) 1 (va_cpy (zO 1) ((sr (st (st zB 5 0 (zO 5 0)) 5 1 (zO 5 1)) 0 (va_cpy (zO 0) ((st (st zB 5 0 (zO 5 0)) 5 1 (zO 5 1)) 0) 0 0 16)) 1) 0 0 16)) 2) 0 0 16)) 3) 0 0 16)) 4 (va_cpy (zO 4) ((sr (sr (sr (sr (st (st zB 5 0 (zO 5 0)) 5 1 (zO 5 1)) 0 (va_cpy (zO 0) ((st (st zB 5 0 (zO 5 0)) 5 1 (zO 5 1)) 0) 0 0 16)) 1 (va_cpy (zO 1) ((sr (st (st zB 5 0 (zO 5 0)) 5 1 (zO 5 1)) 0 (va_cpy (zO 0) ((st (st zB 5 0 (zO 5 0)) 5 1 (zO 5 1)) 0) 0 0 16)) 1) 0 0 16)) 2 (va_cpy (zO 2) ((sr (sr (st (st zB 5 0 (zO 5 0)) 5 1 (zO 5 1)) 0 (va_cpy (zO 0) ((st (st zB 5 0 (zO 5 0)) 5 1 (zO 5 1)) 0) 0 0 16)) 1 (va_cpy (zO 1) ((sr (st (st zB 5 0 (zO 5 0)) 5 1 (zO 5 1)) 0 (va_cpy (zO 0) ((st (st zB 5 0 (zO 5 0)) 5 1 (zO 5 1)) 0) 0 0 16)) 1) 0 0 16)) 2) 0 0 16)) 3 (va_cpy (zO 3) ((sr (sr (sr (st (st zB 5 0 (zO 5 0)) 5 1 (zO 5 1)) 0 (va_cpy (zO 0) ((st (st zB 5 0 (zO 5 0)) 5 1 (zO 5 1)) 0) 0 0 16)) 1 (va_cpy (zO 1) ((sr (st (st zB 5 0 (zO 5 0)) 5 1 (zO 5 1)) 0 (va_cpy (zO 0) ((st (st zB 5 0 (zO 5 0)) 5 1 (zO 5 1)) 0) 0 0 16)) 1) 0 0 16)) 2 (va_cpy (zO 2) ((sr (sr (st (st zB 5 0 (zO 5 0)) 5 1 (zO 5 1)) 0 (va_cpy (zO 0) ((st (st zB 5 0 (zO 5 0)) 5 1 (zO 5 1)) 0) 0 0 16)) 1 (va_cpy (zO 1) ((sr (st (st zB 5 0 (zO 5 0)) 5 1 (zO 5 1)) 0 (va_cpy (zO 0) ((st (st zB 5 0 (zO 5 0)) 5 1 (zO 5 1)) 0) 0 0 16)) 1) 0 0 16)) 2) 0 0 16)) 3) 0 0 16)) 4) 0 0 16)) ++ (wB cI aO zO)) := hD
  exact xvret (w := (w_X2_copyFrom cI cO aB aO zO)) (sr (sr (sr (sr (sr (st (st zB 5 0 (zO 5 0)) 5 1 (zO 5 1)) 0 (va_cpy (zO 0) ((st (st zB 5 0 (zO 5 0)) 5 1 (zO 5 1)) 0) 0 0 16)) 1 (va_cpy (zO 1) ((sr (st (st zB 5 0 (zO 5 0)) 5 1 (zO 5 1)) 0 (va_cpy (zO 0) ((st (st zB 5 0 (zO 5 0)) 5 1 (zO 5 1)) 0) 0 0 16)) 1) 0 0 16)) 2 (va_cpy (zO 2) ((sr (sr (st (st zB 5 0 (zO 5 0)) 5 1 (zO 5 1)) 0 (va_cpy (zO 0) ((st (st zB 5 0 (zO 5 0)) 5 1 (zO 5 1)) 0) 0 0 16)) 1 (va_cpy (zO 1) ((sr (st (st zB 5 0 (zO 5 0)) 5 1 (zO 5 1)) 0 (va_cpy (zO 0) ((st (st zB 5 0 (zO 5 0)) 5 1 (zO 5 1)) 0) 0 0 16)) 1) 0 0 16)) 2) 0 0 16)) 3 (va_cpy (zO 3) ((sr (sr (sr (st (st zB 5 0 (zO 5 0)) 5 1 (zO 5 1)) 0 (va_cpy (zO 0) ((st (st zB 5 0 (zO 5 0)) 5 1 (zO 5 1)) 0) 0 0 16)) 1 (va_cpy (zO 1) ((sr (st (st zB 5 0 (zO 5 0)) 5 1 (zO 5 1)) 0 (va_cpy (zO 0) ((st (st zB 5 0 (zO 5 0)) 5 1 (zO 5 1)) 0) 0 0 16)) 1) 0 0 16)) 2 (va_cpy (zO 2) ((sr (sr (st (st zB 5 0 (zO 5 0)) 5 1 (zO 5 1)) 0 (va_cpy (zO 0) ((st (st zB 5 0 (zO 5 0)) 5 1 (zO 5 1)) 0) 0 0 16)) 1 (va_cpy (zO 1) ((sr (st (st zB 5 0 (zO 5 0)) 5 1 (zO 5 1)) 0 (va_cpy (zO 0) ((st (st zB 5 0 (zO 5 0)) 5 1 (zO 5 1)) 0) 0 0 16)) 1) 0 0 16)) 2) 0 0 16)) 3) 0 0 16)) 4 (va_cpy (zO 4) ((sr (sr (sr (sr (st (st zB 5 0 (zO 5 0)) 5 1 (zO 5 1)) 0 (va_cpy (zO 0) ((st (st zB 5 0 (zO 5 0)) 5 1 (zO 5 1)) 0) 0 0 16)) 1 (va_cpy (zO 1) ((sr (st (st zB 5 0 (zO 5 0)) 5 1 (zO 5 1)) 0 (va_cpy (zO 0) ((st (st zB 5 0 (zO 5 0)) 5 1 (zO 5 1)) 0) 0 0 16)) 1) 0 0 16)) 2 (va_cpy (zO 2) ((sr (sr (st (st zB 5 0 (zO 5 0)) 5 1 (zO 5 1)) 0 (va_cpy (zO 0) ((st (st zB 5 0 (zO 5 0)) 5 1 (zO 5 1)) 0) 0 0 16)) 1 (va_cpy (zO 1) ((sr (st (st zB 5 0 (zO 5 0)) 5 1 (zO 5 1)) 0 (va_cpy (zO 0) ((st (st zB 5 0 (zO 5 0)) 5 1 (zO 5 1)) 0) 0 0 16)) 1) 0 0 16)) 2) 0 0 16)) 3 (va_cpy (zO 3) ((sr (sr (sr (st (st zB 5 0 (zO 5 0)) 5 1 (zO 5 1)) 0 (va_cpy (zO 0) ((st (st zB 5 0 (zO 5 0)) 5 1 (zO 5 1)) 0) 0 0 16)) 1 (va_cpy (zO 1) ((sr (st (st zB 5 0 (zO 5 0)) 5 1 (zO 5 1)) 0 (va_cpy (zO 0) ((st (st zB 5 0 (zO 5 0)) 5 1 (zO 5 1)) 0) 0 0 16)) 1) 0 0 16)) 2 (va_cpy (zO 2) ((sr (sr (st (st zB 5 0 (zO 5 0)) 5 1 (zO 5 1)) 0 (va_cpy (zO 0) ((st (st zB 5 0 (zO 5 0)) 5 1 (zO 5 1)) 0) 0 0 16)) 1 (va_cpy (zO 1) ((sr (st (st zB 5 0 (zO 5 0)) 5 1 (zO 5 1)) 0 (va_cpy (zO 0) ((st (st zB 5 0 (zO 5 0)) 5 1 (zO 5 1)) 0) 0 0 16)) 1) 0 0 16)) 2) 0 0 16)) 3) 0 0 16)) 4) 0 0 16)) hx hb hr hlocks h hP hK hD hS dX2_copyFrom_91
theorem dX2_clear_0 : decode cX2_clear 0 = .ok (.aload_n 0, 1) := by decide +kernel
theorem dX2_clear_1 : decode cX2_clear 1 = .ok (.iconst 0, 1) := by decide +kernel
theorem dX2_clear_2 : decode cX2_clear 2 = .ok (.putfield 27, 3) := by decide +kernel
theorem dX2_clear_5 : decode cX2_clear 5 = .ok (.aload_n 0, 1) := by decide +kernel
theorem dX2_clear_6 : decode cX2_clear 6 = .ok (.iconst 0, 1) := by decide +kernel
theorem dX2_clear_7 : decode cX2_clear 7 = .ok (.putfield 31, 3) := by decide +kernel
theorem dX2_clear_10 : decode cX2_clear 10 = .ok (.return_, 1) := by decide +kernel
theorem jX2_clear_X2 : ∀ w ∈ wsX20, w ∈ wsX2_clear := by decide +kernel
abbrev w_X2_clear (cI cO : ClassId) (aB : Nat → Nat)  : ((CS)) → va_W := fun u => (wB cI aB u)
set_option maxRecDepth 100000 in
set_option maxHeartbeats 8000000 in
theorem mX2_clear (l : Launch) (D : va_G) (cI cO : ClassId) (tA tS : Nat) (aB : Nat → Nat) (zB : CS)  (sz : Nat) {post : ((CS)) → Prop} (h : qX2_clear post zB) : Met l yX2_clear wsX2_clear ({ frames := 0, cells := 0, slots := 0, locals := 0 } : Room) (xPre D cI cO tA tS [.ref (aB 0)] (wB cI aB zB) sz) (va_Qv post (xB D cI cO (va_A (wB cI aB zB) sz) (w_X2_clear cI cO aB)) (va_A (wB cI aB zB) sz)) 0 0 (va_A (wB cI aB zB) sz) := by
  refine xMet D cI cO tA tS (fun A => va_Qv post (xB D cI cO A (w_X2_clear cI cO aB)) A) (cc := cX2_clear) (maxL := 1) (ret := none) (by decide) rfl (Nat.le_of_ble_eq_true rfl) ?_
  intro p e s m below meth c A ls hx hb hr hts hown hlocks hin hml hA hS hP hK hD hE hl
  have hown : s.vm.findClass RX2 = some m.cls := hown
  have hl : lv_has ls 1 [(0, .ref (aB 0))] := hl
  refine lv_aload_n hx hb dX2_clear_0 rfl (lv_at hl 0 rfl) ?_
  refine lv_iconst (v := 0) hx hb dX2_clear_1 (by decide) ?_
  refine va_put (D := D) (ci := 2) (v := .int (0 : Int32)) (ty := .int) (C := RX2) (T := TX2) (N := 7) hx hb hts jX2_clear_X2 tyX2 tyX2_ok nmX2 hown hK hP hD hS 0 rfl rfl 5 (by decide) (hts (.fieldLink RX2 27 "BrotherAutomata$RuleBook" "count" "I") (List.mem_of_getElem? (i := 1) rfl)) (fun _ h9 => h9) rfl (by decide +kernel) rfl rfl (Nat.le_of_ble_eq_true rfl) dX2_clear_2 (fun H locs hP hD hS => ?_)
  have hP : va_P D vwCl (wB cI aB (st zB 5 0 (0 : Int32))) H := hP
  have hD : va_D A (wB cI aB (st zB 5 0 (0 : Int32))) := hD
  refine lv_aload_n hx hb dX2_clear_5 rfl (lv_at hl 0 rfl) ?_
  refine lv_iconst (v := 0) hx hb dX2_clear_6 (by decide) ?_
  refine va_put (D := D) (ci := 2) (v := .int (0 : Int32)) (ty := .int) (C := RX2) (T := TX2) (N := 7) hx hb hts jX2_clear_X2 tyX2 tyX2_ok nmX2 hown hK hP hD hS 0 rfl rfl 6 (by decide) (hts (.fieldLink RX2 31 "BrotherAutomata$RuleBook" "finals" "I") (List.mem_of_getElem? (i := 2) rfl)) (fun _ h9 => h9) rfl (by decide +kernel) rfl rfl (Nat.le_of_ble_eq_true rfl) dX2_clear_7 (fun H locs hP hD hS => ?_)
  have hP : va_P D vwCl (wB cI aB (st (st zB 5 0 (0 : Int32)) 5 1 (0 : Int32))) H := hP
  have hD : va_D A (wB cI aB (st (st zB 5 0 (0 : Int32)) 5 1 (0 : Int32))) := hD
  exact xvret (w := (w_X2_clear cI cO aB)) (st (st zB 5 0 (0 : Int32)) 5 1 (0 : Int32)) hx hb hr hlocks h hP hK hD hS dX2_clear_10
theorem dX2_markFinal_0 : decode cX2_markFinal 0 = .ok (.aload_n 0, 1) := by decide +kernel
theorem dX2_markFinal_1 : decode cX2_markFinal 1 = .ok (.iload_n 2, 1) := by decide +kernel
theorem dX2_markFinal_2 : decode cX2_markFinal 2 = .ok (.ifCond .eq 14, 3) := by decide +kernel
theorem dX2_markFinal_5 : decode cX2_markFinal 5 = .ok (.aload_n 0, 1) := by decide +kernel
theorem dX2_markFinal_6 : decode cX2_markFinal 6 = .ok (.getfield 31, 3) := by decide +kernel
theorem dX2_markFinal_9 : decode cX2_markFinal 9 = .ok (.iconst 1, 1) := by decide +kernel
theorem dX2_markFinal_10 : decode cX2_markFinal 10 = .ok (.iload_n 1, 1) := by decide +kernel
theorem dX2_markFinal_11 : decode cX2_markFinal 11 = .ok (.ishl, 1) := by decide +kernel
theorem dX2_markFinal_12 : decode cX2_markFinal 12 = .ok (.ior, 1) := by decide +kernel
theorem dX2_markFinal_13 : decode cX2_markFinal 13 = .ok (.goto 13, 3) := by decide +kernel
theorem dX2_markFinal_16 : decode cX2_markFinal 16 = .ok (.aload_n 0, 1) := by decide +kernel
theorem dX2_markFinal_17 : decode cX2_markFinal 17 = .ok (.getfield 31, 3) := by decide +kernel
theorem dX2_markFinal_20 : decode cX2_markFinal 20 = .ok (.iconst 1, 1) := by decide +kernel
theorem dX2_markFinal_21 : decode cX2_markFinal 21 = .ok (.iload_n 1, 1) := by decide +kernel
theorem dX2_markFinal_22 : decode cX2_markFinal 22 = .ok (.ishl, 1) := by decide +kernel
theorem dX2_markFinal_23 : decode cX2_markFinal 23 = .ok (.iconst (-1), 1) := by decide +kernel
theorem dX2_markFinal_24 : decode cX2_markFinal 24 = .ok (.ixor, 1) := by decide +kernel
theorem dX2_markFinal_25 : decode cX2_markFinal 25 = .ok (.iand, 1) := by decide +kernel
theorem dX2_markFinal_26 : decode cX2_markFinal 26 = .ok (.putfield 31, 3) := by decide +kernel
theorem dX2_markFinal_29 : decode cX2_markFinal 29 = .ok (.return_, 1) := by decide +kernel
theorem jX2_markFinal_X2 : ∀ w ∈ wsX20, w ∈ wsX2_markFinal := by decide +kernel
abbrev w_X2_markFinal (cI cO : ClassId) (aB : Nat → Nat)  : ((CS)) → va_W := fun u => (wB cI aB u)
set_option maxRecDepth 100000 in
set_option maxHeartbeats 8000000 in
theorem mX2_markFinal (l : Launch) (D : va_G) (cI cO : ClassId) (tA tS : Nat) (aB : Nat → Nat) (zB : CS) (x1 : Int32) (x2 : Int32) (sz : Nat) {post : ((CS)) → Prop} (h : qX2_markFinal post x1 x2 zB) : Met l yX2_markFinal wsX2_markFinal ({ frames := 0, cells := 0, slots := 0, locals := 0 } : Room) (xPre D cI cO tA tS [.ref (aB 0), .int x1, .int x2] (wB cI aB zB) sz) (va_Qv post (xB D cI cO (va_A (wB cI aB zB) sz) (w_X2_markFinal cI cO aB)) (va_A (wB cI aB zB) sz)) 0 0 (va_A (wB cI aB zB) sz) := by
  refine xMet D cI cO tA tS (fun A => va_Qv post (xB D cI cO A (w_X2_markFinal cI cO aB)) A) (cc := cX2_markFinal) (maxL := 3) (ret := none) (by decide) rfl (Nat.le_of_ble_eq_true rfl) ?_
  intro p e s m below meth c A ls hx hb hr hts hown hlocks hin hml hA hS hP hK hD hE hl
  have hown : s.vm.findClass RX2 = some m.cls := hown
  have hl : lv_has ls 3 [(0, .ref (aB 0)), (1, .int x1), (2, .int x2)] := hl
  have g26 : ∀ (w1 : Int32) (zB : CS) (H : Heap) (locs : List Loc) (ls : Array Slot), qX2_markFinal_26 post x1 x2 w1 zB → va_P D vwCl (wB cI aB zB) H → va_D A (wB cI aB zB) → va_S A s.heap H locs → lv_has ls 3 [(0, .ref (aB 0)), (1, .int x1), (2, .int x2)] → W p l e ({ frames := 0, cells := 0, slots := 0, locals := 0 } : Room) s m ([.ref (aB 0), .int x1, .int x2] : List Value).toArray below meth c H locs 0 0 (MQ below (va_Qv post (xB D cI cO A (w_X2_markFinal cI cO aB)) A) ([.ref (aB 0), .int x1, .int x2] : List Value).toArray s 0 0 A) (F0 m 26 ls [.int w1, .ref (aB 0)]) := by
    intro w1 zB H locs ls h hP hD hS hl
    refine va_put (D := D) (ci := 2) (v := .int w1) (ty := .int) (C := RX2) (T := TX2) (N := 7) hx hb hts jX2_markFinal_X2 tyX2 tyX2_ok nmX2 hown hK hP hD hS 0 rfl rfl 6 (by decide) (hts (.fieldLink RX2 31 "BrotherAutomata$RuleBook" "finals" "I") (List.mem_of_getElem? (i := 1) rfl)) (fun _ h9 => h9) rfl (by decide +kernel) rfl rfl (Nat.le_of_ble_eq_true rfl) dX2_markFinal_26 (fun H locs hP hD hS => ?_)
    have hP : va_P D vwCl (wB cI aB (st zB 5 1 w1)) H := hP
    have hD : va_D A (wB cI aB (st zB 5 1 w1)) := hD
    exact xvret (w := (w_X2_markFinal cI cO aB)) (st zB 5 1 w1) hx hb hr hlocks h hP hK hD hS dX2_markFinal_29
  refine lv_aload_n hx hb dX2_markFinal_0 rfl (lv_at hl 0 rfl) ?_
  refine lv_iload_n hx hb dX2_markFinal_1 rfl (lv_at hl 2 rfl) ?_
  obtain ⟨hh1, hh2⟩ := h
  refine lv_if_eq (tgt := 16) hx hb dX2_markFinal_2 (by decide) (fun hc => ?_) (fun hc => ?_)
  · have h := hh1 hc
    refine lv_aload_n hx hb dX2_markFinal_16 rfl (lv_at hl 0 rfl) ?_
    refine va_get (D := D) (ci := 2) (v := .int (zB 5 1)) (C := RX2) (T := TX2) (N := 7) hx hb hts jX2_markFinal_X2 hown hK hP 0 rfl rfl 6 (by decide) (hts (.fieldLink RX2 31 "BrotherAutomata$RuleBook" "finals" "I") (List.mem_of_getElem? (i := 1) rfl)) (fun _ h9 => h9) rfl dX2_markFinal_17 ?_
    refine lv_iconst (v := 1) hx hb dX2_markFinal_20 (by decide) ?_
    refine lv_iload_n hx hb dX2_markFinal_21 rfl (lv_at hl 1 rfl) ?_
    refine lv_ishl hx hb dX2_markFinal_22 ?_
    refine lv_iconst (v := -1) hx hb dX2_markFinal_23 (by decide) ?_
    refine lv_ixor hx hb dX2_markFinal_24 ?_
    refine lv_iand hx hb dX2_markFinal_25 ?_
    exact g26 ((zB 5 1) &&& (((1 : Int32) <<< (x1 &&& 31)) ^^^ (-1 : Int32))) zB _ _ _ h hP hD hS hl
  · have h := hh2 hc
    refine lv_aload_n hx hb dX2_markFinal_5 rfl (lv_at hl 0 rfl) ?_
    refine va_get (D := D) (ci := 2) (v := .int (zB 5 1)) (C := RX2) (T := TX2) (N := 7) hx hb hts jX2_markFinal_X2 hown hK hP 0 rfl rfl 6 (by decide) (hts (.fieldLink RX2 31 "BrotherAutomata$RuleBook" "finals" "I") (List.mem_of_getElem? (i := 1) rfl)) (fun _ h9 => h9) rfl dX2_markFinal_6 ?_
    refine lv_iconst (v := 1) hx hb dX2_markFinal_9 (by decide) ?_
    refine lv_iload_n hx hb dX2_markFinal_10 rfl (lv_at hl 1 rfl) ?_
    refine lv_ishl hx hb dX2_markFinal_11 ?_
    refine lv_ior hx hb dX2_markFinal_12 ?_
    refine lv_goto (tgt := 26) hx hb dX2_markFinal_13 (by decide) ?_
    exact g26 ((zB 5 1) ||| ((1 : Int32) <<< (x1 &&& 31))) zB _ _ _ h hP hD hS hl
theorem dX2_append_0 : decode cX2_append 0 = .ok (.aload_n 0, 1) := by decide +kernel
theorem dX2_append_1 : decode cX2_append 1 = .ok (.getfield 27, 3) := by decide +kernel
theorem dX2_append_4 : decode cX2_append 4 = .ok (.bipush 16, 2) := by decide +kernel
theorem dX2_append_6 : decode cX2_append 6 = .ok (.if_icmp .ge 65, 3) := by decide +kernel
theorem dX2_append_9 : decode cX2_append 9 = .ok (.aload_n 0, 1) := by decide +kernel
theorem dX2_append_10 : decode cX2_append 10 = .ok (.getfield 9, 3) := by decide +kernel
theorem dX2_append_13 : decode cX2_append 13 = .ok (.aload_n 0, 1) := by decide +kernel
theorem dX2_append_14 : decode cX2_append 14 = .ok (.getfield 27, 3) := by decide +kernel
theorem dX2_append_17 : decode cX2_append 17 = .ok (.iload_n 1, 1) := by decide +kernel
theorem dX2_append_18 : decode cX2_append 18 = .ok (.iastore, 1) := by decide +kernel
theorem dX2_append_19 : decode cX2_append 19 = .ok (.aload_n 0, 1) := by decide +kernel
theorem dX2_append_20 : decode cX2_append 20 = .ok (.getfield 15, 3) := by decide +kernel
theorem dX2_append_23 : decode cX2_append 23 = .ok (.aload_n 0, 1) := by decide +kernel
theorem dX2_append_24 : decode cX2_append 24 = .ok (.getfield 27, 3) := by decide +kernel
theorem dX2_append_27 : decode cX2_append 27 = .ok (.iload_n 2, 1) := by decide +kernel
theorem dX2_append_28 : decode cX2_append 28 = .ok (.iastore, 1) := by decide +kernel
theorem dX2_append_29 : decode cX2_append 29 = .ok (.aload_n 0, 1) := by decide +kernel
theorem dX2_append_30 : decode cX2_append 30 = .ok (.getfield 18, 3) := by decide +kernel
theorem dX2_append_33 : decode cX2_append 33 = .ok (.aload_n 0, 1) := by decide +kernel
theorem dX2_append_34 : decode cX2_append 34 = .ok (.getfield 27, 3) := by decide +kernel
theorem dX2_append_37 : decode cX2_append 37 = .ok (.iload_n 3, 1) := by decide +kernel
theorem dX2_append_38 : decode cX2_append 38 = .ok (.iastore, 1) := by decide +kernel
theorem dX2_append_39 : decode cX2_append 39 = .ok (.aload_n 0, 1) := by decide +kernel
theorem dX2_append_40 : decode cX2_append 40 = .ok (.getfield 21, 3) := by decide +kernel
theorem dX2_append_43 : decode cX2_append 43 = .ok (.aload_n 0, 1) := by decide +kernel
theorem dX2_append_44 : decode cX2_append 44 = .ok (.getfield 27, 3) := by decide +kernel
theorem dX2_append_47 : decode cX2_append 47 = .ok (.iload 4, 2) := by decide +kernel
theorem dX2_append_49 : decode cX2_append 49 = .ok (.iastore, 1) := by decide +kernel
theorem dX2_append_50 : decode cX2_append 50 = .ok (.aload_n 0, 1) := by decide +kernel
theorem dX2_append_51 : decode cX2_append 51 = .ok (.getfield 24, 3) := by decide +kernel
theorem dX2_append_54 : decode cX2_append 54 = .ok (.aload_n 0, 1) := by decide +kernel
theorem dX2_append_55 : decode cX2_append 55 = .ok (.getfield 27, 3) := by decide +kernel
theorem dX2_append_58 : decode cX2_append 58 = .ok (.iload 5, 2) := by decide +kernel
theorem dX2_append_60 : decode cX2_append 60 = .ok (.iastore, 1) := by decide +kernel
theorem dX2_append_61 : decode cX2_append 61 = .ok (.aload_n 0, 1) := by decide +kernel
theorem dX2_append_62 : decode cX2_append 62 = .ok (.dup, 1) := by decide +kernel
theorem dX2_append_63 : decode cX2_append 63 = .ok (.getfield 27, 3) := by decide +kernel
theorem dX2_append_66 : decode cX2_append 66 = .ok (.iconst 1, 1) := by decide +kernel
theorem dX2_append_67 : decode cX2_append 67 = .ok (.iadd, 1) := by decide +kernel
theorem dX2_append_68 : decode cX2_append 68 = .ok (.putfield 27, 3) := by decide +kernel
theorem dX2_append_71 : decode cX2_append 71 = .ok (.return_, 1) := by decide +kernel
theorem jX2_append_X2 : ∀ w ∈ wsX20, w ∈ wsX2_append := by decide +kernel
abbrev w_X2_append (cI cO : ClassId) (aB : Nat → Nat)  : ((CS)) → va_W := fun u => (wB cI aB u)
set_option maxRecDepth 100000 in
set_option maxHeartbeats 8000000 in
theorem mX2_append (l : Launch) (D : va_G) (cI cO : ClassId) (tA tS : Nat) (aB : Nat → Nat) (zB : CS) (x1 : Int32) (x2 : Int32) (x3 : Int32) (x4 : Int32) (x5 : Int32) (sz : Nat) {post : ((CS)) → Prop} (h : qX2_append post x1 x2 x3 x4 x5 zB) : Met l yX2_append wsX2_append ({ frames := 0, cells := 0, slots := 0, locals := 0 } : Room) (xPre D cI cO tA tS [.ref (aB 0), .int x1, .int x2, .int x3, .int x4, .int x5] (wB cI aB zB) sz) (va_Qv post (xB D cI cO (va_A (wB cI aB zB) sz) (w_X2_append cI cO aB)) (va_A (wB cI aB zB) sz)) 0 0 (va_A (wB cI aB zB) sz) := by
  refine xMet D cI cO tA tS (fun A => va_Qv post (xB D cI cO A (w_X2_append cI cO aB)) A) (cc := cX2_append) (maxL := 6) (ret := none) (by decide) rfl (Nat.le_of_ble_eq_true rfl) ?_
  intro p e s m below meth c A ls hx hb hr hts hown hlocks hin hml hA hS hP hK hD hE hl
  have hown : s.vm.findClass RX2 = some m.cls := hown
  have hl : lv_has ls 6 [(0, .ref (aB 0)), (1, .int x1), (2, .int x2), (3, .int x3), (4, .int x4), (5, .int x5)] := hl
  refine lv_aload_n hx hb dX2_append_0 rfl (lv_at hl 0 rfl) ?_
  refine va_get (D := D) (ci := 2) (v := .int (zB 5 0)) (C := RX2) (T := TX2) (N := 7) hx hb hts jX2_append_X2 hown hK hP 0 rfl rfl 5 (by decide) (hts (.fieldLink RX2 27 "BrotherAutomata$RuleBook" "count" "I") (List.mem_of_getElem? (i := 1) rfl)) (fun _ h9 => h9) rfl dX2_append_1 ?_
  refine lv_bipush (v := 16) hx hb dX2_append_4 (by decide) ?_
  obtain ⟨hh1, hh2⟩ := h
  refine lv_icmp_ge (tgt := 71) hx hb dX2_append_6 (by decide) (fun hc => ?_) (fun hc => ?_)
  · have h := hh1 hc
    exact xvret (w := (w_X2_append cI cO aB)) (zB) hx hb hr hlocks h hP hK hD hS dX2_append_71
  · have h := hh2 hc
    refine lv_aload_n hx hb dX2_append_9 rfl (lv_at hl 0 rfl) ?_
    refine va_get (D := D) (ci := 2) (v := .ref (aB 1)) (C := RX2) (T := TX2) (N := 7) hx hb hts jX2_append_X2 hown hK hP 0 rfl rfl 0 (by decide) (hts (.fieldLink RX2 9 "BrotherAutomata$RuleBook" "symbols" "[I") (List.mem_of_getElem? (i := 2) rfl)) (fun _ h9 => h9) rfl dX2_append_10 ?_
    refine lv_aload_n hx hb dX2_append_13 rfl (lv_at hl 0 rfl) ?_
    refine va_get (D := D) (ci := 2) (v := .int (zB 5 0)) (C := RX2) (T := TX2) (N := 7) hx hb hts jX2_append_X2 hown hK hP 0 rfl rfl 5 (by decide) (hts (.fieldLink RX2 27 "BrotherAutomata$RuleBook" "count" "I") (List.mem_of_getElem? (i := 1) rfl)) (fun _ h9 => h9) rfl dX2_append_14 ?_
    refine lv_iload_n hx hb dX2_append_17 rfl (lv_at hl 1 rfl) ?_
    obtain ⟨hi, h⟩ := h
    refine va_iast hx hb hK hP hD hS 1 0 rfl rfl hi dX2_append_18 (fun H locs hP hD hS => ?_)
    have hP : va_P D vwCl (wB cI aB (st zB 0 (zB 5 0).toNatClampNeg x1)) H := hP
    have hD : va_D A (wB cI aB (st zB 0 (zB 5 0).toNatClampNeg x1)) := hD
    refine lv_aload_n hx hb dX2_append_19 rfl (lv_at hl 0 rfl) ?_
    refine va_get (D := D) (ci := 2) (v := .ref (aB 2)) (C := RX2) (T := TX2) (N := 7) hx hb hts jX2_append_X2 hown hK hP 0 rfl rfl 1 (by decide) (hts (.fieldLink RX2 15 "BrotherAutomata$RuleBook" "firsts" "[I") (List.mem_of_getElem? (i := 3) rfl)) (fun _ h9 => h9) rfl dX2_append_20 ?_
    refine lv_aload_n hx hb dX2_append_23 rfl (lv_at hl 0 rfl) ?_
    refine va_get (D := D) (ci := 2) (v := .int ((st zB 0 (zB 5 0).toNatClampNeg x1) 5 0)) (C := RX2) (T := TX2) (N := 7) hx hb hts jX2_append_X2 hown hK hP 0 rfl rfl 5 (by decide) (hts (.fieldLink RX2 27 "BrotherAutomata$RuleBook" "count" "I") (List.mem_of_getElem? (i := 1) rfl)) (fun _ h9 => h9) rfl dX2_append_24 ?_
    refine lv_iload_n hx hb dX2_append_27 rfl (lv_at hl 2 rfl) ?_
    obtain ⟨hi, h⟩ := h
    refine va_iast hx hb hK hP hD hS 2 0 rfl rfl hi dX2_append_28 (fun H locs hP hD hS => ?_)
    have hP : va_P D vwCl (wB cI aB (st (st zB 0 (zB 5 0).toNatClampNeg x1) 1 ((st zB 0 (zB 5 0).toNatClampNeg x1) 5 0).toNatClampNeg x2)) H := hP
    have hD : va_D A (wB cI aB (st (st zB 0 (zB 5 0).toNatClampNeg x1) 1 ((st zB 0 (zB 5 0).toNatClampNeg x1) 5 0).toNatClampNeg x2)) := hD
    refine lv_aload_n hx hb dX2_append_29 rfl (lv_at hl 0 rfl) ?_
    refine va_get (D := D) (ci := 2) (v := .ref (aB 3)) (C := RX2) (T := TX2) (N := 7) hx hb hts jX2_append_X2 hown hK hP 0 rfl rfl 2 (by decide) (hts (.fieldLink RX2 18 "BrotherAutomata$RuleBook" "seconds" "[I") (List.mem_of_getElem? (i := 4) rfl)) (fun _ h9 => h9) rfl dX2_append_30 ?_
    refine lv_aload_n hx hb dX2_append_33 rfl (lv_at hl 0 rfl) ?_
    refine va_get (D := D) (ci := 2) (v := .int ((st (st zB 0 (zB 5 0).toNatClampNeg x1) 1 ((st zB 0 (zB 5 0).toNatClampNeg x1) 5 0).toNatClampNeg x2) 5 0)) (C := RX2) (T := TX2) (N := 7) hx hb hts jX2_append_X2 hown hK hP 0 rfl rfl 5 (by decide) (hts (.fieldLink RX2 27 "BrotherAutomata$RuleBook" "count" "I") (List.mem_of_getElem? (i := 1) rfl)) (fun _ h9 => h9) rfl dX2_append_34 ?_
    refine lv_iload_n hx hb dX2_append_37 rfl (lv_at hl 3 rfl) ?_
    obtain ⟨hi, h⟩ := h
    refine va_iast hx hb hK hP hD hS 3 0 rfl rfl hi dX2_append_38 (fun H locs hP hD hS => ?_)
    have hP : va_P D vwCl (wB cI aB (st (st (st zB 0 (zB 5 0).toNatClampNeg x1) 1 ((st zB 0 (zB 5 0).toNatClampNeg x1) 5 0).toNatClampNeg x2) 2 ((st (st zB 0 (zB 5 0).toNatClampNeg x1) 1 ((st zB 0 (zB 5 0).toNatClampNeg x1) 5 0).toNatClampNeg x2) 5 0).toNatClampNeg x3)) H := hP
    have hD : va_D A (wB cI aB (st (st (st zB 0 (zB 5 0).toNatClampNeg x1) 1 ((st zB 0 (zB 5 0).toNatClampNeg x1) 5 0).toNatClampNeg x2) 2 ((st (st zB 0 (zB 5 0).toNatClampNeg x1) 1 ((st zB 0 (zB 5 0).toNatClampNeg x1) 5 0).toNatClampNeg x2) 5 0).toNatClampNeg x3)) := hD
    refine lv_aload_n hx hb dX2_append_39 rfl (lv_at hl 0 rfl) ?_
    refine va_get (D := D) (ci := 2) (v := .ref (aB 4)) (C := RX2) (T := TX2) (N := 7) hx hb hts jX2_append_X2 hown hK hP 0 rfl rfl 3 (by decide) (hts (.fieldLink RX2 21 "BrotherAutomata$RuleBook" "constraints" "[I") (List.mem_of_getElem? (i := 5) rfl)) (fun _ h9 => h9) rfl dX2_append_40 ?_
    refine lv_aload_n hx hb dX2_append_43 rfl (lv_at hl 0 rfl) ?_
    refine va_get (D := D) (ci := 2) (v := .int ((st (st (st zB 0 (zB 5 0).toNatClampNeg x1) 1 ((st zB 0 (zB 5 0).toNatClampNeg x1) 5 0).toNatClampNeg x2) 2 ((st (st zB 0 (zB 5 0).toNatClampNeg x1) 1 ((st zB 0 (zB 5 0).toNatClampNeg x1) 5 0).toNatClampNeg x2) 5 0).toNatClampNeg x3) 5 0)) (C := RX2) (T := TX2) (N := 7) hx hb hts jX2_append_X2 hown hK hP 0 rfl rfl 5 (by decide) (hts (.fieldLink RX2 27 "BrotherAutomata$RuleBook" "count" "I") (List.mem_of_getElem? (i := 1) rfl)) (fun _ h9 => h9) rfl dX2_append_44 ?_
    refine lv_iload hx hb dX2_append_47 (lv_at hl 4 rfl) ?_
    obtain ⟨hi, h⟩ := h
    refine va_iast hx hb hK hP hD hS 4 0 rfl rfl hi dX2_append_49 (fun H locs hP hD hS => ?_)
    have hP : va_P D vwCl (wB cI aB (st (st (st (st zB 0 (zB 5 0).toNatClampNeg x1) 1 ((st zB 0 (zB 5 0).toNatClampNeg x1) 5 0).toNatClampNeg x2) 2 ((st (st zB 0 (zB 5 0).toNatClampNeg x1) 1 ((st zB 0 (zB 5 0).toNatClampNeg x1) 5 0).toNatClampNeg x2) 5 0).toNatClampNeg x3) 3 ((st (st (st zB 0 (zB 5 0).toNatClampNeg x1) 1 ((st zB 0 (zB 5 0).toNatClampNeg x1) 5 0).toNatClampNeg x2) 2 ((st (st zB 0 (zB 5 0).toNatClampNeg x1) 1 ((st zB 0 (zB 5 0).toNatClampNeg x1) 5 0).toNatClampNeg x2) 5 0).toNatClampNeg x3) 5 0).toNatClampNeg x4)) H := hP
    have hD : va_D A (wB cI aB (st (st (st (st zB 0 (zB 5 0).toNatClampNeg x1) 1 ((st zB 0 (zB 5 0).toNatClampNeg x1) 5 0).toNatClampNeg x2) 2 ((st (st zB 0 (zB 5 0).toNatClampNeg x1) 1 ((st zB 0 (zB 5 0).toNatClampNeg x1) 5 0).toNatClampNeg x2) 5 0).toNatClampNeg x3) 3 ((st (st (st zB 0 (zB 5 0).toNatClampNeg x1) 1 ((st zB 0 (zB 5 0).toNatClampNeg x1) 5 0).toNatClampNeg x2) 2 ((st (st zB 0 (zB 5 0).toNatClampNeg x1) 1 ((st zB 0 (zB 5 0).toNatClampNeg x1) 5 0).toNatClampNeg x2) 5 0).toNatClampNeg x3) 5 0).toNatClampNeg x4)) := hD
    refine lv_aload_n hx hb dX2_append_50 rfl (lv_at hl 0 rfl) ?_
    refine va_get (D := D) (ci := 2) (v := .ref (aB 5)) (C := RX2) (T := TX2) (N := 7) hx hb hts jX2_append_X2 hown hK hP 0 rfl rfl 4 (by decide) (hts (.fieldLink RX2 24 "BrotherAutomata$RuleBook" "targets" "[I") (List.mem_of_getElem? (i := 6) rfl)) (fun _ h9 => h9) rfl dX2_append_51 ?_
    refine lv_aload_n hx hb dX2_append_54 rfl (lv_at hl 0 rfl) ?_
    refine va_get (D := D) (ci := 2) (v := .int ((st (st (st (st zB 0 (zB 5 0).toNatClampNeg x1) 1 ((st zB 0 (zB 5 0).toNatClampNeg x1) 5 0).toNatClampNeg x2) 2 ((st (st zB 0 (zB 5 0).toNatClampNeg x1) 1 ((st zB 0 (zB 5 0).toNatClampNeg x1) 5 0).toNatClampNeg x2) 5 0).toNatClampNeg x3) 3 ((st (st (st zB 0 (zB 5 0).toNatClampNeg x1) 1 ((st zB 0 (zB 5 0).toNatClampNeg x1) 5 0).toNatClampNeg x2) 2 ((st (st zB 0 (zB 5 0).toNatClampNeg x1) 1 ((st zB 0 (zB 5 0).toNatClampNeg x1) 5 0).toNatClampNeg x2) 5 0).toNatClampNeg x3) 5 0).toNatClampNeg x4) 5 0)) (C := RX2) (T := TX2) (N := 7) hx hb hts jX2_append_X2 hown hK hP 0 rfl rfl 5 (by decide) (hts (.fieldLink RX2 27 "BrotherAutomata$RuleBook" "count" "I") (List.mem_of_getElem? (i := 1) rfl)) (fun _ h9 => h9) rfl dX2_append_55 ?_
    refine lv_iload hx hb dX2_append_58 (lv_at hl 5 rfl) ?_
    obtain ⟨hi, h⟩ := h
    refine va_iast hx hb hK hP hD hS 5 0 rfl rfl hi dX2_append_60 (fun H locs hP hD hS => ?_)
    have hP : va_P D vwCl (wB cI aB (st (st (st (st (st zB 0 (zB 5 0).toNatClampNeg x1) 1 ((st zB 0 (zB 5 0).toNatClampNeg x1) 5 0).toNatClampNeg x2) 2 ((st (st zB 0 (zB 5 0).toNatClampNeg x1) 1 ((st zB 0 (zB 5 0).toNatClampNeg x1) 5 0).toNatClampNeg x2) 5 0).toNatClampNeg x3) 3 ((st (st (st zB 0 (zB 5 0).toNatClampNeg x1) 1 ((st zB 0 (zB 5 0).toNatClampNeg x1) 5 0).toNatClampNeg x2) 2 ((st (st zB 0 (zB 5 0).toNatClampNeg x1) 1 ((st zB 0 (zB 5 0).toNatClampNeg x1) 5 0).toNatClampNeg x2) 5 0).toNatClampNeg x3) 5 0).toNatClampNeg x4) 4 ((st (st (st (st zB 0 (zB 5 0).toNatClampNeg x1) 1 ((st zB 0 (zB 5 0).toNatClampNeg x1) 5 0).toNatClampNeg x2) 2 ((st (st zB 0 (zB 5 0).toNatClampNeg x1) 1 ((st zB 0 (zB 5 0).toNatClampNeg x1) 5 0).toNatClampNeg x2) 5 0).toNatClampNeg x3) 3 ((st (st (st zB 0 (zB 5 0).toNatClampNeg x1) 1 ((st zB 0 (zB 5 0).toNatClampNeg x1) 5 0).toNatClampNeg x2) 2 ((st (st zB 0 (zB 5 0).toNatClampNeg x1) 1 ((st zB 0 (zB 5 0).toNatClampNeg x1) 5 0).toNatClampNeg x2) 5 0).toNatClampNeg x3) 5 0).toNatClampNeg x4) 5 0).toNatClampNeg x5)) H := hP
    have hD : va_D A (wB cI aB (st (st (st (st (st zB 0 (zB 5 0).toNatClampNeg x1) 1 ((st zB 0 (zB 5 0).toNatClampNeg x1) 5 0).toNatClampNeg x2) 2 ((st (st zB 0 (zB 5 0).toNatClampNeg x1) 1 ((st zB 0 (zB 5 0).toNatClampNeg x1) 5 0).toNatClampNeg x2) 5 0).toNatClampNeg x3) 3 ((st (st (st zB 0 (zB 5 0).toNatClampNeg x1) 1 ((st zB 0 (zB 5 0).toNatClampNeg x1) 5 0).toNatClampNeg x2) 2 ((st (st zB 0 (zB 5 0).toNatClampNeg x1) 1 ((st zB 0 (zB 5 0).toNatClampNeg x1) 5 0).toNatClampNeg x2) 5 0).toNatClampNeg x3) 5 0).toNatClampNeg x4) 4 ((st (st (st (st zB 0 (zB 5 0).toNatClampNeg x1) 1 ((st zB 0 (zB 5 0).toNatClampNeg x1) 5 0).toNatClampNeg x2) 2 ((st (st zB 0 (zB 5 0).toNatClampNeg x1) 1 ((st zB 0 (zB 5 0).toNatClampNeg x1) 5 0).toNatClampNeg x2) 5 0).toNatClampNeg x3) 3 ((st (st (st zB 0 (zB 5 0).toNatClampNeg x1) 1 ((st zB 0 (zB 5 0).toNatClampNeg x1) 5 0).toNatClampNeg x2) 2 ((st (st zB 0 (zB 5 0).toNatClampNeg x1) 1 ((st zB 0 (zB 5 0).toNatClampNeg x1) 5 0).toNatClampNeg x2) 5 0).toNatClampNeg x3) 5 0).toNatClampNeg x4) 5 0).toNatClampNeg x5)) := hD
    refine lv_aload_n hx hb dX2_append_61 rfl (lv_at hl 0 rfl) ?_
    refine lv_dup hx hb dX2_append_62 rfl ?_
    refine va_get (D := D) (ci := 2) (v := .int ((st (st (st (st (st zB 0 (zB 5 0).toNatClampNeg x1) 1 ((st zB 0 (zB 5 0).toNatClampNeg x1) 5 0).toNatClampNeg x2) 2 ((st (st zB 0 (zB 5 0).toNatClampNeg x1) 1 ((st zB 0 (zB 5 0).toNatClampNeg x1) 5 0).toNatClampNeg x2) 5 0).toNatClampNeg x3) 3 ((st (st (st zB 0 (zB 5 0).toNatClampNeg x1) 1 ((st zB 0 (zB 5 0).toNatClampNeg x1) 5 0).toNatClampNeg x2) 2 ((st (st zB 0 (zB 5 0).toNatClampNeg x1) 1 ((st zB 0 (zB 5 0).toNatClampNeg x1) 5 0).toNatClampNeg x2) 5 0).toNatClampNeg x3) 5 0).toNatClampNeg x4) 4 ((st (st (st (st zB 0 (zB 5 0).toNatClampNeg x1) 1 ((st zB 0 (zB 5 0).toNatClampNeg x1) 5 0).toNatClampNeg x2) 2 ((st (st zB 0 (zB 5 0).toNatClampNeg x1) 1 ((st zB 0 (zB 5 0).toNatClampNeg x1) 5 0).toNatClampNeg x2) 5 0).toNatClampNeg x3) 3 ((st (st (st zB 0 (zB 5 0).toNatClampNeg x1) 1 ((st zB 0 (zB 5 0).toNatClampNeg x1) 5 0).toNatClampNeg x2) 2 ((st (st zB 0 (zB 5 0).toNatClampNeg x1) 1 ((st zB 0 (zB 5 0).toNatClampNeg x1) 5 0).toNatClampNeg x2) 5 0).toNatClampNeg x3) 5 0).toNatClampNeg x4) 5 0).toNatClampNeg x5) 5 0)) (C := RX2) (T := TX2) (N := 7) hx hb hts jX2_append_X2 hown hK hP 0 rfl rfl 5 (by decide) (hts (.fieldLink RX2 27 "BrotherAutomata$RuleBook" "count" "I") (List.mem_of_getElem? (i := 1) rfl)) (fun _ h9 => h9) rfl dX2_append_63 ?_
    refine lv_iconst (v := 1) hx hb dX2_append_66 (by decide) ?_
    refine lv_iadd hx hb dX2_append_67 ?_
    refine va_put (D := D) (ci := 2) (v := .int (((st (st (st (st (st zB 0 (zB 5 0).toNatClampNeg x1) 1 ((st zB 0 (zB 5 0).toNatClampNeg x1) 5 0).toNatClampNeg x2) 2 ((st (st zB 0 (zB 5 0).toNatClampNeg x1) 1 ((st zB 0 (zB 5 0).toNatClampNeg x1) 5 0).toNatClampNeg x2) 5 0).toNatClampNeg x3) 3 ((st (st (st zB 0 (zB 5 0).toNatClampNeg x1) 1 ((st zB 0 (zB 5 0).toNatClampNeg x1) 5 0).toNatClampNeg x2) 2 ((st (st zB 0 (zB 5 0).toNatClampNeg x1) 1 ((st zB 0 (zB 5 0).toNatClampNeg x1) 5 0).toNatClampNeg x2) 5 0).toNatClampNeg x3) 5 0).toNatClampNeg x4) 4 ((st (st (st (st zB 0 (zB 5 0).toNatClampNeg x1) 1 ((st zB 0 (zB 5 0).toNatClampNeg x1) 5 0).toNatClampNeg x2) 2 ((st (st zB 0 (zB 5 0).toNatClampNeg x1) 1 ((st zB 0 (zB 5 0).toNatClampNeg x1) 5 0).toNatClampNeg x2) 5 0).toNatClampNeg x3) 3 ((st (st (st zB 0 (zB 5 0).toNatClampNeg x1) 1 ((st zB 0 (zB 5 0).toNatClampNeg x1) 5 0).toNatClampNeg x2) 2 ((st (st zB 0 (zB 5 0).toNatClampNeg x1) 1 ((st zB 0 (zB 5 0).toNatClampNeg x1) 5 0).toNatClampNeg x2) 5 0).toNatClampNeg x3) 5 0).toNatClampNeg x4) 5 0).toNatClampNeg x5) 5 0) + (1 : Int32))) (ty := .int) (C := RX2) (T := TX2) (N := 7) hx hb hts jX2_append_X2 tyX2 tyX2_ok nmX2 hown hK hP hD hS 0 rfl rfl 5 (by decide) (hts (.fieldLink RX2 27 "BrotherAutomata$RuleBook" "count" "I") (List.mem_of_getElem? (i := 1) rfl)) (fun _ h9 => h9) rfl (by decide +kernel) rfl rfl (Nat.le_of_ble_eq_true rfl) dX2_append_68 (fun H locs hP hD hS => ?_)
    have hP : va_P D vwCl (wB cI aB (st (st (st (st (st (st zB 0 (zB 5 0).toNatClampNeg x1) 1 ((st zB 0 (zB 5 0).toNatClampNeg x1) 5 0).toNatClampNeg x2) 2 ((st (st zB 0 (zB 5 0).toNatClampNeg x1) 1 ((st zB 0 (zB 5 0).toNatClampNeg x1) 5 0).toNatClampNeg x2) 5 0).toNatClampNeg x3) 3 ((st (st (st zB 0 (zB 5 0).toNatClampNeg x1) 1 ((st zB 0 (zB 5 0).toNatClampNeg x1) 5 0).toNatClampNeg x2) 2 ((st (st zB 0 (zB 5 0).toNatClampNeg x1) 1 ((st zB 0 (zB 5 0).toNatClampNeg x1) 5 0).toNatClampNeg x2) 5 0).toNatClampNeg x3) 5 0).toNatClampNeg x4) 4 ((st (st (st (st zB 0 (zB 5 0).toNatClampNeg x1) 1 ((st zB 0 (zB 5 0).toNatClampNeg x1) 5 0).toNatClampNeg x2) 2 ((st (st zB 0 (zB 5 0).toNatClampNeg x1) 1 ((st zB 0 (zB 5 0).toNatClampNeg x1) 5 0).toNatClampNeg x2) 5 0).toNatClampNeg x3) 3 ((st (st (st zB 0 (zB 5 0).toNatClampNeg x1) 1 ((st zB 0 (zB 5 0).toNatClampNeg x1) 5 0).toNatClampNeg x2) 2 ((st (st zB 0 (zB 5 0).toNatClampNeg x1) 1 ((st zB 0 (zB 5 0).toNatClampNeg x1) 5 0).toNatClampNeg x2) 5 0).toNatClampNeg x3) 5 0).toNatClampNeg x4) 5 0).toNatClampNeg x5) 5 0 (((st (st (st (st (st zB 0 (zB 5 0).toNatClampNeg x1) 1 ((st zB 0 (zB 5 0).toNatClampNeg x1) 5 0).toNatClampNeg x2) 2 ((st (st zB 0 (zB 5 0).toNatClampNeg x1) 1 ((st zB 0 (zB 5 0).toNatClampNeg x1) 5 0).toNatClampNeg x2) 5 0).toNatClampNeg x3) 3 ((st (st (st zB 0 (zB 5 0).toNatClampNeg x1) 1 ((st zB 0 (zB 5 0).toNatClampNeg x1) 5 0).toNatClampNeg x2) 2 ((st (st zB 0 (zB 5 0).toNatClampNeg x1) 1 ((st zB 0 (zB 5 0).toNatClampNeg x1) 5 0).toNatClampNeg x2) 5 0).toNatClampNeg x3) 5 0).toNatClampNeg x4) 4 ((st (st (st (st zB 0 (zB 5 0).toNatClampNeg x1) 1 ((st zB 0 (zB 5 0).toNatClampNeg x1) 5 0).toNatClampNeg x2) 2 ((st (st zB 0 (zB 5 0).toNatClampNeg x1) 1 ((st zB 0 (zB 5 0).toNatClampNeg x1) 5 0).toNatClampNeg x2) 5 0).toNatClampNeg x3) 3 ((st (st (st zB 0 (zB 5 0).toNatClampNeg x1) 1 ((st zB 0 (zB 5 0).toNatClampNeg x1) 5 0).toNatClampNeg x2) 2 ((st (st zB 0 (zB 5 0).toNatClampNeg x1) 1 ((st zB 0 (zB 5 0).toNatClampNeg x1) 5 0).toNatClampNeg x2) 5 0).toNatClampNeg x3) 5 0).toNatClampNeg x4) 5 0).toNatClampNeg x5) 5 0) + (1 : Int32)))) H := hP
    have hD : va_D A (wB cI aB (st (st (st (st (st (st zB 0 (zB 5 0).toNatClampNeg x1) 1 ((st zB 0 (zB 5 0).toNatClampNeg x1) 5 0).toNatClampNeg x2) 2 ((st (st zB 0 (zB 5 0).toNatClampNeg x1) 1 ((st zB 0 (zB 5 0).toNatClampNeg x1) 5 0).toNatClampNeg x2) 5 0).toNatClampNeg x3) 3 ((st (st (st zB 0 (zB 5 0).toNatClampNeg x1) 1 ((st zB 0 (zB 5 0).toNatClampNeg x1) 5 0).toNatClampNeg x2) 2 ((st (st zB 0 (zB 5 0).toNatClampNeg x1) 1 ((st zB 0 (zB 5 0).toNatClampNeg x1) 5 0).toNatClampNeg x2) 5 0).toNatClampNeg x3) 5 0).toNatClampNeg x4) 4 ((st (st (st (st zB 0 (zB 5 0).toNatClampNeg x1) 1 ((st zB 0 (zB 5 0).toNatClampNeg x1) 5 0).toNatClampNeg x2) 2 ((st (st zB 0 (zB 5 0).toNatClampNeg x1) 1 ((st zB 0 (zB 5 0).toNatClampNeg x1) 5 0).toNatClampNeg x2) 5 0).toNatClampNeg x3) 3 ((st (st (st zB 0 (zB 5 0).toNatClampNeg x1) 1 ((st zB 0 (zB 5 0).toNatClampNeg x1) 5 0).toNatClampNeg x2) 2 ((st (st zB 0 (zB 5 0).toNatClampNeg x1) 1 ((st zB 0 (zB 5 0).toNatClampNeg x1) 5 0).toNatClampNeg x2) 5 0).toNatClampNeg x3) 5 0).toNatClampNeg x4) 5 0).toNatClampNeg x5) 5 0 (((st (st (st (st (st zB 0 (zB 5 0).toNatClampNeg x1) 1 ((st zB 0 (zB 5 0).toNatClampNeg x1) 5 0).toNatClampNeg x2) 2 ((st (st zB 0 (zB 5 0).toNatClampNeg x1) 1 ((st zB 0 (zB 5 0).toNatClampNeg x1) 5 0).toNatClampNeg x2) 5 0).toNatClampNeg x3) 3 ((st (st (st zB 0 (zB 5 0).toNatClampNeg x1) 1 ((st zB 0 (zB 5 0).toNatClampNeg x1) 5 0).toNatClampNeg x2) 2 ((st (st zB 0 (zB 5 0).toNatClampNeg x1) 1 ((st zB 0 (zB 5 0).toNatClampNeg x1) 5 0).toNatClampNeg x2) 5 0).toNatClampNeg x3) 5 0).toNatClampNeg x4) 4 ((st (st (st (st zB 0 (zB 5 0).toNatClampNeg x1) 1 ((st zB 0 (zB 5 0).toNatClampNeg x1) 5 0).toNatClampNeg x2) 2 ((st (st zB 0 (zB 5 0).toNatClampNeg x1) 1 ((st zB 0 (zB 5 0).toNatClampNeg x1) 5 0).toNatClampNeg x2) 5 0).toNatClampNeg x3) 3 ((st (st (st zB 0 (zB 5 0).toNatClampNeg x1) 1 ((st zB 0 (zB 5 0).toNatClampNeg x1) 5 0).toNatClampNeg x2) 2 ((st (st zB 0 (zB 5 0).toNatClampNeg x1) 1 ((st zB 0 (zB 5 0).toNatClampNeg x1) 5 0).toNatClampNeg x2) 5 0).toNatClampNeg x3) 5 0).toNatClampNeg x4) 5 0).toNatClampNeg x5) 5 0) + (1 : Int32)))) := hD
    exact xvret (w := (w_X2_append cI cO aB)) (st (st (st (st (st (st zB 0 (zB 5 0).toNatClampNeg x1) 1 ((st zB 0 (zB 5 0).toNatClampNeg x1) 5 0).toNatClampNeg x2) 2 ((st (st zB 0 (zB 5 0).toNatClampNeg x1) 1 ((st zB 0 (zB 5 0).toNatClampNeg x1) 5 0).toNatClampNeg x2) 5 0).toNatClampNeg x3) 3 ((st (st (st zB 0 (zB 5 0).toNatClampNeg x1) 1 ((st zB 0 (zB 5 0).toNatClampNeg x1) 5 0).toNatClampNeg x2) 2 ((st (st zB 0 (zB 5 0).toNatClampNeg x1) 1 ((st zB 0 (zB 5 0).toNatClampNeg x1) 5 0).toNatClampNeg x2) 5 0).toNatClampNeg x3) 5 0).toNatClampNeg x4) 4 ((st (st (st (st zB 0 (zB 5 0).toNatClampNeg x1) 1 ((st zB 0 (zB 5 0).toNatClampNeg x1) 5 0).toNatClampNeg x2) 2 ((st (st zB 0 (zB 5 0).toNatClampNeg x1) 1 ((st zB 0 (zB 5 0).toNatClampNeg x1) 5 0).toNatClampNeg x2) 5 0).toNatClampNeg x3) 3 ((st (st (st zB 0 (zB 5 0).toNatClampNeg x1) 1 ((st zB 0 (zB 5 0).toNatClampNeg x1) 5 0).toNatClampNeg x2) 2 ((st (st zB 0 (zB 5 0).toNatClampNeg x1) 1 ((st zB 0 (zB 5 0).toNatClampNeg x1) 5 0).toNatClampNeg x2) 5 0).toNatClampNeg x3) 5 0).toNatClampNeg x4) 5 0).toNatClampNeg x5) 5 0 (((st (st (st (st (st zB 0 (zB 5 0).toNatClampNeg x1) 1 ((st zB 0 (zB 5 0).toNatClampNeg x1) 5 0).toNatClampNeg x2) 2 ((st (st zB 0 (zB 5 0).toNatClampNeg x1) 1 ((st zB 0 (zB 5 0).toNatClampNeg x1) 5 0).toNatClampNeg x2) 5 0).toNatClampNeg x3) 3 ((st (st (st zB 0 (zB 5 0).toNatClampNeg x1) 1 ((st zB 0 (zB 5 0).toNatClampNeg x1) 5 0).toNatClampNeg x2) 2 ((st (st zB 0 (zB 5 0).toNatClampNeg x1) 1 ((st zB 0 (zB 5 0).toNatClampNeg x1) 5 0).toNatClampNeg x2) 5 0).toNatClampNeg x3) 5 0).toNatClampNeg x4) 4 ((st (st (st (st zB 0 (zB 5 0).toNatClampNeg x1) 1 ((st zB 0 (zB 5 0).toNatClampNeg x1) 5 0).toNatClampNeg x2) 2 ((st (st zB 0 (zB 5 0).toNatClampNeg x1) 1 ((st zB 0 (zB 5 0).toNatClampNeg x1) 5 0).toNatClampNeg x2) 5 0).toNatClampNeg x3) 3 ((st (st (st zB 0 (zB 5 0).toNatClampNeg x1) 1 ((st zB 0 (zB 5 0).toNatClampNeg x1) 5 0).toNatClampNeg x2) 2 ((st (st zB 0 (zB 5 0).toNatClampNeg x1) 1 ((st zB 0 (zB 5 0).toNatClampNeg x1) 5 0).toNatClampNeg x2) 5 0).toNatClampNeg x3) 5 0).toNatClampNeg x4) 5 0).toNatClampNeg x5) 5 0) + (1 : Int32))) hx hb hr hlocks h hP hK hD hS dX2_append_71
theorem dX2_closeGap_0 : decode cX2_closeGap 0 = .ok (.iload_n 2, 1) := by decide +kernel
theorem dX2_closeGap_1 : decode cX2_closeGap 1 = .ok (.istore_n 3, 1) := by decide +kernel
theorem dX2_closeGap_2 : decode cX2_closeGap 2 = .ok (.iload_n 3, 1) := by decide +kernel
theorem dX2_closeGap_3 : decode cX2_closeGap 3 = .ok (.aload_n 0, 1) := by decide +kernel
theorem dX2_closeGap_4 : decode cX2_closeGap 4 = .ok (.getfield 27, 3) := by decide +kernel
theorem dX2_closeGap_7 : decode cX2_closeGap 7 = .ok (.if_icmp .ge 17, 3) := by decide +kernel
theorem dX2_closeGap_10 : decode cX2_closeGap 10 = .ok (.aload_n 1, 1) := by decide +kernel
theorem dX2_closeGap_11 : decode cX2_closeGap 11 = .ok (.iload_n 3, 1) := by decide +kernel
theorem dX2_closeGap_12 : decode cX2_closeGap 12 = .ok (.aload_n 1, 1) := by decide +kernel
theorem dX2_closeGap_13 : decode cX2_closeGap 13 = .ok (.iload_n 3, 1) := by decide +kernel
theorem dX2_closeGap_14 : decode cX2_closeGap 14 = .ok (.iconst 1, 1) := by decide +kernel
theorem dX2_closeGap_15 : decode cX2_closeGap 15 = .ok (.iadd, 1) := by decide +kernel
theorem dX2_closeGap_16 : decode cX2_closeGap 16 = .ok (.iaload, 1) := by decide +kernel
theorem dX2_closeGap_17 : decode cX2_closeGap 17 = .ok (.iastore, 1) := by decide +kernel
theorem dX2_closeGap_18 : decode cX2_closeGap 18 = .ok (.iinc 3 1, 3) := by decide +kernel
theorem dX2_closeGap_21 : decode cX2_closeGap 21 = .ok (.goto (-19), 3) := by decide +kernel
theorem dX2_closeGap_24 : decode cX2_closeGap 24 = .ok (.return_, 1) := by decide +kernel
theorem jX2_closeGap_X2 : ∀ w ∈ wsX20, w ∈ wsX2_closeGap := by decide +kernel
abbrev w_X2_closeGap (cI cO : ClassId) (aB : Nat → Nat) (ra : Nat) (zB0 : CS) : ((Nat → Int32)) → va_W := fun u => (wB0 aB zB0 ++ ([(ra, .inl (cI, 16, .inl u))]))
set_option maxRecDepth 100000 in
set_option maxHeartbeats 8000000 in
theorem mX2_closeGap (l : Launch) (D : va_G) (cI cO : ClassId) (tA tS : Nat) (aB : Nat → Nat) (ra : Nat) (zB0 : CS) (zF : Nat → Int32) (x2 : Int32) (sz : Nat) {post : ((Nat → Int32)) → Prop} (h : qX2_closeGap post x2 zB0 zF) : Met l yX2_closeGap wsX2_closeGap ({ frames := 0, cells := 0, slots := 0, locals := 0 } : Room) (xPre D cI cO tA tS [.ref (aB 0), .ref ra, .int x2] (wB0 aB zB0 ++ ([(ra, .inl (cI, 16, .inl zF))])) sz) (va_Qv post (xB D cI cO (va_A (wB0 aB zB0 ++ ([(ra, .inl (cI, 16, .inl zF))])) sz) (w_X2_closeGap cI cO aB ra zB0)) (va_A (wB0 aB zB0 ++ ([(ra, .inl (cI, 16, .inl zF))])) sz)) 0 0 (va_A (wB0 aB zB0 ++ ([(ra, .inl (cI, 16, .inl zF))])) sz) := by
  refine xMet D cI cO tA tS (fun A => va_Qv post (xB D cI cO A (w_X2_closeGap cI cO aB ra zB0)) A) (cc := cX2_closeGap) (maxL := 4) (ret := none) (by decide) rfl (Nat.le_of_ble_eq_true rfl) ?_
  intro p e s m below meth c A ls hx hb hr hts hown hlocks hin hml hA hS hP hK hD hE hl
  have hown : s.vm.findClass RX2 = some m.cls := hown
  have hl : lv_has ls 4 [(0, .ref (aB 0)), (1, .ref ra), (2, .int x2)] := hl
  have g2 : ∀ (n : Nat) (y3 : Int32) (zF : Nat → Int32) (H : Heap) (locs : List Loc) (ls : Array Slot), qX2_closeGap_2 post x2 zB0 n y3 zF → va_P D vwCl (wB0 aB zB0 ++ ([(ra, .inl (cI, 16, .inl zF))])) H → va_D A (wB0 aB zB0 ++ ([(ra, .inl (cI, 16, .inl zF))])) → va_S A s.heap H locs → lv_has ls 4 [(3, .int y3), (0, .ref (aB 0)), (1, .ref ra), (2, .int x2)] → W p l e ({ frames := 0, cells := 0, slots := 0, locals := 0 } : Room) s m ([.ref (aB 0), .ref ra, .int x2] : List Value).toArray below meth c H locs 0 0 (MQ below (va_Qv post (xB D cI cO A (w_X2_closeGap cI cO aB ra zB0)) A) ([.ref (aB 0), .ref ra, .int x2] : List Value).toArray s 0 0 A) (F0 m 2 ls []) := by
    intro n
    induction n with
    | zero => intro y3 zF H locs ls h; exact False.elim h
    | succ n hk2 =>
      intro y3 zF H locs ls h hP hD hS hl
      have h : qX2_closeGap_2b post x2 zB0 (qX2_closeGap_2 post x2 zB0 n) y3 zF := h
      refine lv_iload_n hx hb dX2_closeGap_2 rfl (lv_at hl 0 rfl) ?_
      refine lv_aload_n hx hb dX2_closeGap_3 rfl (lv_at hl 1 rfl) ?_
      refine va_get (D := D) (ci := 2) (v := .int (zB0 5 0)) (C := RX2) (T := TX2) (N := 7) hx hb hts jX2_closeGap_X2 hown hK hP 0 rfl rfl 5 (by decide) (hts (.fieldLink RX2 27 "BrotherAutomata$RuleBook" "count" "I") (List.mem_of_getElem? (i := 1) rfl)) (fun _ h9 => h9) rfl dX2_closeGap_4 ?_
      obtain ⟨hh1, hh2⟩ := h
      refine lv_icmp_ge (tgt := 24) hx hb dX2_closeGap_7 (by decide) (fun hc => ?_) (fun hc => ?_)
      · have h := hh1 hc
        exact xvret (w := (w_X2_closeGap cI cO aB ra zB0)) (zF) hx hb hr hlocks h hP hK hD hS dX2_closeGap_24
      · have h := hh2 hc
        refine lv_aload_n hx hb dX2_closeGap_10 rfl (lv_at hl 2 rfl) ?_
        refine lv_iload_n hx hb dX2_closeGap_11 rfl (lv_at hl 0 rfl) ?_
        refine lv_aload_n hx hb dX2_closeGap_12 rfl (lv_at hl 2 rfl) ?_
        refine lv_iload_n hx hb dX2_closeGap_13 rfl (lv_at hl 0 rfl) ?_
        refine lv_iconst (v := 1) hx hb dX2_closeGap_14 (by decide) ?_
        refine lv_iadd hx hb dX2_closeGap_15 ?_
        obtain ⟨hi, h⟩ := h
        refine va_iald hx hb hK hP 1 0 rfl rfl hi dX2_closeGap_16 ?_
        obtain ⟨hi, h⟩ := h
        refine va_iast hx hb hK hP hD hS 1 0 rfl rfl hi dX2_closeGap_17 (fun H locs hP hD hS => ?_)
        have hP : va_P D vwCl (wB0 aB zB0 ++ ([(ra, .inl (cI, 16, .inl (upd zF y3.toNatClampNeg (zF (y3 + (1 : Int32)).toNatClampNeg))))])) H := hP
        have hD : va_D A (wB0 aB zB0 ++ ([(ra, .inl (cI, 16, .inl (upd zF y3.toNatClampNeg (zF (y3 + (1 : Int32)).toNatClampNeg))))])) := hD
        refine lv_iinc (v := (y3 + (1 : Int32))) (lv' := [(3, .int (y3 + (1 : Int32))), (0, .ref (aB 0)), (1, .ref ra), (2, .int x2)]) hx hb dX2_closeGap_18 hl (k := 0) rfl rfl (by decide) rfl (fun ls hl => ?_)
        refine lv_goto (tgt := 2) hx hb dX2_closeGap_21 (by decide) ?_
        exact hk2 (y3 + (1 : Int32)) (upd zF y3.toNatClampNeg (zF (y3 + (1 : Int32)).toNatClampNeg)) _ _ _ h hP hD hS hl
  refine lv_iload_n hx hb dX2_closeGap_0 rfl (lv_at hl 2 rfl) ?_
  refine lv_istore_n (lv' := [(3, .int x2), (0, .ref (aB 0)), (1, .ref ra), (2, .int x2)]) hx hb dX2_closeGap_1 rfl hl (by decide) rfl (fun ls hl => ?_)
  obtain ⟨n0, h⟩ := h
  exact g2 n0 x2 zF _ _ _ h hP hD hS hl
set_option maxRecDepth 20000 in
theorem ggX2_delete_X2_closeGap : GoodIn wsX2_delete wsX2_closeGap := goodIn_r _ [11, 1, 12, 13, 14, 15, 16, 17, 18] (by decide +kernel) (by decide +kernel)
set_option maxRecDepth 20000 in
theorem gX2_delete_X2_closeGap : GoodIn wsX2_delete (wsV RX2 40 RX2 yX2_closeGap wsX2_closeGap) := goodIn_app (goodIn_of _ (by decide +kernel)) ggX2_delete_X2_closeGap
theorem dX2_delete_0 : decode cX2_delete 0 = .ok (.iload_n 1, 1) := by decide +kernel
theorem dX2_delete_1 : decode cX2_delete 1 = .ok (.aload_n 0, 1) := by decide +kernel
theorem dX2_delete_2 : decode cX2_delete 2 = .ok (.getfield 27, 3) := by decide +kernel
theorem dX2_delete_5 : decode cX2_delete 5 = .ok (.if_icmp .ge 58, 3) := by decide +kernel
theorem dX2_delete_8 : decode cX2_delete 8 = .ok (.aload_n 0, 1) := by decide +kernel
theorem dX2_delete_9 : decode cX2_delete 9 = .ok (.dup, 1) := by decide +kernel
theorem dX2_delete_10 : decode cX2_delete 10 = .ok (.getfield 27, 3) := by decide +kernel
theorem dX2_delete_13 : decode cX2_delete 13 = .ok (.iconst 1, 1) := by decide +kernel
theorem dX2_delete_14 : decode cX2_delete 14 = .ok (.isub, 1) := by decide +kernel
theorem dX2_delete_15 : decode cX2_delete 15 = .ok (.putfield 27, 3) := by decide +kernel
theorem dX2_delete_18 : decode cX2_delete 18 = .ok (.aload_n 0, 1) := by decide +kernel
theorem dX2_delete_19 : decode cX2_delete 19 = .ok (.aload_n 0, 1) := by decide +kernel
theorem dX2_delete_20 : decode cX2_delete 20 = .ok (.getfield 9, 3) := by decide +kernel
theorem dX2_delete_23 : decode cX2_delete 23 = .ok (.iload_n 1, 1) := by decide +kernel
theorem dX2_delete_24 : decode cX2_delete 24 = .ok (.invokevirtual 40, 3) := by decide +kernel
theorem dX2_delete_27 : decode cX2_delete 27 = .ok (.aload_n 0, 1) := by decide +kernel
theorem dX2_delete_28 : decode cX2_delete 28 = .ok (.aload_n 0, 1) := by decide +kernel
theorem dX2_delete_29 : decode cX2_delete 29 = .ok (.getfield 15, 3) := by decide +kernel
theorem dX2_delete_32 : decode cX2_delete 32 = .ok (.iload_n 1, 1) := by decide +kernel
theorem dX2_delete_33 : decode cX2_delete 33 = .ok (.invokevirtual 40, 3) := by decide +kernel
theorem dX2_delete_36 : decode cX2_delete 36 = .ok (.aload_n 0, 1) := by decide +kernel
theorem dX2_delete_37 : decode cX2_delete 37 = .ok (.aload_n 0, 1) := by decide +kernel
theorem dX2_delete_38 : decode cX2_delete 38 = .ok (.getfield 18, 3) := by decide +kernel
theorem dX2_delete_41 : decode cX2_delete 41 = .ok (.iload_n 1, 1) := by decide +kernel
theorem dX2_delete_42 : decode cX2_delete 42 = .ok (.invokevirtual 40, 3) := by decide +kernel
theorem dX2_delete_45 : decode cX2_delete 45 = .ok (.aload_n 0, 1) := by decide +kernel
theorem dX2_delete_46 : decode cX2_delete 46 = .ok (.aload_n 0, 1) := by decide +kernel
theorem dX2_delete_47 : decode cX2_delete 47 = .ok (.getfield 21, 3) := by decide +kernel
theorem dX2_delete_50 : decode cX2_delete 50 = .ok (.iload_n 1, 1) := by decide +kernel
theorem dX2_delete_51 : decode cX2_delete 51 = .ok (.invokevirtual 40, 3) := by decide +kernel
theorem dX2_delete_54 : decode cX2_delete 54 = .ok (.aload_n 0, 1) := by decide +kernel
theorem dX2_delete_55 : decode cX2_delete 55 = .ok (.aload_n 0, 1) := by decide +kernel
theorem dX2_delete_56 : decode cX2_delete 56 = .ok (.getfield 24, 3) := by decide +kernel
theorem dX2_delete_59 : decode cX2_delete 59 = .ok (.iload_n 1, 1) := by decide +kernel
theorem dX2_delete_60 : decode cX2_delete 60 = .ok (.invokevirtual 40, 3) := by decide +kernel
theorem dX2_delete_63 : decode cX2_delete 63 = .ok (.return_, 1) := by decide +kernel
theorem jX2_delete_X2 : ∀ w ∈ wsX20, w ∈ wsX2_delete := by decide +kernel
abbrev w_X2_delete (cI cO : ClassId) (aB : Nat → Nat)  : ((CS)) → va_W := fun u => (wB cI aB u)
set_option maxRecDepth 100000 in
set_option maxHeartbeats 8000000 in
theorem mX2_delete (l : Launch) (D : va_G) (cI cO : ClassId) (tA tS : Nat) (aB : Nat → Nat) (zB : CS) (x1 : Int32) (sz : Nat) {post : ((CS)) → Prop} (h : qX2_delete post x1 zB) : Met l yX2_delete wsX2_delete ({ frames := 1, cells := 0, slots := 0, locals := 23 } : Room) (xPre D cI cO tA tS [.ref (aB 0), .int x1] (wB cI aB zB) sz) (va_Qv post (xB D cI cO (va_A (wB cI aB zB) sz) (w_X2_delete cI cO aB)) (va_A (wB cI aB zB) sz)) 0 0 (va_A (wB cI aB zB) sz) := by
  refine xMet D cI cO tA tS (fun A => va_Qv post (xB D cI cO A (w_X2_delete cI cO aB)) A) (cc := cX2_delete) (maxL := 2) (ret := none) (by decide) rfl (Nat.le_of_ble_eq_true rfl) ?_
  intro p e s m below meth c A ls hx hb hr hts hown hlocks hin hml hA hS hP hK hD hE hl
  have hown : s.vm.findClass RX2 = some m.cls := hown
  have hl : lv_has ls 2 [(0, .ref (aB 0)), (1, .int x1)] := hl
  refine lv_iload_n hx hb dX2_delete_0 rfl (lv_at hl 1 rfl) ?_
  refine lv_aload_n hx hb dX2_delete_1 rfl (lv_at hl 0 rfl) ?_
  refine va_get (D := D) (ci := 2) (v := .int (zB 5 0)) (C := RX2) (T := TX2) (N := 7) hx hb hts jX2_delete_X2 hown hK hP 0 rfl rfl 5 (by decide) (hts (.fieldLink RX2 27 "BrotherAutomata$RuleBook" "count" "I") (List.mem_of_getElem? (i := 1) rfl)) (fun _ h9 => h9) rfl dX2_delete_2 ?_
  obtain ⟨hh1, hh2⟩ := h
  refine lv_icmp_ge (tgt := 63) hx hb dX2_delete_5 (by decide) (fun hc => ?_) (fun hc => ?_)
  · have h := hh1 hc
    exact xvret (w := (w_X2_delete cI cO aB)) (zB) hx hb hr hlocks h hP hK hD hS dX2_delete_63
  · have h := hh2 hc
    refine lv_aload_n hx hb dX2_delete_8 rfl (lv_at hl 0 rfl) ?_
    refine lv_dup hx hb dX2_delete_9 rfl ?_
    refine va_get (D := D) (ci := 2) (v := .int (zB 5 0)) (C := RX2) (T := TX2) (N := 7) hx hb hts jX2_delete_X2 hown hK hP 0 rfl rfl 5 (by decide) (hts (.fieldLink RX2 27 "BrotherAutomata$RuleBook" "count" "I") (List.mem_of_getElem? (i := 1) rfl)) (fun _ h9 => h9) rfl dX2_delete_10 ?_
    refine lv_iconst (v := 1) hx hb dX2_delete_13 (by decide) ?_
    refine lv_isub hx hb dX2_delete_14 ?_
    refine va_put (D := D) (ci := 2) (v := .int ((zB 5 0) - (1 : Int32))) (ty := .int) (C := RX2) (T := TX2) (N := 7) hx hb hts jX2_delete_X2 tyX2 tyX2_ok nmX2 hown hK hP hD hS 0 rfl rfl 5 (by decide) (hts (.fieldLink RX2 27 "BrotherAutomata$RuleBook" "count" "I") (List.mem_of_getElem? (i := 1) rfl)) (fun _ h9 => h9) rfl (by decide +kernel) rfl rfl (Nat.le_of_ble_eq_true rfl) dX2_delete_15 (fun H locs hP hD hS => ?_)
    have hP : va_P D vwCl (wB cI aB (st zB 5 0 ((zB 5 0) - (1 : Int32)))) H := hP
    have hD : va_D A (wB cI aB (st zB 5 0 ((zB 5 0) - (1 : Int32)))) := hD
    refine lv_aload_n hx hb dX2_delete_18 rfl (lv_at hl 0 rfl) ?_
    refine lv_aload_n hx hb dX2_delete_19 rfl (lv_at hl 0 rfl) ?_
    refine va_get (D := D) (ci := 2) (v := .ref (aB 1)) (C := RX2) (T := TX2) (N := 7) hx hb hts jX2_delete_X2 hown hK hP 0 rfl rfl 0 (by decide) (hts (.fieldLink RX2 9 "BrotherAutomata$RuleBook" "symbols" "[I") (List.mem_of_getElem? (i := 2) rfl)) (fun _ h9 => h9) rfl dX2_delete_20 ?_
    refine lv_iload_n hx hb dX2_delete_23 rfl (lv_at hl 1 rfl) ?_
    refine xcallv (wr := ([(aB 2, .inl (cI, 16, .inl ((st zB 5 0 ((zB 5 0) - (1 : Int32))) 1))), (aB 3, .inl (cI, 16, .inl ((st zB 5 0 ((zB 5 0) - (1 : Int32))) 2))), (aB 4, .inl (cI, 16, .inl ((st zB 5 0 ((zB 5 0) - (1 : Int32))) 3))), (aB 5, .inl (cI, 16, .inl ((st zB 5 0 ((zB 5 0) - (1 : Int32))) 4)))])) (w2 := fun (u24 : (Nat → Int32)) => (wB cI aB (sr (st zB 5 0 ((zB 5 0) - (1 : Int32))) 0 u24))) (va_runV (As := [.ref (aB 1), .int x1]) (rest := []) ⟨hx, hb, hml, hown, hts⟩ (mX2_closeGap l D cI cO tA tS aB (aB 1) (st zB 5 0 ((zB 5 0) - (1 : Int32))) ((st zB 5 0 ((zB 5 0) - (1 : Int32))) 0) x1 _ h) (cwV 2 hts gX2_delete_X2_closeGap rfl rfl rfl (by decide +kernel) ⟨Nat.le_of_ble_eq_true rfl, Nat.le_of_ble_eq_true rfl⟩) (xpreV hP hD hS hA hK hE [0, 1] rfl rfl 2 0 rfl rfl) rfl rfl hl.1 rfl (lv_room (Nat.le_of_ble_eq_true rfl)) dX2_delete_24 ⟨Nat.le_refl 0, Nat.le_refl 0⟩) hP hD hS hA [0, 1] [2, 3, 4, 5] [4, 5, 0, 1, 2, 3] rfl rfl rfl (by decide) rfl (fun _ => rfl) (fun u24 H locs h hP hD hS => ?_)
    refine lv_aload_n hx hb dX2_delete_27 rfl (lv_at hl 0 rfl) ?_
    refine lv_aload_n hx hb dX2_delete_28 rfl (lv_at hl 0 rfl) ?_
    refine va_get (D := D) (ci := 2) (v := .ref (aB 2)) (C := RX2) (T := TX2) (N := 7) hx hb hts jX2_delete_X2 hown hK hP 0 rfl rfl 1 (by decide) (hts (.fieldLink RX2 15 "BrotherAutomata$RuleBook" "firsts" "[I") (List.mem_of_getElem? (i := 3) rfl)) (fun _ h9 => h9) rfl dX2_delete_29 ?_
    refine lv_iload_n hx hb dX2_delete_32 rfl (lv_at hl 1 rfl) ?_
    refine xcallv (wr := ([(aB 1, .inl (cI, 16, .inl ((sr (st zB 5 0 ((zB 5 0) - (1 : Int32))) 0 u24) 0))), (aB 3, .inl (cI, 16, .inl ((sr (st zB 5 0 ((zB 5 0) - (1 : Int32))) 0 u24) 2))), (aB 4, .inl (cI, 16, .inl ((sr (st zB 5 0 ((zB 5 0) - (1 : Int32))) 0 u24) 3))), (aB 5, .inl (cI, 16, .inl ((sr (st zB 5 0 ((zB 5 0) - (1 : Int32))) 0 u24) 4)))])) (w2 := fun (u33 : (Nat → Int32)) => (wB cI aB (sr (sr (st zB 5 0 ((zB 5 0) - (1 : Int32))) 0 u24) 1 u33))) (va_runV (As := [.ref (aB 2), .int x1]) (rest := []) ⟨hx, hb, hml, hown, hts⟩ (mX2_closeGap l D cI cO tA tS aB (aB 2) (sr (st zB 5 0 ((zB 5 0) - (1 : Int32))) 0 u24) ((sr (st zB 5 0 ((zB 5 0) - (1 : Int32))) 0 u24) 1) x1 _ h) (cwV 2 hts gX2_delete_X2_closeGap rfl rfl rfl (by decide +kernel) ⟨Nat.le_of_ble_eq_true rfl, Nat.le_of_ble_eq_true rfl⟩) (xpreV hP hD hS hA hK hE [0, 2] rfl rfl 2 0 rfl rfl) rfl rfl hl.1 rfl (lv_room (Nat.le_of_ble_eq_true rfl)) dX2_delete_33 ⟨Nat.le_refl 0, Nat.le_refl 0⟩) hP hD hS hA [0, 2] [1, 3, 4, 5] [4, 0, 5, 1, 2, 3] rfl rfl rfl (by decide) rfl (fun _ => rfl) (fun u33 H locs h hP hD hS => ?_)
    refine lv_aload_n hx hb dX2_delete_36 rfl (lv_at hl 0 rfl) ?_
    refine lv_aload_n hx hb dX2_delete_37 rfl (lv_at hl 0 rfl) ?_
    refine va_get (D := D) (ci := 2) (v := .ref (aB 3)) (C := RX2) (T := TX2) (N := 7) hx hb hts jX2_delete_X2 hown hK hP 0 rfl rfl 2 (by decide) (hts (.fieldLink RX2 18 "BrotherAutomata$RuleBook" "seconds" "[I") (List.mem_of_getElem? (i := 4) rfl)) (fun _ h9 => h9) rfl dX2_delete_38 ?_
    refine lv_iload_n hx hb dX2_delete_41 rfl (lv_at hl 1 rfl) ?_
    refine xcallv (wr := ([(aB 1, .inl (cI, 16, .inl ((sr (sr (st zB 5 0 ((zB 5 0) - (1 : Int32))) 0 u24) 1 u33) 0))), (aB 2, .inl (cI, 16, .inl ((sr (sr (st zB 5 0 ((zB 5 0) - (1 : Int32))) 0 u24) 1 u33) 1))), (aB 4, .inl (cI, 16, .inl ((sr (sr (st zB 5 0 ((zB 5 0) - (1 : Int32))) 0 u24) 1 u33) 3))), (aB 5, .inl (cI, 16, .inl ((sr (sr (st zB 5 0 ((zB 5 0) - (1 : Int32))) 0 u24) 1 u33) 4)))])) (w2 := fun (u42 : (Nat → Int32)) => (wB cI aB (sr (sr (sr (st zB 5 0 ((zB 5 0) - (1 : Int32))) 0 u24) 1 u33) 2 u42))) (va_runV (As := [.ref (aB 3), .int x1]) (rest := []) ⟨hx, hb, hml, hown, hts⟩ (mX2_closeGap l D cI cO tA tS aB (aB 3) (sr (sr (st zB 5 0 ((zB 5 0) - (1 : Int32))) 0 u24) 1 u33) ((sr (sr (st zB 5 0 ((zB 5 0) - (1 : Int32))) 0 u24) 1 u33) 2) x1 _ h) (cwV 2 hts gX2_delete_X2_closeGap rfl rfl rfl (by decide +kernel) ⟨Nat.le_of_ble_eq_true rfl, Nat.le_of_ble_eq_true rfl⟩) (xpreV hP hD hS hA hK hE [0, 3] rfl rfl 2 0 rfl rfl) rfl rfl hl.1 rfl (lv_room (Nat.le_of_ble_eq_true rfl)) dX2_delete_42 ⟨Nat.le_refl 0, Nat.le_refl 0⟩) hP hD hS hA [0, 3] [1, 2, 4, 5] [4, 0, 1, 5, 2, 3] rfl rfl rfl (by decide) rfl (fun _ => rfl) (fun u42 H locs h hP hD hS => ?_)
    refine lv_aload_n hx hb dX2_delete_45 rfl (lv_at hl 0 rfl) ?_
    refine lv_aload_n hx hb dX2_delete_46 rfl (lv_at hl 0 rfl) ?_
    refine va_get (D := D) (ci := 2) (v := .ref (aB 4)) (C := RX2) (T := TX2) (N := 7) hx hb hts jX2_delete_X2 hown hK hP 0 rfl rfl 3 (by decide) (hts (.fieldLink RX2 21 "BrotherAutomata$RuleBook" "constraints" "[I") (List.mem_of_getElem? (i := 5) rfl)) (fun _ h9 => h9) rfl dX2_delete_47 ?_
    refine lv_iload_n hx hb dX2_delete_50 rfl (lv_at hl 1 rfl) ?_
    refine xcallv (wr := ([(aB 1, .inl (cI, 16, .inl ((sr (sr (sr (st zB 5 0 ((zB 5 0) - (1 : Int32))) 0 u24) 1 u33) 2 u42) 0))), (aB 2, .inl (cI, 16, .inl ((sr (sr (sr (st zB 5 0 ((zB 5 0) - (1 : Int32))) 0 u24) 1 u33) 2 u42) 1))), (aB 3, .inl (cI, 16, .inl ((sr (sr (sr (st zB 5 0 ((zB 5 0) - (1 : Int32))) 0 u24) 1 u33) 2 u42) 2))), (aB 5, .inl (cI, 16, .inl ((sr (sr (sr (st zB 5 0 ((zB 5 0) - (1 : Int32))) 0 u24) 1 u33) 2 u42) 4)))])) (w2 := fun (u51 : (Nat → Int32)) => (wB cI aB (sr (sr (sr (sr (st zB 5 0 ((zB 5 0) - (1 : Int32))) 0 u24) 1 u33) 2 u42) 3 u51))) (va_runV (As := [.ref (aB 4), .int x1]) (rest := []) ⟨hx, hb, hml, hown, hts⟩ (mX2_closeGap l D cI cO tA tS aB (aB 4) (sr (sr (sr (st zB 5 0 ((zB 5 0) - (1 : Int32))) 0 u24) 1 u33) 2 u42) ((sr (sr (sr (st zB 5 0 ((zB 5 0) - (1 : Int32))) 0 u24) 1 u33) 2 u42) 3) x1 _ h) (cwV 2 hts gX2_delete_X2_closeGap rfl rfl rfl (by decide +kernel) ⟨Nat.le_of_ble_eq_true rfl, Nat.le_of_ble_eq_true rfl⟩) (xpreV hP hD hS hA hK hE [0, 4] rfl rfl 2 0 rfl rfl) rfl rfl hl.1 rfl (lv_room (Nat.le_of_ble_eq_true rfl)) dX2_delete_51 ⟨Nat.le_refl 0, Nat.le_refl 0⟩) hP hD hS hA [0, 4] [1, 2, 3, 5] [4, 0, 1, 2, 5, 3] rfl rfl rfl (by decide) rfl (fun _ => rfl) (fun u51 H locs h hP hD hS => ?_)
    refine lv_aload_n hx hb dX2_delete_54 rfl (lv_at hl 0 rfl) ?_
    refine lv_aload_n hx hb dX2_delete_55 rfl (lv_at hl 0 rfl) ?_
    refine va_get (D := D) (ci := 2) (v := .ref (aB 5)) (C := RX2) (T := TX2) (N := 7) hx hb hts jX2_delete_X2 hown hK hP 0 rfl rfl 4 (by decide) (hts (.fieldLink RX2 24 "BrotherAutomata$RuleBook" "targets" "[I") (List.mem_of_getElem? (i := 6) rfl)) (fun _ h9 => h9) rfl dX2_delete_56 ?_
    refine lv_iload_n hx hb dX2_delete_59 rfl (lv_at hl 1 rfl) ?_
    refine xcallv (wr := ([(aB 1, .inl (cI, 16, .inl ((sr (sr (sr (sr (st zB 5 0 ((zB 5 0) - (1 : Int32))) 0 u24) 1 u33) 2 u42) 3 u51) 0))), (aB 2, .inl (cI, 16, .inl ((sr (sr (sr (sr (st zB 5 0 ((zB 5 0) - (1 : Int32))) 0 u24) 1 u33) 2 u42) 3 u51) 1))), (aB 3, .inl (cI, 16, .inl ((sr (sr (sr (sr (st zB 5 0 ((zB 5 0) - (1 : Int32))) 0 u24) 1 u33) 2 u42) 3 u51) 2))), (aB 4, .inl (cI, 16, .inl ((sr (sr (sr (sr (st zB 5 0 ((zB 5 0) - (1 : Int32))) 0 u24) 1 u33) 2 u42) 3 u51) 3)))])) (w2 := fun (u60 : (Nat → Int32)) => (wB cI aB (sr (sr (sr (sr (sr (st zB 5 0 ((zB 5 0) - (1 : Int32))) 0 u24) 1 u33) 2 u42) 3 u51) 4 u60))) (va_runV (As := [.ref (aB 5), .int x1]) (rest := []) ⟨hx, hb, hml, hown, hts⟩ (mX2_closeGap l D cI cO tA tS aB (aB 5) (sr (sr (sr (sr (st zB 5 0 ((zB 5 0) - (1 : Int32))) 0 u24) 1 u33) 2 u42) 3 u51) ((sr (sr (sr (sr (st zB 5 0 ((zB 5 0) - (1 : Int32))) 0 u24) 1 u33) 2 u42) 3 u51) 4) x1 _ h) (cwV 2 hts gX2_delete_X2_closeGap rfl rfl rfl (by decide +kernel) ⟨Nat.le_of_ble_eq_true rfl, Nat.le_of_ble_eq_true rfl⟩) (xpreV hP hD hS hA hK hE [0, 5] rfl rfl 2 0 rfl rfl) rfl rfl hl.1 rfl (lv_room (Nat.le_of_ble_eq_true rfl)) dX2_delete_60 ⟨Nat.le_refl 0, Nat.le_refl 0⟩) hP hD hS hA [0, 5] [1, 2, 3, 4] [4, 0, 1, 2, 3, 5] rfl rfl rfl (by decide) rfl (fun _ => rfl) (fun u60 H locs h hP hD hS => ?_)
    exact xvret (w := (w_X2_delete cI cO aB)) (sr (sr (sr (sr (sr (st zB 5 0 ((zB 5 0) - (1 : Int32))) 0 u24) 1 u33) 2 u42) 3 u51) 4 u60) hx hb hr hlocks h hP hK hD hS dX2_delete_63
theorem dX2_contains_0 : decode cX2_contains 0 = .ok (.getstatic 48, 3) := by decide +kernel
theorem dX2_contains_3 : decode cX2_contains 3 = .ok (.aload_n 0, 1) := by decide +kernel
theorem dX2_contains_4 : decode cX2_contains 4 = .ok (.getfield 9, 3) := by decide +kernel
theorem dX2_contains_7 : decode cX2_contains 7 = .ok (.iload_n 1, 1) := by decide +kernel
theorem dX2_contains_8 : decode cX2_contains 8 = .ok (.iaload, 1) := by decide +kernel
theorem dX2_contains_9 : decode cX2_contains 9 = .ok (.iaload, 1) := by decide +kernel
theorem dX2_contains_10 : decode cX2_contains 10 = .ok (.istore_n 3, 1) := by decide +kernel
theorem dX2_contains_11 : decode cX2_contains 11 = .ok (.aload_n 0, 1) := by decide +kernel
theorem dX2_contains_12 : decode cX2_contains 12 = .ok (.getfield 24, 3) := by decide +kernel
theorem dX2_contains_15 : decode cX2_contains 15 = .ok (.iload_n 1, 1) := by decide +kernel
theorem dX2_contains_16 : decode cX2_contains 16 = .ok (.iaload, 1) := by decide +kernel
theorem dX2_contains_17 : decode cX2_contains 17 = .ok (.iload_n 2, 1) := by decide +kernel
theorem dX2_contains_18 : decode cX2_contains 18 = .ok (.if_icmp .eq 32, 3) := by decide +kernel
theorem dX2_contains_21 : decode cX2_contains 21 = .ok (.iload_n 3, 1) := by decide +kernel
theorem dX2_contains_22 : decode cX2_contains 22 = .ok (.ifCond .le 13, 3) := by decide +kernel
theorem dX2_contains_25 : decode cX2_contains 25 = .ok (.aload_n 0, 1) := by decide +kernel
theorem dX2_contains_26 : decode cX2_contains 26 = .ok (.getfield 15, 3) := by decide +kernel
theorem dX2_contains_29 : decode cX2_contains 29 = .ok (.iload_n 1, 1) := by decide +kernel
theorem dX2_contains_30 : decode cX2_contains 30 = .ok (.iaload, 1) := by decide +kernel
theorem dX2_contains_31 : decode cX2_contains 31 = .ok (.iload_n 2, 1) := by decide +kernel
theorem dX2_contains_32 : decode cX2_contains 32 = .ok (.if_icmp .eq 18, 3) := by decide +kernel
theorem dX2_contains_35 : decode cX2_contains 35 = .ok (.iload_n 3, 1) := by decide +kernel
theorem dX2_contains_36 : decode cX2_contains 36 = .ok (.iconst 1, 1) := by decide +kernel
theorem dX2_contains_37 : decode cX2_contains 37 = .ok (.if_icmp .le 17, 3) := by decide +kernel
theorem dX2_contains_40 : decode cX2_contains 40 = .ok (.aload_n 0, 1) := by decide +kernel
theorem dX2_contains_41 : decode cX2_contains 41 = .ok (.getfield 18, 3) := by decide +kernel
theorem dX2_contains_44 : decode cX2_contains 44 = .ok (.iload_n 1, 1) := by decide +kernel
theorem dX2_contains_45 : decode cX2_contains 45 = .ok (.iaload, 1) := by decide +kernel
theorem dX2_contains_46 : decode cX2_contains 46 = .ok (.iload_n 2, 1) := by decide +kernel
theorem dX2_contains_47 : decode cX2_contains 47 = .ok (.if_icmp .ne 7, 3) := by decide +kernel
theorem dX2_contains_50 : decode cX2_contains 50 = .ok (.iconst 1, 1) := by decide +kernel
theorem dX2_contains_51 : decode cX2_contains 51 = .ok (.goto 4, 3) := by decide +kernel
theorem dX2_contains_54 : decode cX2_contains 54 = .ok (.iconst 0, 1) := by decide +kernel
theorem dX2_contains_55 : decode cX2_contains 55 = .ok (.ireturn, 1) := by decide +kernel
theorem jX2_contains_X2 : ∀ w ∈ wsX20, w ∈ wsX2_contains := by decide +kernel
abbrev w_X2_contains (cI cO : ClassId) (aB : Nat → Nat) (zB : CS) : (Unit) → va_W := fun u => (wB cI aB zB)
set_option maxRecDepth 100000 in
set_option maxHeartbeats 8000000 in
theorem mX2_contains (l : Launch) (D : va_G) (cI cO : ClassId) (tA tS : Nat) (aB : Nat → Nat) (zB : CS) (x1 : Int32) (x2 : Int32) (sz : Nat) {post : Int32 → (Unit) → Prop} (h : qX2_contains post x1 x2 zB) : Met l yX2_contains wsX2_contains ({ frames := 0, cells := 0, slots := 0, locals := 0 } : Room) (xPre D cI cO tA tS [.ref (aB 0), .int x1, .int x2] (wB cI aB zB) sz) (va_Qi post (xB D cI cO (va_A (wB cI aB zB) sz) (w_X2_contains cI cO aB zB)) (va_A (wB cI aB zB) sz)) 0 0 (va_A (wB cI aB zB) sz) := by
  refine xMet D cI cO tA tS (fun A => va_Qi post (xB D cI cO A (w_X2_contains cI cO aB zB)) A) (cc := cX2_contains) (maxL := 4) (ret := (some .boolean)) (by decide) rfl (Nat.le_of_ble_eq_true rfl) ?_
  intro p e s m below meth c A ls hx hb hr hts hown hlocks hin hml hA hS hP hK hD hE hl
  have hown : s.vm.findClass RX2 = some m.cls := hown
  have hl : lv_has ls 4 [(0, .ref (aB 0)), (1, .int x1), (2, .int x2)] := hl
  have g54 : ∀ (y3 : Int32) (H : Heap) (locs : List Loc) (ls : Array Slot), qX2_contains_54 post x1 x2 zB y3 → va_P D vwCl (wB cI aB zB) H → va_D A (wB cI aB zB) → va_S A s.heap H locs → lv_has ls 4 [(3, .int y3), (0, .ref (aB 0)), (1, .int x1), (2, .int x2)] → W p l e ({ frames := 0, cells := 0, slots := 0, locals := 0 } : Room) s m ([.ref (aB 0), .int x1, .int x2] : List Value).toArray below meth c H locs 0 0 (MQ below (va_Qi post (xB D cI cO A (w_X2_contains cI cO aB zB)) A) ([.ref (aB 0), .int x1, .int x2] : List Value).toArray s 0 0 A) (F0 m 54 ls []) := by
    intro y3 H locs ls h hP hD hS hl
    refine lv_iconst (v := 0) hx hb dX2_contains_54 (by decide) ?_
    exact xzret (w := (w_X2_contains cI cO aB zB)) () hx hb hr hlocks rfl h hP hK hD hS dX2_contains_55
  have g50 : ∀ (y3 : Int32) (H : Heap) (locs : List Loc) (ls : Array Slot), qX2_contains_50 post x1 x2 zB y3 → va_P D vwCl (wB cI aB zB) H → va_D A (wB cI aB zB) → va_S A s.heap H locs → lv_has ls 4 [(3, .int y3), (0, .ref (aB 0)), (1, .int x1), (2, .int x2)] → W p l e ({ frames := 0, cells := 0, slots := 0, locals := 0 } : Room) s m ([.ref (aB 0), .int x1, .int x2] : List Value).toArray below meth c H locs 0 0 (MQ below (va_Qi post (xB D cI cO A (w_X2_contains cI cO aB zB)) A) ([.ref (aB 0), .int x1, .int x2] : List Value).toArray s 0 0 A) (F0 m 50 ls []) := by
    intro y3 H locs ls h hP hD hS hl
    refine lv_iconst (v := 1) hx hb dX2_contains_50 (by decide) ?_
    refine lv_goto (tgt := 55) hx hb dX2_contains_51 (by decide) ?_
    exact xzret (w := (w_X2_contains cI cO aB zB)) () hx hb hr hlocks rfl h hP hK hD hS dX2_contains_55
  have g35 : ∀ (y3 : Int32) (H : Heap) (locs : List Loc) (ls : Array Slot), qX2_contains_35 post x1 x2 zB y3 → va_P D vwCl (wB cI aB zB) H → va_D A (wB cI aB zB) → va_S A s.heap H locs → lv_has ls 4 [(3, .int y3), (0, .ref (aB 0)), (1, .int x1), (2, .int x2)] → W p l e ({ frames := 0, cells := 0, slots := 0, locals := 0 } : Room) s m ([.ref (aB 0), .int x1, .int x2] : List Value).toArray below meth c H locs 0 0 (MQ below (va_Qi post (xB D cI cO A (w_X2_contains cI cO aB zB)) A) ([.ref (aB 0), .int x1, .int x2] : List Value).toArray s 0 0 A) (F0 m 35 ls []) := by
    intro y3 H locs ls h hP hD hS hl
    refine lv_iload_n hx hb dX2_contains_35 rfl (lv_at hl 0 rfl) ?_
    refine lv_iconst (v := 1) hx hb dX2_contains_36 (by decide) ?_
    obtain ⟨hh1, hh2⟩ := h
    refine lv_icmp_le (tgt := 54) hx hb dX2_contains_37 (by decide) (fun hc => ?_) (fun hc => ?_)
    · have h := hh1 hc
      exact g54 y3 _ _ _ h hP hD hS hl
    · have h := hh2 hc
      refine lv_aload_n hx hb dX2_contains_40 rfl (lv_at hl 1 rfl) ?_
      refine va_get (D := D) (ci := 2) (v := .ref (aB 3)) (C := RX2) (T := TX2) (N := 7) hx hb hts jX2_contains_X2 hown hK hP 0 rfl rfl 2 (by decide) (hts (.fieldLink RX2 18 "BrotherAutomata$RuleBook" "seconds" "[I") (List.mem_of_getElem? (i := 4) rfl)) (fun _ h9 => h9) rfl dX2_contains_41 ?_
      refine lv_iload_n hx hb dX2_contains_44 rfl (lv_at hl 2 rfl) ?_
      obtain ⟨hi, h⟩ := h
      refine va_iald hx hb hK hP 3 0 rfl rfl hi dX2_contains_45 ?_
      refine lv_iload_n hx hb dX2_contains_46 rfl (lv_at hl 3 rfl) ?_
      obtain ⟨hh1, hh2⟩ := h
      refine lv_icmp_ne (tgt := 54) hx hb dX2_contains_47 (by decide) (fun hc => ?_) (fun hc => ?_)
      · have h := hh2 hc
        exact g54 y3 _ _ _ h hP hD hS hl
      · have h := hh1 hc
        exact g50 y3 _ _ _ h hP hD hS hl
  refine va_getsN hx hb hE.2.1 hS hown (va_Nw.use (w := .fieldLinkNest RX2 48 "BrotherAutomata" "ARITY" "[I" "BrotherAutomata") rfl (hE.1 _ (List.mem_of_getElem? (i := 17) rfl))) (fun _ h9 => h9) dX2_contains_0 ?_
  refine lv_aload_n hx hb dX2_contains_3 rfl (lv_at hl 0 rfl) ?_
  refine va_get (D := D) (ci := 2) (v := .ref (aB 1)) (C := RX2) (T := TX2) (N := 7) hx hb hts jX2_contains_X2 hown hK hP 0 rfl rfl 0 (by decide) (hts (.fieldLink RX2 9 "BrotherAutomata$RuleBook" "symbols" "[I") (List.mem_of_getElem? (i := 1) rfl)) (fun _ h9 => h9) rfl dX2_contains_4 ?_
  refine lv_iload_n hx hb dX2_contains_7 rfl (lv_at hl 1 rfl) ?_
  obtain ⟨hi, h⟩ := h
  refine va_iald hx hb hK hP 1 0 rfl rfl hi dX2_contains_8 ?_
  obtain ⟨hi, h⟩ := h
  refine va_ti (v := .int (xar ((zB 0) x1.toNatClampNeg).toNatClampNeg)) hx hb hE.2.2.1 hS hi rfl dX2_contains_9 ?_
  refine lv_istore_n (lv' := [(3, .int (xar ((zB 0) x1.toNatClampNeg).toNatClampNeg)), (0, .ref (aB 0)), (1, .int x1), (2, .int x2)]) hx hb dX2_contains_10 rfl hl (by decide) rfl (fun ls hl => ?_)
  refine lv_aload_n hx hb dX2_contains_11 rfl (lv_at hl 1 rfl) ?_
  refine va_get (D := D) (ci := 2) (v := .ref (aB 5)) (C := RX2) (T := TX2) (N := 7) hx hb hts jX2_contains_X2 hown hK hP 0 rfl rfl 4 (by decide) (hts (.fieldLink RX2 24 "BrotherAutomata$RuleBook" "targets" "[I") (List.mem_of_getElem? (i := 2) rfl)) (fun _ h9 => h9) rfl dX2_contains_12 ?_
  refine lv_iload_n hx hb dX2_contains_15 rfl (lv_at hl 2 rfl) ?_
  obtain ⟨hi, h⟩ := h
  refine va_iald hx hb hK hP 5 0 rfl rfl hi dX2_contains_16 ?_
  refine lv_iload_n hx hb dX2_contains_17 rfl (lv_at hl 3 rfl) ?_
  obtain ⟨hh1, hh2⟩ := h
  refine lv_icmp_eq (tgt := 50) hx hb dX2_contains_18 (by decide) (fun hc => ?_) (fun hc => ?_)
  · have h := hh1 hc
    exact g50 (xar ((zB 0) x1.toNatClampNeg).toNatClampNeg) _ _ _ h hP hD hS hl
  · have h := hh2 hc
    refine lv_iload_n hx hb dX2_contains_21 rfl (lv_at hl 0 rfl) ?_
    obtain ⟨hh1, hh2⟩ := h
    refine lv_if_le (tgt := 35) hx hb dX2_contains_22 (by decide) (fun hc => ?_) (fun hc => ?_)
    · have h := hh1 hc
      exact g35 (xar ((zB 0) x1.toNatClampNeg).toNatClampNeg) _ _ _ h hP hD hS hl
    · have h := hh2 hc
      refine lv_aload_n hx hb dX2_contains_25 rfl (lv_at hl 1 rfl) ?_
      refine va_get (D := D) (ci := 2) (v := .ref (aB 2)) (C := RX2) (T := TX2) (N := 7) hx hb hts jX2_contains_X2 hown hK hP 0 rfl rfl 1 (by decide) (hts (.fieldLink RX2 15 "BrotherAutomata$RuleBook" "firsts" "[I") (List.mem_of_getElem? (i := 3) rfl)) (fun _ h9 => h9) rfl dX2_contains_26 ?_
      refine lv_iload_n hx hb dX2_contains_29 rfl (lv_at hl 2 rfl) ?_
      obtain ⟨hi, h⟩ := h
      refine va_iald hx hb hK hP 2 0 rfl rfl hi dX2_contains_30 ?_
      refine lv_iload_n hx hb dX2_contains_31 rfl (lv_at hl 3 rfl) ?_
      obtain ⟨hh1, hh2⟩ := h
      refine lv_icmp_eq (tgt := 50) hx hb dX2_contains_32 (by decide) (fun hc => ?_) (fun hc => ?_)
      · have h := hh1 hc
        exact g50 (xar ((zB 0) x1.toNatClampNeg).toNatClampNeg) _ _ _ h hP hD hS hl
      · have h := hh2 hc
        exact g35 (xar ((zB 0) x1.toNatClampNeg).toNatClampNeg) _ _ _ h hP hD hS hl
set_option maxRecDepth 20000 in
theorem ggX2_rulesWith_X2_contains : GoodIn wsX2_rulesWith wsX2_contains := goodIn_r _ [6, 7, 8, 9, 10, 11, 12, 13, 14, 15, 16, 17] (by decide +kernel) (by decide +kernel)
set_option maxRecDepth 20000 in
theorem gX2_rulesWith_X2_contains : GoodIn wsX2_rulesWith (wsV RX2 44 RX2 yX2_contains wsX2_contains) := goodIn_app (goodIn_of _ (by decide +kernel)) ggX2_rulesWith_X2_contains
theorem dX2_rulesWith_0 : decode cX2_rulesWith 0 = .ok (.iconst 0, 1) := by decide +kernel
theorem dX2_rulesWith_1 : decode cX2_rulesWith 1 = .ok (.istore_n 3, 1) := by decide +kernel
theorem dX2_rulesWith_2 : decode cX2_rulesWith 2 = .ok (.iconst 0, 1) := by decide +kernel
theorem dX2_rulesWith_3 : decode cX2_rulesWith 3 = .ok (.istore 4, 2) := by decide +kernel
theorem dX2_rulesWith_5 : decode cX2_rulesWith 5 = .ok (.iload 4, 2) := by decide +kernel
theorem dX2_rulesWith_7 : decode cX2_rulesWith 7 = .ok (.aload_n 0, 1) := by decide +kernel
theorem dX2_rulesWith_8 : decode cX2_rulesWith 8 = .ok (.getfield 27, 3) := by decide +kernel
theorem dX2_rulesWith_11 : decode cX2_rulesWith 11 = .ok (.if_icmp .ge 32, 3) := by decide +kernel
theorem dX2_rulesWith_14 : decode cX2_rulesWith 14 = .ok (.aload_n 0, 1) := by decide +kernel
theorem dX2_rulesWith_15 : decode cX2_rulesWith 15 = .ok (.iload 4, 2) := by decide +kernel
theorem dX2_rulesWith_17 : decode cX2_rulesWith 17 = .ok (.iload_n 1, 1) := by decide +kernel
theorem dX2_rulesWith_18 : decode cX2_rulesWith 18 = .ok (.invokevirtual 44, 3) := by decide +kernel
theorem dX2_rulesWith_21 : decode cX2_rulesWith 21 = .ok (.ifCond .ne 13, 3) := by decide +kernel
theorem dX2_rulesWith_24 : decode cX2_rulesWith 24 = .ok (.aload_n 0, 1) := by decide +kernel
theorem dX2_rulesWith_25 : decode cX2_rulesWith 25 = .ok (.iload 4, 2) := by decide +kernel
theorem dX2_rulesWith_27 : decode cX2_rulesWith 27 = .ok (.iload_n 2, 1) := by decide +kernel
theorem dX2_rulesWith_28 : decode cX2_rulesWith 28 = .ok (.invokevirtual 44, 3) := by decide +kernel
theorem dX2_rulesWith_31 : decode cX2_rulesWith 31 = .ok (.ifCond .eq 6, 3) := by decide +kernel
theorem dX2_rulesWith_34 : decode cX2_rulesWith 34 = .ok (.iinc 3 1, 3) := by decide +kernel
theorem dX2_rulesWith_37 : decode cX2_rulesWith 37 = .ok (.iinc 4 1, 3) := by decide +kernel
theorem dX2_rulesWith_40 : decode cX2_rulesWith 40 = .ok (.goto (-35), 3) := by decide +kernel
theorem dX2_rulesWith_43 : decode cX2_rulesWith 43 = .ok (.iload_n 3, 1) := by decide +kernel
theorem dX2_rulesWith_44 : decode cX2_rulesWith 44 = .ok (.ireturn, 1) := by decide +kernel
theorem jX2_rulesWith_X2 : ∀ w ∈ wsX20, w ∈ wsX2_rulesWith := by decide +kernel
abbrev w_X2_rulesWith (cI cO : ClassId) (aB : Nat → Nat) (zB : CS) : (Unit) → va_W := fun u => (wB cI aB zB)
set_option maxRecDepth 100000 in
set_option maxHeartbeats 8000000 in
theorem mX2_rulesWith (l : Launch) (D : va_G) (cI cO : ClassId) (tA tS : Nat) (aB : Nat → Nat) (zB : CS) (x1 : Int32) (x2 : Int32) (sz : Nat) {post : Int32 → (Unit) → Prop} (h : qX2_rulesWith post x1 x2 zB) : Met l yX2_rulesWith wsX2_rulesWith ({ frames := 1, cells := 0, slots := 0, locals := 23 } : Room) (xPre D cI cO tA tS [.ref (aB 0), .int x1, .int x2] (wB cI aB zB) sz) (va_Qi post (xB D cI cO (va_A (wB cI aB zB) sz) (w_X2_rulesWith cI cO aB zB)) (va_A (wB cI aB zB) sz)) 0 0 (va_A (wB cI aB zB) sz) := by
  refine xMet D cI cO tA tS (fun A => va_Qi post (xB D cI cO A (w_X2_rulesWith cI cO aB zB)) A) (cc := cX2_rulesWith) (maxL := 5) (ret := (some .int)) (by decide) rfl (Nat.le_of_ble_eq_true rfl) ?_
  intro p e s m below meth c A ls hx hb hr hts hown hlocks hin hml hA hS hP hK hD hE hl
  have hown : s.vm.findClass RX2 = some m.cls := hown
  have hl : lv_has ls 5 [(0, .ref (aB 0)), (1, .int x1), (2, .int x2)] := hl
  have g37 : ∀ (k5 : (Int32) → (Int32) → Prop), (∀ (y3 : Int32) (y4 : Int32) (H : Heap) (locs : List Loc) (ls : Array Slot), k5 y3 y4 → va_P D vwCl (wB cI aB zB) H → va_D A (wB cI aB zB) → va_S A s.heap H locs → lv_has ls 5 [(4, .int y4), (3, .int y3), (0, .ref (aB 0)), (1, .int x1), (2, .int x2)] → W p l e ({ frames := 1, cells := 0, slots := 0, locals := 23 } : Room) s m ([.ref (aB 0), .int x1, .int x2] : List Value).toArray below meth c H locs 0 0 (MQ below (va_Qi post (xB D cI cO A (w_X2_rulesWith cI cO aB zB)) A) ([.ref (aB 0), .int x1, .int x2] : List Value).toArray s 0 0 A) (F0 m 5 ls [])) → ∀ (y3 : Int32) (y4 : Int32) (H : Heap) (locs : List Loc) (ls : Array Slot), qX2_rulesWith_37 post x1 x2 zB k5 y3 y4 → va_P D vwCl (wB cI aB zB) H → va_D A (wB cI aB zB) → va_S A s.heap H locs → lv_has ls 5 [(4, .int y4), (3, .int y3), (0, .ref (aB 0)), (1, .int x1), (2, .int x2)] → W p l e ({ frames := 1, cells := 0, slots := 0, locals := 23 } : Room) s m ([.ref (aB 0), .int x1, .int x2] : List Value).toArray below meth c H locs 0 0 (MQ below (va_Qi post (xB D cI cO A (w_X2_rulesWith cI cO aB zB)) A) ([.ref (aB 0), .int x1, .int x2] : List Value).toArray s 0 0 A) (F0 m 37 ls []) := by
    intro k5 hk5 y3 y4 H locs ls h hP hD hS hl
    refine lv_iinc (v := (y4 + (1 : Int32))) (lv' := [(4, .int (y4 + (1 : Int32))), (3, .int y3), (0, .ref (aB 0)), (1, .int x1), (2, .int x2)]) hx hb dX2_rulesWith_37 hl (k := 0) rfl rfl (by decide) rfl (fun ls hl => ?_)
    refine lv_goto (tgt := 5) hx hb dX2_rulesWith_40 (by decide) ?_
    exact hk5 y3 (y4 + (1 : Int32)) _ _ _ h hP hD hS hl
  have g34 : ∀ (k5 : (Int32) → (Int32) → Prop), (∀ (y3 : Int32) (y4 : Int32) (H : Heap) (locs : List Loc) (ls : Array Slot), k5 y3 y4 → va_P D vwCl (wB cI aB zB) H → va_D A (wB cI aB zB) → va_S A s.heap H locs → lv_has ls 5 [(4, .int y4), (3, .int y3), (0, .ref (aB 0)), (1, .int x1), (2, .int x2)] → W p l e ({ frames := 1, cells := 0, slots := 0, locals := 23 } : Room) s m ([.ref (aB 0), .int x1, .int x2] : List Value).toArray below meth c H locs 0 0 (MQ below (va_Qi post (xB D cI cO A (w_X2_rulesWith cI cO aB zB)) A) ([.ref (aB 0), .int x1, .int x2] : List Value).toArray s 0 0 A) (F0 m 5 ls [])) → ∀ (y3 : Int32) (y4 : Int32) (H : Heap) (locs : List Loc) (ls : Array Slot), qX2_rulesWith_34 post x1 x2 zB k5 y3 y4 → va_P D vwCl (wB cI aB zB) H → va_D A (wB cI aB zB) → va_S A s.heap H locs → lv_has ls 5 [(4, .int y4), (3, .int y3), (0, .ref (aB 0)), (1, .int x1), (2, .int x2)] → W p l e ({ frames := 1, cells := 0, slots := 0, locals := 23 } : Room) s m ([.ref (aB 0), .int x1, .int x2] : List Value).toArray below meth c H locs 0 0 (MQ below (va_Qi post (xB D cI cO A (w_X2_rulesWith cI cO aB zB)) A) ([.ref (aB 0), .int x1, .int x2] : List Value).toArray s 0 0 A) (F0 m 34 ls []) := by
    intro k5 hk5 y3 y4 H locs ls h hP hD hS hl
    refine lv_iinc (v := (y3 + (1 : Int32))) (lv' := [(3, .int (y3 + (1 : Int32))), (4, .int y4), (0, .ref (aB 0)), (1, .int x1), (2, .int x2)]) hx hb dX2_rulesWith_34 hl (k := 1) rfl rfl (by decide) rfl (fun ls hl => ?_)
    exact g37 k5 hk5 (y3 + (1 : Int32)) y4 _ _ _ h hP hD hS (lv_sub hl [1, 0, 2, 3, 4] rfl)
  have g5 : ∀ (n : Nat) (y3 : Int32) (y4 : Int32) (H : Heap) (locs : List Loc) (ls : Array Slot), qX2_rulesWith_5 post x1 x2 zB n y3 y4 → va_P D vwCl (wB cI aB zB) H → va_D A (wB cI aB zB) → va_S A s.heap H locs → lv_has ls 5 [(4, .int y4), (3, .int y3), (0, .ref (aB 0)), (1, .int x1), (2, .int x2)] → W p l e ({ frames := 1, cells := 0, slots := 0, locals := 23 } : Room) s m ([.ref (aB 0), .int x1, .int x2] : List Value).toArray below meth c H locs 0 0 (MQ below (va_Qi post (xB D cI cO A (w_X2_rulesWith cI cO aB zB)) A) ([.ref (aB 0), .int x1, .int x2] : List Value).toArray s 0 0 A) (F0 m 5 ls []) := by
    intro n
    induction n with
    | zero => intro y3 y4 H locs ls h; exact False.elim h
    | succ n hk5 =>
      intro y3 y4 H locs ls h hP hD hS hl
      have h : qX2_rulesWith_5b post x1 x2 zB (qX2_rulesWith_5 post x1 x2 zB n) y3 y4 := h
      refine lv_iload hx hb dX2_rulesWith_5 (lv_at hl 0 rfl) ?_
      refine lv_aload_n hx hb dX2_rulesWith_7 rfl (lv_at hl 2 rfl) ?_
      refine va_get (D := D) (ci := 2) (v := .int (zB 5 0)) (C := RX2) (T := TX2) (N := 7) hx hb hts jX2_rulesWith_X2 hown hK hP 0 rfl rfl 5 (by decide) (hts (.fieldLink RX2 27 "BrotherAutomata$RuleBook" "count" "I") (List.mem_of_getElem? (i := 1) rfl)) (fun _ h9 => h9) rfl dX2_rulesWith_8 ?_
      obtain ⟨hh1, hh2⟩ := h
      refine lv_icmp_ge (tgt := 43) hx hb dX2_rulesWith_11 (by decide) (fun hc => ?_) (fun hc => ?_)
      · have h := hh1 hc
        refine lv_iload_n hx hb dX2_rulesWith_43 rfl (lv_at hl 1 rfl) ?_
        exact xiret (w := (w_X2_rulesWith cI cO aB zB)) () hx hb hr hlocks h hP hK hD hS dX2_rulesWith_44
      · have h := hh2 hc
        refine lv_aload_n hx hb dX2_rulesWith_14 rfl (lv_at hl 2 rfl) ?_
        refine lv_iload hx hb dX2_rulesWith_15 (lv_at hl 0 rfl) ?_
        refine lv_iload_n hx hb dX2_rulesWith_17 rfl (lv_at hl 3 rfl) ?_
        refine xcalli (wr := ([] : va_W)) (w2 := fun (u18 : Unit) => (wB cI aB zB)) (va_runV (As := [.int y4, .int x1]) (rest := []) ⟨hx, hb, hml, hown, hts⟩ (mX2_contains l D cI cO tA tS aB zB y4 x1 _ h) (cwV 2 hts gX2_rulesWith_X2_contains rfl rfl rfl (by decide +kernel) ⟨Nat.le_of_ble_eq_true rfl, Nat.le_of_ble_eq_true rfl⟩) (xpreV hP hD hS hA hK hE [0, 1, 2, 3, 4, 5] rfl rfl 2 0 rfl rfl) rfl rfl hl.1 rfl (lv_room (Nat.le_of_ble_eq_true rfl)) dX2_rulesWith_18 ⟨Nat.le_refl 0, Nat.le_refl 0⟩) hP hD hS hA [0, 1, 2, 3, 4, 5] [] [0, 1, 2, 3, 4, 5] rfl rfl rfl (by decide) rfl (fun _ => rfl) (fun r18 u18 H locs h hP hD hS => ?_)
        obtain ⟨hh1, hh2⟩ := h
        refine lv_if_ne (tgt := 34) hx hb dX2_rulesWith_21 (by decide) (fun hc => ?_) (fun hc => ?_)
        · have h := hh2 hc
          exact g34 (qX2_rulesWith_5 post x1 x2 zB n) hk5 y3 y4 _ _ _ h hP hD hS hl
        · have h := hh1 hc
          refine lv_aload_n hx hb dX2_rulesWith_24 rfl (lv_at hl 2 rfl) ?_
          refine lv_iload hx hb dX2_rulesWith_25 (lv_at hl 0 rfl) ?_
          refine lv_iload_n hx hb dX2_rulesWith_27 rfl (lv_at hl 4 rfl) ?_
          refine xcalli (wr := ([] : va_W)) (w2 := fun (u28 : Unit) => (wB cI aB zB)) (va_runV (As := [.int y4, .int x2]) (rest := []) ⟨hx, hb, hml, hown, hts⟩ (mX2_contains l D cI cO tA tS aB zB y4 x2 _ h) (cwV 2 hts gX2_rulesWith_X2_contains rfl rfl rfl (by decide +kernel) ⟨Nat.le_of_ble_eq_true rfl, Nat.le_of_ble_eq_true rfl⟩) (xpreV hP hD hS hA hK hE [0, 1, 2, 3, 4, 5] rfl rfl 2 0 rfl rfl) rfl rfl hl.1 rfl (lv_room (Nat.le_of_ble_eq_true rfl)) dX2_rulesWith_28 ⟨Nat.le_refl 0, Nat.le_refl 0⟩) hP hD hS hA [0, 1, 2, 3, 4, 5] [] [0, 1, 2, 3, 4, 5] rfl rfl rfl (by decide) rfl (fun _ => rfl) (fun r28 u28 H locs h hP hD hS => ?_)
          obtain ⟨hh1, hh2⟩ := h
          refine lv_if_eq (tgt := 37) hx hb dX2_rulesWith_31 (by decide) (fun hc => ?_) (fun hc => ?_)
          · have h := hh1 hc
            exact g37 (qX2_rulesWith_5 post x1 x2 zB n) hk5 y3 y4 _ _ _ h hP hD hS hl
          · have h := hh2 hc
            exact g34 (qX2_rulesWith_5 post x1 x2 zB n) hk5 y3 y4 _ _ _ h hP hD hS hl
  refine lv_iconst (v := 0) hx hb dX2_rulesWith_0 (by decide) ?_
  refine lv_istore_n (lv' := [(3, .int (0 : Int32)), (0, .ref (aB 0)), (1, .int x1), (2, .int x2)]) hx hb dX2_rulesWith_1 rfl hl (by decide) rfl (fun ls hl => ?_)
  refine lv_iconst (v := 0) hx hb dX2_rulesWith_2 (by decide) ?_
  refine lv_istore (lv' := [(4, .int (0 : Int32)), (3, .int (0 : Int32)), (0, .ref (aB 0)), (1, .int x1), (2, .int x2)]) hx hb dX2_rulesWith_3 hl (by decide) rfl (fun ls hl => ?_)
  obtain ⟨n0, h⟩ := h
  exact g5 n0 (0 : Int32) (0 : Int32) _ _ _ h hP hD hS hl
theorem dX2_swapped_0 : decode cX2_swapped 0 = .ok (.iload_n 0, 1) := by decide +kernel
theorem dX2_swapped_1 : decode cX2_swapped 1 = .ok (.iload_n 1, 1) := by decide +kernel
theorem dX2_swapped_2 : decode cX2_swapped 2 = .ok (.if_icmp .ne 5, 3) := by decide +kernel
theorem dX2_swapped_5 : decode cX2_swapped 5 = .ok (.iload_n 2, 1) := by decide +kernel
theorem dX2_swapped_6 : decode cX2_swapped 6 = .ok (.ireturn, 1) := by decide +kernel
theorem dX2_swapped_7 : decode cX2_swapped 7 = .ok (.iload_n 0, 1) := by decide +kernel
theorem dX2_swapped_8 : decode cX2_swapped 8 = .ok (.iload_n 2, 1) := by decide +kernel
theorem dX2_swapped_9 : decode cX2_swapped 9 = .ok (.if_icmp .ne 7, 3) := by decide +kernel
theorem dX2_swapped_12 : decode cX2_swapped 12 = .ok (.iload_n 1, 1) := by decide +kernel
theorem dX2_swapped_13 : decode cX2_swapped 13 = .ok (.goto 4, 3) := by decide +kernel
theorem dX2_swapped_16 : decode cX2_swapped 16 = .ok (.iload_n 0, 1) := by decide +kernel
theorem dX2_swapped_17 : decode cX2_swapped 17 = .ok (.ireturn, 1) := by decide +kernel
abbrev w_X2_swapped (cI cO : ClassId)   : (Unit) → va_W := fun u => ([] : va_W)
set_option maxRecDepth 100000 in
set_option maxHeartbeats 8000000 in
theorem mX2_swapped (l : Launch) (D : va_G) (cI cO : ClassId) (tA tS : Nat)   (x0 : Int32) (x1 : Int32) (x2 : Int32) (sz : Nat) {post : Int32 → (Unit) → Prop} (h : qX2_swapped post x0 x1 x2) : Met l yX2_swapped wsX2_swapped ({ frames := 0, cells := 0, slots := 0, locals := 0 } : Room) (xPre D cI cO tA tS [.int x0, .int x1, .int x2] ([] : va_W) sz) (va_Qi post (xB D cI cO (va_A ([] : va_W) sz) (w_X2_swapped cI cO)) (va_A ([] : va_W) sz)) 0 0 (va_A ([] : va_W) sz) := by
  refine xMet D cI cO tA tS (fun A => va_Qi post (xB D cI cO A (w_X2_swapped cI cO)) A) (cc := cX2_swapped) (maxL := 3) (ret := (some .int)) (by decide) rfl (Nat.le_of_ble_eq_true rfl) ?_
  intro p e s m below meth c A ls hx hb hr hts hown hlocks hin hml hA hS hP hK hD hE hl
  have hown : s.vm.findClass RX2 = some m.cls := hown
  have hl : lv_has ls 3 [(0, .int x0), (1, .int x1), (2, .int x2)] := hl
  refine lv_iload_n hx hb dX2_swapped_0 rfl (lv_at hl 0 rfl) ?_
  refine lv_iload_n hx hb dX2_swapped_1 rfl (lv_at hl 1 rfl) ?_
  obtain ⟨hh1, hh2⟩ := h
  refine lv_icmp_ne (tgt := 7) hx hb dX2_swapped_2 (by decide) (fun hc => ?_) (fun hc => ?_)
  · have h := hh2 hc
    refine lv_iload_n hx hb dX2_swapped_7 rfl (lv_at hl 0 rfl) ?_
    refine lv_iload_n hx hb dX2_swapped_8 rfl (lv_at hl 2 rfl) ?_
    obtain ⟨hh1, hh2⟩ := h
    refine lv_icmp_ne (tgt := 16) hx hb dX2_swapped_9 (by decide) (fun hc => ?_) (fun hc => ?_)
    · have h := hh2 hc
      refine lv_iload_n hx hb dX2_swapped_16 rfl (lv_at hl 0 rfl) ?_
      exact xiret (w := (w_X2_swapped cI cO)) () hx hb hr hlocks h hP hK hD hS dX2_swapped_17
    · have h := hh1 hc
      refine lv_iload_n hx hb dX2_swapped_12 rfl (lv_at hl 1 rfl) ?_
      refine lv_goto (tgt := 17) hx hb dX2_swapped_13 (by decide) ?_
      exact xiret (w := (w_X2_swapped cI cO)) () hx hb hr hlocks h hP hK hD hS dX2_swapped_17
  · have h := hh1 hc
    refine lv_iload_n hx hb dX2_swapped_5 rfl (lv_at hl 2 rfl) ?_
    exact xiret (w := (w_X2_swapped cI cO)) () hx hb hr hlocks h hP hK hD hS dX2_swapped_6
set_option maxRecDepth 20000 in
theorem ggX2_exchange_X2_swapped : GoodIn wsX2_exchange wsX2_swapped := goodIn_r _ [10] (by decide +kernel) (by decide +kernel)
set_option maxRecDepth 20000 in
theorem gX2_exchange_X2_swapped : GoodIn wsX2_exchange (va_wsS RX2 51 yX2_swapped wsX2_swapped) := goodIn_app (goodIn_of _ (by decide +kernel)) ggX2_exchange_X2_swapped
set_option maxRecDepth 20000 in
theorem ggX2_exchange_X2_markFinal : GoodIn wsX2_exchange wsX2_markFinal := goodIn_r _ [14, 6, 15, 16, 17, 18, 19, 20, 21] (by decide +kernel) (by decide +kernel)
set_option maxRecDepth 20000 in
theorem gX2_exchange_X2_markFinal : GoodIn wsX2_exchange (wsV RX2 55 RX2 yX2_markFinal wsX2_markFinal) := goodIn_app (goodIn_of _ (by decide +kernel)) ggX2_exchange_X2_markFinal
theorem dX2_exchange_0 : decode cX2_exchange 0 = .ok (.iconst 0, 1) := by decide +kernel
theorem dX2_exchange_1 : decode cX2_exchange 1 = .ok (.istore_n 3, 1) := by decide +kernel
theorem dX2_exchange_2 : decode cX2_exchange 2 = .ok (.iload_n 3, 1) := by decide +kernel
theorem dX2_exchange_3 : decode cX2_exchange 3 = .ok (.aload_n 0, 1) := by decide +kernel
theorem dX2_exchange_4 : decode cX2_exchange 4 = .ok (.getfield 27, 3) := by decide +kernel
theorem dX2_exchange_7 : decode cX2_exchange 7 = .ok (.if_icmp .ge 83, 3) := by decide +kernel
theorem dX2_exchange_10 : decode cX2_exchange 10 = .ok (.getstatic 48, 3) := by decide +kernel
theorem dX2_exchange_13 : decode cX2_exchange 13 = .ok (.aload_n 0, 1) := by decide +kernel
theorem dX2_exchange_14 : decode cX2_exchange 14 = .ok (.getfield 9, 3) := by decide +kernel
theorem dX2_exchange_17 : decode cX2_exchange 17 = .ok (.iload_n 3, 1) := by decide +kernel
theorem dX2_exchange_18 : decode cX2_exchange 18 = .ok (.iaload, 1) := by decide +kernel
theorem dX2_exchange_19 : decode cX2_exchange 19 = .ok (.iaload, 1) := by decide +kernel
theorem dX2_exchange_20 : decode cX2_exchange 20 = .ok (.istore 4, 2) := by decide +kernel
theorem dX2_exchange_22 : decode cX2_exchange 22 = .ok (.aload_n 0, 1) := by decide +kernel
theorem dX2_exchange_23 : decode cX2_exchange 23 = .ok (.getfield 24, 3) := by decide +kernel
theorem dX2_exchange_26 : decode cX2_exchange 26 = .ok (.iload_n 3, 1) := by decide +kernel
theorem dX2_exchange_27 : decode cX2_exchange 27 = .ok (.aload_n 0, 1) := by decide +kernel
theorem dX2_exchange_28 : decode cX2_exchange 28 = .ok (.getfield 24, 3) := by decide +kernel
theorem dX2_exchange_31 : decode cX2_exchange 31 = .ok (.iload_n 3, 1) := by decide +kernel
theorem dX2_exchange_32 : decode cX2_exchange 32 = .ok (.iaload, 1) := by decide +kernel
theorem dX2_exchange_33 : decode cX2_exchange 33 = .ok (.iload_n 1, 1) := by decide +kernel
theorem dX2_exchange_34 : decode cX2_exchange 34 = .ok (.iload_n 2, 1) := by decide +kernel
theorem dX2_exchange_35 : decode cX2_exchange 35 = .ok (.invokestatic 51, 3) := by decide +kernel
theorem dX2_exchange_38 : decode cX2_exchange 38 = .ok (.iastore, 1) := by decide +kernel
theorem dX2_exchange_39 : decode cX2_exchange 39 = .ok (.iload 4, 2) := by decide +kernel
theorem dX2_exchange_41 : decode cX2_exchange 41 = .ok (.ifCond .le 20, 3) := by decide +kernel
theorem dX2_exchange_44 : decode cX2_exchange 44 = .ok (.aload_n 0, 1) := by decide +kernel
theorem dX2_exchange_45 : decode cX2_exchange 45 = .ok (.getfield 15, 3) := by decide +kernel
theorem dX2_exchange_48 : decode cX2_exchange 48 = .ok (.iload_n 3, 1) := by decide +kernel
theorem dX2_exchange_49 : decode cX2_exchange 49 = .ok (.aload_n 0, 1) := by decide +kernel
theorem dX2_exchange_50 : decode cX2_exchange 50 = .ok (.getfield 15, 3) := by decide +kernel
theorem dX2_exchange_53 : decode cX2_exchange 53 = .ok (.iload_n 3, 1) := by decide +kernel
theorem dX2_exchange_54 : decode cX2_exchange 54 = .ok (.iaload, 1) := by decide +kernel
theorem dX2_exchange_55 : decode cX2_exchange 55 = .ok (.iload_n 1, 1) := by decide +kernel
theorem dX2_exchange_56 : decode cX2_exchange 56 = .ok (.iload_n 2, 1) := by decide +kernel
theorem dX2_exchange_57 : decode cX2_exchange 57 = .ok (.invokestatic 51, 3) := by decide +kernel
theorem dX2_exchange_60 : decode cX2_exchange 60 = .ok (.iastore, 1) := by decide +kernel
theorem dX2_exchange_61 : decode cX2_exchange 61 = .ok (.iload 4, 2) := by decide +kernel
theorem dX2_exchange_63 : decode cX2_exchange 63 = .ok (.iconst 1, 1) := by decide +kernel
theorem dX2_exchange_64 : decode cX2_exchange 64 = .ok (.if_icmp .le 20, 3) := by decide +kernel
theorem dX2_exchange_67 : decode cX2_exchange 67 = .ok (.aload_n 0, 1) := by decide +kernel
theorem dX2_exchange_68 : decode cX2_exchange 68 = .ok (.getfield 18, 3) := by decide +kernel
theorem dX2_exchange_71 : decode cX2_exchange 71 = .ok (.iload_n 3, 1) := by decide +kernel
theorem dX2_exchange_72 : decode cX2_exchange 72 = .ok (.aload_n 0, 1) := by decide +kernel
theorem dX2_exchange_73 : decode cX2_exchange 73 = .ok (.getfield 18, 3) := by decide +kernel
theorem dX2_exchange_76 : decode cX2_exchange 76 = .ok (.iload_n 3, 1) := by decide +kernel
theorem dX2_exchange_77 : decode cX2_exchange 77 = .ok (.iaload, 1) := by decide +kernel
theorem dX2_exchange_78 : decode cX2_exchange 78 = .ok (.iload_n 1, 1) := by decide +kernel
theorem dX2_exchange_79 : decode cX2_exchange 79 = .ok (.iload_n 2, 1) := by decide +kernel
theorem dX2_exchange_80 : decode cX2_exchange 80 = .ok (.invokestatic 51, 3) := by decide +kernel
theorem dX2_exchange_83 : decode cX2_exchange 83 = .ok (.iastore, 1) := by decide +kernel
theorem dX2_exchange_84 : decode cX2_exchange 84 = .ok (.iinc 3 1, 3) := by decide +kernel
theorem dX2_exchange_87 : decode cX2_exchange 87 = .ok (.goto (-85), 3) := by decide +kernel
theorem dX2_exchange_90 : decode cX2_exchange 90 = .ok (.aload_n 0, 1) := by decide +kernel
theorem dX2_exchange_91 : decode cX2_exchange 91 = .ok (.getfield 31, 3) := by decide +kernel
theorem dX2_exchange_94 : decode cX2_exchange 94 = .ok (.iload_n 1, 1) := by decide +kernel
theorem dX2_exchange_95 : decode cX2_exchange 95 = .ok (.ishr, 1) := by decide +kernel
theorem dX2_exchange_96 : decode cX2_exchange 96 = .ok (.iconst 1, 1) := by decide +kernel
theorem dX2_exchange_97 : decode cX2_exchange 97 = .ok (.iand, 1) := by decide +kernel
theorem dX2_exchange_98 : decode cX2_exchange 98 = .ok (.ifCond .eq 7, 3) := by decide +kernel
theorem dX2_exchange_101 : decode cX2_exchange 101 = .ok (.iconst 1, 1) := by decide +kernel
theorem dX2_exchange_102 : decode cX2_exchange 102 = .ok (.goto 4, 3) := by decide +kernel
theorem dX2_exchange_105 : decode cX2_exchange 105 = .ok (.iconst 0, 1) := by decide +kernel
theorem dX2_exchange_106 : decode cX2_exchange 106 = .ok (.istore_n 3, 1) := by decide +kernel
theorem dX2_exchange_107 : decode cX2_exchange 107 = .ok (.aload_n 0, 1) := by decide +kernel
theorem dX2_exchange_108 : decode cX2_exchange 108 = .ok (.getfield 31, 3) := by decide +kernel
theorem dX2_exchange_111 : decode cX2_exchange 111 = .ok (.iload_n 2, 1) := by decide +kernel
theorem dX2_exchange_112 : decode cX2_exchange 112 = .ok (.ishr, 1) := by decide +kernel
theorem dX2_exchange_113 : decode cX2_exchange 113 = .ok (.iconst 1, 1) := by decide +kernel
theorem dX2_exchange_114 : decode cX2_exchange 114 = .ok (.iand, 1) := by decide +kernel
theorem dX2_exchange_115 : decode cX2_exchange 115 = .ok (.ifCond .eq 7, 3) := by decide +kernel
theorem dX2_exchange_118 : decode cX2_exchange 118 = .ok (.iconst 1, 1) := by decide +kernel
theorem dX2_exchange_119 : decode cX2_exchange 119 = .ok (.goto 4, 3) := by decide +kernel
theorem dX2_exchange_122 : decode cX2_exchange 122 = .ok (.iconst 0, 1) := by decide +kernel
theorem dX2_exchange_123 : decode cX2_exchange 123 = .ok (.istore 4, 2) := by decide +kernel
theorem dX2_exchange_125 : decode cX2_exchange 125 = .ok (.aload_n 0, 1) := by decide +kernel
theorem dX2_exchange_126 : decode cX2_exchange 126 = .ok (.iload_n 1, 1) := by decide +kernel
theorem dX2_exchange_127 : decode cX2_exchange 127 = .ok (.iload 4, 2) := by decide +kernel
theorem dX2_exchange_129 : decode cX2_exchange 129 = .ok (.invokevirtual 55, 3) := by decide +kernel
theorem dX2_exchange_132 : decode cX2_exchange 132 = .ok (.aload_n 0, 1) := by decide +kernel
theorem dX2_exchange_133 : decode cX2_exchange 133 = .ok (.iload_n 2, 1) := by decide +kernel
theorem dX2_exchange_134 : decode cX2_exchange 134 = .ok (.iload_n 3, 1) := by decide +kernel
theorem dX2_exchange_135 : decode cX2_exchange 135 = .ok (.invokevirtual 55, 3) := by decide +kernel
theorem dX2_exchange_138 : decode cX2_exchange 138 = .ok (.return_, 1) := by decide +kernel
theorem jX2_exchange_X2 : ∀ w ∈ wsX20, w ∈ wsX2_exchange := by decide +kernel
abbrev w_X2_exchange (cI cO : ClassId) (aB : Nat → Nat)  : ((CS)) → va_W := fun u => (wB cI aB u)
set_option maxRecDepth 100000 in
set_option maxHeartbeats 8000000 in
theorem mX2_exchange (l : Launch) (D : va_G) (cI cO : ClassId) (tA tS : Nat) (aB : Nat → Nat) (zB : CS) (x1 : Int32) (x2 : Int32) (sz : Nat) {post : ((CS)) → Prop} (h : qX2_exchange post x1 x2 zB) : Met l yX2_exchange wsX2_exchange ({ frames := 1, cells := 0, slots := 0, locals := 22 } : Room) (xPre D cI cO tA tS [.ref (aB 0), .int x1, .int x2] (wB cI aB zB) sz) (va_Qv post (xB D cI cO (va_A (wB cI aB zB) sz) (w_X2_exchange cI cO aB)) (va_A (wB cI aB zB) sz)) 0 0 (va_A (wB cI aB zB) sz) := by
  refine xMet D cI cO tA tS (fun A => va_Qv post (xB D cI cO A (w_X2_exchange cI cO aB)) A) (cc := cX2_exchange) (maxL := 5) (ret := none) (by decide) rfl (Nat.le_of_ble_eq_true rfl) ?_
  intro p e s m below meth c A ls hx hb hr hts hown hlocks hin hml hA hS hP hK hD hE hl
  have hown : s.vm.findClass RX2 = some m.cls := hown
  have hl : lv_has ls 5 [(0, .ref (aB 0)), (1, .int x1), (2, .int x2)] := hl
  have g123 : ∀ (y3 : Int32) (w0 : Int32) (zB : CS) (H : Heap) (locs : List Loc) (ls : Array Slot), qX2_exchange_123 post x1 x2 y3 w0 zB → va_P D vwCl (wB cI aB zB) H → va_D A (wB cI aB zB) → va_S A s.heap H locs → lv_has ls 5 [(3, .int y3), (0, .ref (aB 0)), (1, .int x1), (2, .int x2)] → W p l e ({ frames := 1, cells := 0, slots := 0, locals := 22 } : Room) s m ([.ref (aB 0), .int x1, .int x2] : List Value).toArray below meth c H locs 0 0 (MQ below (va_Qv post (xB D cI cO A (w_X2_exchange cI cO aB)) A) ([.ref (aB 0), .int x1, .int x2] : List Value).toArray s 0 0 A) (F0 m 123 ls [.int w0]) := by
    intro y3 w0 zB H locs ls h hP hD hS hl
    refine lv_istore (lv' := [(4, .int w0), (3, .int y3), (0, .ref (aB 0)), (1, .int x1), (2, .int x2)]) hx hb dX2_exchange_123 hl (by decide) rfl (fun ls hl => ?_)
    refine lv_aload_n hx hb dX2_exchange_125 rfl (lv_at hl 2 rfl) ?_
    refine lv_iload_n hx hb dX2_exchange_126 rfl (lv_at hl 3 rfl) ?_
    refine lv_iload hx hb dX2_exchange_127 (lv_at hl 0 rfl) ?_
    refine xcallv (wr := ([] : va_W)) (w2 := fun (u129 : (CS)) => (wB cI aB u129)) (va_runV (As := [.int x1, .int w0]) (rest := []) ⟨hx, hb, hml, hown, hts⟩ (mX2_markFinal l D cI cO tA tS aB zB x1 w0 _ h) (cwV 2 hts gX2_exchange_X2_markFinal rfl rfl rfl (by decide +kernel) ⟨Nat.le_of_ble_eq_true rfl, Nat.le_of_ble_eq_true rfl⟩) (xpreV hP hD hS hA hK hE [0, 1, 2, 3, 4, 5] rfl rfl 2 0 rfl rfl) rfl rfl hl.1 rfl (lv_room (Nat.le_of_ble_eq_true rfl)) dX2_exchange_129 ⟨Nat.le_refl 0, Nat.le_refl 0⟩) hP hD hS hA [0, 1, 2, 3, 4, 5] [] [0, 1, 2, 3, 4, 5] rfl rfl rfl (by decide) rfl (fun _ => rfl) (fun u129 H locs h hP hD hS => ?_)
    refine lv_aload_n hx hb dX2_exchange_132 rfl (lv_at hl 2 rfl) ?_
    refine lv_iload_n hx hb dX2_exchange_133 rfl (lv_at hl 4 rfl) ?_
    refine lv_iload_n hx hb dX2_exchange_134 rfl (lv_at hl 1 rfl) ?_
    refine xcallv (wr := ([] : va_W)) (w2 := fun (u135 : (CS)) => (wB cI aB u135)) (va_runV (As := [.int x2, .int y3]) (rest := []) ⟨hx, hb, hml, hown, hts⟩ (mX2_markFinal l D cI cO tA tS aB u129 x2 y3 _ h) (cwV 2 hts gX2_exchange_X2_markFinal rfl rfl rfl (by decide +kernel) ⟨Nat.le_of_ble_eq_true rfl, Nat.le_of_ble_eq_true rfl⟩) (xpreV hP hD hS hA hK hE [0, 1, 2, 3, 4, 5] rfl rfl 2 0 rfl rfl) rfl rfl hl.1 rfl (lv_room (Nat.le_of_ble_eq_true rfl)) dX2_exchange_135 ⟨Nat.le_refl 0, Nat.le_refl 0⟩) hP hD hS hA [0, 1, 2, 3, 4, 5] [] [0, 1, 2, 3, 4, 5] rfl rfl rfl (by decide) rfl (fun _ => rfl) (fun u135 H locs h hP hD hS => ?_)
    exact xvret (w := (w_X2_exchange cI cO aB)) (u135) hx hb hr hlocks h hP hK hD hS dX2_exchange_138
  have g106 : ∀ (y3 : Int32) (w0 : Int32) (zB : CS) (H : Heap) (locs : List Loc) (ls : Array Slot), qX2_exchange_106 post x1 x2 y3 w0 zB → va_P D vwCl (wB cI aB zB) H → va_D A (wB cI aB zB) → va_S A s.heap H locs → lv_has ls 5 [(3, .int y3), (0, .ref (aB 0)), (1, .int x1), (2, .int x2)] → W p l e ({ frames := 1, cells := 0, slots := 0, locals := 22 } : Room) s m ([.ref (aB 0), .int x1, .int x2] : List Value).toArray below meth c H locs 0 0 (MQ below (va_Qv post (xB D cI cO A (w_X2_exchange cI cO aB)) A) ([.ref (aB 0), .int x1, .int x2] : List Value).toArray s 0 0 A) (F0 m 106 ls [.int w0]) := by
    intro y3 w0 zB H locs ls h hP hD hS hl
    refine lv_istore_n (lv' := [(3, .int w0), (0, .ref (aB 0)), (1, .int x1), (2, .int x2)]) hx hb dX2_exchange_106 rfl hl (by decide) rfl (fun ls hl => ?_)
    refine lv_aload_n hx hb dX2_exchange_107 rfl (lv_at hl 1 rfl) ?_
    refine va_get (D := D) (ci := 2) (v := .int (zB 5 1)) (C := RX2) (T := TX2) (N := 7) hx hb hts jX2_exchange_X2 hown hK hP 0 rfl rfl 6 (by decide) (hts (.fieldLink RX2 31 "BrotherAutomata$RuleBook" "finals" "I") (List.mem_of_getElem? (i := 6) rfl)) (fun _ h9 => h9) rfl dX2_exchange_108 ?_
    refine lv_iload_n hx hb dX2_exchange_111 rfl (lv_at hl 3 rfl) ?_
    refine lv_ishr hx hb dX2_exchange_112 ?_
    refine lv_iconst (v := 1) hx hb dX2_exchange_113 (by decide) ?_
    refine lv_iand hx hb dX2_exchange_114 ?_
    obtain ⟨hh1, hh2⟩ := h
    refine lv_if_eq (tgt := 122) hx hb dX2_exchange_115 (by decide) (fun hc => ?_) (fun hc => ?_)
    · have h := hh1 hc
      refine lv_iconst (v := 0) hx hb dX2_exchange_122 (by decide) ?_
      exact g123 w0 (0 : Int32) zB _ _ _ h hP hD hS hl
    · have h := hh2 hc
      refine lv_iconst (v := 1) hx hb dX2_exchange_118 (by decide) ?_
      refine lv_goto (tgt := 123) hx hb dX2_exchange_119 (by decide) ?_
      exact g123 w0 (1 : Int32) zB _ _ _ h hP hD hS hl
  have g84 : ∀ (k2 : (Int32) → (CS) → Prop), (∀ (y3 : Int32) (zB : CS) (H : Heap) (locs : List Loc) (ls : Array Slot), k2 y3 zB → va_P D vwCl (wB cI aB zB) H → va_D A (wB cI aB zB) → va_S A s.heap H locs → lv_has ls 5 [(3, .int y3), (0, .ref (aB 0)), (1, .int x1), (2, .int x2)] → W p l e ({ frames := 1, cells := 0, slots := 0, locals := 22 } : Room) s m ([.ref (aB 0), .int x1, .int x2] : List Value).toArray below meth c H locs 0 0 (MQ below (va_Qv post (xB D cI cO A (w_X2_exchange cI cO aB)) A) ([.ref (aB 0), .int x1, .int x2] : List Value).toArray s 0 0 A) (F0 m 2 ls [])) → ∀ (y3 : Int32) (y4 : Int32) (zB : CS) (H : Heap) (locs : List Loc) (ls : Array Slot), qX2_exchange_84 post x1 x2 k2 y3 y4 zB → va_P D vwCl (wB cI aB zB) H → va_D A (wB cI aB zB) → va_S A s.heap H locs → lv_has ls 5 [(4, .int y4), (3, .int y3), (0, .ref (aB 0)), (1, .int x1), (2, .int x2)] → W p l e ({ frames := 1, cells := 0, slots := 0, locals := 22 } : Room) s m ([.ref (aB 0), .int x1, .int x2] : List Value).toArray below meth c H locs 0 0 (MQ below (va_Qv post (xB D cI cO A (w_X2_exchange cI cO aB)) A) ([.ref (aB 0), .int x1, .int x2] : List Value).toArray s 0 0 A) (F0 m 84 ls []) := by
    intro k2 hk2 y3 y4 zB H locs ls h hP hD hS hl
    refine lv_iinc (v := (y3 + (1 : Int32))) (lv' := [(3, .int (y3 + (1 : Int32))), (4, .int y4), (0, .ref (aB 0)), (1, .int x1), (2, .int x2)]) hx hb dX2_exchange_84 hl (k := 1) rfl rfl (by decide) rfl (fun ls hl => ?_)
    refine lv_goto (tgt := 2) hx hb dX2_exchange_87 (by decide) ?_
    exact hk2 (y3 + (1 : Int32)) zB _ _ _ h hP hD hS (lv_sub hl [0, 2, 3, 4] rfl)
  have g61 : ∀ (k2 : (Int32) → (CS) → Prop), (∀ (y3 : Int32) (zB : CS) (H : Heap) (locs : List Loc) (ls : Array Slot), k2 y3 zB → va_P D vwCl (wB cI aB zB) H → va_D A (wB cI aB zB) → va_S A s.heap H locs → lv_has ls 5 [(3, .int y3), (0, .ref (aB 0)), (1, .int x1), (2, .int x2)] → W p l e ({ frames := 1, cells := 0, slots := 0, locals := 22 } : Room) s m ([.ref (aB 0), .int x1, .int x2] : List Value).toArray below meth c H locs 0 0 (MQ below (va_Qv post (xB D cI cO A (w_X2_exchange cI cO aB)) A) ([.ref (aB 0), .int x1, .int x2] : List Value).toArray s 0 0 A) (F0 m 2 ls [])) → ∀ (y3 : Int32) (y4 : Int32) (zB : CS) (H : Heap) (locs : List Loc) (ls : Array Slot), qX2_exchange_61 post x1 x2 k2 y3 y4 zB → va_P D vwCl (wB cI aB zB) H → va_D A (wB cI aB zB) → va_S A s.heap H locs → lv_has ls 5 [(4, .int y4), (3, .int y3), (0, .ref (aB 0)), (1, .int x1), (2, .int x2)] → W p l e ({ frames := 1, cells := 0, slots := 0, locals := 22 } : Room) s m ([.ref (aB 0), .int x1, .int x2] : List Value).toArray below meth c H locs 0 0 (MQ below (va_Qv post (xB D cI cO A (w_X2_exchange cI cO aB)) A) ([.ref (aB 0), .int x1, .int x2] : List Value).toArray s 0 0 A) (F0 m 61 ls []) := by
    intro k2 hk2 y3 y4 zB H locs ls h hP hD hS hl
    refine lv_iload hx hb dX2_exchange_61 (lv_at hl 0 rfl) ?_
    refine lv_iconst (v := 1) hx hb dX2_exchange_63 (by decide) ?_
    obtain ⟨hh1, hh2⟩ := h
    refine lv_icmp_le (tgt := 84) hx hb dX2_exchange_64 (by decide) (fun hc => ?_) (fun hc => ?_)
    · have h := hh1 hc
      exact g84 k2 hk2 y3 y4 zB _ _ _ h hP hD hS hl
    · have h := hh2 hc
      refine lv_aload_n hx hb dX2_exchange_67 rfl (lv_at hl 2 rfl) ?_
      refine va_get (D := D) (ci := 2) (v := .ref (aB 3)) (C := RX2) (T := TX2) (N := 7) hx hb hts jX2_exchange_X2 hown hK hP 0 rfl rfl 2 (by decide) (hts (.fieldLink RX2 18 "BrotherAutomata$RuleBook" "seconds" "[I") (List.mem_of_getElem? (i := 5) rfl)) (fun _ h9 => h9) rfl dX2_exchange_68 ?_
      refine lv_iload_n hx hb dX2_exchange_71 rfl (lv_at hl 1 rfl) ?_
      refine lv_aload_n hx hb dX2_exchange_72 rfl (lv_at hl 2 rfl) ?_
      refine va_get (D := D) (ci := 2) (v := .ref (aB 3)) (C := RX2) (T := TX2) (N := 7) hx hb hts jX2_exchange_X2 hown hK hP 0 rfl rfl 2 (by decide) (hts (.fieldLink RX2 18 "BrotherAutomata$RuleBook" "seconds" "[I") (List.mem_of_getElem? (i := 5) rfl)) (fun _ h9 => h9) rfl dX2_exchange_73 ?_
      refine lv_iload_n hx hb dX2_exchange_76 rfl (lv_at hl 1 rfl) ?_
      obtain ⟨hi, h⟩ := h
      refine va_iald hx hb hK hP 3 0 rfl rfl hi dX2_exchange_77 ?_
      refine lv_iload_n hx hb dX2_exchange_78 rfl (lv_at hl 3 rfl) ?_
      refine lv_iload_n hx hb dX2_exchange_79 rfl (lv_at hl 4 rfl) ?_
      refine xcalli (wr := (wB cI aB zB)) (w2 := fun (u80 : Unit) => (wB cI aB zB)) (va_runS (As := [.int ((zB 2) y3.toNatClampNeg), .int x1, .int x2]) (rest := [.int y3, .ref (aB 3)]) ⟨hx, hb, hml, hown, hts⟩ (mX2_swapped l D cI cO tA tS ((zB 2) y3.toNatClampNeg) x1 x2 _ h) (va_cwS 3 hts gX2_exchange_X2_swapped rfl rfl rfl (by decide +kernel) ⟨Nat.le_of_ble_eq_true rfl, Nat.le_of_ble_eq_true rfl⟩) (xpreP hP hD hS hA hK hE [] rfl rfl) rfl rfl hl.1 rfl (lv_room (Nat.le_of_ble_eq_true rfl)) dX2_exchange_80 ⟨Nat.le_refl 0, Nat.le_refl 0⟩) hP hD hS hA [] [0, 1, 2, 3, 4, 5] [0, 1, 2, 3, 4, 5] rfl rfl rfl (by decide) rfl (fun _ => rfl) (fun r80 u80 H locs h hP hD hS => ?_)
      obtain ⟨hi, h⟩ := h
      refine va_iast hx hb hK hP hD hS 3 0 rfl rfl hi dX2_exchange_83 (fun H locs hP hD hS => ?_)
      have hP : va_P D vwCl (wB cI aB (st zB 2 y3.toNatClampNeg r80)) H := hP
      have hD : va_D A (wB cI aB (st zB 2 y3.toNatClampNeg r80)) := hD
      exact g84 k2 hk2 y3 y4 (st zB 2 y3.toNatClampNeg r80) _ _ _ h hP hD hS hl
  have g2 : ∀ (n : Nat) (y3 : Int32) (zB : CS) (H : Heap) (locs : List Loc) (ls : Array Slot), qX2_exchange_2 post x1 x2 n y3 zB → va_P D vwCl (wB cI aB zB) H → va_D A (wB cI aB zB) → va_S A s.heap H locs → lv_has ls 5 [(3, .int y3), (0, .ref (aB 0)), (1, .int x1), (2, .int x2)] → W p l e ({ frames := 1, cells := 0, slots := 0, locals := 22 } : Room) s m ([.ref (aB 0), .int x1, .int x2] : List Value).toArray below meth c H locs 0 0 (MQ below (va_Qv post (xB D cI cO A (w_X2_exchange cI cO aB)) A) ([.ref (aB 0), .int x1, .int x2] : List Value).toArray s 0 0 A) (F0 m 2 ls []) := by
    intro n
    induction n with
    | zero => intro y3 zB H locs ls h; exact False.elim h
    | succ n hk2 =>
      intro y3 zB H locs ls h hP hD hS hl
      have h : qX2_exchange_2b post x1 x2 (qX2_exchange_2 post x1 x2 n) y3 zB := h
      refine lv_iload_n hx hb dX2_exchange_2 rfl (lv_at hl 0 rfl) ?_
      refine lv_aload_n hx hb dX2_exchange_3 rfl (lv_at hl 1 rfl) ?_
      refine va_get (D := D) (ci := 2) (v := .int (zB 5 0)) (C := RX2) (T := TX2) (N := 7) hx hb hts jX2_exchange_X2 hown hK hP 0 rfl rfl 5 (by decide) (hts (.fieldLink RX2 27 "BrotherAutomata$RuleBook" "count" "I") (List.mem_of_getElem? (i := 1) rfl)) (fun _ h9 => h9) rfl dX2_exchange_4 ?_
      obtain ⟨hh1, hh2⟩ := h
      refine lv_icmp_ge (tgt := 90) hx hb dX2_exchange_7 (by decide) (fun hc => ?_) (fun hc => ?_)
      · have h := hh1 hc
        refine lv_aload_n hx hb dX2_exchange_90 rfl (lv_at hl 1 rfl) ?_
        refine va_get (D := D) (ci := 2) (v := .int (zB 5 1)) (C := RX2) (T := TX2) (N := 7) hx hb hts jX2_exchange_X2 hown hK hP 0 rfl rfl 6 (by decide) (hts (.fieldLink RX2 31 "BrotherAutomata$RuleBook" "finals" "I") (List.mem_of_getElem? (i := 6) rfl)) (fun _ h9 => h9) rfl dX2_exchange_91 ?_
        refine lv_iload_n hx hb dX2_exchange_94 rfl (lv_at hl 2 rfl) ?_
        refine lv_ishr hx hb dX2_exchange_95 ?_
        refine lv_iconst (v := 1) hx hb dX2_exchange_96 (by decide) ?_
        refine lv_iand hx hb dX2_exchange_97 ?_
        obtain ⟨hh1, hh2⟩ := h
        refine lv_if_eq (tgt := 105) hx hb dX2_exchange_98 (by decide) (fun hc => ?_) (fun hc => ?_)
        · have h := hh1 hc
          refine lv_iconst (v := 0) hx hb dX2_exchange_105 (by decide) ?_
          exact g106 y3 (0 : Int32) zB _ _ _ h hP hD hS hl
        · have h := hh2 hc
          refine lv_iconst (v := 1) hx hb dX2_exchange_101 (by decide) ?_
          refine lv_goto (tgt := 106) hx hb dX2_exchange_102 (by decide) ?_
          exact g106 y3 (1 : Int32) zB _ _ _ h hP hD hS hl
      · have h := hh2 hc
        refine va_getsN hx hb hE.2.1 hS hown (va_Nw.use (w := .fieldLinkNest RX2 48 "BrotherAutomata" "ARITY" "[I" "BrotherAutomata") rfl (hE.1 _ (List.mem_of_getElem? (i := 17) rfl))) (fun _ h9 => h9) dX2_exchange_10 ?_
        refine lv_aload_n hx hb dX2_exchange_13 rfl (lv_at hl 1 rfl) ?_
        refine va_get (D := D) (ci := 2) (v := .ref (aB 1)) (C := RX2) (T := TX2) (N := 7) hx hb hts jX2_exchange_X2 hown hK hP 0 rfl rfl 0 (by decide) (hts (.fieldLink RX2 9 "BrotherAutomata$RuleBook" "symbols" "[I") (List.mem_of_getElem? (i := 2) rfl)) (fun _ h9 => h9) rfl dX2_exchange_14 ?_
        refine lv_iload_n hx hb dX2_exchange_17 rfl (lv_at hl 0 rfl) ?_
        obtain ⟨hi, h⟩ := h
        refine va_iald hx hb hK hP 1 0 rfl rfl hi dX2_exchange_18 ?_
        obtain ⟨hi, h⟩ := h
        refine va_ti (v := .int (xar ((zB 0) y3.toNatClampNeg).toNatClampNeg)) hx hb hE.2.2.1 hS hi rfl dX2_exchange_19 ?_
        refine lv_istore (lv' := [(4, .int (xar ((zB 0) y3.toNatClampNeg).toNatClampNeg)), (3, .int y3), (0, .ref (aB 0)), (1, .int x1), (2, .int x2)]) hx hb dX2_exchange_20 hl (by decide) rfl (fun ls hl => ?_)
        refine lv_aload_n hx hb dX2_exchange_22 rfl (lv_at hl 2 rfl) ?_
        refine va_get (D := D) (ci := 2) (v := .ref (aB 5)) (C := RX2) (T := TX2) (N := 7) hx hb hts jX2_exchange_X2 hown hK hP 0 rfl rfl 4 (by decide) (hts (.fieldLink RX2 24 "BrotherAutomata$RuleBook" "targets" "[I") (List.mem_of_getElem? (i := 3) rfl)) (fun _ h9 => h9) rfl dX2_exchange_23 ?_
        refine lv_iload_n hx hb dX2_exchange_26 rfl (lv_at hl 1 rfl) ?_
        refine lv_aload_n hx hb dX2_exchange_27 rfl (lv_at hl 2 rfl) ?_
        refine va_get (D := D) (ci := 2) (v := .ref (aB 5)) (C := RX2) (T := TX2) (N := 7) hx hb hts jX2_exchange_X2 hown hK hP 0 rfl rfl 4 (by decide) (hts (.fieldLink RX2 24 "BrotherAutomata$RuleBook" "targets" "[I") (List.mem_of_getElem? (i := 3) rfl)) (fun _ h9 => h9) rfl dX2_exchange_28 ?_
        refine lv_iload_n hx hb dX2_exchange_31 rfl (lv_at hl 1 rfl) ?_
        obtain ⟨hi, h⟩ := h
        refine va_iald hx hb hK hP 5 0 rfl rfl hi dX2_exchange_32 ?_
        refine lv_iload_n hx hb dX2_exchange_33 rfl (lv_at hl 3 rfl) ?_
        refine lv_iload_n hx hb dX2_exchange_34 rfl (lv_at hl 4 rfl) ?_
        refine xcalli (wr := (wB cI aB zB)) (w2 := fun (u35 : Unit) => (wB cI aB zB)) (va_runS (As := [.int ((zB 4) y3.toNatClampNeg), .int x1, .int x2]) (rest := [.int y3, .ref (aB 5)]) ⟨hx, hb, hml, hown, hts⟩ (mX2_swapped l D cI cO tA tS ((zB 4) y3.toNatClampNeg) x1 x2 _ h) (va_cwS 3 hts gX2_exchange_X2_swapped rfl rfl rfl (by decide +kernel) ⟨Nat.le_of_ble_eq_true rfl, Nat.le_of_ble_eq_true rfl⟩) (xpreP hP hD hS hA hK hE [] rfl rfl) rfl rfl hl.1 rfl (lv_room (Nat.le_of_ble_eq_true rfl)) dX2_exchange_35 ⟨Nat.le_refl 0, Nat.le_refl 0⟩) hP hD hS hA [] [0, 1, 2, 3, 4, 5] [0, 1, 2, 3, 4, 5] rfl rfl rfl (by decide) rfl (fun _ => rfl) (fun r35 u35 H locs h hP hD hS => ?_)
        obtain ⟨hi, h⟩ := h
        refine va_iast hx hb hK hP hD hS 5 0 rfl rfl hi dX2_exchange_38 (fun H locs hP hD hS => ?_)
        have hP : va_P D vwCl (wB cI aB (st zB 4 y3.toNatClampNeg r35)) H := hP
        have hD : va_D A (wB cI aB (st zB 4 y3.toNatClampNeg r35)) := hD
        refine lv_iload hx hb dX2_exchange_39 (lv_at hl 0 rfl) ?_
        obtain ⟨hh1, hh2⟩ := h
        refine lv_if_le (tgt := 61) hx hb dX2_exchange_41 (by decide) (fun hc => ?_) (fun hc => ?_)
        · have h := hh1 hc
          exact g61 (qX2_exchange_2 post x1 x2 n) hk2 y3 (xar ((zB 0) y3.toNatClampNeg).toNatClampNeg) (st zB 4 y3.toNatClampNeg r35) _ _ _ h hP hD hS hl
        · have h := hh2 hc
          refine lv_aload_n hx hb dX2_exchange_44 rfl (lv_at hl 2 rfl) ?_
          refine va_get (D := D) (ci := 2) (v := .ref (aB 2)) (C := RX2) (T := TX2) (N := 7) hx hb hts jX2_exchange_X2 hown hK hP 0 rfl rfl 1 (by decide) (hts (.fieldLink RX2 15 "BrotherAutomata$RuleBook" "firsts" "[I") (List.mem_of_getElem? (i := 4) rfl)) (fun _ h9 => h9) rfl dX2_exchange_45 ?_
          refine lv_iload_n hx hb dX2_exchange_48 rfl (lv_at hl 1 rfl) ?_
          refine lv_aload_n hx hb dX2_exchange_49 rfl (lv_at hl 2 rfl) ?_
          refine va_get (D := D) (ci := 2) (v := .ref (aB 2)) (C := RX2) (T := TX2) (N := 7) hx hb hts jX2_exchange_X2 hown hK hP 0 rfl rfl 1 (by decide) (hts (.fieldLink RX2 15 "BrotherAutomata$RuleBook" "firsts" "[I") (List.mem_of_getElem? (i := 4) rfl)) (fun _ h9 => h9) rfl dX2_exchange_50 ?_
          refine lv_iload_n hx hb dX2_exchange_53 rfl (lv_at hl 1 rfl) ?_
          obtain ⟨hi, h⟩ := h
          refine va_iald hx hb hK hP 2 0 rfl rfl hi dX2_exchange_54 ?_
          refine lv_iload_n hx hb dX2_exchange_55 rfl (lv_at hl 3 rfl) ?_
          refine lv_iload_n hx hb dX2_exchange_56 rfl (lv_at hl 4 rfl) ?_
          refine xcalli (wr := (wB cI aB (st zB 4 y3.toNatClampNeg r35))) (w2 := fun (u57 : Unit) => (wB cI aB (st zB 4 y3.toNatClampNeg r35))) (va_runS (As := [.int (((st zB 4 y3.toNatClampNeg r35) 1) y3.toNatClampNeg), .int x1, .int x2]) (rest := [.int y3, .ref (aB 2)]) ⟨hx, hb, hml, hown, hts⟩ (mX2_swapped l D cI cO tA tS (((st zB 4 y3.toNatClampNeg r35) 1) y3.toNatClampNeg) x1 x2 _ h) (va_cwS 3 hts gX2_exchange_X2_swapped rfl rfl rfl (by decide +kernel) ⟨Nat.le_of_ble_eq_true rfl, Nat.le_of_ble_eq_true rfl⟩) (xpreP hP hD hS hA hK hE [] rfl rfl) rfl rfl hl.1 rfl (lv_room (Nat.le_of_ble_eq_true rfl)) dX2_exchange_57 ⟨Nat.le_refl 0, Nat.le_refl 0⟩) hP hD hS hA [] [0, 1, 2, 3, 4, 5] [0, 1, 2, 3, 4, 5] rfl rfl rfl (by decide) rfl (fun _ => rfl) (fun r57 u57 H locs h hP hD hS => ?_)
          obtain ⟨hi, h⟩ := h
          refine va_iast hx hb hK hP hD hS 2 0 rfl rfl hi dX2_exchange_60 (fun H locs hP hD hS => ?_)
          have hP : va_P D vwCl (wB cI aB (st (st zB 4 y3.toNatClampNeg r35) 1 y3.toNatClampNeg r57)) H := hP
          have hD : va_D A (wB cI aB (st (st zB 4 y3.toNatClampNeg r35) 1 y3.toNatClampNeg r57)) := hD
          exact g61 (qX2_exchange_2 post x1 x2 n) hk2 y3 (xar ((zB 0) y3.toNatClampNeg).toNatClampNeg) (st (st zB 4 y3.toNatClampNeg r35) 1 y3.toNatClampNeg r57) _ _ _ h hP hD hS hl
  refine lv_iconst (v := 0) hx hb dX2_exchange_0 (by decide) ?_
  refine lv_istore_n (lv' := [(3, .int (0 : Int32)), (0, .ref (aB 0)), (1, .int x1), (2, .int x2)]) hx hb dX2_exchange_1 rfl hl (by decide) rfl (fun ls hl => ?_)
  obtain ⟨n0, h⟩ := h
  exact g2 n0 (0 : Int32) zB _ _ _ h hP hD hS hl
