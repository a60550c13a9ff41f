theorem dX6_sizeAt_0 : decode cX6_sizeAt 0 = .ok (.iconst 1, 1) := by decide +kernel
theorem dX6_sizeAt_1 : decode cX6_sizeAt 1 = .ok (.istore_n 1, 1) := by decide +kernel
theorem dX6_sizeAt_2 : decode cX6_sizeAt 2 = .ok (.iload_n 1, 1) := by decide +kernel
theorem dX6_sizeAt_3 : decode cX6_sizeAt 3 = .ok (.bipush 7, 2) := by decide +kernel
theorem dX6_sizeAt_5 : decode cX6_sizeAt 5 = .ok (.if_icmp .ge 20, 3) := by decide +kernel
theorem dX6_sizeAt_8 : decode cX6_sizeAt 8 = .ok (.iload_n 0, 1) := by decide +kernel
theorem dX6_sizeAt_9 : decode cX6_sizeAt 9 = .ok (.getstatic 131, 3) := by decide +kernel
theorem dX6_sizeAt_12 : decode cX6_sizeAt 12 = .ok (.iload_n 1, 1) := by decide +kernel
theorem dX6_sizeAt_13 : decode cX6_sizeAt 13 = .ok (.iconst 1, 1) := by decide +kernel
theorem dX6_sizeAt_14 : decode cX6_sizeAt 14 = .ok (.iadd, 1) := by decide +kernel
theorem dX6_sizeAt_15 : decode cX6_sizeAt 15 = .ok (.iaload, 1) := by decide +kernel
theorem dX6_sizeAt_16 : decode cX6_sizeAt 16 = .ok (.if_icmp .lt 9, 3) := by decide +kernel
theorem dX6_sizeAt_19 : decode cX6_sizeAt 19 = .ok (.iinc 1 1, 3) := by decide +kernel
theorem dX6_sizeAt_22 : decode cX6_sizeAt 22 = .ok (.goto (-20), 3) := by decide +kernel
theorem dX6_sizeAt_25 : decode cX6_sizeAt 25 = .ok (.iload_n 1, 1) := by decide +kernel
theorem dX6_sizeAt_26 : decode cX6_sizeAt 26 = .ok (.ireturn, 1) := by decide +kernel
abbrev w_X6_sizeAt (cI cO : ClassId)   : (Unit) → va_W := fun u => ([] : va_W)
set_option maxRecDepth 100000 in
set_option maxHeartbeats 8000000 in
theorem mX6_sizeAt (l : Launch) (D : va_G) (cI cO : ClassId) (tA tS : Nat)   (x0 : Int32) (sz : Nat) {post : Int32 → (Unit) → Prop} (h : qX6_sizeAt post x0) : Met l yX6_sizeAt wsX6_sizeAt ({ frames := 0, cells := 0, slots := 0, locals := 0 } : Room) (xPre D cI cO tA tS [.int x0] ([] : va_W) sz) (va_Qi post (xB D cI cO (va_A ([] : va_W) sz) (w_X6_sizeAt cI cO)) (va_A ([] : va_W) sz)) 0 0 (va_A ([] : va_W) sz) := by
  refine xMet D cI cO tA tS (fun A => va_Qi post (xB D cI cO A (w_X6_sizeAt cI cO)) A) (cc := cX6_sizeAt) (maxL := 2) (ret := (some .int)) (by decide) rfl (Nat.le_of_ble_eq_true rfl) ?_
  intro p e s m below meth c A ls hx hb hr hts hown hlocks hin hml hA hS hP hK hD hE hl
  have hown : s.vm.findClass RX6 = some m.cls := hown
  have hl : lv_has ls 2 [(0, .int x0)] := hl
  have g25 : ∀ (y1 : Int32) (H : Heap) (locs : List Loc) (ls : Array Slot), qX6_sizeAt_25 post x0 y1 → va_P D vwCl ([] : va_W) H → va_D A ([] : va_W) → va_S A s.heap H locs → lv_has ls 2 [(1, .int y1), (0, .int x0)] → W p l e ({ frames := 0, cells := 0, slots := 0, locals := 0 } : Room) s m ([.int x0] : List Value).toArray below meth c H locs 0 0 (MQ below (va_Qi post (xB D cI cO A (w_X6_sizeAt cI cO)) A) ([.int x0] : List Value).toArray s 0 0 A) (F0 m 25 ls []) := by
    intro y1 H locs ls h hP hD hS hl
    refine lv_iload_n hx hb dX6_sizeAt_25 rfl (lv_at hl 0 rfl) ?_
    exact xiret (w := (w_X6_sizeAt cI cO)) () hx hb hr hlocks h hP hK hD hS dX6_sizeAt_26
  have g2 : ∀ (n : Nat) (y1 : Int32) (H : Heap) (locs : List Loc) (ls : Array Slot), qX6_sizeAt_2 post x0 n y1 → va_P D vwCl ([] : va_W) H → va_D A ([] : va_W) → va_S A s.heap H locs → lv_has ls 2 [(1, .int y1), (0, .int x0)] → W p l e ({ frames := 0, cells := 0, slots := 0, locals := 0 } : Room) s m ([.int x0] : List Value).toArray below meth c H locs 0 0 (MQ below (va_Qi post (xB D cI cO A (w_X6_sizeAt cI cO)) A) ([.int x0] : List Value).toArray s 0 0 A) (F0 m 2 ls []) := by
    intro n
    induction n with
    | zero => intro y1 H locs ls h; exact False.elim h
    | succ n hk2 =>
      intro y1 H locs ls h hP hD hS hl
      have h : qX6_sizeAt_2b post x0 (qX6_sizeAt_2 post x0 n) y1 := h
      refine lv_iload_n hx hb dX6_sizeAt_2 rfl (lv_at hl 0 rfl) ?_
      refine lv_bipush (v := 7) hx hb dX6_sizeAt_3 (by decide) ?_
      obtain ⟨hh1, hh2⟩ := h
      refine lv_icmp_ge (tgt := 25) hx hb dX6_sizeAt_5 (by decide) (fun hc => ?_) (fun hc => ?_)
      · have h := hh1 hc
        exact g25 y1 _ _ _ h hP hD hS hl
      · have h := hh2 hc
        refine lv_iload_n hx hb dX6_sizeAt_8 rfl (lv_at hl 1 rfl) ?_
        refine va_gets hx hb hE.2.2.2.1 hS hown (hts (.fieldLink RX6 131 "BrotherAutomata" "START" "[I") (List.mem_of_getElem? (i := 1) rfl)) (fun _ h9 => h9) dX6_sizeAt_9 ?_
        refine lv_iload_n hx hb dX6_sizeAt_12 rfl (lv_at hl 0 rfl) ?_
        refine lv_iconst (v := 1) hx hb dX6_sizeAt_13 (by decide) ?_
        refine lv_iadd hx hb dX6_sizeAt_14 ?_
        obtain ⟨hi, h⟩ := h
        refine va_ti (v := .int (xst (y1 + (1 : Int32)).toNatClampNeg)) hx hb hE.2.2.2.2 hS hi rfl dX6_sizeAt_15 ?_
        obtain ⟨hh1, hh2⟩ := h
        refine lv_icmp_lt (tgt := 25) hx hb dX6_sizeAt_16 (by decide) (fun hc => ?_) (fun hc => ?_)
        · have h := hh1 hc
          exact g25 y1 _ _ _ h hP hD hS hl
        · have h := hh2 hc
          refine lv_iinc (v := (y1 + (1 : Int32))) (lv' := [(1, .int (y1 + (1 : Int32))), (0, .int x0)]) hx hb dX6_sizeAt_19 hl (k := 0) rfl rfl (by decide) rfl (fun ls hl => ?_)
          refine lv_goto (tgt := 2) hx hb dX6_sizeAt_22 (by decide) ?_
          exact hk2 (y1 + (1 : Int32)) _ _ _ h hP hD hS hl
  refine lv_iconst (v := 1) hx hb dX6_sizeAt_0 (by decide) ?_
  refine lv_istore_n (lv' := [(1, .int (1 : Int32)), (0, .int x0)]) hx hb dX6_sizeAt_1 rfl hl (by decide) rfl (fun ls hl => ?_)
  obtain ⟨n0, h⟩ := h
  exact g2 n0 (1 : Int32) _ _ _ h hP hD hS hl
theorem dX5_symbolAt_0 : decode cX5_symbolAt 0 = .ok (.aload_n 0, 1) := by decide +kernel
theorem dX5_symbolAt_1 : decode cX5_symbolAt 1 = .ok (.getfield 9, 3) := by decide +kernel
theorem dX5_symbolAt_4 : decode cX5_symbolAt 4 = .ok (.iload_n 1, 1) := by decide +kernel
theorem dX5_symbolAt_5 : decode cX5_symbolAt 5 = .ok (.iaload, 1) := by decide +kernel
theorem dX5_symbolAt_6 : decode cX5_symbolAt 6 = .ok (.bipush 10, 2) := by decide +kernel
theorem dX5_symbolAt_8 : decode cX5_symbolAt 8 = .ok (.ishr, 1) := by decide +kernel
theorem dX5_symbolAt_9 : decode cX5_symbolAt 9 = .ok (.bipush 10, 2) := by decide +kernel
theorem dX5_symbolAt_11 : decode cX5_symbolAt 11 = .ok (.ishr, 1) := by decide +kernel
theorem dX5_symbolAt_12 : decode cX5_symbolAt 12 = .ok (.ireturn, 1) := by decide +kernel
theorem jX5_symbolAt_X5 : ∀ w ∈ wsX50, w ∈ wsX5_symbolAt := by decide +kernel
abbrev w_X5_symbolAt (cI cO : ClassId) (aT : Nat → Nat) (zT : CS) : (Unit) → va_W := fun u => (wT cI aT zT)
set_option maxRecDepth 100000 in
set_option maxHeartbeats 8000000 in
theorem mX5_symbolAt (l : Launch) (D : va_G) (cI cO : ClassId) (tA tS : Nat) (aT : Nat → Nat) (zT : CS) (x1 : Int32) (sz : Nat) {post : Int32 → (Unit) → Prop} (h : qX5_symbolAt post x1 zT) : Met l yX5_symbolAt wsX5_symbolAt ({ frames := 0, cells := 0, slots := 0, locals := 0 } : Room) (xPre D cI cO tA tS [.ref (aT 0), .int x1] (wT cI aT zT) sz) (va_Qi post (xB D cI cO (va_A (wT cI aT zT) sz) (w_X5_symbolAt cI cO aT zT)) (va_A (wT cI aT zT) sz)) 0 0 (va_A (wT cI aT zT) sz) := by
  refine xMet D cI cO tA tS (fun A => va_Qi post (xB D cI cO A (w_X5_symbolAt cI cO aT zT)) A) (cc := cX5_symbolAt) (maxL := 2) (ret := (some .int)) (by decide) rfl (Nat.le_of_ble_eq_true rfl) ?_
  intro p e s m below meth c A ls hx hb hr hts hown hlocks hin hml hA hS hP hK hD hE hl
  have hown : s.vm.findClass RX5 = some m.cls := hown
  have hl : lv_has ls 2 [(0, .ref (aT 0)), (1, .int x1)] := hl
  refine lv_aload_n hx hb dX5_symbolAt_0 rfl (lv_at hl 0 rfl) ?_
  refine va_get (D := D) (ci := 5) (v := .ref (aT 1)) (C := RX5) (T := TX5) (N := 3) hx hb hts jX5_symbolAt_X5 hown hK hP 0 rfl rfl 0 (by decide) (hts (.fieldLink RX5 9 "BrotherAutomata$SmallTrees" "contents" "[I") (List.mem_of_getElem? (i := 1) rfl)) (fun _ h9 => h9) rfl dX5_symbolAt_1 ?_
  refine lv_iload_n hx hb dX5_symbolAt_4 rfl (lv_at hl 1 rfl) ?_
  obtain ⟨hi, h⟩ := h
  refine va_iald hx hb hK hP 1 0 rfl rfl hi dX5_symbolAt_5 ?_
  refine lv_bipush (v := 10) hx hb dX5_symbolAt_6 (by decide) ?_
  refine lv_ishr hx hb dX5_symbolAt_8 ?_
  refine lv_bipush (v := 10) hx hb dX5_symbolAt_9 (by decide) ?_
  refine lv_ishr hx hb dX5_symbolAt_11 ?_
  exact xiret (w := (w_X5_symbolAt cI cO aT zT)) () hx hb hr hlocks h hP hK hD hS dX5_symbolAt_12
set_option maxRecDepth 20000 in
theorem ggX5_arityAt_X5_symbolAt : GoodIn wsX5_arityAt wsX5_symbolAt := goodIn_r _ [5, 6, 7, 8, 9] (by decide +kernel) (by decide +kernel)
set_option maxRecDepth 20000 in
theorem gX5_arityAt_X5_symbolAt : GoodIn wsX5_arityAt (wsV RX5 54 RX5 yX5_symbolAt wsX5_symbolAt) := goodIn_app (goodIn_of _ (by decide +kernel)) ggX5_arityAt_X5_symbolAt
theorem dX5_arityAt_0 : decode cX5_arityAt 0 = .ok (.getstatic 45, 3) := by decide +kernel
theorem dX5_arityAt_3 : decode cX5_arityAt 3 = .ok (.aload_n 0, 1) := by decide +kernel
theorem dX5_arityAt_4 : decode cX5_arityAt 4 = .ok (.iload_n 1, 1) := by decide +kernel
theorem dX5_arityAt_5 : decode cX5_arityAt 5 = .ok (.invokevirtual 54, 3) := by decide +kernel
theorem dX5_arityAt_8 : decode cX5_arityAt 8 = .ok (.iaload, 1) := by decide +kernel
theorem dX5_arityAt_9 : decode cX5_arityAt 9 = .ok (.ireturn, 1) := by decide +kernel
abbrev w_X5_arityAt (cI cO : ClassId) (aT : Nat → Nat) (zT : CS) : (Unit) → va_W := fun u => (wT cI aT zT)
set_option maxRecDepth 100000 in
set_option maxHeartbeats 8000000 in
theorem mX5_arityAt (l : Launch) (D : va_G) (cI cO : ClassId) (tA tS : Nat) (aT : Nat → Nat) (zT : CS) (x1 : Int32) (sz : Nat) {post : Int32 → (Unit) → Prop} (h : qX5_arityAt post x1 zT) : Met l yX5_arityAt wsX5_arityAt ({ frames := 1, cells := 0, slots := 0, locals := 21 } : Room) (xPre D cI cO tA tS [.ref (aT 0), .int x1] (wT cI aT zT) sz) (va_Qi post (xB D cI cO (va_A (wT cI aT zT) sz) (w_X5_arityAt cI cO aT zT)) (va_A (wT cI aT zT) sz)) 0 0 (va_A (wT cI aT zT) sz) := by
  refine xMet D cI cO tA tS (fun A => va_Qi post (xB D cI cO A (w_X5_arityAt cI cO aT zT)) A) (cc := cX5_arityAt) (maxL := 2) (ret := (some .int)) (by decide) rfl (Nat.le_of_ble_eq_true rfl) ?_
  intro p e s m below meth c A ls hx hb hr hts hown hlocks hin hml hA hS hP hK hD hE hl
  have hown : s.vm.findClass RX5 = some m.cls := hown
  have hl : lv_has ls 2 [(0, .ref (aT 0)), (1, .int x1)] := hl
  refine va_getsN hx hb hE.2.1 hS hown (va_Nw.use (w := .fieldLinkNest RX5 45 "BrotherAutomata" "ARITY" "[I" "BrotherAutomata") rfl (hE.1 _ (List.mem_of_getElem? (i := 1) rfl))) (fun _ h9 => h9) dX5_arityAt_0 ?_
  refine lv_aload_n hx hb dX5_arityAt_3 rfl (lv_at hl 0 rfl) ?_
  refine lv_iload_n hx hb dX5_arityAt_4 rfl (lv_at hl 1 rfl) ?_
  refine xcalli (wr := ([] : va_W)) (w2 := fun (u5 : Unit) => (wT cI aT zT)) (va_runV (As := [.int x1]) (rest := [.ref tA]) ⟨hx, hb, hml, hown, hts⟩ (mX5_symbolAt l D cI cO tA tS aT zT x1 _ h) (cwV 1 hts gX5_arityAt_X5_symbolAt rfl rfl rfl (by decide +kernel) ⟨Nat.le_of_ble_eq_true rfl, Nat.le_of_ble_eq_true rfl⟩) (xpreV hP hD hS hA hK hE [0, 1, 2] rfl rfl 5 0 rfl rfl) rfl rfl hl.1 rfl (lv_room (Nat.le_of_ble_eq_true rfl)) dX5_arityAt_5 ⟨Nat.le_refl 0, Nat.le_refl 0⟩) hP hD hS hA [0, 1, 2] [] [0, 1, 2] rfl rfl rfl (by decide) rfl (fun _ => rfl) (fun r5 u5 H locs h hP hD hS => ?_)
  obtain ⟨hi, h⟩ := h
  refine va_ti (v := .int (xar r5.toNatClampNeg)) hx hb hE.2.2.1 hS hi rfl dX5_arityAt_8 ?_
  exact xiret (w := (w_X5_arityAt cI cO aT zT)) () hx hb hr hlocks h hP hK hD hS dX5_arityAt_9
theorem dX5_firstAt_0 : decode cX5_firstAt 0 = .ok (.aload_n 0, 1) := by decide +kernel
theorem dX5_firstAt_1 : decode cX5_firstAt 1 = .ok (.getfield 9, 3) := by decide +kernel
theorem dX5_firstAt_4 : decode cX5_firstAt 4 = .ok (.iload_n 1, 1) := by decide +kernel
theorem dX5_firstAt_5 : decode cX5_firstAt 5 = .ok (.iaload, 1) := by decide +kernel
theorem dX5_firstAt_6 : decode cX5_firstAt 6 = .ok (.bipush 10, 2) := by decide +kernel
theorem dX5_firstAt_8 : decode cX5_firstAt 8 = .ok (.ishr, 1) := by decide +kernel
theorem dX5_firstAt_9 : decode cX5_firstAt 9 = .ok (.sipush 1023, 3) := by decide +kernel
theorem dX5_firstAt_12 : decode cX5_firstAt 12 = .ok (.iand, 1) := by decide +kernel
theorem dX5_firstAt_13 : decode cX5_firstAt 13 = .ok (.ireturn, 1) := by decide +kernel
theorem jX5_firstAt_X5 : ∀ w ∈ wsX50, w ∈ wsX5_firstAt := by decide +kernel
abbrev w_X5_firstAt (cI cO : ClassId) (aT : Nat → Nat) (zT : CS) : (Unit) → va_W := fun u => (wT cI aT zT)
set_option maxRecDepth 100000 in
set_option maxHeartbeats 8000000 in
theorem mX5_firstAt (l : Launch) (D : va_G) (cI cO : ClassId) (tA tS : Nat) (aT : Nat → Nat) (zT : CS) (x1 : Int32) (sz : Nat) {post : Int32 → (Unit) → Prop} (h : qX5_firstAt post x1 zT) : Met l yX5_firstAt wsX5_firstAt ({ frames := 0, cells := 0, slots := 0, locals := 0 } : Room) (xPre D cI cO tA tS [.ref (aT 0), .int x1] (wT cI aT zT) sz) (va_Qi post (xB D cI cO (va_A (wT cI aT zT) sz) (w_X5_firstAt cI cO aT zT)) (va_A (wT cI aT zT) sz)) 0 0 (va_A (wT cI aT zT) sz) := by
  refine xMet D cI cO tA tS (fun A => va_Qi post (xB D cI cO A (w_X5_firstAt cI cO aT zT)) A) (cc := cX5_firstAt) (maxL := 2) (ret := (some .int)) (by decide) rfl (Nat.le_of_ble_eq_true rfl) ?_
  intro p e s m below meth c A ls hx hb hr hts hown hlocks hin hml hA hS hP hK hD hE hl
  have hown : s.vm.findClass RX5 = some m.cls := hown
  have hl : lv_has ls 2 [(0, .ref (aT 0)), (1, .int x1)] := hl
  refine lv_aload_n hx hb dX5_firstAt_0 rfl (lv_at hl 0 rfl) ?_
  refine va_get (D := D) (ci := 5) (v := .ref (aT 1)) (C := RX5) (T := TX5) (N := 3) hx hb hts jX5_firstAt_X5 hown hK hP 0 rfl rfl 0 (by decide) (hts (.fieldLink RX5 9 "BrotherAutomata$SmallTrees" "contents" "[I") (List.mem_of_getElem? (i := 1) rfl)) (fun _ h9 => h9) rfl dX5_firstAt_1 ?_
  refine lv_iload_n hx hb dX5_firstAt_4 rfl (lv_at hl 1 rfl) ?_
  obtain ⟨hi, h⟩ := h
  refine va_iald hx hb hK hP 1 0 rfl rfl hi dX5_firstAt_5 ?_
  refine lv_bipush (v := 10) hx hb dX5_firstAt_6 (by decide) ?_
  refine lv_ishr hx hb dX5_firstAt_8 ?_
  refine lv_sipush (v := 1023) hx hb dX5_firstAt_9 (by decide) ?_
  refine lv_iand hx hb dX5_firstAt_12 ?_
  exact xiret (w := (w_X5_firstAt cI cO aT zT)) () hx hb hr hlocks h hP hK hD hS dX5_firstAt_13
theorem dX5_secondAt_0 : decode cX5_secondAt 0 = .ok (.aload_n 0, 1) := by decide +kernel
theorem dX5_secondAt_1 : decode cX5_secondAt 1 = .ok (.getfield 9, 3) := by decide +kernel
theorem dX5_secondAt_4 : decode cX5_secondAt 4 = .ok (.iload_n 1, 1) := by decide +kernel
theorem dX5_secondAt_5 : decode cX5_secondAt 5 = .ok (.iaload, 1) := by decide +kernel
theorem dX5_secondAt_6 : decode cX5_secondAt 6 = .ok (.sipush 1023, 3) := by decide +kernel
theorem dX5_secondAt_9 : decode cX5_secondAt 9 = .ok (.iand, 1) := by decide +kernel
theorem dX5_secondAt_10 : decode cX5_secondAt 10 = .ok (.ireturn, 1) := by decide +kernel
theorem jX5_secondAt_X5 : ∀ w ∈ wsX50, w ∈ wsX5_secondAt := by decide +kernel
abbrev w_X5_secondAt (cI cO : ClassId) (aT : Nat → Nat) (zT : CS) : (Unit) → va_W := fun u => (wT cI aT zT)
set_option maxRecDepth 100000 in
set_option maxHeartbeats 8000000 in
theorem mX5_secondAt (l : Launch) (D : va_G) (cI cO : ClassId) (tA tS : Nat) (aT : Nat → Nat) (zT : CS) (x1 : Int32) (sz : Nat) {post : Int32 → (Unit) → Prop} (h : qX5_secondAt post x1 zT) : Met l yX5_secondAt wsX5_secondAt ({ frames := 0, cells := 0, slots := 0, locals := 0 } : Room) (xPre D cI cO tA tS [.ref (aT 0), .int x1] (wT cI aT zT) sz) (va_Qi post (xB D cI cO (va_A (wT cI aT zT) sz) (w_X5_secondAt cI cO aT zT)) (va_A (wT cI aT zT) sz)) 0 0 (va_A (wT cI aT zT) sz) := by
  refine xMet D cI cO tA tS (fun A => va_Qi post (xB D cI cO A (w_X5_secondAt cI cO aT zT)) A) (cc := cX5_secondAt) (maxL := 2) (ret := (some .int)) (by decide) rfl (Nat.le_of_ble_eq_true rfl) ?_
  intro p e s m below meth c A ls hx hb hr hts hown hlocks hin hml hA hS hP hK hD hE hl
  have hown : s.vm.findClass RX5 = some m.cls := hown
  have hl : lv_has ls 2 [(0, .ref (aT 0)), (1, .int x1)] := hl
  refine lv_aload_n hx hb dX5_secondAt_0 rfl (lv_at hl 0 rfl) ?_
  refine va_get (D := D) (ci := 5) (v := .ref (aT 1)) (C := RX5) (T := TX5) (N := 3) hx hb hts jX5_secondAt_X5 hown hK hP 0 rfl rfl 0 (by decide) (hts (.fieldLink RX5 9 "BrotherAutomata$SmallTrees" "contents" "[I") (List.mem_of_getElem? (i := 1) rfl)) (fun _ h9 => h9) rfl dX5_secondAt_1 ?_
  refine lv_iload_n hx hb dX5_secondAt_4 rfl (lv_at hl 1 rfl) ?_
  obtain ⟨hi, h⟩ := h
  refine va_iald hx hb hK hP 1 0 rfl rfl hi dX5_secondAt_5 ?_
  refine lv_sipush (v := 1023) hx hb dX5_secondAt_6 (by decide) ?_
  refine lv_iand hx hb dX5_secondAt_9 ?_
  exact xiret (w := (w_X5_secondAt cI cO aT zT)) () hx hb hr hlocks h hP hK hD hS dX5_secondAt_10
theorem dX5_content_0 : decode cX5_content 0 = .ok (.iload_n 0, 1) := by decide +kernel
theorem dX5_content_1 : decode cX5_content 1 = .ok (.bipush 10, 2) := by decide +kernel
theorem dX5_content_3 : decode cX5_content 3 = .ok (.ishl, 1) := by decide +kernel
theorem dX5_content_4 : decode cX5_content 4 = .ok (.iload_n 1, 1) := by decide +kernel
theorem dX5_content_5 : decode cX5_content 5 = .ok (.ior, 1) := by decide +kernel
theorem dX5_content_6 : decode cX5_content 6 = .ok (.bipush 10, 2) := by decide +kernel
theorem dX5_content_8 : decode cX5_content 8 = .ok (.ishl, 1) := by decide +kernel
theorem dX5_content_9 : decode cX5_content 9 = .ok (.iload_n 2, 1) := by decide +kernel
theorem dX5_content_10 : decode cX5_content 10 = .ok (.ior, 1) := by decide +kernel
theorem dX5_content_11 : decode cX5_content 11 = .ok (.ireturn, 1) := by decide +kernel
abbrev w_X5_content (cI cO : ClassId)   : (Unit) → va_W := fun u => ([] : va_W)
set_option maxRecDepth 100000 in
set_option maxHeartbeats 8000000 in
theorem mX5_content (l : Launch) (D : va_G) (cI cO : ClassId) (tA tS : Nat)   (x0 : Int32) (x1 : Int32) (x2 : Int32) (sz : Nat) {post : Int32 → (Unit) → Prop} (h : qX5_content post x0 x1 x2) : Met l yX5_content wsX5_content ({ frames := 0, cells := 0, slots := 0, locals := 0 } : Room) (xPre D cI cO tA tS [.int x0, .int x1, .int x2] ([] : va_W) sz) (va_Qi post (xB D cI cO (va_A ([] : va_W) sz) (w_X5_content cI cO)) (va_A ([] : va_W) sz)) 0 0 (va_A ([] : va_W) sz) := by
  refine xMet D cI cO tA tS (fun A => va_Qi post (xB D cI cO A (w_X5_content cI cO)) A) (cc := cX5_content) (maxL := 3) (ret := (some .int)) (by decide) rfl (Nat.le_of_ble_eq_true rfl) ?_
  intro p e s m below meth c A ls hx hb hr hts hown hlocks hin hml hA hS hP hK hD hE hl
  have hown : s.vm.findClass RX5 = some m.cls := hown
  have hl : lv_has ls 3 [(0, .int x0), (1, .int x1), (2, .int x2)] := hl
  refine lv_iload_n hx hb dX5_content_0 rfl (lv_at hl 0 rfl) ?_
  refine lv_bipush (v := 10) hx hb dX5_content_1 (by decide) ?_
  refine lv_ishl hx hb dX5_content_3 ?_
  refine lv_iload_n hx hb dX5_content_4 rfl (lv_at hl 1 rfl) ?_
  refine lv_ior hx hb dX5_content_5 ?_
  refine lv_bipush (v := 10) hx hb dX5_content_6 (by decide) ?_
  refine lv_ishl hx hb dX5_content_8 ?_
  refine lv_iload_n hx hb dX5_content_9 rfl (lv_at hl 2 rfl) ?_
  refine lv_ior hx hb dX5_content_10 ?_
  exact xiret (w := (w_X5_content cI cO)) () hx hb hr hlocks h hP hK hD hS dX5_content_11
set_option maxRecDepth 20000 in
theorem ggX5_make_X5_content : GoodIn wsX5_make wsX5_content := goodIn_r _ [11] (by decide +kernel) (by decide +kernel)
set_option maxRecDepth 20000 in
theorem gX5_make_X5_content : GoodIn wsX5_make (va_wsS RX5 41 yX5_content wsX5_content) := goodIn_app (goodIn_of _ (by decide +kernel)) ggX5_make_X5_content
theorem dX5_make_0 : decode cX5_make 0 = .ok (.aload_n 0, 1) := by decide +kernel
theorem dX5_make_1 : decode cX5_make 1 = .ok (.getfield 18, 3) := by decide +kernel
theorem dX5_make_4 : decode cX5_make 4 = .ok (.sipush 2278, 3) := by decide +kernel
theorem dX5_make_7 : decode cX5_make 7 = .ok (.if_icmp .ge 66, 3) := by decide +kernel
theorem dX5_make_10 : decode cX5_make 10 = .ok (.aload_n 0, 1) := by decide +kernel
theorem dX5_make_11 : decode cX5_make 11 = .ok (.getfield 9, 3) := by decide +kernel
theorem dX5_make_14 : decode cX5_make 14 = .ok (.aload_n 0, 1) := by decide +kernel
theorem dX5_make_15 : decode cX5_make 15 = .ok (.getfield 18, 3) := by decide +kernel
theorem dX5_make_18 : decode cX5_make 18 = .ok (.iload_n 1, 1) := by decide +kernel
theorem dX5_make_19 : decode cX5_make 19 = .ok (.iload_n 2, 1) := by decide +kernel
theorem dX5_make_20 : decode cX5_make 20 = .ok (.iload_n 3, 1) := by decide +kernel
theorem dX5_make_21 : decode cX5_make 21 = .ok (.invokestatic 41, 3) := by decide +kernel
theorem dX5_make_24 : decode cX5_make 24 = .ok (.iastore, 1) := by decide +kernel
theorem dX5_make_25 : decode cX5_make 25 = .ok (.aload_n 0, 1) := by decide +kernel
theorem dX5_make_26 : decode cX5_make 26 = .ok (.getfield 15, 3) := by decide +kernel
theorem dX5_make_29 : decode cX5_make 29 = .ok (.aload_n 0, 1) := by decide +kernel
theorem dX5_make_30 : decode cX5_make 30 = .ok (.getfield 18, 3) := by decide +kernel
theorem dX5_make_33 : decode cX5_make 33 = .ok (.getstatic 45, 3) := by decide +kernel
theorem dX5_make_36 : decode cX5_make 36 = .ok (.iload_n 1, 1) := by decide +kernel
theorem dX5_make_37 : decode cX5_make 37 = .ok (.iaload, 1) := by decide +kernel
theorem dX5_make_38 : decode cX5_make 38 = .ok (.ifCond .ne 7, 3) := by decide +kernel
theorem dX5_make_41 : decode cX5_make 41 = .ok (.iconst 0, 1) := by decide +kernel
theorem dX5_make_42 : decode cX5_make 42 = .ok (.goto 20, 3) := by decide +kernel
theorem dX5_make_45 : decode cX5_make 45 = .ok (.iconst 1, 1) := by decide +kernel
theorem dX5_make_46 : decode cX5_make 46 = .ok (.aload_n 0, 1) := by decide +kernel
theorem dX5_make_47 : decode cX5_make 47 = .ok (.getfield 15, 3) := by decide +kernel
theorem dX5_make_50 : decode cX5_make 50 = .ok (.iload_n 2, 1) := by decide +kernel
theorem dX5_make_51 : decode cX5_make 51 = .ok (.iaload, 1) := by decide +kernel
theorem dX5_make_52 : decode cX5_make 52 = .ok (.aload_n 0, 1) := by decide +kernel
theorem dX5_make_53 : decode cX5_make 53 = .ok (.getfield 15, 3) := by decide +kernel
theorem dX5_make_56 : decode cX5_make 56 = .ok (.iload_n 3, 1) := by decide +kernel
theorem dX5_make_57 : decode cX5_make 57 = .ok (.iaload, 1) := by decide +kernel
theorem dX5_make_58 : decode cX5_make 58 = .ok (.invokestatic 48, 3) := by decide +kernel
theorem dX5_make_61 : decode cX5_make 61 = .ok (.iadd, 1) := by decide +kernel
theorem dX5_make_62 : decode cX5_make 62 = .ok (.iastore, 1) := by decide +kernel
theorem dX5_make_63 : decode cX5_make 63 = .ok (.aload_n 0, 1) := by decide +kernel
theorem dX5_make_64 : decode cX5_make 64 = .ok (.dup, 1) := by decide +kernel
theorem dX5_make_65 : decode cX5_make 65 = .ok (.getfield 18, 3) := by decide +kernel
theorem dX5_make_68 : decode cX5_make 68 = .ok (.iconst 1, 1) := by decide +kernel
theorem dX5_make_69 : decode cX5_make 69 = .ok (.iadd, 1) := by decide +kernel
theorem dX5_make_70 : decode cX5_make 70 = .ok (.putfield 18, 3) := by decide +kernel
theorem dX5_make_73 : decode cX5_make 73 = .ok (.return_, 1) := by decide +kernel
theorem jX5_make_X5 : ∀ w ∈ wsX50, w ∈ wsX5_make := by decide +kernel
abbrev w_X5_make (cI cO : ClassId) (aT : Nat → Nat)  : ((CS)) → va_W := fun u => (wT cI aT u)
set_option maxRecDepth 100000 in
set_option maxHeartbeats 8000000 in
theorem mX5_make (l : Launch) (D : va_G) (cI cO : ClassId) (tA tS : Nat) (aT : Nat → Nat) (zT : CS) (x1 : Int32) (x2 : Int32) (x3 : Int32) (sz : Nat) {post : ((CS)) → Prop} (h : qX5_make post x1 x2 x3 zT) : Met l yX5_make wsX5_make ({ frames := 1, cells := 0, slots := 0, locals := 22 } : Room) (xPre D cI cO tA tS [.ref (aT 0), .int x1, .int x2, .int x3] (wT cI aT zT) sz) (va_Qv post (xB D cI cO (va_A (wT cI aT zT) sz) (w_X5_make cI cO aT)) (va_A (wT cI aT zT) sz)) 0 0 (va_A (wT cI aT zT) sz) := by
  refine xMet D cI cO tA tS (fun A => va_Qv post (xB D cI cO A (w_X5_make cI cO aT)) A) (cc := cX5_make) (maxL := 4) (ret := none) (by decide) rfl (Nat.le_of_ble_eq_true rfl) ?_
  intro p e s m below meth c A ls hx hb hr hts hown hlocks hin hml hA hS hP hK hD hE hl
  have hown : s.vm.findClass RX5 = some m.cls := hown
  have hl : lv_has ls 4 [(0, .ref (aT 0)), (1, .int x1), (2, .int x2), (3, .int x3)] := hl
  have g62 : ∀ (w1 : Int32) (w2 : Int32) (zT : CS) (H : Heap) (locs : List Loc) (ls : Array Slot), qX5_make_62 post x1 x2 x3 w1 w2 zT → va_P D vwCl (wT cI aT zT) H → va_D A (wT cI aT zT) → va_S A s.heap H locs → lv_has ls 4 [(0, .ref (aT 0)), (1, .int x1), (2, .int x2), (3, .int x3)] → W p l e ({ frames := 1, cells := 0, slots := 0, locals := 22 } : Room) s m ([.ref (aT 0), .int x1, .int x2, .int x3] : List Value).toArray below meth c H locs 0 0 (MQ below (va_Qv post (xB D cI cO A (w_X5_make cI cO aT)) A) ([.ref (aT 0), .int x1, .int x2, .int x3] : List Value).toArray s 0 0 A) (F0 m 62 ls [.int w2, .int w1, .ref (aT 2)]) := by
    intro w1 w2 zT H locs ls h hP hD hS hl
    obtain ⟨hi, h⟩ := h
    refine va_iast hx hb hK hP hD hS 2 0 rfl rfl hi dX5_make_62 (fun H locs hP hD hS => ?_)
    have hP : va_P D vwCl (wT cI aT (st zT 1 w1.toNatClampNeg w2)) H := hP
    have hD : va_D A (wT cI aT (st zT 1 w1.toNatClampNeg w2)) := hD
    refine lv_aload_n hx hb dX5_make_63 rfl (lv_at hl 0 rfl) ?_
    refine lv_dup hx hb dX5_make_64 rfl ?_
    refine va_get (D := D) (ci := 5) (v := .int ((st zT 1 w1.toNatClampNeg w2) 2 0)) (C := RX5) (T := TX5) (N := 3) hx hb hts jX5_make_X5 hown hK hP 0 rfl rfl 2 (by decide) (hts (.fieldLink RX5 18 "BrotherAutomata$SmallTrees" "made" "I") (List.mem_of_getElem? (i := 1) rfl)) (fun _ h9 => h9) rfl dX5_make_65 ?_
    refine lv_iconst (v := 1) hx hb dX5_make_68 (by decide) ?_
    refine lv_iadd hx hb dX5_make_69 ?_
    refine va_put (D := D) (ci := 5) (v := .int (((st zT 1 w1.toNatClampNeg w2) 2 0) + (1 : Int32))) (ty := .int) (C := RX5) (T := TX5) (N := 3) hx hb hts jX5_make_X5 tyX5 tyX5_ok nmX5 hown hK hP hD hS 0 rfl rfl 2 (by decide) (hts (.fieldLink RX5 18 "BrotherAutomata$SmallTrees" "made" "I") (List.mem_of_getElem? (i := 1) rfl)) (fun _ h9 => h9) rfl (by decide +kernel) rfl rfl (Nat.le_of_ble_eq_true rfl) dX5_make_70 (fun H locs hP hD hS => ?_)
    have hP : va_P D vwCl (wT cI aT (st (st zT 1 w1.toNatClampNeg w2) 2 0 (((st zT 1 w1.toNatClampNeg w2) 2 0) + (1 : Int32)))) H := hP
    have hD : va_D A (wT cI aT (st (st zT 1 w1.toNatClampNeg w2) 2 0 (((st zT 1 w1.toNatClampNeg w2) 2 0) + (1 : Int32)))) := hD
    exact xvret (w := (w_X5_make cI cO aT)) (st (st zT 1 w1.toNatClampNeg w2) 2 0 (((st zT 1 w1.toNatClampNeg w2) 2 0) + (1 : Int32))) hx hb hr hlocks h hP hK hD hS dX5_make_73
  refine lv_aload_n hx hb dX5_make_0 rfl (lv_at hl 0 rfl) ?_
  refine va_get (D := D) (ci := 5) (v := .int (zT 2 0)) (C := RX5) (T := TX5) (N := 3) hx hb hts jX5_make_X5 hown hK hP 0 rfl rfl 2 (by decide) (hts (.fieldLink RX5 18 "BrotherAutomata$SmallTrees" "made" "I") (List.mem_of_getElem? (i := 1) rfl)) (fun _ h9 => h9) rfl dX5_make_1 ?_
  refine lv_sipush (v := 2278) hx hb dX5_make_4 (by decide) ?_
  obtain ⟨hh1, hh2⟩ := h
  refine lv_icmp_ge (tgt := 73) hx hb dX5_make_7 (by decide) (fun hc => ?_) (fun hc => ?_)
  · have h := hh1 hc
    exact xvret (w := (w_X5_make cI cO aT)) (zT) hx hb hr hlocks h hP hK hD hS dX5_make_73
  · have h := hh2 hc
    refine lv_aload_n hx hb dX5_make_10 rfl (lv_at hl 0 rfl) ?_
    refine va_get (D := D) (ci := 5) (v := .ref (aT 1)) (C := RX5) (T := TX5) (N := 3) hx hb hts jX5_make_X5 hown hK hP 0 rfl rfl 0 (by decide) (hts (.fieldLink RX5 9 "BrotherAutomata$SmallTrees" "contents" "[I") (List.mem_of_getElem? (i := 2) rfl)) (fun _ h9 => h9) rfl dX5_make_11 ?_
    refine lv_aload_n hx hb dX5_make_14 rfl (lv_at hl 0 rfl) ?_
    refine va_get (D := D) (ci := 5) (v := .int (zT 2 0)) (C := RX5) (T := TX5) (N := 3) hx hb hts jX5_make_X5 hown hK hP 0 rfl rfl 2 (by decide) (hts (.fieldLink RX5 18 "BrotherAutomata$SmallTrees" "made" "I") (List.mem_of_getElem? (i := 1) rfl)) (fun _ h9 => h9) rfl dX5_make_15 ?_
    refine lv_iload_n hx hb dX5_make_18 rfl (lv_at hl 1 rfl) ?_
    refine lv_iload_n hx hb dX5_make_19 rfl (lv_at hl 2 rfl) ?_
    refine lv_iload_n hx hb dX5_make_20 rfl (lv_at hl 3 rfl) ?_
    refine xcalli (wr := (wT cI aT zT)) (w2 := fun (u21 : Unit) => (wT cI aT zT)) (va_runS (As := [.int x1, .int x2, .int x3]) (rest := [.int (zT 2 0), .ref (aT 1)]) ⟨hx, hb, hml, hown, hts⟩ (mX5_content l D cI cO tA tS x1 x2 x3 _ h) (va_cwS 3 hts gX5_make_X5_content rfl rfl rfl (by decide +kernel) ⟨Nat.le_of_ble_eq_true rfl, Nat.le_of_ble_eq_true rfl⟩) (xpreP hP hD hS hA hK hE [] rfl rfl) rfl rfl hl.1 rfl (lv_room (Nat.le_of_ble_eq_true rfl)) dX5_make_21 ⟨Nat.le_refl 0, Nat.le_refl 0⟩) hP hD hS hA [] [0, 1, 2] [0, 1, 2] rfl rfl rfl (by decide) rfl (fun _ => rfl) (fun r21 u21 H locs h hP hD hS => ?_)
    obtain ⟨hi, h⟩ := h
    refine va_iast hx hb hK hP hD hS 1 0 rfl rfl hi dX5_make_24 (fun H locs hP hD hS => ?_)
    have hP : va_P D vwCl (wT cI aT (st zT 0 (zT 2 0).toNatClampNeg r21)) H := hP
    have hD : va_D A (wT cI aT (st zT 0 (zT 2 0).toNatClampNeg r21)) := hD
    refine lv_aload_n hx hb dX5_make_25 rfl (lv_at hl 0 rfl) ?_
    refine va_get (D := D) (ci := 5) (v := .ref (aT 2)) (C := RX5) (T := TX5) (N := 3) hx hb hts jX5_make_X5 hown hK hP 0 rfl rfl 1 (by decide) (hts (.fieldLink RX5 15 "BrotherAutomata$SmallTrees" "heights" "[I") (List.mem_of_getElem? (i := 3) rfl)) (fun _ h9 => h9) rfl dX5_make_26 ?_
    refine lv_aload_n hx hb dX5_make_29 rfl (lv_at hl 0 rfl) ?_
    refine va_get (D := D) (ci := 5) (v := .int ((st zT 0 (zT 2 0).toNatClampNeg r21) 2 0)) (C := RX5) (T := TX5) (N := 3) hx hb hts jX5_make_X5 hown hK hP 0 rfl rfl 2 (by decide) (hts (.fieldLink RX5 18 "BrotherAutomata$SmallTrees" "made" "I") (List.mem_of_getElem? (i := 1) rfl)) (fun _ h9 => h9) rfl dX5_make_30 ?_
    refine va_getsN hx hb hE.2.1 hS hown (va_Nw.use (w := .fieldLinkNest RX5 45 "BrotherAutomata" "ARITY" "[I" "BrotherAutomata") rfl (hE.1 _ (List.mem_of_getElem? (i := 1) rfl))) (fun _ h9 => h9) dX5_make_33 ?_
    refine lv_iload_n hx hb dX5_make_36 rfl (lv_at hl 1 rfl) ?_
    obtain ⟨hi, h⟩ := h
    refine va_ti (v := .int (xar x1.toNatClampNeg)) hx hb hE.2.2.1 hS hi rfl dX5_make_37 ?_
    obtain ⟨hh1, hh2⟩ := h
    refine lv_if_ne (tgt := 45) hx hb dX5_make_38 (by decide) (fun hc => ?_) (fun hc => ?_)
    · have h := hh2 hc
      refine lv_iconst (v := 1) hx hb dX5_make_45 (by decide) ?_
      refine lv_aload_n hx hb dX5_make_46 rfl (lv_at hl 0 rfl) ?_
      refine va_get (D := D) (ci := 5) (v := .ref (aT 2)) (C := RX5) (T := TX5) (N := 3) hx hb hts jX5_make_X5 hown hK hP 0 rfl rfl 1 (by decide) (hts (.fieldLink RX5 15 "BrotherAutomata$SmallTrees" "heights" "[I") (List.mem_of_getElem? (i := 3) rfl)) (fun _ h9 => h9) rfl dX5_make_47 ?_
      refine lv_iload_n hx hb dX5_make_50 rfl (lv_at hl 2 rfl) ?_
      obtain ⟨hi, h⟩ := h
      refine va_iald hx hb hK hP 2 0 rfl rfl hi dX5_make_51 ?_
      refine lv_aload_n hx hb dX5_make_52 rfl (lv_at hl 0 rfl) ?_
      refine va_get (D := D) (ci := 5) (v := .ref (aT 2)) (C := RX5) (T := TX5) (N := 3) hx hb hts jX5_make_X5 hown hK hP 0 rfl rfl 1 (by decide) (hts (.fieldLink RX5 15 "BrotherAutomata$SmallTrees" "heights" "[I") (List.mem_of_getElem? (i := 3) rfl)) (fun _ h9 => h9) rfl dX5_make_53 ?_
      refine lv_iload_n hx hb dX5_make_56 rfl (lv_at hl 3 rfl) ?_
      obtain ⟨hi, h⟩ := h
      refine va_iald hx hb hK hP 2 0 rfl rfl hi dX5_make_57 ?_
      refine va_mmax hx hb (hml.trans hl.1.symm) hown (hts (.methodLink RX5 48 Lib.Math.max.name) (List.mem_of_getElem? (i := 4) rfl)) (hts (.static Lib.Math.max.name) (List.mem_of_getElem? (i := 5) rfl)) (hts (.initialized "java/lang/Math") (List.mem_of_getElem? (i := 6) rfl)) (hts (.code Lib.Math.max.name Lib.Math.max.code 2 (some .int)) (List.mem_of_getElem? (i := 7) rfl)) (Nat.le_of_ble_eq_true rfl) (Nat.le_of_ble_eq_true rfl) (Nat.zero_le _) (Nat.zero_le _) dX5_make_58 ?_
      refine lv_iadd hx hb dX5_make_61 ?_
      exact g62 ((st zT 0 (zT 2 0).toNatClampNeg r21) 2 0) ((1 : Int32) + (if (((st zT 0 (zT 2 0).toNatClampNeg r21) 1) x2.toNatClampNeg) < (((st zT 0 (zT 2 0).toNatClampNeg r21) 1) x3.toNatClampNeg) then (((st zT 0 (zT 2 0).toNatClampNeg r21) 1) x3.toNatClampNeg) else (((st zT 0 (zT 2 0).toNatClampNeg r21) 1) x2.toNatClampNeg))) (st zT 0 (zT 2 0).toNatClampNeg r21) _ _ _ h hP hD hS hl
    · have h := hh1 hc
      refine lv_iconst (v := 0) hx hb dX5_make_41 (by decide) ?_
      refine lv_goto (tgt := 62) hx hb dX5_make_42 (by decide) ?_
      exact g62 ((st zT 0 (zT 2 0).toNatClampNeg r21) 2 0) (0 : Int32) (st zT 0 (zT 2 0).toNatClampNeg r21) _ _ _ h hP hD hS hl
set_option maxRecDepth 20000 in
theorem ggX5_makeUnary_X5_make : GoodIn wsX5_makeUnary wsX5_make := goodIn_r _ [5, 6, 7, 8, 9, 10, 11, 12, 13, 14, 4, 15, 16, 17, 18] (by decide +kernel) (by decide +kernel)
set_option maxRecDepth 20000 in
theorem gX5_makeUnary_X5_make : GoodIn wsX5_makeUnary (wsV RX5 22 RX5 yX5_make wsX5_make) := goodIn_app (goodIn_of _ (by decide +kernel)) ggX5_makeUnary_X5_make
theorem dX5_makeUnary_0 : decode cX5_makeUnary 0 = .ok (.getstatic 34, 3) := by decide +kernel
theorem dX5_makeUnary_3 : decode cX5_makeUnary 3 = .ok (.iload_n 1, 1) := by decide +kernel
theorem dX5_makeUnary_4 : decode cX5_makeUnary 4 = .ok (.iconst 1, 1) := by decide +kernel
theorem dX5_makeUnary_5 : decode cX5_makeUnary 5 = .ok (.isub, 1) := by decide +kernel
theorem dX5_makeUnary_6 : decode cX5_makeUnary 6 = .ok (.iaload, 1) := by decide +kernel
theorem dX5_makeUnary_7 : decode cX5_makeUnary 7 = .ok (.istore_n 2, 1) := by decide +kernel
theorem dX5_makeUnary_8 : decode cX5_makeUnary 8 = .ok (.iload_n 2, 1) := by decide +kernel
theorem dX5_makeUnary_9 : decode cX5_makeUnary 9 = .ok (.getstatic 34, 3) := by decide +kernel
theorem dX5_makeUnary_12 : decode cX5_makeUnary 12 = .ok (.iload_n 1, 1) := by decide +kernel
theorem dX5_makeUnary_13 : decode cX5_makeUnary 13 = .ok (.iaload, 1) := by decide +kernel
theorem dX5_makeUnary_14 : decode cX5_makeUnary 14 = .ok (.if_icmp .ge 16, 3) := by decide +kernel
theorem dX5_makeUnary_17 : decode cX5_makeUnary 17 = .ok (.aload_n 0, 1) := by decide +kernel
theorem dX5_makeUnary_18 : decode cX5_makeUnary 18 = .ok (.iconst 2, 1) := by decide +kernel
theorem dX5_makeUnary_19 : decode cX5_makeUnary 19 = .ok (.iload_n 2, 1) := by decide +kernel
theorem dX5_makeUnary_20 : decode cX5_makeUnary 20 = .ok (.iconst 0, 1) := by decide +kernel
theorem dX5_makeUnary_21 : decode cX5_makeUnary 21 = .ok (.invokevirtual 22, 3) := by decide +kernel
theorem dX5_makeUnary_24 : decode cX5_makeUnary 24 = .ok (.iinc 2 1, 3) := by decide +kernel
theorem dX5_makeUnary_27 : decode cX5_makeUnary 27 = .ok (.goto (-19), 3) := by decide +kernel
theorem dX5_makeUnary_30 : decode cX5_makeUnary 30 = .ok (.return_, 1) := by decide +kernel
abbrev w_X5_makeUnary (cI cO : ClassId) (aT : Nat → Nat)  : ((CS)) → va_W := fun u => (wT cI aT u)
set_option maxRecDepth 100000 in
set_option maxHeartbeats 8000000 in
theorem mX5_makeUnary (l : Launch) (D : va_G) (cI cO : ClassId) (tA tS : Nat) (aT : Nat → Nat) (zT : CS) (x1 : Int32) (sz : Nat) {post : ((CS)) → Prop} (h : qX5_makeUnary post x1 zT) : Met l yX5_makeUnary wsX5_makeUnary ({ frames := 2, cells := 0, slots := 0, locals := 45 } : Room) (xPre D cI cO tA tS [.ref (aT 0), .int x1] (wT cI aT zT) sz) (va_Qv post (xB D cI cO (va_A (wT cI aT zT) sz) (w_X5_makeUnary cI cO aT)) (va_A (wT cI aT zT) sz)) 0 0 (va_A (wT cI aT zT) sz) := by
  refine xMet D cI cO tA tS (fun A => va_Qv post (xB D cI cO A (w_X5_makeUnary cI cO aT)) A) (cc := cX5_makeUnary) (maxL := 3) (ret := none) (by decide) rfl (Nat.le_of_ble_eq_true rfl) ?_
  intro p e s m below meth c A ls hx hb hr hts hown hlocks hin hml hA hS hP hK hD hE hl
  have hown : s.vm.findClass RX5 = some m.cls := hown
  have hl : lv_has ls 3 [(0, .ref (aT 0)), (1, .int x1)] := hl
  have g8 : ∀ (n : Nat) (y2 : Int32) (zT : CS) (H : Heap) (locs : List Loc) (ls : Array Slot), qX5_makeUnary_8 post x1 n y2 zT → va_P D vwCl (wT cI aT zT) H → va_D A (wT cI aT zT) → va_S A s.heap H locs → lv_has ls 3 [(2, .int y2), (0, .ref (aT 0)), (1, .int x1)] → W p l e ({ frames := 2, cells := 0, slots := 0, locals := 45 } : Room) s m ([.ref (aT 0), .int x1] : List Value).toArray below meth c H locs 0 0 (MQ below (va_Qv post (xB D cI cO A (w_X5_makeUnary cI cO aT)) A) ([.ref (aT 0), .int x1] : List Value).toArray s 0 0 A) (F0 m 8 ls []) := by
    intro n
    induction n with
    | zero => intro y2 zT H locs ls h; exact False.elim h
    | succ n hk8 =>
      intro y2 zT H locs ls h hP hD hS hl
      have h : qX5_makeUnary_8b post x1 (qX5_makeUnary_8 post x1 n) y2 zT := h
      refine lv_iload_n hx hb dX5_makeUnary_8 rfl (lv_at hl 0 rfl) ?_
      refine va_getsN hx hb hE.2.2.2.1 hS hown (va_Nw.use (w := .fieldLinkNest RX5 34 "BrotherAutomata" "START" "[I" "BrotherAutomata") rfl (hE.1 _ (List.mem_of_getElem? (i := 2) rfl))) (fun _ h9 => h9) dX5_makeUnary_9 ?_
      refine lv_iload_n hx hb dX5_makeUnary_12 rfl (lv_at hl 2 rfl) ?_
      obtain ⟨hi, h⟩ := h
      refine va_ti (v := .int (xst x1.toNatClampNeg)) hx hb hE.2.2.2.2 hS hi rfl dX5_makeUnary_13 ?_
      obtain ⟨hh1, hh2⟩ := h
      refine lv_icmp_ge (tgt := 30) hx hb dX5_makeUnary_14 (by decide) (fun hc => ?_) (fun hc => ?_)
      · have h := hh1 hc
        exact xvret (w := (w_X5_makeUnary cI cO aT)) (zT) hx hb hr hlocks h hP hK hD hS dX5_makeUnary_30
      · have h := hh2 hc
        refine lv_aload_n hx hb dX5_makeUnary_17 rfl (lv_at hl 1 rfl) ?_
        refine lv_iconst (v := 2) hx hb dX5_makeUnary_18 (by decide) ?_
        refine lv_iload_n hx hb dX5_makeUnary_19 rfl (lv_at hl 0 rfl) ?_
        refine lv_iconst (v := 0) hx hb dX5_makeUnary_20 (by decide) ?_
        refine xcallv (wr := ([] : va_W)) (w2 := fun (u21 : (CS)) => (wT cI aT u21)) (va_runV (As := [.int (2 : Int32), .int y2, .int (0 : Int32)]) (rest := []) ⟨hx, hb, hml, hown, hts⟩ (mX5_make l D cI cO tA tS aT zT (2 : Int32) y2 (0 : Int32) _ h) (cwV 3 hts gX5_makeUnary_X5_make rfl rfl rfl (by decide +kernel) ⟨Nat.le_of_ble_eq_true rfl, Nat.le_of_ble_eq_true rfl⟩) (xpreV hP hD hS hA hK hE [0, 1, 2] rfl rfl 5 0 rfl rfl) rfl rfl hl.1 rfl (lv_room (Nat.le_of_ble_eq_true rfl)) dX5_makeUnary_21 ⟨Nat.le_refl 0, Nat.le_refl 0⟩) hP hD hS hA [0, 1, 2] [] [0, 1, 2] rfl rfl rfl (by decide) rfl (fun _ => rfl) (fun u21 H locs h hP hD hS => ?_)
        refine lv_iinc (v := (y2 + (1 : Int32))) (lv' := [(2, .int (y2 + (1 : Int32))), (0, .ref (aT 0)), (1, .int x1)]) hx hb dX5_makeUnary_24 hl (k := 0) rfl rfl (by decide) rfl (fun ls hl => ?_)
        refine lv_goto (tgt := 8) hx hb dX5_makeUnary_27 (by decide) ?_
        exact hk8 (y2 + (1 : Int32)) u21 _ _ _ h hP hD hS hl
  refine va_getsN hx hb hE.2.2.2.1 hS hown (va_Nw.use (w := .fieldLinkNest RX5 34 "BrotherAutomata" "START" "[I" "BrotherAutomata") rfl (hE.1 _ (List.mem_of_getElem? (i := 2) rfl))) (fun _ h9 => h9) dX5_makeUnary_0 ?_
  refine lv_iload_n hx hb dX5_makeUnary_3 rfl (lv_at hl 1 rfl) ?_
  refine lv_iconst (v := 1) hx hb dX5_makeUnary_4 (by decide) ?_
  refine lv_isub hx hb dX5_makeUnary_5 ?_
  obtain ⟨hi, h⟩ := h
  refine va_ti (v := .int (xst (x1 - (1 : Int32)).toNatClampNeg)) hx hb hE.2.2.2.2 hS hi rfl dX5_makeUnary_6 ?_
  refine lv_istore_n (lv' := [(2, .int (xst (x1 - (1 : Int32)).toNatClampNeg)), (0, .ref (aT 0)), (1, .int x1)]) hx hb dX5_makeUnary_7 rfl hl (by decide) rfl (fun ls hl => ?_)
  obtain ⟨n0, h⟩ := h
  exact g8 n0 (xst (x1 - (1 : Int32)).toNatClampNeg) zT _ _ _ h hP hD hS hl
set_option maxRecDepth 20000 in
theorem ggX5_makeBinary_X6_sizeAt : GoodIn wsX5_makeBinary wsX6_sizeAt := goodIn_r _ [3, 4] (by decide +kernel) (by decide +kernel)
set_option maxRecDepth 20000 in
theorem gX5_makeBinary_X6_sizeAt_n37 : GoodIn wsX5_makeBinary (wsX6_sizeAt) := ggX5_makeBinary_X6_sizeAt
set_option maxRecDepth 20000 in
theorem ggX5_makeBinary_X5_make : GoodIn wsX5_makeBinary wsX5_make := goodIn_r _ [9, 10, 11, 12, 13, 14, 15, 16, 17, 18, 8, 19, 20, 21, 22] (by decide +kernel) (by decide +kernel)
set_option maxRecDepth 20000 in
theorem gX5_makeBinary_X5_make : GoodIn wsX5_makeBinary (wsV RX5 22 RX5 yX5_make wsX5_make) := goodIn_app (goodIn_of _ (by decide +kernel)) ggX5_makeBinary_X5_make
theorem dX5_makeBinary_0 : decode cX5_makeBinary 0 = .ok (.iconst 0, 1) := by decide +kernel
theorem dX5_makeBinary_1 : decode cX5_makeBinary 1 = .ok (.istore_n 3, 1) := by decide +kernel
theorem dX5_makeBinary_2 : decode cX5_makeBinary 2 = .ok (.iload_n 3, 1) := by decide +kernel
theorem dX5_makeBinary_3 : decode cX5_makeBinary 3 = .ok (.getstatic 34, 3) := by decide +kernel
theorem dX5_makeBinary_6 : decode cX5_makeBinary 6 = .ok (.iload_n 2, 1) := by decide +kernel
theorem dX5_makeBinary_7 : decode cX5_makeBinary 7 = .ok (.iconst 1, 1) := by decide +kernel
theorem dX5_makeBinary_8 : decode cX5_makeBinary 8 = .ok (.isub, 1) := by decide +kernel
theorem dX5_makeBinary_9 : decode cX5_makeBinary 9 = .ok (.iaload, 1) := by decide +kernel
theorem dX5_makeBinary_10 : decode cX5_makeBinary 10 = .ok (.if_icmp .ge 54, 3) := by decide +kernel
theorem dX5_makeBinary_13 : decode cX5_makeBinary 13 = .ok (.iload_n 2, 1) := by decide +kernel
theorem dX5_makeBinary_14 : decode cX5_makeBinary 14 = .ok (.iconst 1, 1) := by decide +kernel
theorem dX5_makeBinary_15 : decode cX5_makeBinary 15 = .ok (.isub, 1) := by decide +kernel
theorem dX5_makeBinary_16 : decode cX5_makeBinary 16 = .ok (.iload_n 3, 1) := by decide +kernel
theorem dX5_makeBinary_17 : decode cX5_makeBinary 17 = .ok (.invokestatic 37, 3) := by decide +kernel
theorem dX5_makeBinary_20 : decode cX5_makeBinary 20 = .ok (.isub, 1) := by decide +kernel
theorem dX5_makeBinary_21 : decode cX5_makeBinary 21 = .ok (.istore 4, 2) := by decide +kernel
theorem dX5_makeBinary_23 : decode cX5_makeBinary 23 = .ok (.getstatic 34, 3) := by decide +kernel
theorem dX5_makeBinary_26 : decode cX5_makeBinary 26 = .ok (.iload 4, 2) := by decide +kernel
theorem dX5_makeBinary_28 : decode cX5_makeBinary 28 = .ok (.iaload, 1) := by decide +kernel
theorem dX5_makeBinary_29 : decode cX5_makeBinary 29 = .ok (.istore 5, 2) := by decide +kernel
theorem dX5_makeBinary_31 : decode cX5_makeBinary 31 = .ok (.iload 5, 2) := by decide +kernel
theorem dX5_makeBinary_33 : decode cX5_makeBinary 33 = .ok (.getstatic 34, 3) := by decide +kernel
theorem dX5_makeBinary_36 : decode cX5_makeBinary 36 = .ok (.iload 4, 2) := by decide +kernel
theorem dX5_makeBinary_38 : decode cX5_makeBinary 38 = .ok (.iconst 1, 1) := by decide +kernel
theorem dX5_makeBinary_39 : decode cX5_makeBinary 39 = .ok (.iadd, 1) := by decide +kernel
theorem dX5_makeBinary_40 : decode cX5_makeBinary 40 = .ok (.iaload, 1) := by decide +kernel
theorem dX5_makeBinary_41 : decode cX5_makeBinary 41 = .ok (.if_icmp .ge 17, 3) := by decide +kernel
theorem dX5_makeBinary_44 : decode cX5_makeBinary 44 = .ok (.aload_n 0, 1) := by decide +kernel
theorem dX5_makeBinary_45 : decode cX5_makeBinary 45 = .ok (.iload_n 1, 1) := by decide +kernel
theorem dX5_makeBinary_46 : decode cX5_makeBinary 46 = .ok (.iload_n 3, 1) := by decide +kernel
theorem dX5_makeBinary_47 : decode cX5_makeBinary 47 = .ok (.iload 5, 2) := by decide +kernel
theorem dX5_makeBinary_49 : decode cX5_makeBinary 49 = .ok (.invokevirtual 22, 3) := by decide +kernel
theorem dX5_makeBinary_52 : decode cX5_makeBinary 52 = .ok (.iinc 5 1, 3) := by decide +kernel
theorem dX5_makeBinary_55 : decode cX5_makeBinary 55 = .ok (.goto (-24), 3) := by decide +kernel
theorem dX5_makeBinary_58 : decode cX5_makeBinary 58 = .ok (.iinc 3 1, 3) := by decide +kernel
theorem dX5_makeBinary_61 : decode cX5_makeBinary 61 = .ok (.goto (-59), 3) := by decide +kernel
theorem dX5_makeBinary_64 : decode cX5_makeBinary 64 = .ok (.return_, 1) := by decide +kernel
abbrev w_X5_makeBinary (cI cO : ClassId) (aT : Nat → Nat)  : ((CS)) → va_W := fun u => (wT cI aT u)
set_option maxRecDepth 100000 in
set_option maxHeartbeats 8000000 in
theorem mX5_makeBinary (l : Launch) (D : va_G) (cI cO : ClassId) (tA tS : Nat) (aT : Nat → Nat) (zT : CS) (x1 : Int32) (x2 : Int32) (sz : Nat) {post : ((CS)) → Prop} (h : qX5_makeBinary post x1 x2 zT) : Met l yX5_makeBinary wsX5_makeBinary ({ frames := 2, cells := 0, slots := 0, locals := 45 } : Room) (xPre D cI cO tA tS [.ref (aT 0), .int x1, .int x2] (wT cI aT zT) sz) (va_Qv post (xB D cI cO (va_A (wT cI aT zT) sz) (w_X5_makeBinary cI cO aT)) (va_A (wT cI aT zT) sz)) 0 0 (va_A (wT cI aT zT) sz) := by
  refine xMet D cI cO tA tS (fun A => va_Qv post (xB D cI cO A (w_X5_makeBinary cI cO aT)) A) (cc := cX5_makeBinary) (maxL := 6) (ret := none) (by decide) rfl (Nat.le_of_ble_eq_true rfl) ?_
  intro p e s m below meth c A ls hx hb hr hts hown hlocks hin hml hA hS hP hK hD hE hl
  have hown : s.vm.findClass RX5 = some m.cls := hown
  have hl : lv_has ls 6 [(0, .ref (aT 0)), (1, .int x1), (2, .int x2)] := hl
  have g31 : ∀ (k2 : (Int32) → (CS) → Prop), (∀ (y3 : Int32) (zT : CS) (H : Heap) (locs : List Loc) (ls : Array Slot), k2 y3 zT → va_P D vwCl (wT cI aT zT) H → va_D A (wT cI aT zT) → va_S A s.heap H locs → lv_has ls 6 [(3, .int y3), (0, .ref (aT 0)), (1, .int x1), (2, .int x2)] → W p l e ({ frames := 2, cells := 0, slots := 0, locals := 45 } : Room) s m ([.ref (aT 0), .int x1, .int x2] : List Value).toArray below meth c H locs 0 0 (MQ below (va_Qv post (xB D cI cO A (w_X5_makeBinary cI cO aT)) A) ([.ref (aT 0), .int x1, .int x2] : List Value).toArray s 0 0 A) (F0 m 2 ls [])) → ∀ (n : Nat) (y3 : Int32) (y4 : Int32) (y5 : Int32) (zT : CS) (H : Heap) (locs : List Loc) (ls : Array Slot), qX5_makeBinary_31 post x1 x2 k2 n y3 y4 y5 zT → va_P D vwCl (wT cI aT zT) H → va_D A (wT cI aT zT) → va_S A s.heap H locs → lv_has ls 6 [(5, .int y5), (4, .int y4), (3, .int y3), (0, .ref (aT 0)), (1, .int x1), (2, .int x2)] → W p l e ({ frames := 2, cells := 0, slots := 0, locals := 45 } : Room) s m ([.ref (aT 0), .int x1, .int x2] : List Value).toArray below meth c H locs 0 0 (MQ below (va_Qv post (xB D cI cO A (w_X5_makeBinary cI cO aT)) A) ([.ref (aT 0), .int x1, .int x2] : List Value).toArray s 0 0 A) (F0 m 31 ls []) := by
    intro k2 hk2 n
    induction n with
    | zero => intro y3 y4 y5 zT H locs ls h; exact False.elim h
    | succ n hk31 =>
      intro y3 y4 y5 zT H locs ls h hP hD hS hl
      have h : qX5_makeBinary_31b post x1 x2 k2 (qX5_makeBinary_31 post x1 x2 k2 n) y3 y4 y5 zT := h
      refine lv_iload hx hb dX5_makeBinary_31 (lv_at hl 0 rfl) ?_
      refine va_getsN hx hb hE.2.2.2.1 hS hown (va_Nw.use (w := .fieldLinkNest RX5 34 "BrotherAutomata" "START" "[I" "BrotherAutomata") rfl (hE.1 _ (List.mem_of_getElem? (i := 2) rfl))) (fun _ h9 => h9) dX5_makeBinary_33 ?_
      refine lv_iload hx hb dX5_makeBinary_36 (lv_at hl 1 rfl) ?_
      refine lv_iconst (v := 1) hx hb dX5_makeBinary_38 (by decide) ?_
      refine lv_iadd hx hb dX5_makeBinary_39 ?_
      obtain ⟨hi, h⟩ := h
      refine va_ti (v := .int (xst (y4 + (1 : Int32)).toNatClampNeg)) hx hb hE.2.2.2.2 hS hi rfl dX5_makeBinary_40 ?_
      obtain ⟨hh1, hh2⟩ := h
      refine lv_icmp_ge (tgt := 58) hx hb dX5_makeBinary_41 (by decide) (fun hc => ?_) (fun hc => ?_)
      · have h := hh1 hc
        refine lv_iinc (v := (y3 + (1 : Int32))) (lv' := [(3, .int (y3 + (1 : Int32))), (5, .int y5), (4, .int y4), (0, .ref (aT 0)), (1, .int x1), (2, .int x2)]) hx hb dX5_makeBinary_58 hl (k := 2) rfl rfl (by decide) rfl (fun ls hl => ?_)
        refine lv_goto (tgt := 2) hx hb dX5_makeBinary_61 (by decide) ?_
        exact hk2 (y3 + (1 : Int32)) zT _ _ _ h hP hD hS (lv_sub hl [0, 3, 4, 5] rfl)
      · have h := hh2 hc
        refine lv_aload_n hx hb dX5_makeBinary_44 rfl (lv_at hl 3 rfl) ?_
        refine lv_iload_n hx hb dX5_makeBinary_45 rfl (lv_at hl 4 rfl) ?_
        refine lv_iload_n hx hb dX5_makeBinary_46 rfl (lv_at hl 2 rfl) ?_
        refine lv_iload hx hb dX5_makeBinary_47 (lv_at hl 0 rfl) ?_
        refine xcallv (wr := ([] : va_W)) (w2 := fun (u49 : (CS)) => (wT cI aT u49)) (va_runV (As := [.int x1, .int y3, .int y5]) (rest := []) ⟨hx, hb, hml, hown, hts⟩ (mX5_make l D cI cO tA tS aT zT x1 y3 y5 _ h) (cwV 3 hts gX5_makeBinary_X5_make rfl rfl rfl (by decide +kernel) ⟨Nat.le_of_ble_eq_true rfl, Nat.le_of_ble_eq_true rfl⟩) (xpreV hP hD hS hA hK hE [0, 1, 2] rfl rfl 5 0 rfl rfl) rfl rfl hl.1 rfl (lv_room (Nat.le_of_ble_eq_true rfl)) dX5_makeBinary_49 ⟨Nat.le_refl 0, Nat.le_refl 0⟩) hP hD hS hA [0, 1, 2] [] [0, 1, 2] rfl rfl rfl (by decide) rfl (fun _ => rfl) (fun u49 H locs h hP hD hS => ?_)
        refine lv_iinc (v := (y5 + (1 : Int32))) (lv' := [(5, .int (y5 + (1 : Int32))), (4, .int y4), (3, .int y3), (0, .ref (aT 0)), (1, .int x1), (2, .int x2)]) hx hb dX5_makeBinary_52 hl (k := 0) rfl rfl (by decide) rfl (fun ls hl => ?_)
        refine lv_goto (tgt := 31) hx hb dX5_makeBinary_55 (by decide) ?_
        exact hk31 y3 y4 (y5 + (1 : Int32)) u49 _ _ _ h hP hD hS hl
  have g2 : ∀ (n : Nat) (y3 : Int32) (zT : CS) (H : Heap) (locs : List Loc) (ls : Array Slot), qX5_makeBinary_2 post x1 x2 n y3 zT → va_P D vwCl (wT cI aT zT) H → va_D A (wT cI aT zT) → va_S A s.heap H locs → lv_has ls 6 [(3, .int y3), (0, .ref (aT 0)), (1, .int x1), (2, .int x2)] → W p l e ({ frames := 2, cells := 0, slots := 0, locals := 45 } : Room) s m ([.ref (aT 0), .int x1, .int x2] : List Value).toArray below meth c H locs 0 0 (MQ below (va_Qv post (xB D cI cO A (w_X5_makeBinary cI cO aT)) A) ([.ref (aT 0), .int x1, .int x2] : List Value).toArray s 0 0 A) (F0 m 2 ls []) := by
    intro n
    induction n with
    | zero => intro y3 zT H locs ls h; exact False.elim h
    | succ n hk2 =>
      intro y3 zT H locs ls h hP hD hS hl
      have h : qX5_makeBinary_2b post x1 x2 (qX5_makeBinary_2 post x1 x2 n) y3 zT := h
      refine lv_iload_n hx hb dX5_makeBinary_2 rfl (lv_at hl 0 rfl) ?_
      refine va_getsN hx hb hE.2.2.2.1 hS hown (va_Nw.use (w := .fieldLinkNest RX5 34 "BrotherAutomata" "START" "[I" "BrotherAutomata") rfl (hE.1 _ (List.mem_of_getElem? (i := 2) rfl))) (fun _ h9 => h9) dX5_makeBinary_3 ?_
      refine lv_iload_n hx hb dX5_makeBinary_6 rfl (lv_at hl 3 rfl) ?_
      refine lv_iconst (v := 1) hx hb dX5_makeBinary_7 (by decide) ?_
      refine lv_isub hx hb dX5_makeBinary_8 ?_
      obtain ⟨hi, h⟩ := h
      refine va_ti (v := .int (xst (x2 - (1 : Int32)).toNatClampNeg)) hx hb hE.2.2.2.2 hS hi rfl dX5_makeBinary_9 ?_
      obtain ⟨hh1, hh2⟩ := h
      refine lv_icmp_ge (tgt := 64) hx hb dX5_makeBinary_10 (by decide) (fun hc => ?_) (fun hc => ?_)
      · have h := hh1 hc
        exact xvret (w := (w_X5_makeBinary cI cO aT)) (zT) hx hb hr hlocks h hP hK hD hS dX5_makeBinary_64
      · have h := hh2 hc
        refine lv_iload_n hx hb dX5_makeBinary_13 rfl (lv_at hl 3 rfl) ?_
        refine lv_iconst (v := 1) hx hb dX5_makeBinary_14 (by decide) ?_
        refine lv_isub hx hb dX5_makeBinary_15 ?_
        refine lv_iload_n hx hb dX5_makeBinary_16 rfl (lv_at hl 0 rfl) ?_
        refine xcalli (wr := (wT cI aT zT)) (w2 := fun (u17 : Unit) => (wT cI aT zT)) (va_runSN (host := "BrotherAutomata") (As := [.int y3]) (rest := [.int (x2 - (1 : Int32))]) ⟨hx, hb, hml, hown, hts⟩ (mX6_sizeAt l D cI cO tA tS y3 _ h) ⟨va_cnB 1 hts gX5_makeBinary_X6_sizeAt_n37 rfl rfl rfl (hE.1 (.methodLinkNest RX5 37 yX6_sizeAt "BrotherAutomata") (List.mem_of_getElem? (i := 0) rfl)) (hts (.initialized RX6) (List.mem_of_getElem? (i := 2) rfl)) (by decide +kernel) ⟨Nat.le_of_ble_eq_true rfl, Nat.le_of_ble_eq_true rfl⟩, hts (.static yX6_sizeAt) (List.mem_of_getElem? (i := 1) rfl), trivial⟩ (xpreP hP hD hS hA hK hE [] rfl rfl) rfl rfl hl.1 rfl (lv_room (Nat.le_of_ble_eq_true rfl)) dX5_makeBinary_17 ⟨Nat.le_refl 0, Nat.le_refl 0⟩) hP hD hS hA [] [0, 1, 2] [0, 1, 2] rfl rfl rfl (by decide) rfl (fun _ => rfl) (fun r17 u17 H locs h hP hD hS => ?_)
        refine lv_isub hx hb dX5_makeBinary_20 ?_
        refine lv_istore (lv' := [(4, .int ((x2 - (1 : Int32)) - r17)), (3, .int y3), (0, .ref (aT 0)), (1, .int x1), (2, .int x2)]) hx hb dX5_makeBinary_21 hl (by decide) rfl (fun ls hl => ?_)
        refine va_getsN hx hb hE.2.2.2.1 hS hown (va_Nw.use (w := .fieldLinkNest RX5 34 "BrotherAutomata" "START" "[I" "BrotherAutomata") rfl (hE.1 _ (List.mem_of_getElem? (i := 2) rfl))) (fun _ h9 => h9) dX5_makeBinary_23 ?_
        refine lv_iload hx hb dX5_makeBinary_26 (lv_at hl 0 rfl) ?_
        obtain ⟨hi, h⟩ := h
        refine va_ti (v := .int (xst ((x2 - (1 : Int32)) - r17).toNatClampNeg)) hx hb hE.2.2.2.2 hS hi rfl dX5_makeBinary_28 ?_
        refine lv_istore (lv' := [(5, .int (xst ((x2 - (1 : Int32)) - r17).toNatClampNeg)), (4, .int ((x2 - (1 : Int32)) - r17)), (3, .int y3), (0, .ref (aT 0)), (1, .int x1), (2, .int x2)]) hx hb dX5_makeBinary_29 hl (by decide) rfl (fun ls hl => ?_)
        obtain ⟨n0, h⟩ := h
        exact g31 (qX5_makeBinary_2 post x1 x2 n) hk2 n0 y3 ((x2 - (1 : Int32)) - r17) (xst ((x2 - (1 : Int32)) - r17).toNatClampNeg) zT _ _ _ h hP hD hS hl
  refine lv_iconst (v := 0) hx hb dX5_makeBinary_0 (by decide) ?_
  refine lv_istore_n (lv' := [(3, .int (0 : Int32)), (0, .ref (aT 0)), (1, .int x1), (2, .int x2)]) hx hb dX5_makeBinary_1 rfl hl (by decide) rfl (fun ls hl => ?_)
  obtain ⟨n0, h⟩ := h
  exact g2 n0 (0 : Int32) zT _ _ _ h hP hD hS hl
set_option maxRecDepth 20000 in
theorem ggX5_find_X6_sizeAt : GoodIn wsX5_find wsX6_sizeAt := goodIn_r _ [4, 5] (by decide +kernel) (by decide +kernel)
set_option maxRecDepth 20000 in
theorem gX5_find_X6_sizeAt_n37 : GoodIn wsX5_find (wsX6_sizeAt) := ggX5_find_X6_sizeAt
set_option maxRecDepth 20000 in
theorem ggX5_find_X5_content : GoodIn wsX5_find wsX5_content := goodIn_r _ [9] (by decide +kernel) (by decide +kernel)
set_option maxRecDepth 20000 in
theorem gX5_find_X5_content : GoodIn wsX5_find (va_wsS RX5 41 yX5_content wsX5_content) := goodIn_app (goodIn_of _ (by decide +kernel)) ggX5_find_X5_content
theorem dX5_find_0 : decode cX5_find 0 = .ok (.iconst 1, 1) := by decide +kernel
theorem dX5_find_1 : decode cX5_find 1 = .ok (.istore 4, 2) := by decide +kernel
theorem dX5_find_3 : decode cX5_find 3 = .ok (.getstatic 45, 3) := by decide +kernel
theorem dX5_find_6 : decode cX5_find 6 = .ok (.iload_n 1, 1) := by decide +kernel
theorem dX5_find_7 : decode cX5_find 7 = .ok (.iaload, 1) := by decide +kernel
theorem dX5_find_8 : decode cX5_find 8 = .ok (.ifCond .le 12, 3) := by decide +kernel
theorem dX5_find_11 : decode cX5_find 11 = .ok (.iload 4, 2) := by decide +kernel
theorem dX5_find_13 : decode cX5_find 13 = .ok (.iload_n 2, 1) := by decide +kernel
theorem dX5_find_14 : decode cX5_find 14 = .ok (.invokestatic 37, 3) := by decide +kernel
theorem dX5_find_17 : decode cX5_find 17 = .ok (.iadd, 1) := by decide +kernel
theorem dX5_find_18 : decode cX5_find 18 = .ok (.istore 4, 2) := by decide +kernel
theorem dX5_find_20 : decode cX5_find 20 = .ok (.getstatic 45, 3) := by decide +kernel
theorem dX5_find_23 : decode cX5_find 23 = .ok (.iload_n 1, 1) := by decide +kernel
theorem dX5_find_24 : decode cX5_find 24 = .ok (.iaload, 1) := by decide +kernel
theorem dX5_find_25 : decode cX5_find 25 = .ok (.iconst 1, 1) := by decide +kernel
theorem dX5_find_26 : decode cX5_find 26 = .ok (.if_icmp .le 12, 3) := by decide +kernel
theorem dX5_find_29 : decode cX5_find 29 = .ok (.iload 4, 2) := by decide +kernel
theorem dX5_find_31 : decode cX5_find 31 = .ok (.iload_n 3, 1) := by decide +kernel
theorem dX5_find_32 : decode cX5_find 32 = .ok (.invokestatic 37, 3) := by decide +kernel
theorem dX5_find_35 : decode cX5_find 35 = .ok (.iadd, 1) := by decide +kernel
theorem dX5_find_36 : decode cX5_find 36 = .ok (.istore 4, 2) := by decide +kernel
theorem dX5_find_38 : decode cX5_find 38 = .ok (.iload 4, 2) := by decide +kernel
theorem dX5_find_40 : decode cX5_find 40 = .ok (.bipush 7, 2) := by decide +kernel
theorem dX5_find_42 : decode cX5_find 42 = .ok (.if_icmp .le 6, 3) := by decide +kernel
theorem dX5_find_45 : decode cX5_find 45 = .ok (.bipush (-2), 2) := by decide +kernel
theorem dX5_find_47 : decode cX5_find 47 = .ok (.ireturn, 1) := by decide +kernel
theorem dX5_find_48 : decode cX5_find 48 = .ok (.iload_n 1, 1) := by decide +kernel
theorem dX5_find_49 : decode cX5_find 49 = .ok (.iload_n 2, 1) := by decide +kernel
theorem dX5_find_50 : decode cX5_find 50 = .ok (.iload_n 3, 1) := by decide +kernel
theorem dX5_find_51 : decode cX5_find 51 = .ok (.invokestatic 41, 3) := by decide +kernel
theorem dX5_find_54 : decode cX5_find 54 = .ok (.istore 5, 2) := by decide +kernel
theorem dX5_find_56 : decode cX5_find 56 = .ok (.getstatic 34, 3) := by decide +kernel
theorem dX5_find_59 : decode cX5_find 59 = .ok (.iload 4, 2) := by decide +kernel
theorem dX5_find_61 : decode cX5_find 61 = .ok (.iaload, 1) := by decide +kernel
theorem dX5_find_62 : decode cX5_find 62 = .ok (.istore 6, 2) := by decide +kernel
theorem dX5_find_64 : decode cX5_find 64 = .ok (.iload 6, 2) := by decide +kernel
theorem dX5_find_66 : decode cX5_find 66 = .ok (.getstatic 34, 3) := by decide +kernel
theorem dX5_find_69 : decode cX5_find 69 = .ok (.iload 4, 2) := by decide +kernel
theorem dX5_find_71 : decode cX5_find 71 = .ok (.iconst 1, 1) := by decide +kernel
theorem dX5_find_72 : decode cX5_find 72 = .ok (.iadd, 1) := by decide +kernel
theorem dX5_find_73 : decode cX5_find 73 = .ok (.iaload, 1) := by decide +kernel
theorem dX5_find_74 : decode cX5_find 74 = .ok (.if_icmp .ge 24, 3) := by decide +kernel
theorem dX5_find_77 : decode cX5_find 77 = .ok (.aload_n 0, 1) := by decide +kernel
theorem dX5_find_78 : decode cX5_find 78 = .ok (.getfield 9, 3) := by decide +kernel
theorem dX5_find_81 : decode cX5_find 81 = .ok (.iload 6, 2) := by decide +kernel
theorem dX5_find_83 : decode cX5_find 83 = .ok (.iaload, 1) := by decide +kernel
theorem dX5_find_84 : decode cX5_find 84 = .ok (.iload 5, 2) := by decide +kernel
theorem dX5_find_86 : decode cX5_find 86 = .ok (.if_icmp .ne 6, 3) := by decide +kernel
theorem dX5_find_89 : decode cX5_find 89 = .ok (.iload 6, 2) := by decide +kernel
theorem dX5_find_91 : decode cX5_find 91 = .ok (.ireturn, 1) := by decide +kernel
theorem dX5_find_92 : decode cX5_find 92 = .ok (.iinc 6 1, 3) := by decide +kernel
theorem dX5_find_95 : decode cX5_find 95 = .ok (.goto (-31), 3) := by decide +kernel
theorem dX5_find_98 : decode cX5_find 98 = .ok (.bipush (-2), 2) := by decide +kernel
theorem dX5_find_100 : decode cX5_find 100 = .ok (.ireturn, 1) := by decide +kernel
theorem jX5_find_X5 : ∀ w ∈ wsX50, w ∈ wsX5_find := by decide +kernel
abbrev w_X5_find (cI cO : ClassId) (aT : Nat → Nat) (zT : CS) : (Unit) → va_W := fun u => (wT cI aT zT)
set_option maxRecDepth 100000 in
set_option maxHeartbeats 8000000 in
theorem mX5_find (l : Launch) (D : va_G) (cI cO : ClassId) (tA tS : Nat) (aT : Nat → Nat) (zT : CS) (x1 : Int32) (x2 : Int32) (x3 : Int32) (sz : Nat) {post : Int32 → (Unit) → Prop} (h : qX5_find post x1 x2 x3 zT) : Met l yX5_find wsX5_find ({ frames := 1, cells := 0, slots := 0, locals := 22 } : Room) (xPre D cI cO tA tS [.ref (aT 0), .int x1, .int x2, .int x3] (wT cI aT zT) sz) (va_Qi post (xB D cI cO (va_A (wT cI aT zT) sz) (w_X5_find cI cO aT zT)) (va_A (wT cI aT zT) sz)) 0 0 (va_A (wT cI aT zT) sz) := by
  refine xMet D cI cO tA tS (fun A => va_Qi post (xB D cI cO A (w_X5_find cI cO aT zT)) A) (cc := cX5_find) (maxL := 7) (ret := (some .int)) (by decide) rfl (Nat.le_of_ble_eq_true rfl) ?_
  intro p e s m below meth c A ls hx hb hr hts hown hlocks hin hml hA hS hP hK hD hE hl
  have hown : s.vm.findClass RX5 = some m.cls := hown
  have hl : lv_has ls 7 [(0, .ref (aT 0)), (1, .int x1), (2, .int x2), (3, .int x3)] := hl
  have g64 : ∀ (n : Nat) (y4 : Int32) (y5 : Int32) (y6 : Int32) (H : Heap) (locs : List Loc) (ls : Array Slot), qX5_find_64 post x1 x2 x3 zT n y4 y5 y6 → va_P D vwCl (wT cI aT zT) H → va_D A (wT cI aT zT) → va_S A s.heap H locs → lv_has ls 7 [(6, .int y6), (5, .int y5), (4, .int y4), (0, .ref (aT 0)), (1, .int x1), (2, .int x2), (3, .int x3)] → W p l e ({ frames := 1, cells := 0, slots := 0, locals := 22 } : Room) s m ([.ref (aT 0), .int x1, .int x2, .int x3] : List Value).toArray below meth c H locs 0 0 (MQ below (va_Qi post (xB D cI cO A (w_X5_find cI cO aT zT)) A) ([.ref (aT 0), .int x1, .int x2, .int x3] : List Value).toArray s 0 0 A) (F0 m 64 ls []) := by
    intro n
    induction n with
    | zero => intro y4 y5 y6 H locs ls h; exact False.elim h
    | succ n hk64 =>
      intro y4 y5 y6 H locs ls h hP hD hS hl
      have h : qX5_find_64b post x1 x2 x3 zT (qX5_find_64 post x1 x2 x3 zT n) y4 y5 y6 := h
      refine lv_iload hx hb dX5_find_64 (lv_at hl 0 rfl) ?_
      refine va_getsN hx hb hE.2.2.2.1 hS hown (va_Nw.use (w := .fieldLinkNest RX5 34 "BrotherAutomata" "START" "[I" "BrotherAutomata") rfl (hE.1 _ (List.mem_of_getElem? (i := 2) rfl))) (fun _ h9 => h9) dX5_find_66 ?_
      refine lv_iload hx hb dX5_find_69 (lv_at hl 2 rfl) ?_
      refine lv_iconst (v := 1) hx hb dX5_find_71 (by decide) ?_
      refine lv_iadd hx hb dX5_find_72 ?_
      obtain ⟨hi, h⟩ := h
      refine va_ti (v := .int (xst (y4 + (1 : Int32)).toNatClampNeg)) hx hb hE.2.2.2.2 hS hi rfl dX5_find_73 ?_
      obtain ⟨hh1, hh2⟩ := h
      refine lv_icmp_ge (tgt := 98) hx hb dX5_find_74 (by decide) (fun hc => ?_) (fun hc => ?_)
      · have h := hh1 hc
        refine lv_bipush (v := -2) hx hb dX5_find_98 (by decide) ?_
        exact xiret (w := (w_X5_find cI cO aT zT)) () hx hb hr hlocks h hP hK hD hS dX5_find_100
      · have h := hh2 hc
        refine lv_aload_n hx hb dX5_find_77 rfl (lv_at hl 3 rfl) ?_
        refine va_get (D := D) (ci := 5) (v := .ref (aT 1)) (C := RX5) (T := TX5) (N := 3) hx hb hts jX5_find_X5 hown hK hP 0 rfl rfl 0 (by decide) (hts (.fieldLink RX5 9 "BrotherAutomata$SmallTrees" "contents" "[I") (List.mem_of_getElem? (i := 1) rfl)) (fun _ h9 => h9) rfl dX5_find_78 ?_
        refine lv_iload hx hb dX5_find_81 (lv_at hl 0 rfl) ?_
        obtain ⟨hi, h⟩ := h
        refine va_iald hx hb hK hP 1 0 rfl rfl hi dX5_find_83 ?_
        refine lv_iload hx hb dX5_find_84 (lv_at hl 1 rfl) ?_
        obtain ⟨hh1, hh2⟩ := h
        refine lv_icmp_ne (tgt := 92) hx hb dX5_find_86 (by decide) (fun hc => ?_) (fun hc => ?_)
        · have h := hh2 hc
          refine lv_iinc (v := (y6 + (1 : Int32))) (lv' := [(6, .int (y6 + (1 : Int32))), (5, .int y5), (4, .int y4), (0, .ref (aT 0)), (1, .int x1), (2, .int x2), (3, .int x3)]) hx hb dX5_find_92 hl (k := 0) rfl rfl (by decide) rfl (fun ls hl => ?_)
          refine lv_goto (tgt := 64) hx hb dX5_find_95 (by decide) ?_
          exact hk64 y4 y5 (y6 + (1 : Int32)) _ _ _ h hP hD hS hl
        · have h := hh1 hc
          refine lv_iload hx hb dX5_find_89 (lv_at hl 0 rfl) ?_
          exact xiret (w := (w_X5_find cI cO aT zT)) () hx hb hr hlocks h hP hK hD hS dX5_find_91
  have g38 : ∀ (y4 : Int32) (H : Heap) (locs : List Loc) (ls : Array Slot), qX5_find_38 post x1 x2 x3 zT y4 → va_P D vwCl (wT cI aT zT) H → va_D A (wT cI aT zT) → va_S A s.heap H locs → lv_has ls 7 [(4, .int y4), (0, .ref (aT 0)), (1, .int x1), (2, .int x2), (3, .int x3)] → W p l e ({ frames := 1, cells := 0, slots := 0, locals := 22 } : Room) s m ([.ref (aT 0), .int x1, .int x2, .int x3] : List Value).toArray below meth c H locs 0 0 (MQ below (va_Qi post (xB D cI cO A (w_X5_find cI cO aT zT)) A) ([.ref (aT 0), .int x1, .int x2, .int x3] : List Value).toArray s 0 0 A) (F0 m 38 ls []) := by
    intro y4 H locs ls h hP hD hS hl
    refine lv_iload hx hb dX5_find_38 (lv_at hl 0 rfl) ?_
    refine lv_bipush (v := 7) hx hb dX5_find_40 (by decide) ?_
    obtain ⟨hh1, hh2⟩ := h
    refine lv_icmp_le (tgt := 48) hx hb dX5_find_42 (by decide) (fun hc => ?_) (fun hc => ?_)
    · have h := hh1 hc
      refine lv_iload_n hx hb dX5_find_48 rfl (lv_at hl 2 rfl) ?_
      refine lv_iload_n hx hb dX5_find_49 rfl (lv_at hl 3 rfl) ?_
      refine lv_iload_n hx hb dX5_find_50 rfl (lv_at hl 4 rfl) ?_
      refine xcalli (wr := (wT cI aT zT)) (w2 := fun (u51 : Unit) => (wT cI aT zT)) (va_runS (As := [.int x1, .int x2, .int x3]) (rest := []) ⟨hx, hb, hml, hown, hts⟩ (mX5_content l D cI cO tA tS x1 x2 x3 _ h) (va_cwS 3 hts gX5_find_X5_content rfl rfl rfl (by decide +kernel) ⟨Nat.le_of_ble_eq_true rfl, Nat.le_of_ble_eq_true rfl⟩) (xpreP hP hD hS hA hK hE [] rfl rfl) rfl rfl hl.1 rfl (lv_room (Nat.le_of_ble_eq_true rfl)) dX5_find_51 ⟨Nat.le_refl 0, Nat.le_refl 0⟩) hP hD hS hA [] [0, 1, 2] [0, 1, 2] rfl rfl rfl (by decide) rfl (fun _ => rfl) (fun r51 u51 H locs h hP hD hS => ?_)
      refine lv_istore (lv' := [(5, .int r51), (4, .int y4), (0, .ref (aT 0)), (1, .int x1), (2, .int x2), (3, .int x3)]) hx hb dX5_find_54 hl (by decide) rfl (fun ls hl => ?_)
      refine va_getsN hx hb hE.2.2.2.1 hS hown (va_Nw.use (w := .fieldLinkNest RX5 34 "BrotherAutomata" "START" "[I" "BrotherAutomata") rfl (hE.1 _ (List.mem_of_getElem? (i := 2) rfl))) (fun _ h9 => h9) dX5_find_56 ?_
      refine lv_iload hx hb dX5_find_59 (lv_at hl 1 rfl) ?_
      obtain ⟨hi, h⟩ := h
      refine va_ti (v := .int (xst y4.toNatClampNeg)) hx hb hE.2.2.2.2 hS hi rfl dX5_find_61 ?_
      refine lv_istore (lv' := [(6, .int (xst y4.toNatClampNeg)), (5, .int r51), (4, .int y4), (0, .ref (aT 0)), (1, .int x1), (2, .int x2), (3, .int x3)]) hx hb dX5_find_62 hl (by decide) rfl (fun ls hl => ?_)
      obtain ⟨n0, h⟩ := h
      exact g64 n0 y4 r51 (xst y4.toNatClampNeg) _ _ _ h hP hD hS hl
    · have h := hh2 hc
      refine lv_bipush (v := -2) hx hb dX5_find_45 (by decide) ?_
      exact xiret (w := (w_X5_find cI cO aT zT)) () hx hb hr hlocks h hP hK hD hS dX5_find_47
  have g20 : ∀ (y4 : Int32) (H : Heap) (locs : List Loc) (ls : Array Slot), qX5_find_20 post x1 x2 x3 zT y4 → va_P D vwCl (wT cI aT zT) H → va_D A (wT cI aT zT) → va_S A s.heap H locs → lv_has ls 7 [(4, .int y4), (0, .ref (aT 0)), (1, .int x1), (2, .int x2), (3, .int x3)] → W p l e ({ frames := 1, cells := 0, slots := 0, locals := 22 } : Room) s m ([.ref (aT 0), .int x1, .int x2, .int x3] : List Value).toArray below meth c H locs 0 0 (MQ below (va_Qi post (xB D cI cO A (w_X5_find cI cO aT zT)) A) ([.ref (aT 0), .int x1, .int x2, .int x3] : List Value).toArray s 0 0 A) (F0 m 20 ls []) := by
    intro y4 H locs ls h hP hD hS hl
    refine va_getsN hx hb hE.2.1 hS hown (va_Nw.use (w := .fieldLinkNest RX5 45 "BrotherAutomata" "ARITY" "[I" "BrotherAutomata") rfl (hE.1 _ (List.mem_of_getElem? (i := 1) rfl))) (fun _ h9 => h9) dX5_find_20 ?_
    refine lv_iload_n hx hb dX5_find_23 rfl (lv_at hl 2 rfl) ?_
    obtain ⟨hi, h⟩ := h
    refine va_ti (v := .int (xar x1.toNatClampNeg)) hx hb hE.2.2.1 hS hi rfl dX5_find_24 ?_
    refine lv_iconst (v := 1) hx hb dX5_find_25 (by decide) ?_
    obtain ⟨hh1, hh2⟩ := h
    refine lv_icmp_le (tgt := 38) hx hb dX5_find_26 (by decide) (fun hc => ?_) (fun hc => ?_)
    · have h := hh1 hc
      exact g38 y4 _ _ _ h hP hD hS hl
    · have h := hh2 hc
      refine lv_iload hx hb dX5_find_29 (lv_at hl 0 rfl) ?_
      refine lv_iload_n hx hb dX5_find_31 rfl (lv_at hl 4 rfl) ?_
      refine xcalli (wr := (wT cI aT zT)) (w2 := fun (u32 : Unit) => (wT cI aT zT)) (va_runSN (host := "BrotherAutomata") (As := [.int x3]) (rest := [.int y4]) ⟨hx, hb, hml, hown, hts⟩ (mX6_sizeAt l D cI cO tA tS x3 _ h) ⟨va_cnB 1 hts gX5_find_X6_sizeAt_n37 rfl rfl rfl (hE.1 (.methodLinkNest RX5 37 yX6_sizeAt "BrotherAutomata") (List.mem_of_getElem? (i := 0) rfl)) (hts (.initialized RX6) (List.mem_of_getElem? (i := 3) rfl)) (by decide +kernel) ⟨Nat.le_of_ble_eq_true rfl, Nat.le_of_ble_eq_true rfl⟩, hts (.static yX6_sizeAt) (List.mem_of_getElem? (i := 2) rfl), trivial⟩ (xpreP hP hD hS hA hK hE [] rfl rfl) rfl rfl hl.1 rfl (lv_room (Nat.le_of_ble_eq_true rfl)) dX5_find_32 ⟨Nat.le_refl 0, Nat.le_refl 0⟩) hP hD hS hA [] [0, 1, 2] [0, 1, 2] rfl rfl rfl (by decide) rfl (fun _ => rfl) (fun r32 u32 H locs h hP hD hS => ?_)
      refine lv_iadd hx hb dX5_find_35 ?_
      refine lv_istore (lv' := [(4, .int (y4 + r32)), (0, .ref (aT 0)), (1, .int x1), (2, .int x2), (3, .int x3)]) hx hb dX5_find_36 hl (by decide) rfl (fun ls hl => ?_)
      exact g38 (y4 + r32) _ _ _ h hP hD hS hl
  refine lv_iconst (v := 1) hx hb dX5_find_0 (by decide) ?_
  refine lv_istore (lv' := [(4, .int (1 : Int32)), (0, .ref (aT 0)), (1, .int x1), (2, .int x2), (3, .int x3)]) hx hb dX5_find_1 hl (by decide) rfl (fun ls hl => ?_)
  refine va_getsN hx hb hE.2.1 hS hown (va_Nw.use (w := .fieldLinkNest RX5 45 "BrotherAutomata" "ARITY" "[I" "BrotherAutomata") rfl (hE.1 _ (List.mem_of_getElem? (i := 1) rfl))) (fun _ h9 => h9) dX5_find_3 ?_
  refine lv_iload_n hx hb dX5_find_6 rfl (lv_at hl 2 rfl) ?_
  obtain ⟨hi, h⟩ := h
  refine va_ti (v := .int (xar x1.toNatClampNeg)) hx hb hE.2.2.1 hS hi rfl dX5_find_7 ?_
  obtain ⟨hh1, hh2⟩ := h
  refine lv_if_le (tgt := 20) hx hb dX5_find_8 (by decide) (fun hc => ?_) (fun hc => ?_)
  · have h := hh1 hc
    exact g20 (1 : Int32) _ _ _ h hP hD hS hl
  · have h := hh2 hc
    refine lv_iload hx hb dX5_find_11 (lv_at hl 0 rfl) ?_
    refine lv_iload_n hx hb dX5_find_13 rfl (lv_at hl 3 rfl) ?_
    refine xcalli (wr := (wT cI aT zT)) (w2 := fun (u14 : Unit) => (wT cI aT zT)) (va_runSN (host := "BrotherAutomata") (As := [.int x2]) (rest := [.int (1 : Int32)]) ⟨hx, hb, hml, hown, hts⟩ (mX6_sizeAt l D cI cO tA tS x2 _ h) ⟨va_cnB 1 hts gX5_find_X6_sizeAt_n37 rfl rfl rfl (hE.1 (.methodLinkNest RX5 37 yX6_sizeAt "BrotherAutomata") (List.mem_of_getElem? (i := 0) rfl)) (hts (.initialized RX6) (List.mem_of_getElem? (i := 3) rfl)) (by decide +kernel) ⟨Nat.le_of_ble_eq_true rfl, Nat.le_of_ble_eq_true rfl⟩, hts (.static yX6_sizeAt) (List.mem_of_getElem? (i := 2) rfl), trivial⟩ (xpreP hP hD hS hA hK hE [] rfl rfl) rfl rfl hl.1 rfl (lv_room (Nat.le_of_ble_eq_true rfl)) dX5_find_14 ⟨Nat.le_refl 0, Nat.le_refl 0⟩) hP hD hS hA [] [0, 1, 2] [0, 1, 2] rfl rfl rfl (by decide) rfl (fun _ => rfl) (fun r14 u14 H locs h hP hD hS => ?_)
    refine lv_iadd hx hb dX5_find_17 ?_
    refine lv_istore (lv' := [(4, .int ((1 : Int32) + r14)), (0, .ref (aT 0)), (1, .int x1), (2, .int x2), (3, .int x3)]) hx hb dX5_find_18 hl (by decide) rfl (fun ls hl => ?_)
    exact g20 ((1 : Int32) + r14) _ _ _ h hP hD hS hl
