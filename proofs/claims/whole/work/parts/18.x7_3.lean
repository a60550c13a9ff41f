set_option maxRecDepth 20000 in
theorem ggX7_isEmpty_X7_reached : GoodIn wsX7_isEmpty wsX7_reached := goodIn_r _ [6, 7, 8, 9, 10, 5, 11, 12, 13, 14, 15, 16, 17, 18, 19, 20, 21, 22, 23, 24, 25, 1, 26, 27, 28, 29, 30, 31, 32, 33, 34, 35, 36, 37, 38, 39, 40, 41, 42, 43, 44, 45, 46, 47, 48, 49, 50, 51, 52] (by decide +kernel) (by decide +kernel)
set_option maxRecDepth 20000 in
theorem gX7_isEmpty_X7_reached : GoodIn wsX7_isEmpty (wsV RX7 121 RX7 yX7_reached wsX7_reached) := goodIn_app (goodIn_of _ (by decide +kernel)) ggX7_isEmpty_X7_reached
theorem dX7_isEmpty_0 : decode cX7_isEmpty 0 = .ok (.aload_n 0, 1) := by decide +kernel
theorem dX7_isEmpty_1 : decode cX7_isEmpty 1 = .ok (.invokevirtual 121, 3) := by decide +kernel
theorem dX7_isEmpty_4 : decode cX7_isEmpty 4 = .ok (.aload_n 0, 1) := by decide +kernel
theorem dX7_isEmpty_5 : decode cX7_isEmpty 5 = .ok (.getfield 35, 3) := by decide +kernel
theorem dX7_isEmpty_8 : decode cX7_isEmpty 8 = .ok (.bipush 81, 2) := by decide +kernel
theorem dX7_isEmpty_10 : decode cX7_isEmpty 10 = .ok (.iaload, 1) := by decide +kernel
theorem dX7_isEmpty_11 : decode cX7_isEmpty 11 = .ok (.iand, 1) := by decide +kernel
theorem dX7_isEmpty_12 : decode cX7_isEmpty 12 = .ok (.ifCond .ne 7, 3) := by decide +kernel
theorem dX7_isEmpty_15 : decode cX7_isEmpty 15 = .ok (.iconst 1, 1) := by decide +kernel
theorem dX7_isEmpty_16 : decode cX7_isEmpty 16 = .ok (.goto 4, 3) := by decide +kernel
theorem dX7_isEmpty_19 : decode cX7_isEmpty 19 = .ok (.iconst 0, 1) := by decide +kernel
theorem dX7_isEmpty_20 : decode cX7_isEmpty 20 = .ok (.ireturn, 1) := by decide +kernel
theorem jX7_isEmpty_X7 : ∀ w ∈ wsX70, w ∈ wsX7_isEmpty := by decide +kernel
abbrev w_X7_isEmpty (cI cO : ClassId) (aN : Nat → Nat)  : ((CS)) → va_W := fun u => (wN cI aN u)
set_option maxRecDepth 100000 in
set_option maxHeartbeats 8000000 in
theorem mX7_isEmpty (l : Launch) (D : va_G) (cI cO : ClassId) (tA tS : Nat) (aN : Nat → Nat) (zN : CS)  (sz : Nat) {post : Int32 → ((CS)) → Prop} (h : qX7_isEmpty post zN) : Met l yX7_isEmpty wsX7_isEmpty ({ frames := 5, cells := 0, slots := 0, locals := 116 } : Room) (xPre D cI cO tA tS [.ref (aN 0)] (wN cI aN zN) sz) (va_Qi post (xB D cI cO (va_A (wN cI aN zN) sz) (w_X7_isEmpty cI cO aN)) (va_A (wN cI aN zN) sz)) 0 0 (va_A (wN cI aN zN) sz) := by
  refine xMet D cI cO tA tS (fun A => va_Qi post (xB D cI cO A (w_X7_isEmpty cI cO aN)) A) (cc := cX7_isEmpty) (maxL := 1) (ret := (some .int)) (by decide) rfl (Nat.le_of_ble_eq_true rfl) ?_
  intro p e s m below meth c A ls hx hb hr hts hown hlocks hin hml hA hS hP hK hD hE hl
  have hown : s.vm.findClass RX7 = some m.cls := hown
  have hl : lv_has ls 1 [(0, .ref (aN 0))] := hl
  refine lv_aload_n hx hb dX7_isEmpty_0 rfl (lv_at hl 0 rfl) ?_
  refine xcalli (wr := ([] : va_W)) (w2 := fun (u1 : (CS)) => (wN cI aN u1)) (va_runV (As := []) (rest := []) ⟨hx, hb, hml, hown, hts⟩ (mX7_reached l D cI cO tA tS aN zN _ h) (cwV 0 hts gX7_isEmpty_X7_reached rfl rfl rfl (by decide +kernel) ⟨Nat.le_of_ble_eq_true rfl, Nat.le_of_ble_eq_true rfl⟩) (xpreV hP hD hS hA hK hE [0, 1, 2, 3, 4, 5, 6, 7, 8, 9, 10, 11] rfl rfl 7 0 rfl rfl) rfl rfl hl.1 rfl (lv_room (Nat.le_of_ble_eq_true rfl)) dX7_isEmpty_1 ⟨Nat.le_refl 0, Nat.le_refl 0⟩) hP hD hS hA [0, 1, 2, 3, 4, 5, 6, 7, 8, 9, 10, 11] [] [0, 1, 2, 3, 4, 5, 6, 7, 8, 9, 10, 11] rfl rfl rfl (by decide) rfl (fun _ => rfl) (fun r1 u1 H locs h hP hD hS => ?_)
  refine lv_aload_n hx hb dX7_isEmpty_4 rfl (lv_at hl 0 rfl) ?_
  refine va_get (D := D) (ci := 7) (v := .ref (aN 8)) (C := RX7) (T := TX7) (N := 14) hx hb hts jX7_isEmpty_X7 hown hK hP 0 rfl rfl 9 (by decide) (hts (.fieldLink RX7 35 "BrotherAutomataModel" "now" "[I") (List.mem_of_getElem? (i := 1) rfl)) (fun _ h9 => h9) rfl dX7_isEmpty_5 ?_
  refine lv_bipush (v := 81) hx hb dX7_isEmpty_8 (by decide) ?_
  obtain ⟨hi, h⟩ := h
  refine va_iald hx hb hK hP 8 0 rfl rfl hi dX7_isEmpty_10 ?_
  refine lv_iand hx hb dX7_isEmpty_11 ?_
  obtain ⟨hh1, hh2⟩ := h
  refine lv_if_ne (tgt := 19) hx hb dX7_isEmpty_12 (by decide) (fun hc => ?_) (fun hc => ?_)
  · have h := hh2 hc
    refine lv_iconst (v := 0) hx hb dX7_isEmpty_19 (by decide) ?_
    exact xiret (w := (w_X7_isEmpty cI cO aN)) (u1) hx hb hr hlocks h hP hK hD hS dX7_isEmpty_20
  · have h := hh1 hc
    refine lv_iconst (v := 1) hx hb dX7_isEmpty_15 (by decide) ?_
    refine lv_goto (tgt := 20) hx hb dX7_isEmpty_16 (by decide) ?_
    exact xiret (w := (w_X7_isEmpty cI cO aN)) (u1) hx hb hr hlocks h hP hK hD hS dX7_isEmpty_20
set_option maxRecDepth 20000 in
theorem ggX7_isUniversal_X7_counts : GoodIn wsX7_isUniversal wsX7_counts := goodIn_r _ [7, 8, 9, 10, 6, 11, 1, 12, 13, 14, 15, 16, 17, 18, 19, 20, 21, 2, 22, 23, 24, 25, 26, 27, 28, 29, 30, 31, 32, 33, 34, 35, 36, 37, 38, 39, 40, 41, 42, 43, 44, 45, 46, 47, 48] (by decide +kernel) (by decide +kernel)
set_option maxRecDepth 20000 in
theorem gX7_isUniversal_X7_counts : GoodIn wsX7_isUniversal (wsV RX7 118 RX7 yX7_counts wsX7_counts) := goodIn_app (goodIn_of _ (by decide +kernel)) ggX7_isUniversal_X7_counts
theorem dX7_isUniversal_0 : decode cX7_isUniversal 0 = .ok (.aload_n 0, 1) := by decide +kernel
theorem dX7_isUniversal_1 : decode cX7_isUniversal 1 = .ok (.invokevirtual 118, 3) := by decide +kernel
theorem dX7_isUniversal_4 : decode cX7_isUniversal 4 = .ok (.iconst 1, 1) := by decide +kernel
theorem dX7_isUniversal_5 : decode cX7_isUniversal 5 = .ok (.istore_n 1, 1) := by decide +kernel
theorem dX7_isUniversal_6 : decode cX7_isUniversal 6 = .ok (.iconst 0, 1) := by decide +kernel
theorem dX7_isUniversal_7 : decode cX7_isUniversal 7 = .ok (.istore_n 2, 1) := by decide +kernel
theorem dX7_isUniversal_8 : decode cX7_isUniversal 8 = .ok (.iload_n 2, 1) := by decide +kernel
theorem dX7_isUniversal_9 : decode cX7_isUniversal 9 = .ok (.bipush 64, 2) := by decide +kernel
theorem dX7_isUniversal_11 : decode cX7_isUniversal 11 = .ok (.if_icmp .ge 40, 3) := by decide +kernel
theorem dX7_isUniversal_14 : decode cX7_isUniversal 14 = .ok (.iload_n 1, 1) := by decide +kernel
theorem dX7_isUniversal_15 : decode cX7_isUniversal 15 = .ok (.ifCond .eq 28, 3) := by decide +kernel
theorem dX7_isUniversal_18 : decode cX7_isUniversal 18 = .ok (.aload_n 0, 1) := by decide +kernel
theorem dX7_isUniversal_19 : decode cX7_isUniversal 19 = .ok (.getfield 41, 3) := by decide +kernel
theorem dX7_isUniversal_22 : decode cX7_isUniversal 22 = .ok (.iload_n 2, 1) := by decide +kernel
theorem dX7_isUniversal_23 : decode cX7_isUniversal 23 = .ok (.iaload, 1) := by decide +kernel
theorem dX7_isUniversal_24 : decode cX7_isUniversal 24 = .ok (.ifCond .eq 15, 3) := by decide +kernel
theorem dX7_isUniversal_27 : decode cX7_isUniversal 27 = .ok (.iload_n 2, 1) := by decide +kernel
theorem dX7_isUniversal_28 : decode cX7_isUniversal 28 = .ok (.aload_n 0, 1) := by decide +kernel
theorem dX7_isUniversal_29 : decode cX7_isUniversal 29 = .ok (.getfield 35, 3) := by decide +kernel
theorem dX7_isUniversal_32 : decode cX7_isUniversal 32 = .ok (.bipush 81, 2) := by decide +kernel
theorem dX7_isUniversal_34 : decode cX7_isUniversal 34 = .ok (.iaload, 1) := by decide +kernel
theorem dX7_isUniversal_35 : decode cX7_isUniversal 35 = .ok (.iand, 1) := by decide +kernel
theorem dX7_isUniversal_36 : decode cX7_isUniversal 36 = .ok (.ifCond .eq 7, 3) := by decide +kernel
theorem dX7_isUniversal_39 : decode cX7_isUniversal 39 = .ok (.iconst 1, 1) := by decide +kernel
theorem dX7_isUniversal_40 : decode cX7_isUniversal 40 = .ok (.goto 4, 3) := by decide +kernel
theorem dX7_isUniversal_43 : decode cX7_isUniversal 43 = .ok (.iconst 0, 1) := by decide +kernel
theorem dX7_isUniversal_44 : decode cX7_isUniversal 44 = .ok (.istore_n 1, 1) := by decide +kernel
theorem dX7_isUniversal_45 : decode cX7_isUniversal 45 = .ok (.iinc 2 1, 3) := by decide +kernel
theorem dX7_isUniversal_48 : decode cX7_isUniversal 48 = .ok (.goto (-40), 3) := by decide +kernel
theorem dX7_isUniversal_51 : decode cX7_isUniversal 51 = .ok (.iload_n 1, 1) := by decide +kernel
theorem dX7_isUniversal_52 : decode cX7_isUniversal 52 = .ok (.ifCond .eq 7, 3) := by decide +kernel
theorem dX7_isUniversal_55 : decode cX7_isUniversal 55 = .ok (.iconst 1, 1) := by decide +kernel
theorem dX7_isUniversal_56 : decode cX7_isUniversal 56 = .ok (.goto 4, 3) := by decide +kernel
theorem dX7_isUniversal_59 : decode cX7_isUniversal 59 = .ok (.iconst 0, 1) := by decide +kernel
theorem dX7_isUniversal_60 : decode cX7_isUniversal 60 = .ok (.ireturn, 1) := by decide +kernel
theorem jX7_isUniversal_X7 : ∀ w ∈ wsX70, w ∈ wsX7_isUniversal := by decide +kernel
abbrev w_X7_isUniversal (cI cO : ClassId) (aN : Nat → Nat)  : ((CS)) → va_W := fun u => (wN cI aN u)
set_option maxRecDepth 100000 in
set_option maxHeartbeats 8000000 in
theorem mX7_isUniversal (l : Launch) (D : va_G) (cI cO : ClassId) (tA tS : Nat) (aN : Nat → Nat) (zN : CS)  (sz : Nat) {post : Int32 → ((CS)) → Prop} (h : qX7_isUniversal post zN) : Met l yX7_isUniversal wsX7_isUniversal ({ frames := 4, cells := 0, slots := 0, locals := 94 } : Room) (xPre D cI cO tA tS [.ref (aN 0)] (wN cI aN zN) sz) (va_Qi post (xB D cI cO (va_A (wN cI aN zN) sz) (w_X7_isUniversal cI cO aN)) (va_A (wN cI aN zN) sz)) 0 0 (va_A (wN cI aN zN) sz) := by
  refine xMet D cI cO tA tS (fun A => va_Qi post (xB D cI cO A (w_X7_isUniversal cI cO aN)) A) (cc := cX7_isUniversal) (maxL := 3) (ret := (some .int)) (by decide) rfl (Nat.le_of_ble_eq_true rfl) ?_
  intro p e s m below meth c A ls hx hb hr hts hown hlocks hin hml hA hS hP hK hD hE hl
  have hown : s.vm.findClass RX7 = some m.cls := hown
  have hl : lv_has ls 3 [(0, .ref (aN 0))] := hl
  have g44 : ∀ (k8 : (Int32) → (Int32) → (CS) → Prop), (∀ (y1 : Int32) (y2 : Int32) (zN : CS) (H : Heap) (locs : List Loc) (ls : Array Slot), k8 y1 y2 zN → va_P D vwCl (wN cI aN zN) H → va_D A (wN cI aN zN) → va_S A s.heap H locs → lv_has ls 3 [(2, .int y2), (1, .int y1), (0, .ref (aN 0))] → W p l e ({ frames := 4, cells := 0, slots := 0, locals := 94 } : Room) s m ([.ref (aN 0)] : List Value).toArray below meth c H locs 0 0 (MQ below (va_Qi post (xB D cI cO A (w_X7_isUniversal cI cO aN)) A) ([.ref (aN 0)] : List Value).toArray s 0 0 A) (F0 m 8 ls [])) → ∀ (y1 : Int32) (y2 : Int32) (w0 : Int32) (zN : CS) (H : Heap) (locs : List Loc) (ls : Array Slot), qX7_isUniversal_44 post k8 y1 y2 w0 zN → va_P D vwCl (wN cI aN zN) H → va_D A (wN cI aN zN) → va_S A s.heap H locs → lv_has ls 3 [(2, .int y2), (1, .int y1), (0, .ref (aN 0))] → W p l e ({ frames := 4, cells := 0, slots := 0, locals := 94 } : Room) s m ([.ref (aN 0)] : List Value).toArray below meth c H locs 0 0 (MQ below (va_Qi post (xB D cI cO A (w_X7_isUniversal cI cO aN)) A) ([.ref (aN 0)] : List Value).toArray s 0 0 A) (F0 m 44 ls [.int w0]) := by
    intro k8 hk8 y1 y2 w0 zN H locs ls h hP hD hS hl
    refine lv_istore_n (lv' := [(1, .int w0), (2, .int y2), (0, .ref (aN 0))]) hx hb dX7_isUniversal_44 rfl hl (by decide) rfl (fun ls hl => ?_)
    refine lv_iinc (v := (y2 + (1 : Int32))) (lv' := [(2, .int (y2 + (1 : Int32))), (1, .int w0), (0, .ref (aN 0))]) hx hb dX7_isUniversal_45 hl (k := 1) rfl rfl (by decide) rfl (fun ls hl => ?_)
    refine lv_goto (tgt := 8) hx hb dX7_isUniversal_48 (by decide) ?_
    exact hk8 w0 (y2 + (1 : Int32)) zN _ _ _ h hP hD hS hl
  have g43 : ∀ (k8 : (Int32) → (Int32) → (CS) → Prop), (∀ (y1 : Int32) (y2 : Int32) (zN : CS) (H : Heap) (locs : List Loc) (ls : Array Slot), k8 y1 y2 zN → va_P D vwCl (wN cI aN zN) H → va_D A (wN cI aN zN) → va_S A s.heap H locs → lv_has ls 3 [(2, .int y2), (1, .int y1), (0, .ref (aN 0))] → W p l e ({ frames := 4, cells := 0, slots := 0, locals := 94 } : Room) s m ([.ref (aN 0)] : List Value).toArray below meth c H locs 0 0 (MQ below (va_Qi post (xB D cI cO A (w_X7_isUniversal cI cO aN)) A) ([.ref (aN 0)] : List Value).toArray s 0 0 A) (F0 m 8 ls [])) → ∀ (y1 : Int32) (y2 : Int32) (zN : CS) (H : Heap) (locs : List Loc) (ls : Array Slot), qX7_isUniversal_43 post k8 y1 y2 zN → va_P D vwCl (wN cI aN zN) H → va_D A (wN cI aN zN) → va_S A s.heap H locs → lv_has ls 3 [(2, .int y2), (1, .int y1), (0, .ref (aN 0))] → W p l e ({ frames := 4, cells := 0, slots := 0, locals := 94 } : Room) s m ([.ref (aN 0)] : List Value).toArray below meth c H locs 0 0 (MQ below (va_Qi post (xB D cI cO A (w_X7_isUniversal cI cO aN)) A) ([.ref (aN 0)] : List Value).toArray s 0 0 A) (F0 m 43 ls []) := by
    intro k8 hk8 y1 y2 zN H locs ls h hP hD hS hl
    refine lv_iconst (v := 0) hx hb dX7_isUniversal_43 (by decide) ?_
    exact g44 k8 hk8 y1 y2 (0 : Int32) zN _ _ _ h hP hD hS hl
  have g39 : ∀ (k8 : (Int32) → (Int32) → (CS) → Prop), (∀ (y1 : Int32) (y2 : Int32) (zN : CS) (H : Heap) (locs : List Loc) (ls : Array Slot), k8 y1 y2 zN → va_P D vwCl (wN cI aN zN) H → va_D A (wN cI aN zN) → va_S A s.heap H locs → lv_has ls 3 [(2, .int y2), (1, .int y1), (0, .ref (aN 0))] → W p l e ({ frames := 4, cells := 0, slots := 0, locals := 94 } : Room) s m ([.ref (aN 0)] : List Value).toArray below meth c H locs 0 0 (MQ below (va_Qi post (xB D cI cO A (w_X7_isUniversal cI cO aN)) A) ([.ref (aN 0)] : List Value).toArray s 0 0 A) (F0 m 8 ls [])) → ∀ (y1 : Int32) (y2 : Int32) (zN : CS) (H : Heap) (locs : List Loc) (ls : Array Slot), qX7_isUniversal_39 post k8 y1 y2 zN → va_P D vwCl (wN cI aN zN) H → va_D A (wN cI aN zN) → va_S A s.heap H locs → lv_has ls 3 [(2, .int y2), (1, .int y1), (0, .ref (aN 0))] → W p l e ({ frames := 4, cells := 0, slots := 0, locals := 94 } : Room) s m ([.ref (aN 0)] : List Value).toArray below meth c H locs 0 0 (MQ below (va_Qi post (xB D cI cO A (w_X7_isUniversal cI cO aN)) A) ([.ref (aN 0)] : List Value).toArray s 0 0 A) (F0 m 39 ls []) := by
    intro k8 hk8 y1 y2 zN H locs ls h hP hD hS hl
    refine lv_iconst (v := 1) hx hb dX7_isUniversal_39 (by decide) ?_
    refine lv_goto (tgt := 44) hx hb dX7_isUniversal_40 (by decide) ?_
    exact g44 k8 hk8 y1 y2 (1 : Int32) zN _ _ _ h hP hD hS hl
  have g8 : ∀ (n : Nat) (y1 : Int32) (y2 : Int32) (zN : CS) (H : Heap) (locs : List Loc) (ls : Array Slot), qX7_isUniversal_8 post n y1 y2 zN → va_P D vwCl (wN cI aN zN) H → va_D A (wN cI aN zN) → va_S A s.heap H locs → lv_has ls 3 [(2, .int y2), (1, .int y1), (0, .ref (aN 0))] → W p l e ({ frames := 4, cells := 0, slots := 0, locals := 94 } : Room) s m ([.ref (aN 0)] : List Value).toArray below meth c H locs 0 0 (MQ below (va_Qi post (xB D cI cO A (w_X7_isUniversal cI cO aN)) A) ([.ref (aN 0)] : List Value).toArray s 0 0 A) (F0 m 8 ls []) := by
    intro n
    induction n with
    | zero => intro y1 y2 zN H locs ls h; exact False.elim h
    | succ n hk8 =>
      intro y1 y2 zN H locs ls h hP hD hS hl
      have h : qX7_isUniversal_8b post (qX7_isUniversal_8 post n) y1 y2 zN := h
      refine lv_iload_n hx hb dX7_isUniversal_8 rfl (lv_at hl 0 rfl) ?_
      refine lv_bipush (v := 64) hx hb dX7_isUniversal_9 (by decide) ?_
      obtain ⟨hh1, hh2⟩ := h
      refine lv_icmp_ge (tgt := 51) hx hb dX7_isUniversal_11 (by decide) (fun hc => ?_) (fun hc => ?_)
      · have h := hh1 hc
        refine lv_iload_n hx hb dX7_isUniversal_51 rfl (lv_at hl 1 rfl) ?_
        obtain ⟨hh1, hh2⟩ := h
        refine lv_if_eq (tgt := 59) hx hb dX7_isUniversal_52 (by decide) (fun hc => ?_) (fun hc => ?_)
        · have h := hh1 hc
          refine lv_iconst (v := 0) hx hb dX7_isUniversal_59 (by decide) ?_
          exact xiret (w := (w_X7_isUniversal cI cO aN)) (zN) hx hb hr hlocks h hP hK hD hS dX7_isUniversal_60
        · have h := hh2 hc
          refine lv_iconst (v := 1) hx hb dX7_isUniversal_55 (by decide) ?_
          refine lv_goto (tgt := 60) hx hb dX7_isUniversal_56 (by decide) ?_
          exact xiret (w := (w_X7_isUniversal cI cO aN)) (zN) hx hb hr hlocks h hP hK hD hS dX7_isUniversal_60
      · have h := hh2 hc
        refine lv_iload_n hx hb dX7_isUniversal_14 rfl (lv_at hl 1 rfl) ?_
        obtain ⟨hh1, hh2⟩ := h
        refine lv_if_eq (tgt := 43) hx hb dX7_isUniversal_15 (by decide) (fun hc => ?_) (fun hc => ?_)
        · have h := hh1 hc
          exact g43 (qX7_isUniversal_8 post n) hk8 y1 y2 zN _ _ _ h hP hD hS hl
        · have h := hh2 hc
          refine lv_aload_n hx hb dX7_isUniversal_18 rfl (lv_at hl 2 rfl) ?_
          refine va_get (D := D) (ci := 7) (v := .ref (aN 10)) (C := RX7) (T := TX7) (N := 14) hx hb hts jX7_isUniversal_X7 hown hK hP 0 rfl rfl 12 (by decide) (hts (.fieldLink RX7 41 "BrotherAutomataModel" "many" "[I") (List.mem_of_getElem? (i := 1) rfl)) (fun _ h9 => h9) rfl dX7_isUniversal_19 ?_
          refine lv_iload_n hx hb dX7_isUniversal_22 rfl (lv_at hl 0 rfl) ?_
          obtain ⟨hi, h⟩ := h
          refine va_iald hx hb hK hP 10 0 rfl rfl hi dX7_isUniversal_23 ?_
          obtain ⟨hh1, hh2⟩ := h
          refine lv_if_eq (tgt := 39) hx hb dX7_isUniversal_24 (by decide) (fun hc => ?_) (fun hc => ?_)
          · have h := hh1 hc
            exact g39 (qX7_isUniversal_8 post n) hk8 y1 y2 zN _ _ _ h hP hD hS hl
          · have h := hh2 hc
            refine lv_iload_n hx hb dX7_isUniversal_27 rfl (lv_at hl 0 rfl) ?_
            refine lv_aload_n hx hb dX7_isUniversal_28 rfl (lv_at hl 2 rfl) ?_
            refine va_get (D := D) (ci := 7) (v := .ref (aN 8)) (C := RX7) (T := TX7) (N := 14) hx hb hts jX7_isUniversal_X7 hown hK hP 0 rfl rfl 9 (by decide) (hts (.fieldLink RX7 35 "BrotherAutomataModel" "now" "[I") (List.mem_of_getElem? (i := 2) rfl)) (fun _ h9 => h9) rfl dX7_isUniversal_29 ?_
            refine lv_bipush (v := 81) hx hb dX7_isUniversal_32 (by decide) ?_
            obtain ⟨hi, h⟩ := h
            refine va_iald hx hb hK hP 8 0 rfl rfl hi dX7_isUniversal_34 ?_
            refine lv_iand hx hb dX7_isUniversal_35 ?_
            obtain ⟨hh1, hh2⟩ := h
            refine lv_if_eq (tgt := 43) hx hb dX7_isUniversal_36 (by decide) (fun hc => ?_) (fun hc => ?_)
            · have h := hh1 hc
              exact g43 (qX7_isUniversal_8 post n) hk8 y1 y2 zN _ _ _ h hP hD hS hl
            · have h := hh2 hc
              exact g39 (qX7_isUniversal_8 post n) hk8 y1 y2 zN _ _ _ h hP hD hS hl
  refine lv_aload_n hx hb dX7_isUniversal_0 rfl (lv_at hl 0 rfl) ?_
  refine xcallv (wr := ([] : va_W)) (w2 := fun (u1 : (CS)) => (wN cI aN u1)) (va_runV (As := []) (rest := []) ⟨hx, hb, hml, hown, hts⟩ (mX7_counts l D cI cO tA tS aN zN _ h) (cwV 0 hts gX7_isUniversal_X7_counts rfl rfl rfl (by decide +kernel) ⟨Nat.le_of_ble_eq_true rfl, Nat.le_of_ble_eq_true rfl⟩) (xpreV hP hD hS hA hK hE [0, 1, 2, 3, 4, 5, 6, 7, 8, 9, 10, 11] rfl rfl 7 0 rfl rfl) rfl rfl hl.1 rfl (lv_room (Nat.le_of_ble_eq_true rfl)) dX7_isUniversal_1 ⟨Nat.le_refl 0, Nat.le_refl 0⟩) hP hD hS hA [0, 1, 2, 3, 4, 5, 6, 7, 8, 9, 10, 11] [] [0, 1, 2, 3, 4, 5, 6, 7, 8, 9, 10, 11] rfl rfl rfl (by decide) rfl (fun _ => rfl) (fun u1 H locs h hP hD hS => ?_)
  refine lv_iconst (v := 1) hx hb dX7_isUniversal_4 (by decide) ?_
  refine lv_istore_n (lv' := [(1, .int (1 : Int32)), (0, .ref (aN 0))]) hx hb dX7_isUniversal_5 rfl hl (by decide) rfl (fun ls hl => ?_)
  refine lv_iconst (v := 0) hx hb dX7_isUniversal_6 (by decide) ?_
  refine lv_istore_n (lv' := [(2, .int (0 : Int32)), (1, .int (1 : Int32)), (0, .ref (aN 0))]) hx hb dX7_isUniversal_7 rfl hl (by decide) rfl (fun ls hl => ?_)
  obtain ⟨n0, h⟩ := h
  exact g8 n0 (1 : Int32) (0 : Int32) u1 _ _ _ h hP hD hS hl
set_option maxRecDepth 20000 in
theorem ggX7_isComplete_X7_counts : GoodIn wsX7_isComplete wsX7_counts := goodIn_r _ [6, 7, 8, 9, 5, 10, 1, 11, 12, 13, 14, 15, 16, 17, 18, 19, 20, 21, 22, 23, 24, 25, 26, 27, 28, 29, 30, 31, 32, 33, 34, 35, 36, 37, 38, 39, 40, 41, 42, 43, 44, 45, 46, 47, 48] (by decide +kernel) (by decide +kernel)
set_option maxRecDepth 20000 in
theorem gX7_isComplete_X7_counts : GoodIn wsX7_isComplete (wsV RX7 118 RX7 yX7_counts wsX7_counts) := goodIn_app (goodIn_of _ (by decide +kernel)) ggX7_isComplete_X7_counts
theorem dX7_isComplete_0 : decode cX7_isComplete 0 = .ok (.aload_n 0, 1) := by decide +kernel
theorem dX7_isComplete_1 : decode cX7_isComplete 1 = .ok (.invokevirtual 118, 3) := by decide +kernel
theorem dX7_isComplete_4 : decode cX7_isComplete 4 = .ok (.aload_n 0, 1) := by decide +kernel
theorem dX7_isComplete_5 : decode cX7_isComplete 5 = .ok (.getfield 41, 3) := by decide +kernel
theorem dX7_isComplete_8 : decode cX7_isComplete 8 = .ok (.iconst 0, 1) := by decide +kernel
theorem dX7_isComplete_9 : decode cX7_isComplete 9 = .ok (.iaload, 1) := by decide +kernel
theorem dX7_isComplete_10 : decode cX7_isComplete 10 = .ok (.ifCond .ne 7, 3) := by decide +kernel
theorem dX7_isComplete_13 : decode cX7_isComplete 13 = .ok (.iconst 1, 1) := by decide +kernel
theorem dX7_isComplete_14 : decode cX7_isComplete 14 = .ok (.goto 4, 3) := by decide +kernel
theorem dX7_isComplete_17 : decode cX7_isComplete 17 = .ok (.iconst 0, 1) := by decide +kernel
theorem dX7_isComplete_18 : decode cX7_isComplete 18 = .ok (.ireturn, 1) := by decide +kernel
theorem jX7_isComplete_X7 : ∀ w ∈ wsX70, w ∈ wsX7_isComplete := by decide +kernel
abbrev w_X7_isComplete (cI cO : ClassId) (aN : Nat → Nat)  : ((CS)) → va_W := fun u => (wN cI aN u)
set_option maxRecDepth 100000 in
set_option maxHeartbeats 8000000 in
theorem mX7_isComplete (l : Launch) (D : va_G) (cI cO : ClassId) (tA tS : Nat) (aN : Nat → Nat) (zN : CS)  (sz : Nat) {post : Int32 → ((CS)) → Prop} (h : qX7_isComplete post zN) : Met l yX7_isComplete wsX7_isComplete ({ frames := 4, cells := 0, slots := 0, locals := 94 } : Room) (xPre D cI cO tA tS [.ref (aN 0)] (wN cI aN zN) sz) (va_Qi post (xB D cI cO (va_A (wN cI aN zN) sz) (w_X7_isComplete cI cO aN)) (va_A (wN cI aN zN) sz)) 0 0 (va_A (wN cI aN zN) sz) := by
  refine xMet D cI cO tA tS (fun A => va_Qi post (xB D cI cO A (w_X7_isComplete cI cO aN)) A) (cc := cX7_isComplete) (maxL := 1) (ret := (some .int)) (by decide) rfl (Nat.le_of_ble_eq_true rfl) ?_
  intro p e s m below meth c A ls hx hb hr hts hown hlocks hin hml hA hS hP hK hD hE hl
  have hown : s.vm.findClass RX7 = some m.cls := hown
  have hl : lv_has ls 1 [(0, .ref (aN 0))] := hl
  refine lv_aload_n hx hb dX7_isComplete_0 rfl (lv_at hl 0 rfl) ?_
  refine xcallv (wr := ([] : va_W)) (w2 := fun (u1 : (CS)) => (wN cI aN u1)) (va_runV (As := []) (rest := []) ⟨hx, hb, hml, hown, hts⟩ (mX7_counts l D cI cO tA tS aN zN _ h) (cwV 0 hts gX7_isComplete_X7_counts rfl rfl rfl (by decide +kernel) ⟨Nat.le_of_ble_eq_true rfl, Nat.le_of_ble_eq_true rfl⟩) (xpreV hP hD hS hA hK hE [0, 1, 2, 3, 4, 5, 6, 7, 8, 9, 10, 11] rfl rfl 7 0 rfl rfl) rfl rfl hl.1 rfl (lv_room (Nat.le_of_ble_eq_true rfl)) dX7_isComplete_1 ⟨Nat.le_refl 0, Nat.le_refl 0⟩) hP hD hS hA [0, 1, 2, 3, 4, 5, 6, 7, 8, 9, 10, 11] [] [0, 1, 2, 3, 4, 5, 6, 7, 8, 9, 10, 11] rfl rfl rfl (by decide) rfl (fun _ => rfl) (fun u1 H locs h hP hD hS => ?_)
  refine lv_aload_n hx hb dX7_isComplete_4 rfl (lv_at hl 0 rfl) ?_
  refine va_get (D := D) (ci := 7) (v := .ref (aN 10)) (C := RX7) (T := TX7) (N := 14) hx hb hts jX7_isComplete_X7 hown hK hP 0 rfl rfl 12 (by decide) (hts (.fieldLink RX7 41 "BrotherAutomataModel" "many" "[I") (List.mem_of_getElem? (i := 1) rfl)) (fun _ h9 => h9) rfl dX7_isComplete_5 ?_
  refine lv_iconst (v := 0) hx hb dX7_isComplete_8 (by decide) ?_
  obtain ⟨hi, h⟩ := h
  refine va_iald hx hb hK hP 10 0 rfl rfl hi dX7_isComplete_9 ?_
  obtain ⟨hh1, hh2⟩ := h
  refine lv_if_ne (tgt := 17) hx hb dX7_isComplete_10 (by decide) (fun hc => ?_) (fun hc => ?_)
  · have h := hh2 hc
    refine lv_iconst (v := 0) hx hb dX7_isComplete_17 (by decide) ?_
    exact xiret (w := (w_X7_isComplete cI cO aN)) (u1) hx hb hr hlocks h hP hK hD hS dX7_isComplete_18
  · have h := hh1 hc
    refine lv_iconst (v := 1) hx hb dX7_isComplete_13 (by decide) ?_
    refine lv_goto (tgt := 18) hx hb dX7_isComplete_14 (by decide) ?_
    exact xiret (w := (w_X7_isComplete cI cO aN)) (u1) hx hb hr hlocks h hP hK hD hS dX7_isComplete_18
set_option maxRecDepth 20000 in
theorem ggX7_isDeterministic_X7_counts : GoodIn wsX7_isDeterministic wsX7_counts := goodIn_r _ [6, 7, 8, 9, 5, 10, 1, 11, 12, 13, 14, 15, 16, 17, 18, 19, 20, 21, 22, 23, 24, 25, 26, 27, 28, 29, 30, 31, 32, 33, 34, 35, 36, 37, 38, 39, 40, 41, 42, 43, 44, 45, 46, 47, 48] (by decide +kernel) (by decide +kernel)
set_option maxRecDepth 20000 in
theorem gX7_isDeterministic_X7_counts : GoodIn wsX7_isDeterministic (wsV RX7 118 RX7 yX7_counts wsX7_counts) := goodIn_app (goodIn_of _ (by decide +kernel)) ggX7_isDeterministic_X7_counts
theorem dX7_isDeterministic_0 : decode cX7_isDeterministic 0 = .ok (.aload_n 0, 1) := by decide +kernel
theorem dX7_isDeterministic_1 : decode cX7_isDeterministic 1 = .ok (.invokevirtual 118, 3) := by decide +kernel
theorem dX7_isDeterministic_4 : decode cX7_isDeterministic 4 = .ok (.iconst 1, 1) := by decide +kernel
theorem dX7_isDeterministic_5 : decode cX7_isDeterministic 5 = .ok (.istore_n 1, 1) := by decide +kernel
theorem dX7_isDeterministic_6 : decode cX7_isDeterministic 6 = .ok (.iconst 0, 1) := by decide +kernel
theorem dX7_isDeterministic_7 : decode cX7_isDeterministic 7 = .ok (.istore_n 2, 1) := by decide +kernel
theorem dX7_isDeterministic_8 : decode cX7_isDeterministic 8 = .ok (.iload_n 2, 1) := by decide +kernel
theorem dX7_isDeterministic_9 : decode cX7_isDeterministic 9 = .ok (.bipush 64, 2) := by decide +kernel
theorem dX7_isDeterministic_11 : decode cX7_isDeterministic 11 = .ok (.if_icmp .ge 36, 3) := by decide +kernel
theorem dX7_isDeterministic_14 : decode cX7_isDeterministic 14 = .ok (.iload_n 1, 1) := by decide +kernel
theorem dX7_isDeterministic_15 : decode cX7_isDeterministic 15 = .ok (.ifCond .eq 24, 3) := by decide +kernel
theorem dX7_isDeterministic_18 : decode cX7_isDeterministic 18 = .ok (.aload_n 0, 1) := by decide +kernel
theorem dX7_isDeterministic_19 : decode cX7_isDeterministic 19 = .ok (.getfield 41, 3) := by decide +kernel
theorem dX7_isDeterministic_22 : decode cX7_isDeterministic 22 = .ok (.iload_n 2, 1) := by decide +kernel
theorem dX7_isDeterministic_23 : decode cX7_isDeterministic 23 = .ok (.iaload, 1) := by decide +kernel
theorem dX7_isDeterministic_24 : decode cX7_isDeterministic 24 = .ok (.ifCond .eq 11, 3) := by decide +kernel
theorem dX7_isDeterministic_27 : decode cX7_isDeterministic 27 = .ok (.iload_n 2, 1) := by decide +kernel
theorem dX7_isDeterministic_28 : decode cX7_isDeterministic 28 = .ok (.iload_n 2, 1) := by decide +kernel
theorem dX7_isDeterministic_29 : decode cX7_isDeterministic 29 = .ok (.iconst 1, 1) := by decide +kernel
theorem dX7_isDeterministic_30 : decode cX7_isDeterministic 30 = .ok (.isub, 1) := by decide +kernel
theorem dX7_isDeterministic_31 : decode cX7_isDeterministic 31 = .ok (.iand, 1) := by decide +kernel
theorem dX7_isDeterministic_32 : decode cX7_isDeterministic 32 = .ok (.ifCond .ne 7, 3) := by decide +kernel
theorem dX7_isDeterministic_35 : decode cX7_isDeterministic 35 = .ok (.iconst 1, 1) := by decide +kernel
theorem dX7_isDeterministic_36 : decode cX7_isDeterministic 36 = .ok (.goto 4, 3) := by decide +kernel
theorem dX7_isDeterministic_39 : decode cX7_isDeterministic 39 = .ok (.iconst 0, 1) := by decide +kernel
theorem dX7_isDeterministic_40 : decode cX7_isDeterministic 40 = .ok (.istore_n 1, 1) := by decide +kernel
theorem dX7_isDeterministic_41 : decode cX7_isDeterministic 41 = .ok (.iinc 2 1, 3) := by decide +kernel
theorem dX7_isDeterministic_44 : decode cX7_isDeterministic 44 = .ok (.goto (-36), 3) := by decide +kernel
theorem dX7_isDeterministic_47 : decode cX7_isDeterministic 47 = .ok (.iload_n 1, 1) := by decide +kernel
theorem dX7_isDeterministic_48 : decode cX7_isDeterministic 48 = .ok (.ifCond .eq 7, 3) := by decide +kernel
theorem dX7_isDeterministic_51 : decode cX7_isDeterministic 51 = .ok (.iconst 1, 1) := by decide +kernel
theorem dX7_isDeterministic_52 : decode cX7_isDeterministic 52 = .ok (.goto 4, 3) := by decide +kernel
theorem dX7_isDeterministic_55 : decode cX7_isDeterministic 55 = .ok (.iconst 0, 1) := by decide +kernel
theorem dX7_isDeterministic_56 : decode cX7_isDeterministic 56 = .ok (.ireturn, 1) := by decide +kernel
theorem jX7_isDeterministic_X7 : ∀ w ∈ wsX70, w ∈ wsX7_isDeterministic := by decide +kernel
abbrev w_X7_isDeterministic (cI cO : ClassId) (aN : Nat → Nat)  : ((CS)) → va_W := fun u => (wN cI aN u)
set_option maxRecDepth 100000 in
set_option maxHeartbeats 8000000 in
theorem mX7_isDeterministic (l : Launch) (D : va_G) (cI cO : ClassId) (tA tS : Nat) (aN : Nat → Nat) (zN : CS)  (sz : Nat) {post : Int32 → ((CS)) → Prop} (h : qX7_isDeterministic post zN) : Met l yX7_isDeterministic wsX7_isDeterministic ({ frames := 4, cells := 0, slots := 0, locals := 94 } : Room) (xPre D cI cO tA tS [.ref (aN 0)] (wN cI aN zN) sz) (va_Qi post (xB D cI cO (va_A (wN cI aN zN) sz) (w_X7_isDeterministic cI cO aN)) (va_A (wN cI aN zN) sz)) 0 0 (va_A (wN cI aN zN) sz) := by
  refine xMet D cI cO tA tS (fun A => va_Qi post (xB D cI cO A (w_X7_isDeterministic cI cO aN)) A) (cc := cX7_isDeterministic) (maxL := 3) (ret := (some .int)) (by decide) rfl (Nat.le_of_ble_eq_true rfl) ?_
  intro p e s m below meth c A ls hx hb hr hts hown hlocks hin hml hA hS hP hK hD hE hl
  have hown : s.vm.findClass RX7 = some m.cls := hown
  have hl : lv_has ls 3 [(0, .ref (aN 0))] := hl
  have g40 : ∀ (k8 : (Int32) → (Int32) → (CS) → Prop), (∀ (y1 : Int32) (y2 : Int32) (zN : CS) (H : Heap) (locs : List Loc) (ls : Array Slot), k8 y1 y2 zN → va_P D vwCl (wN cI aN zN) H → va_D A (wN cI aN zN) → va_S A s.heap H locs → lv_has ls 3 [(2, .int y2), (1, .int y1), (0, .ref (aN 0))] → W p l e ({ frames := 4, cells := 0, slots := 0, locals := 94 } : Room) s m ([.ref (aN 0)] : List Value).toArray below meth c H locs 0 0 (MQ below (va_Qi post (xB D cI cO A (w_X7_isDeterministic cI cO aN)) A) ([.ref (aN 0)] : List Value).toArray s 0 0 A) (F0 m 8 ls [])) → ∀ (y1 : Int32) (y2 : Int32) (w0 : Int32) (zN : CS) (H : Heap) (locs : List Loc) (ls : Array Slot), qX7_isDeterministic_40 post k8 y1 y2 w0 zN → va_P D vwCl (wN cI aN zN) H → va_D A (wN cI aN zN) → va_S A s.heap H locs → lv_has ls 3 [(2, .int y2), (1, .int y1), (0, .ref (aN 0))] → W p l e ({ frames := 4, cells := 0, slots := 0, locals := 94 } : Room) s m ([.ref (aN 0)] : List Value).toArray below meth c H locs 0 0 (MQ below (va_Qi post (xB D cI cO A (w_X7_isDeterministic cI cO aN)) A) ([.ref (aN 0)] : List Value).toArray s 0 0 A) (F0 m 40 ls [.int w0]) := by
    intro k8 hk8 y1 y2 w0 zN H locs ls h hP hD hS hl
    refine lv_istore_n (lv' := [(1, .int w0), (2, .int y2), (0, .ref (aN 0))]) hx hb dX7_isDeterministic_40 rfl hl (by decide) rfl (fun ls hl => ?_)
    refine lv_iinc (v := (y2 + (1 : Int32))) (lv' := [(2, .int (y2 + (1 : Int32))), (1, .int w0), (0, .ref (aN 0))]) hx hb dX7_isDeterministic_41 hl (k := 1) rfl rfl (by decide) rfl (fun ls hl => ?_)
    refine lv_goto (tgt := 8) hx hb dX7_isDeterministic_44 (by decide) ?_
    exact hk8 w0 (y2 + (1 : Int32)) zN _ _ _ h hP hD hS hl
  have g39 : ∀ (k8 : (Int32) → (Int32) → (CS) → Prop), (∀ (y1 : Int32) (y2 : Int32) (zN : CS) (H : Heap) (locs : List Loc) (ls : Array Slot), k8 y1 y2 zN → va_P D vwCl (wN cI aN zN) H → va_D A (wN cI aN zN) → va_S A s.heap H locs → lv_has ls 3 [(2, .int y2), (1, .int y1), (0, .ref (aN 0))] → W p l e ({ frames := 4, cells := 0, slots := 0, locals := 94 } : Room) s m ([.ref (aN 0)] : List Value).toArray below meth c H locs 0 0 (MQ below (va_Qi post (xB D cI cO A (w_X7_isDeterministic cI cO aN)) A) ([.ref (aN 0)] : List Value).toArray s 0 0 A) (F0 m 8 ls [])) → ∀ (y1 : Int32) (y2 : Int32) (zN : CS) (H : Heap) (locs : List Loc) (ls : Array Slot), qX7_isDeterministic_39 post k8 y1 y2 zN → va_P D vwCl (wN cI aN zN) H → va_D A (wN cI aN zN) → va_S A s.heap H locs → lv_has ls 3 [(2, .int y2), (1, .int y1), (0, .ref (aN 0))] → W p l e ({ frames := 4, cells := 0, slots := 0, locals := 94 } : Room) s m ([.ref (aN 0)] : List Value).toArray below meth c H locs 0 0 (MQ below (va_Qi post (xB D cI cO A (w_X7_isDeterministic cI cO aN)) A) ([.ref (aN 0)] : List Value).toArray s 0 0 A) (F0 m 39 ls []) := by
    intro k8 hk8 y1 y2 zN H locs ls h hP hD hS hl
    refine lv_iconst (v := 0) hx hb dX7_isDeterministic_39 (by decide) ?_
    exact g40 k8 hk8 y1 y2 (0 : Int32) zN _ _ _ h hP hD hS hl
  have g35 : ∀ (k8 : (Int32) → (Int32) → (CS) → Prop), (∀ (y1 : Int32) (y2 : Int32) (zN : CS) (H : Heap) (locs : List Loc) (ls : Array Slot), k8 y1 y2 zN → va_P D vwCl (wN cI aN zN) H → va_D A (wN cI aN zN) → va_S A s.heap H locs → lv_has ls 3 [(2, .int y2), (1, .int y1), (0, .ref (aN 0))] → W p l e ({ frames := 4, cells := 0, slots := 0, locals := 94 } : Room) s m ([.ref (aN 0)] : List Value).toArray below meth c H locs 0 0 (MQ below (va_Qi post (xB D cI cO A (w_X7_isDeterministic cI cO aN)) A) ([.ref (aN 0)] : List Value).toArray s 0 0 A) (F0 m 8 ls [])) → ∀ (y1 : Int32) (y2 : Int32) (zN : CS) (H : Heap) (locs : List Loc) (ls : Array Slot), qX7_isDeterministic_35 post k8 y1 y2 zN → va_P D vwCl (wN cI aN zN) H → va_D A (wN cI aN zN) → va_S A s.heap H locs → lv_has ls 3 [(2, .int y2), (1, .int y1), (0, .ref (aN 0))] → W p l e ({ frames := 4, cells := 0, slots := 0, locals := 94 } : Room) s m ([.ref (aN 0)] : List Value).toArray below meth c H locs 0 0 (MQ below (va_Qi post (xB D cI cO A (w_X7_isDeterministic cI cO aN)) A) ([.ref (aN 0)] : List Value).toArray s 0 0 A) (F0 m 35 ls []) := by
    intro k8 hk8 y1 y2 zN H locs ls h hP hD hS hl
    refine lv_iconst (v := 1) hx hb dX7_isDeterministic_35 (by decide) ?_
    refine lv_goto (tgt := 40) hx hb dX7_isDeterministic_36 (by decide) ?_
    exact g40 k8 hk8 y1 y2 (1 : Int32) zN _ _ _ h hP hD hS hl
  have g8 : ∀ (n : Nat) (y1 : Int32) (y2 : Int32) (zN : CS) (H : Heap) (locs : List Loc) (ls : Array Slot), qX7_isDeterministic_8 post n y1 y2 zN → va_P D vwCl (wN cI aN zN) H → va_D A (wN cI aN zN) → va_S A s.heap H locs → lv_has ls 3 [(2, .int y2), (1, .int y1), (0, .ref (aN 0))] → W p l e ({ frames := 4, cells := 0, slots := 0, locals := 94 } : Room) s m ([.ref (aN 0)] : List Value).toArray below meth c H locs 0 0 (MQ below (va_Qi post (xB D cI cO A (w_X7_isDeterministic cI cO aN)) A) ([.ref (aN 0)] : List Value).toArray s 0 0 A) (F0 m 8 ls []) := by
    intro n
    induction n with
    | zero => intro y1 y2 zN H locs ls h; exact False.elim h
    | succ n hk8 =>
      intro y1 y2 zN H locs ls h hP hD hS hl
      have h : qX7_isDeterministic_8b post (qX7_isDeterministic_8 post n) y1 y2 zN := h
      refine lv_iload_n hx hb dX7_isDeterministic_8 rfl (lv_at hl 0 rfl) ?_
      refine lv_bipush (v := 64) hx hb dX7_isDeterministic_9 (by decide) ?_
      obtain ⟨hh1, hh2⟩ := h
      refine lv_icmp_ge (tgt := 47) hx hb dX7_isDeterministic_11 (by decide) (fun hc => ?_) (fun hc => ?_)
      · have h := hh1 hc
        refine lv_iload_n hx hb dX7_isDeterministic_47 rfl (lv_at hl 1 rfl) ?_
        obtain ⟨hh1, hh2⟩ := h
        refine lv_if_eq (tgt := 55) hx hb dX7_isDeterministic_48 (by decide) (fun hc => ?_) (fun hc => ?_)
        · have h := hh1 hc
          refine lv_iconst (v := 0) hx hb dX7_isDeterministic_55 (by decide) ?_
          exact xiret (w := (w_X7_isDeterministic cI cO aN)) (zN) hx hb hr hlocks h hP hK hD hS dX7_isDeterministic_56
        · have h := hh2 hc
          refine lv_iconst (v := 1) hx hb dX7_isDeterministic_51 (by decide) ?_
          refine lv_goto (tgt := 56) hx hb dX7_isDeterministic_52 (by decide) ?_
          exact xiret (w := (w_X7_isDeterministic cI cO aN)) (zN) hx hb hr hlocks h hP hK hD hS dX7_isDeterministic_56
      · have h := hh2 hc
        refine lv_iload_n hx hb dX7_isDeterministic_14 rfl (lv_at hl 1 rfl) ?_
        obtain ⟨hh1, hh2⟩ := h
        refine lv_if_eq (tgt := 39) hx hb dX7_isDeterministic_15 (by decide) (fun hc => ?_) (fun hc => ?_)
        · have h := hh1 hc
          exact g39 (qX7_isDeterministic_8 post n) hk8 y1 y2 zN _ _ _ h hP hD hS hl
        · have h := hh2 hc
          refine lv_aload_n hx hb dX7_isDeterministic_18 rfl (lv_at hl 2 rfl) ?_
          refine va_get (D := D) (ci := 7) (v := .ref (aN 10)) (C := RX7) (T := TX7) (N := 14) hx hb hts jX7_isDeterministic_X7 hown hK hP 0 rfl rfl 12 (by decide) (hts (.fieldLink RX7 41 "BrotherAutomataModel" "many" "[I") (List.mem_of_getElem? (i := 1) rfl)) (fun _ h9 => h9) rfl dX7_isDeterministic_19 ?_
          refine lv_iload_n hx hb dX7_isDeterministic_22 rfl (lv_at hl 0 rfl) ?_
          obtain ⟨hi, h⟩ := h
          refine va_iald hx hb hK hP 10 0 rfl rfl hi dX7_isDeterministic_23 ?_
          obtain ⟨hh1, hh2⟩ := h
          refine lv_if_eq (tgt := 35) hx hb dX7_isDeterministic_24 (by decide) (fun hc => ?_) (fun hc => ?_)
          · have h := hh1 hc
            exact g35 (qX7_isDeterministic_8 post n) hk8 y1 y2 zN _ _ _ h hP hD hS hl
          · have h := hh2 hc
            refine lv_iload_n hx hb dX7_isDeterministic_27 rfl (lv_at hl 0 rfl) ?_
            refine lv_iload_n hx hb dX7_isDeterministic_28 rfl (lv_at hl 0 rfl) ?_
            refine lv_iconst (v := 1) hx hb dX7_isDeterministic_29 (by decide) ?_
            refine lv_isub hx hb dX7_isDeterministic_30 ?_
            refine lv_iand hx hb dX7_isDeterministic_31 ?_
            obtain ⟨hh1, hh2⟩ := h
            refine lv_if_ne (tgt := 39) hx hb dX7_isDeterministic_32 (by decide) (fun hc => ?_) (fun hc => ?_)
            · have h := hh2 hc
              exact g39 (qX7_isDeterministic_8 post n) hk8 y1 y2 zN _ _ _ h hP hD hS hl
            · have h := hh1 hc
              exact g35 (qX7_isDeterministic_8 post n) hk8 y1 y2 zN _ _ _ h hP hD hS hl
  refine lv_aload_n hx hb dX7_isDeterministic_0 rfl (lv_at hl 0 rfl) ?_
  refine xcallv (wr := ([] : va_W)) (w2 := fun (u1 : (CS)) => (wN cI aN u1)) (va_runV (As := []) (rest := []) ⟨hx, hb, hml, hown, hts⟩ (mX7_counts l D cI cO tA tS aN zN _ h) (cwV 0 hts gX7_isDeterministic_X7_counts rfl rfl rfl (by decide +kernel) ⟨Nat.le_of_ble_eq_true rfl, Nat.le_of_ble_eq_true rfl⟩) (xpreV hP hD hS hA hK hE [0, 1, 2, 3, 4, 5, 6, 7, 8, 9, 10, 11] rfl rfl 7 0 rfl rfl) rfl rfl hl.1 rfl (lv_room (Nat.le_of_ble_eq_true rfl)) dX7_isDeterministic_1 ⟨Nat.le_refl 0, Nat.le_refl 0⟩) hP hD hS hA [0, 1, 2, 3, 4, 5, 6, 7, 8, 9, 10, 11] [] [0, 1, 2, 3, 4, 5, 6, 7, 8, 9, 10, 11] rfl rfl rfl (by decide) rfl (fun _ => rfl) (fun u1 H locs h hP hD hS => ?_)
  refine lv_iconst (v := 1) hx hb dX7_isDeterministic_4 (by decide) ?_
  refine lv_istore_n (lv' := [(1, .int (1 : Int32)), (0, .ref (aN 0))]) hx hb dX7_isDeterministic_5 rfl hl (by decide) rfl (fun ls hl => ?_)
  refine lv_iconst (v := 0) hx hb dX7_isDeterministic_6 (by decide) ?_
  refine lv_istore_n (lv' := [(2, .int (0 : Int32)), (1, .int (1 : Int32)), (0, .ref (aN 0))]) hx hb dX7_isDeterministic_7 rfl hl (by decide) rfl (fun ls hl => ?_)
  obtain ⟨n0, h⟩ := h
  exact g8 n0 (1 : Int32) (0 : Int32) u1 _ _ _ h hP hD hS hl
set_option maxRecDepth 20000 in
theorem ggX7_leastHeight_X7_starts : GoodIn wsX7_leastHeight wsX7_starts := goodIn_r _ [7, 1, 31, 32, 33, 34, 35, 36, 37, 38, 39, 40, 41, 42, 43, 44] (by decide +kernel) (by decide +kernel)
set_option maxRecDepth 20000 in
theorem gX7_leastHeight_X7_starts : GoodIn wsX7_leastHeight (wsV RX7 111 RX7 yX7_starts wsX7_starts) := goodIn_app (goodIn_of _ (by decide +kernel)) ggX7_leastHeight_X7_starts
set_option maxRecDepth 20000 in
theorem ggX7_leastHeight_X7_steps : GoodIn wsX7_leastHeight wsX7_steps := goodIn_r _ [11, 12, 13, 1, 14, 15, 16, 6, 17, 2, 18, 19, 20, 21, 22, 23, 24, 25, 26, 27, 28, 29, 30, 31, 32, 33, 34, 35, 36, 37, 38, 39, 40, 41, 42, 43, 44] (by decide +kernel) (by decide +kernel)
set_option maxRecDepth 20000 in
theorem gX7_leastHeight_X7_steps : GoodIn wsX7_leastHeight (wsV RX7 114 RX7 yX7_steps wsX7_steps) := goodIn_app (goodIn_of _ (by decide +kernel)) ggX7_leastHeight_X7_steps
theorem dX7_leastHeight_0 : decode cX7_leastHeight 0 = .ok (.aload_n 0, 1) := by decide +kernel
theorem dX7_leastHeight_1 : decode cX7_leastHeight 1 = .ok (.invokevirtual 111, 3) := by decide +kernel
theorem dX7_leastHeight_4 : decode cX7_leastHeight 4 = .ok (.iconst 0, 1) := by decide +kernel
theorem dX7_leastHeight_5 : decode cX7_leastHeight 5 = .ok (.istore_n 1, 1) := by decide +kernel
theorem dX7_leastHeight_6 : decode cX7_leastHeight 6 = .ok (.iconst 1, 1) := by decide +kernel
theorem dX7_leastHeight_7 : decode cX7_leastHeight 7 = .ok (.istore_n 2, 1) := by decide +kernel
theorem dX7_leastHeight_8 : decode cX7_leastHeight 8 = .ok (.iload_n 2, 1) := by decide +kernel
theorem dX7_leastHeight_9 : decode cX7_leastHeight 9 = .ok (.ifCond .eq 51, 3) := by decide +kernel
theorem dX7_leastHeight_12 : decode cX7_leastHeight 12 = .ok (.aload_n 0, 1) := by decide +kernel
theorem dX7_leastHeight_13 : decode cX7_leastHeight 13 = .ok (.invokevirtual 114, 3) := by decide +kernel
theorem dX7_leastHeight_16 : decode cX7_leastHeight 16 = .ok (.istore_n 2, 1) := by decide +kernel
theorem dX7_leastHeight_17 : decode cX7_leastHeight 17 = .ok (.iconst 0, 1) := by decide +kernel
theorem dX7_leastHeight_18 : decode cX7_leastHeight 18 = .ok (.istore_n 3, 1) := by decide +kernel
theorem dX7_leastHeight_19 : decode cX7_leastHeight 19 = .ok (.iload_n 3, 1) := by decide +kernel
theorem dX7_leastHeight_20 : decode cX7_leastHeight 20 = .ok (.bipush 64, 2) := by decide +kernel
theorem dX7_leastHeight_22 : decode cX7_leastHeight 22 = .ok (.if_icmp .ge 32, 3) := by decide +kernel
theorem dX7_leastHeight_25 : decode cX7_leastHeight 25 = .ok (.aload_n 0, 1) := by decide +kernel
theorem dX7_leastHeight_26 : decode cX7_leastHeight 26 = .ok (.getfield 41, 3) := by decide +kernel
theorem dX7_leastHeight_29 : decode cX7_leastHeight 29 = .ok (.iload_n 3, 1) := by decide +kernel
theorem dX7_leastHeight_30 : decode cX7_leastHeight 30 = .ok (.iaload, 1) := by decide +kernel
theorem dX7_leastHeight_31 : decode cX7_leastHeight 31 = .ok (.ifCond .le 17, 3) := by decide +kernel
theorem dX7_leastHeight_34 : decode cX7_leastHeight 34 = .ok (.iload_n 3, 1) := by decide +kernel
theorem dX7_leastHeight_35 : decode cX7_leastHeight 35 = .ok (.aload_n 0, 1) := by decide +kernel
theorem dX7_leastHeight_36 : decode cX7_leastHeight 36 = .ok (.getfield 35, 3) := by decide +kernel
theorem dX7_leastHeight_39 : decode cX7_leastHeight 39 = .ok (.bipush 81, 2) := by decide +kernel
theorem dX7_leastHeight_41 : decode cX7_leastHeight 41 = .ok (.iaload, 1) := by decide +kernel
theorem dX7_leastHeight_42 : decode cX7_leastHeight 42 = .ok (.iand, 1) := by decide +kernel
theorem dX7_leastHeight_43 : decode cX7_leastHeight 43 = .ok (.ifCond .eq 5, 3) := by decide +kernel
theorem dX7_leastHeight_46 : decode cX7_leastHeight 46 = .ok (.iload_n 1, 1) := by decide +kernel
theorem dX7_leastHeight_47 : decode cX7_leastHeight 47 = .ok (.ireturn, 1) := by decide +kernel
theorem dX7_leastHeight_48 : decode cX7_leastHeight 48 = .ok (.iinc 3 1, 3) := by decide +kernel
theorem dX7_leastHeight_51 : decode cX7_leastHeight 51 = .ok (.goto (-32), 3) := by decide +kernel
theorem dX7_leastHeight_54 : decode cX7_leastHeight 54 = .ok (.iinc 1 1, 3) := by decide +kernel
theorem dX7_leastHeight_57 : decode cX7_leastHeight 57 = .ok (.goto (-49), 3) := by decide +kernel
theorem dX7_leastHeight_60 : decode cX7_leastHeight 60 = .ok (.bipush (-3), 2) := by decide +kernel
theorem dX7_leastHeight_62 : decode cX7_leastHeight 62 = .ok (.ireturn, 1) := by decide +kernel
theorem jX7_leastHeight_X7 : ∀ w ∈ wsX70, w ∈ wsX7_leastHeight := by decide +kernel
abbrev w_X7_leastHeight (cI cO : ClassId) (aN : Nat → Nat)  : ((CS)) → va_W := fun u => (wN cI aN u)
set_option maxRecDepth 100000 in
set_option maxHeartbeats 8000000 in
theorem mX7_leastHeight (l : Launch) (D : va_G) (cI cO : ClassId) (tA tS : Nat) (aN : Nat → Nat) (zN : CS)  (sz : Nat) {post : Int32 → ((CS)) → Prop} (h : qX7_leastHeight post zN) : Met l yX7_leastHeight wsX7_leastHeight ({ frames := 3, cells := 0, slots := 0, locals := 73 } : Room) (xPre D cI cO tA tS [.ref (aN 0)] (wN cI aN zN) sz) (va_Qi post (xB D cI cO (va_A (wN cI aN zN) sz) (w_X7_leastHeight cI cO aN)) (va_A (wN cI aN zN) sz)) 0 0 (va_A (wN cI aN zN) sz) := by
  refine xMet D cI cO tA tS (fun A => va_Qi post (xB D cI cO A (w_X7_leastHeight cI cO aN)) A) (cc := cX7_leastHeight) (maxL := 4) (ret := (some .int)) (by decide) rfl (Nat.le_of_ble_eq_true rfl) ?_
  intro p e s m below meth c A ls hx hb hr hts hown hlocks hin hml hA hS hP hK hD hE hl
  have hown : s.vm.findClass RX7 = some m.cls := hown
  have hl : lv_has ls 4 [(0, .ref (aN 0))] := hl
  have g48 : ∀ (k8 : (Int32) → (Int32) → (CS) → Prop), (∀ (y1 : Int32) (y2 : Int32) (zN : CS) (H : Heap) (locs : List Loc) (ls : Array Slot), k8 y1 y2 zN → va_P D vwCl (wN cI aN zN) H → va_D A (wN cI aN zN) → va_S A s.heap H locs → lv_has ls 4 [(2, .int y2), (1, .int y1), (0, .ref (aN 0))] → W p l e ({ frames := 3, cells := 0, slots := 0, locals := 73 } : Room) s m ([.ref (aN 0)] : List Value).toArray below meth c H locs 0 0 (MQ below (va_Qi post (xB D cI cO A (w_X7_leastHeight cI cO aN)) A) ([.ref (aN 0)] : List Value).toArray s 0 0 A) (F0 m 8 ls [])) → ∀ (k19 : (Int32) → (Int32) → (Int32) → (CS) → Prop), (∀ (y1 : Int32) (y2 : Int32) (y3 : Int32) (zN : CS) (H : Heap) (locs : List Loc) (ls : Array Slot), k19 y1 y2 y3 zN → va_P D vwCl (wN cI aN zN) H → va_D A (wN cI aN zN) → va_S A s.heap H locs → lv_has ls 4 [(3, .int y3), (2, .int y2), (1, .int y1), (0, .ref (aN 0))] → W p l e ({ frames := 3, cells := 0, slots := 0, locals := 73 } : Room) s m ([.ref (aN 0)] : List Value).toArray below meth c H locs 0 0 (MQ below (va_Qi post (xB D cI cO A (w_X7_leastHeight cI cO aN)) A) ([.ref (aN 0)] : List Value).toArray s 0 0 A) (F0 m 19 ls [])) → ∀ (y1 : Int32) (y2 : Int32) (y3 : Int32) (zN : CS) (H : Heap) (locs : List Loc) (ls : Array Slot), qX7_leastHeight_48 post k8 k19 y1 y2 y3 zN → va_P D vwCl (wN cI aN zN) H → va_D A (wN cI aN zN) → va_S A s.heap H locs → lv_has ls 4 [(3, .int y3), (2, .int y2), (1, .int y1), (0, .ref (aN 0))] → W p l e ({ frames := 3, cells := 0, slots := 0, locals := 73 } : Room) s m ([.ref (aN 0)] : List Value).toArray below meth c H locs 0 0 (MQ below (va_Qi post (xB D cI cO A (w_X7_leastHeight cI cO aN)) A) ([.ref (aN 0)] : List Value).toArray s 0 0 A) (F0 m 48 ls []) := by
    intro k8 hk8 k19 hk19 y1 y2 y3 zN H locs ls h hP hD hS hl
    refine lv_iinc (v := (y3 + (1 : Int32))) (lv' := [(3, .int (y3 + (1 : Int32))), (2, .int y2), (1, .int y1), (0, .ref (aN 0))]) hx hb dX7_leastHeight_48 hl (k := 0) rfl rfl (by decide) rfl (fun ls hl => ?_)
    refine lv_goto (tgt := 19) hx hb dX7_leastHeight_51 (by decide) ?_
    exact hk19 y1 y2 (y3 + (1 : Int32)) zN _ _ _ h hP hD hS hl
  have g19 : ∀ (k8 : (Int32) → (Int32) → (CS) → Prop), (∀ (y1 : Int32) (y2 : Int32) (zN : CS) (H : Heap) (locs : List Loc) (ls : Array Slot), k8 y1 y2 zN → va_P D vwCl (wN cI aN zN) H → va_D A (wN cI aN zN) → va_S A s.heap H locs → lv_has ls 4 [(2, .int y2), (1, .int y1), (0, .ref (aN 0))] → W p l e ({ frames := 3, cells := 0, slots := 0, locals := 73 } : Room) s m ([.ref (aN 0)] : List Value).toArray below meth c H locs 0 0 (MQ below (va_Qi post (xB D cI cO A (w_X7_leastHeight cI cO aN)) A) ([.ref (aN 0)] : List Value).toArray s 0 0 A) (F0 m 8 ls [])) → ∀ (n : Nat) (y1 : Int32) (y2 : Int32) (y3 : Int32) (zN : CS) (H : Heap) (locs : List Loc) (ls : Array Slot), qX7_leastHeight_19 post k8 n y1 y2 y3 zN → va_P D vwCl (wN cI aN zN) H → va_D A (wN cI aN zN) → va_S A s.heap H locs → lv_has ls 4 [(3, .int y3), (2, .int y2), (1, .int y1), (0, .ref (aN 0))] → W p l e ({ frames := 3, cells := 0, slots := 0, locals := 73 } : Room) s m ([.ref (aN 0)] : List Value).toArray below meth c H locs 0 0 (MQ below (va_Qi post (xB D cI cO A (w_X7_leastHeight cI cO aN)) A) ([.ref (aN 0)] : List Value).toArray s 0 0 A) (F0 m 19 ls []) := by
    intro k8 hk8 n
    induction n with
    | zero => intro y1 y2 y3 zN H locs ls h; exact False.elim h
    | succ n hk19 =>
      intro y1 y2 y3 zN H locs ls h hP hD hS hl
      have h : qX7_leastHeight_19b post k8 (qX7_leastHeight_19 post k8 n) y1 y2 y3 zN := h
      refine lv_iload_n hx hb dX7_leastHeight_19 rfl (lv_at hl 0 rfl) ?_
      refine lv_bipush (v := 64) hx hb dX7_leastHeight_20 (by decide) ?_
      obtain ⟨hh1, hh2⟩ := h
      refine lv_icmp_ge (tgt := 54) hx hb dX7_leastHeight_22 (by decide) (fun hc => ?_) (fun hc => ?_)
      · have h := hh1 hc
        refine lv_iinc (v := (y1 + (1 : Int32))) (lv' := [(1, .int (y1 + (1 : Int32))), (3, .int y3), (2, .int y2), (0, .ref (aN 0))]) hx hb dX7_leastHeight_54 hl (k := 2) rfl rfl (by decide) rfl (fun ls hl => ?_)
        refine lv_goto (tgt := 8) hx hb dX7_leastHeight_57 (by decide) ?_
        exact hk8 (y1 + (1 : Int32)) y2 zN _ _ _ h hP hD hS (lv_sub hl [2, 0, 3] rfl)
      · have h := hh2 hc
        refine lv_aload_n hx hb dX7_leastHeight_25 rfl (lv_at hl 3 rfl) ?_
        refine va_get (D := D) (ci := 7) (v := .ref (aN 10)) (C := RX7) (T := TX7) (N := 14) hx hb hts jX7_leastHeight_X7 hown hK hP 0 rfl rfl 12 (by decide) (hts (.fieldLink RX7 41 "BrotherAutomataModel" "many" "[I") (List.mem_of_getElem? (i := 1) rfl)) (fun _ h9 => h9) rfl dX7_leastHeight_26 ?_
        refine lv_iload_n hx hb dX7_leastHeight_29 rfl (lv_at hl 0 rfl) ?_
        obtain ⟨hi, h⟩ := h
        refine va_iald hx hb hK hP 10 0 rfl rfl hi dX7_leastHeight_30 ?_
        obtain ⟨hh1, hh2⟩ := h
        refine lv_if_le (tgt := 48) hx hb dX7_leastHeight_31 (by decide) (fun hc => ?_) (fun hc => ?_)
        · have h := hh1 hc
          exact g48 k8 hk8 (qX7_leastHeight_19 post k8 n) hk19 y1 y2 y3 zN _ _ _ h hP hD hS hl
        · have h := hh2 hc
          refine lv_iload_n hx hb dX7_leastHeight_34 rfl (lv_at hl 0 rfl) ?_
          refine lv_aload_n hx hb dX7_leastHeight_35 rfl (lv_at hl 3 rfl) ?_
          refine va_get (D := D) (ci := 7) (v := .ref (aN 8)) (C := RX7) (T := TX7) (N := 14) hx hb hts jX7_leastHeight_X7 hown hK hP 0 rfl rfl 9 (by decide) (hts (.fieldLink RX7 35 "BrotherAutomataModel" "now" "[I") (List.mem_of_getElem? (i := 2) rfl)) (fun _ h9 => h9) rfl dX7_leastHeight_36 ?_
          refine lv_bipush (v := 81) hx hb dX7_leastHeight_39 (by decide) ?_
          obtain ⟨hi, h⟩ := h
          refine va_iald hx hb hK hP 8 0 rfl rfl hi dX7_leastHeight_41 ?_
          refine lv_iand hx hb dX7_leastHeight_42 ?_
          obtain ⟨hh1, hh2⟩ := h
          refine lv_if_eq (tgt := 48) hx hb dX7_leastHeight_43 (by decide) (fun hc => ?_) (fun hc => ?_)
          · have h := hh1 hc
            exact g48 k8 hk8 (qX7_leastHeight_19 post k8 n) hk19 y1 y2 y3 zN _ _ _ h hP hD hS hl
          · have h := hh2 hc
            refine lv_iload_n hx hb dX7_leastHeight_46 rfl (lv_at hl 2 rfl) ?_
            exact xiret (w := (w_X7_leastHeight cI cO aN)) (zN) hx hb hr hlocks h hP hK hD hS dX7_leastHeight_47
  have g8 : ∀ (n : Nat) (y1 : Int32) (y2 : Int32) (zN : CS) (H : Heap) (locs : List Loc) (ls : Array Slot), qX7_leastHeight_8 post n y1 y2 zN → va_P D vwCl (wN cI aN zN) H → va_D A (wN cI aN zN) → va_S A s.heap H locs → lv_has ls 4 [(2, .int y2), (1, .int y1), (0, .ref (aN 0))] → W p l e ({ frames := 3, cells := 0, slots := 0, locals := 73 } : Room) s m ([.ref (aN 0)] : List Value).toArray below meth c H locs 0 0 (MQ below (va_Qi post (xB D cI cO A (w_X7_leastHeight cI cO aN)) A) ([.ref (aN 0)] : List Value).toArray s 0 0 A) (F0 m 8 ls []) := by
    intro n
    induction n with
    | zero => intro y1 y2 zN H locs ls h; exact False.elim h
    | succ n hk8 =>
      intro y1 y2 zN H locs ls h hP hD hS hl
      have h : qX7_leastHeight_8b post (qX7_leastHeight_8 post n) y1 y2 zN := h
      refine lv_iload_n hx hb dX7_leastHeight_8 rfl (lv_at hl 0 rfl) ?_
      obtain ⟨hh1, hh2⟩ := h
      refine lv_if_eq (tgt := 60) hx hb dX7_leastHeight_9 (by decide) (fun hc => ?_) (fun hc => ?_)
      · have h := hh1 hc
        refine lv_bipush (v := -3) hx hb dX7_leastHeight_60 (by decide) ?_
        exact xiret (w := (w_X7_leastHeight cI cO aN)) (zN) hx hb hr hlocks h hP hK hD hS dX7_leastHeight_62
      · have h := hh2 hc
        refine lv_aload_n hx hb dX7_leastHeight_12 rfl (lv_at hl 2 rfl) ?_
        refine xcalli (wr := ([] : va_W)) (w2 := fun (u13 : (CS)) => (wN cI aN u13)) (va_runV (As := []) (rest := []) ⟨hx, hb, hml, hown, hts⟩ (mX7_steps l D cI cO tA tS aN zN _ h) (cwV 0 hts gX7_leastHeight_X7_steps rfl rfl rfl (by decide +kernel) ⟨Nat.le_of_ble_eq_true rfl, Nat.le_of_ble_eq_true rfl⟩) (xpreV hP hD hS hA hK hE [0, 1, 2, 3, 4, 5, 6, 7, 8, 9, 10, 11] rfl rfl 7 0 rfl rfl) rfl rfl hl.1 rfl (lv_room (Nat.le_of_ble_eq_true rfl)) dX7_leastHeight_13 ⟨Nat.le_refl 0, Nat.le_refl 0⟩) hP hD hS hA [0, 1, 2, 3, 4, 5, 6, 7, 8, 9, 10, 11] [] [0, 1, 2, 3, 4, 5, 6, 7, 8, 9, 10, 11] rfl rfl rfl (by decide) rfl (fun _ => rfl) (fun r13 u13 H locs h hP hD hS => ?_)
        refine lv_istore_n (lv' := [(2, .int r13), (1, .int y1), (0, .ref (aN 0))]) hx hb dX7_leastHeight_16 rfl hl (by decide) rfl (fun ls hl => ?_)
        refine lv_iconst (v := 0) hx hb dX7_leastHeight_17 (by decide) ?_
        refine lv_istore_n (lv' := [(3, .int (0 : Int32)), (2, .int r13), (1, .int y1), (0, .ref (aN 0))]) hx hb dX7_leastHeight_18 rfl hl (by decide) rfl (fun ls hl => ?_)
        obtain ⟨n0, h⟩ := h
        exact g19 (qX7_leastHeight_8 post n) hk8 n0 y1 r13 (0 : Int32) u13 _ _ _ h hP hD hS hl
  refine lv_aload_n hx hb dX7_leastHeight_0 rfl (lv_at hl 0 rfl) ?_
  refine xcallv (wr := ([] : va_W)) (w2 := fun (u1 : (CS)) => (wN cI aN u1)) (va_runV (As := []) (rest := []) ⟨hx, hb, hml, hown, hts⟩ (mX7_starts l D cI cO tA tS aN zN _ h) (cwV 0 hts gX7_leastHeight_X7_starts rfl rfl rfl (by decide +kernel) ⟨Nat.le_of_ble_eq_true rfl, Nat.le_of_ble_eq_true rfl⟩) (xpreV hP hD hS hA hK hE [0, 1, 2, 3, 4, 5, 6, 7, 8, 9, 10, 11] rfl rfl 7 0 rfl rfl) rfl rfl hl.1 rfl (lv_room (Nat.le_of_ble_eq_true rfl)) dX7_leastHeight_1 ⟨Nat.le_refl 0, Nat.le_refl 0⟩) hP hD hS hA [0, 1, 2, 3, 4, 5, 6, 7, 8, 9, 10, 11] [] [0, 1, 2, 3, 4, 5, 6, 7, 8, 9, 10, 11] rfl rfl rfl (by decide) rfl (fun _ => rfl) (fun u1 H locs h hP hD hS => ?_)
  refine lv_iconst (v := 0) hx hb dX7_leastHeight_4 (by decide) ?_
  refine lv_istore_n (lv' := [(1, .int (0 : Int32)), (0, .ref (aN 0))]) hx hb dX7_leastHeight_5 rfl hl (by decide) rfl (fun ls hl => ?_)
  refine lv_iconst (v := 1) hx hb dX7_leastHeight_6 (by decide) ?_
  refine lv_istore_n (lv' := [(2, .int (1 : Int32)), (1, .int (0 : Int32)), (0, .ref (aN 0))]) hx hb dX7_leastHeight_7 rfl hl (by decide) rfl (fun ls hl => ?_)
  obtain ⟨n0, h⟩ := h
  exact g8 n0 (0 : Int32) (1 : Int32) u1 _ _ _ h hP hD hS hl
