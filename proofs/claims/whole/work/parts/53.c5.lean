set_option maxRecDepth 20000 in
theorem ggX5_init_X5_make : GoodIn wsX5_init wsX5_make := goodIn_r _ [12, 7, 5, 6, 13, 14, 15, 16, 17, 18, 11, 19, 32, 33, 34] (by decide +kernel) (by decide +kernel)
set_option maxRecDepth 20000 in
theorem gX5_init_X5_make : GoodIn wsX5_init (wsV RX5 22 RX5 yX5_make wsX5_make) := goodIn_app (goodIn_of _ (by decide +kernel)) ggX5_init_X5_make
set_option maxRecDepth 20000 in
theorem ggX5_init_X5_makeUnary : GoodIn wsX5_init wsX5_makeUnary := goodIn_r _ [23, 8, 9, 10, 11, 12, 7, 5, 6, 13, 14, 15, 16, 17, 18, 19, 32, 33, 34] (by decide +kernel) (by decide +kernel)
set_option maxRecDepth 20000 in
theorem gX5_init_X5_makeUnary : GoodIn wsX5_init (wsV RX5 26 RX5 yX5_makeUnary wsX5_makeUnary) := goodIn_app (goodIn_of _ (by decide +kernel)) ggX5_init_X5_makeUnary
set_option maxRecDepth 20000 in
theorem ggX5_init_X5_makeBinary : GoodIn wsX5_init wsX5_makeBinary := goodIn_r _ [27, 28, 29, 30, 31, 8, 9, 10, 11, 12, 7, 5, 6, 13, 14, 15, 16, 17, 18, 19, 32, 33, 34] (by decide +kernel) (by decide +kernel)
set_option maxRecDepth 20000 in
theorem gX5_init_X5_makeBinary : GoodIn wsX5_init (wsV RX5 30 RX5 yX5_makeBinary wsX5_makeBinary) := goodIn_app (goodIn_of _ (by decide +kernel)) ggX5_init_X5_makeBinary
theorem dX5_init_0 : decode cX5_init 0 = .ok (.aload_n 0, 1) := by decide +kernel
theorem dX5_init_1 : decode cX5_init 1 = .ok (.invokespecial 3, 3) := by decide +kernel
theorem dX5_init_4 : decode cX5_init 4 = .ok (.aload_n 0, 1) := by decide +kernel
theorem dX5_init_5 : decode cX5_init 5 = .ok (.sipush 2278, 3) := by decide +kernel
theorem dX5_init_8 : decode cX5_init 8 = .ok (.newarray .int, 2) := by decide +kernel
theorem dX5_init_10 : decode cX5_init 10 = .ok (.putfield 9, 3) := by decide +kernel
theorem dX5_init_13 : decode cX5_init 13 = .ok (.aload_n 0, 1) := by decide +kernel
theorem dX5_init_14 : decode cX5_init 14 = .ok (.sipush 2278, 3) := by decide +kernel
theorem dX5_init_17 : decode cX5_init 17 = .ok (.newarray .int, 2) := by decide +kernel
theorem dX5_init_19 : decode cX5_init 19 = .ok (.putfield 15, 3) := by decide +kernel
theorem dX5_init_22 : decode cX5_init 22 = .ok (.aload_n 0, 1) := by decide +kernel
theorem dX5_init_23 : decode cX5_init 23 = .ok (.iconst 0, 1) := by decide +kernel
theorem dX5_init_24 : decode cX5_init 24 = .ok (.putfield 18, 3) := by decide +kernel
theorem dX5_init_27 : decode cX5_init 27 = .ok (.aload_n 0, 1) := by decide +kernel
theorem dX5_init_28 : decode cX5_init 28 = .ok (.iconst 0, 1) := by decide +kernel
theorem dX5_init_29 : decode cX5_init 29 = .ok (.iconst 0, 1) := by decide +kernel
theorem dX5_init_30 : decode cX5_init 30 = .ok (.iconst 0, 1) := by decide +kernel
theorem dX5_init_31 : decode cX5_init 31 = .ok (.invokevirtual 22, 3) := by decide +kernel
theorem dX5_init_34 : decode cX5_init 34 = .ok (.aload_n 0, 1) := by decide +kernel
theorem dX5_init_35 : decode cX5_init 35 = .ok (.iconst 1, 1) := by decide +kernel
theorem dX5_init_36 : decode cX5_init 36 = .ok (.iconst 0, 1) := by decide +kernel
theorem dX5_init_37 : decode cX5_init 37 = .ok (.iconst 0, 1) := by decide +kernel
theorem dX5_init_38 : decode cX5_init 38 = .ok (.invokevirtual 22, 3) := by decide +kernel
theorem dX5_init_41 : decode cX5_init 41 = .ok (.iconst 2, 1) := by decide +kernel
theorem dX5_init_42 : decode cX5_init 42 = .ok (.istore_n 1, 1) := by decide +kernel
theorem dX5_init_43 : decode cX5_init 43 = .ok (.iload_n 1, 1) := by decide +kernel
theorem dX5_init_44 : decode cX5_init 44 = .ok (.bipush 7, 2) := by decide +kernel
theorem dX5_init_46 : decode cX5_init 46 = .ok (.if_icmp .gt 26, 3) := by decide +kernel
theorem dX5_init_49 : decode cX5_init 49 = .ok (.aload_n 0, 1) := by decide +kernel
theorem dX5_init_50 : decode cX5_init 50 = .ok (.iload_n 1, 1) := by decide +kernel
theorem dX5_init_51 : decode cX5_init 51 = .ok (.invokevirtual 26, 3) := by decide +kernel
theorem dX5_init_54 : decode cX5_init 54 = .ok (.aload_n 0, 1) := by decide +kernel
theorem dX5_init_55 : decode cX5_init 55 = .ok (.iconst 3, 1) := by decide +kernel
theorem dX5_init_56 : decode cX5_init 56 = .ok (.iload_n 1, 1) := by decide +kernel
theorem dX5_init_57 : decode cX5_init 57 = .ok (.invokevirtual 30, 3) := by decide +kernel
theorem dX5_init_60 : decode cX5_init 60 = .ok (.aload_n 0, 1) := by decide +kernel
theorem dX5_init_61 : decode cX5_init 61 = .ok (.iconst 4, 1) := by decide +kernel
theorem dX5_init_62 : decode cX5_init 62 = .ok (.iload_n 1, 1) := by decide +kernel
theorem dX5_init_63 : decode cX5_init 63 = .ok (.invokevirtual 30, 3) := by decide +kernel
theorem dX5_init_66 : decode cX5_init 66 = .ok (.iinc 1 1, 3) := by decide +kernel
theorem dX5_init_69 : decode cX5_init 69 = .ok (.goto (-26), 3) := by decide +kernel
theorem dX5_init_72 : decode cX5_init 72 = .ok (.return_, 1) := by decide +kernel
def qX5_init_43b (post : ((CS)) → Prop)   (k43 : (Int32) → (CS) → Prop) (y1 : Int32) (zT : CS) : Prop :=
  ((7 : Int32) < y1 → (post (zT))) ∧ (¬ (7 : Int32) < y1 → (qX5_makeUnary (fun (u51 : (CS)) => qX5_makeBinary (fun (u57 : (CS)) => qX5_makeBinary (fun (u63 : (CS)) => k43 (y1 + (1 : Int32)) u63) (4 : Int32) y1 u57) (3 : Int32) y1 u51) y1 zT))
def qX5_init_43 (post : ((CS)) → Prop)   (n : Nat) : (Int32) → (CS) → Prop :=
  Nat.rec (motive := fun _ => (Int32) → (CS) → Prop) (fun _ _ => False) (fun _ k => qX5_init_43b post k) n
def qX5_init (post : ((CS)) → Prop)  (zT : CS) : Prop :=
  qX5_make (fun (u31 : (CS)) => qX5_make (fun (u38 : (CS)) => ∃ n : Nat, qX5_init_43 post n (2 : Int32) u38) (1 : Int32) (0 : Int32) (0 : Int32) u31) (0 : Int32) (0 : Int32) (0 : Int32) zT

abbrev w_X5_init (cI cO : ClassId) (aT : Nat → Nat)  : ((CS)) → va_W := fun u => (wT cI aT u)
set_option maxRecDepth 100000 in
set_option maxHeartbeats 8000000 in
theorem tX5_init {p : Program} {l : Launch} {e : Env} {s : State} {m : MethodId} {below : List Frame} {meth : Method} {c : Code} {A : Nat → Prop} {H : Heap} {locs : List Loc} {ls : Array Slot} (D : va_G) (cI cO : ClassId) (tA tS : Nat) (aT : Nat → Nat) (zT : CS) {post : ((CS)) → Prop} (h : qX5_init post zT) (hx : p.tables.exec = Jvm.exec) (hb : c.code = cX5_init) (hr : meth.sig.returnType = none) (hts : ∀ w ∈ wsX5_init, w.before ([.ref (aT 0)] : List Value).toArray s = true) (hown : s.vm.findClass RX5 = some m.cls) (hlocks : meth.locks = false) (hml : c.maxLocals = 2) (hA : ∀ q : Nat, s.heap.size ≤ q → A q) (hS : va_S A s.heap H locs) (hP : va_P D vwCl (wT cI aT zT) H) (hK : va_K D vwCl (xT cI cO) s) (hD : va_D A (wT cI aT zT)) (hE : xE tA tS A s s.heap) (hl : lv_has ls 2 [(0, .ref (aT 0))]) : W p l e ({ frames := 3, cells := 2, slots := 4556, locals := 70 } : Room) s m ([.ref (aT 0)] : List Value).toArray below meth c H locs 2 4556 (MQ below (va_Qv post (xB D cI cO A (w_X5_init cI cO aT)) A) ([.ref (aT 0)] : List Value).toArray s 2 4556 A) (F0 m 27 ls []) := by
  have g43 : ∀ (n : Nat) (y1 : Int32) (zT : CS) (H : Heap) (locs : List Loc) (ls : Array Slot), qX5_init_43 post n y1 zT → va_P D vwCl (wT cI aT zT) H → va_D A (wT cI aT zT) → va_S A s.heap H locs → lv_has ls 2 [(1, .int y1), (0, .ref (aT 0))] → W p l e ({ frames := 3, cells := 2, slots := 4556, locals := 70 } : Room) s m ([.ref (aT 0)] : List Value).toArray below meth c H locs 2 4556 (MQ below (va_Qv post (xB D cI cO A (w_X5_init cI cO aT)) A) ([.ref (aT 0)] : List Value).toArray s 2 4556 A) (F0 m 43 ls []) := by
    intro n
    induction n with
    | zero => intro y1 zT H locs ls h; exact False.elim h
    | succ n hk43 =>
      intro y1 zT H locs ls h hP hD hS hl
      have h : qX5_init_43b post (qX5_init_43 post n) y1 zT := h
      refine lv_iload_n hx hb dX5_init_43 rfl (lv_at hl 0 rfl) ?_
      refine lv_bipush (v := 7) hx hb dX5_init_44 (by decide) ?_
      obtain ⟨hh1, hh2⟩ := h
      refine lv_icmp_gt (tgt := 72) hx hb dX5_init_46 (by decide) (fun hc => ?_) (fun hc => ?_)
      · have h := hh1 hc
        exact xvret (w := (w_X5_init cI cO aT)) (zT) hx hb hr hlocks h hP hK hD hS dX5_init_72
      · have h := hh2 hc
        refine lv_aload_n hx hb dX5_init_49 rfl (lv_at hl 1 rfl) ?_
        refine lv_iload_n hx hb dX5_init_50 rfl (lv_at hl 0 rfl) ?_
        refine xcallv (wr := ([] : va_W)) (w2 := fun (u51 : (CS)) => (wT cI aT u51)) (va_runV (As := [.int y1]) (rest := []) ⟨hx, hb, hml, hown, hts⟩ (mX5_makeUnary l D cI cO tA tS aT zT y1 _ h) (cwV 1 hts gX5_init_X5_makeUnary rfl rfl rfl (by decide +kernel) ⟨Nat.le_of_ble_eq_true rfl, Nat.le_of_ble_eq_true rfl⟩) (xpreV hP hD hS hA hK hE [0, 1, 2] rfl rfl 5 0 rfl rfl) rfl rfl hl.1 rfl (lv_room (Nat.le_of_ble_eq_true rfl)) dX5_init_51 ⟨Nat.le_of_ble_eq_true rfl, Nat.le_of_ble_eq_true rfl⟩) hP hD hS hA [0, 1, 2] [] [0, 1, 2] rfl rfl rfl (by decide) rfl (fun _ => rfl) (fun u51 H locs h hP hD hS => ?_)
        refine lv_aload_n hx hb dX5_init_54 rfl (lv_at hl 1 rfl) ?_
        refine lv_iconst (v := 3) hx hb dX5_init_55 (by decide) ?_
        refine lv_iload_n hx hb dX5_init_56 rfl (lv_at hl 0 rfl) ?_
        refine xcallv (wr := ([] : va_W)) (w2 := fun (u57 : (CS)) => (wT cI aT u57)) (va_runV (As := [.int (3 : Int32), .int y1]) (rest := []) ⟨hx, hb, hml, hown, hts⟩ (mX5_makeBinary l D cI cO tA tS aT u51 (3 : Int32) y1 _ h) (cwV 2 hts gX5_init_X5_makeBinary rfl rfl rfl (by decide +kernel) ⟨Nat.le_of_ble_eq_true rfl, Nat.le_of_ble_eq_true rfl⟩) (xpreV hP hD hS hA hK hE [0, 1, 2] rfl rfl 5 0 rfl rfl) rfl rfl hl.1 rfl (lv_room (Nat.le_of_ble_eq_true rfl)) dX5_init_57 ⟨Nat.le_of_ble_eq_true rfl, Nat.le_of_ble_eq_true rfl⟩) hP hD hS hA [0, 1, 2] [] [0, 1, 2] rfl rfl rfl (by decide) rfl (fun _ => rfl) (fun u57 H locs h hP hD hS => ?_)
        refine lv_aload_n hx hb dX5_init_60 rfl (lv_at hl 1 rfl) ?_
        refine lv_iconst (v := 4) hx hb dX5_init_61 (by decide) ?_
        refine lv_iload_n hx hb dX5_init_62 rfl (lv_at hl 0 rfl) ?_
        refine xcallv (wr := ([] : va_W)) (w2 := fun (u63 : (CS)) => (wT cI aT u63)) (va_runV (As := [.int (4 : Int32), .int y1]) (rest := []) ⟨hx, hb, hml, hown, hts⟩ (mX5_makeBinary l D cI cO tA tS aT u57 (4 : Int32) y1 _ h) (cwV 2 hts gX5_init_X5_makeBinary rfl rfl rfl (by decide +kernel) ⟨Nat.le_of_ble_eq_true rfl, Nat.le_of_ble_eq_true rfl⟩) (xpreV hP hD hS hA hK hE [0, 1, 2] rfl rfl 5 0 rfl rfl) rfl rfl hl.1 rfl (lv_room (Nat.le_of_ble_eq_true rfl)) dX5_init_63 ⟨Nat.le_of_ble_eq_true rfl, Nat.le_of_ble_eq_true rfl⟩) hP hD hS hA [0, 1, 2] [] [0, 1, 2] rfl rfl rfl (by decide) rfl (fun _ => rfl) (fun u63 H locs h hP hD hS => ?_)
        refine lv_iinc (v := (y1 + (1 : Int32))) (lv' := [(1, .int (y1 + (1 : Int32))), (0, .ref (aT 0))]) hx hb dX5_init_66 hl (k := 0) rfl rfl (by decide) rfl (fun ls hl => ?_)
        refine lv_goto (tgt := 43) hx hb dX5_init_69 (by decide) ?_
        exact hk43 (y1 + (1 : Int32)) u63 _ _ _ h hP hD hS hl
  refine lv_aload_n hx hb dX5_init_27 rfl (lv_at hl 0 rfl) ?_
  refine lv_iconst (v := 0) hx hb dX5_init_28 (by decide) ?_
  refine lv_iconst (v := 0) hx hb dX5_init_29 (by decide) ?_
  refine lv_iconst (v := 0) hx hb dX5_init_30 (by decide) ?_
  refine xcallv (wr := ([] : va_W)) (w2 := fun (u31 : (CS)) => (wT cI aT u31)) (va_runV (As := [.int (0 : Int32), .int (0 : Int32), .int (0 : Int32)]) (rest := []) ⟨hx, hb, hml, hown, hts⟩ (mX5_make l D cI cO tA tS aT zT (0 : Int32) (0 : Int32) (0 : Int32) _ h) (cwV 3 hts gX5_init_X5_make rfl rfl rfl (by decide +kernel) ⟨Nat.le_of_ble_eq_true rfl, Nat.le_of_ble_eq_true rfl⟩) (xpreV hP hD hS hA hK hE [0, 1, 2] rfl rfl 5 0 rfl rfl) rfl rfl hl.1 rfl (lv_room (Nat.le_of_ble_eq_true rfl)) dX5_init_31 ⟨Nat.le_of_ble_eq_true rfl, Nat.le_of_ble_eq_true rfl⟩) hP hD hS hA [0, 1, 2] [] [0, 1, 2] rfl rfl rfl (by decide) rfl (fun _ => rfl) (fun u31 H locs h hP hD hS => ?_)
  refine lv_aload_n hx hb dX5_init_34 rfl (lv_at hl 0 rfl) ?_
  refine lv_iconst (v := 1) hx hb dX5_init_35 (by decide) ?_
  refine lv_iconst (v := 0) hx hb dX5_init_36 (by decide) ?_
  refine lv_iconst (v := 0) hx hb dX5_init_37 (by decide) ?_
  refine xcallv (wr := ([] : va_W)) (w2 := fun (u38 : (CS)) => (wT cI aT u38)) (va_runV (As := [.int (1 : Int32), .int (0 : Int32), .int (0 : Int32)]) (rest := []) ⟨hx, hb, hml, hown, hts⟩ (mX5_make l D cI cO tA tS aT u31 (1 : Int32) (0 : Int32) (0 : Int32) _ h) (cwV 3 hts gX5_init_X5_make rfl rfl rfl (by decide +kernel) ⟨Nat.le_of_ble_eq_true rfl, Nat.le_of_ble_eq_true rfl⟩) (xpreV hP hD hS hA hK hE [0, 1, 2] rfl rfl 5 0 rfl rfl) rfl rfl hl.1 rfl (lv_room (Nat.le_of_ble_eq_true rfl)) dX5_init_38 ⟨Nat.le_of_ble_eq_true rfl, Nat.le_of_ble_eq_true rfl⟩) hP hD hS hA [0, 1, 2] [] [0, 1, 2] rfl rfl rfl (by decide) rfl (fun _ => rfl) (fun u38 H locs h hP hD hS => ?_)
  refine lv_iconst (v := 2) hx hb dX5_init_41 (by decide) ?_
  refine lv_istore_n (lv' := [(1, .int (2 : Int32)), (0, .ref (aT 0))]) hx hb dX5_init_42 rfl hl (by decide) rfl (fun ls hl => ?_)
  obtain ⟨n0, h⟩ := h
  exact g43 n0 (2 : Int32) u38 _ _ _ h hP hD hS hl

theorem jX5_init_X5c : ∀ w ∈ wsX50, w ∈ wsX5_init := by decide +kernel
set_option maxRecDepth 100000 in
set_option maxHeartbeats 8000000 in
theorem mX5_init (l : Launch) (D : va_G) (cI cO : ClassId) (tA tS : Nat) (o : Nat) (sz : Nat) {post : CS → Prop} (h : qX5_init post z0) : Met l yX5_init wsX5_init ({ frames := 3, cells := 2, slots := 4556, locals := 70 } : Room) (xPre D cI cO tA tS [.ref o] [(o, .inr (5, [.null, .null, .int 0]))] sz) (va_Qv (fun u : ((Nat → Nat) × CS) => u.1 0 = o ∧ post u.2) (xB D cI cO (va_A [(o, .inr (5, [.null, .null, .int 0]))] sz) (fun u : ((Nat → Nat) × CS) => wT cI u.1 u.2)) (va_A [(o, .inr (5, [.null, .null, .int 0]))] sz)) 2 4556 (va_A [(o, .inr (5, [.null, .null, .int 0]))] sz) := by
  refine xMet D cI cO tA tS (fun A => va_Qv (fun u : ((Nat → Nat) × CS) => u.1 0 = o ∧ post u.2) (xB D cI cO A (fun u : ((Nat → Nat) × CS) => wT cI u.1 u.2)) A) (cc := cX5_init) (maxL := 2) (ret := none) (by decide) rfl (Nat.le_of_ble_eq_true rfl) ?_
  intro p e s m below meth c A ls hx hb hr hts hown hlocks hin hml hA hS hP hK hD hE hl
  have hown : s.vm.findClass RX5 = some m.cls := hown
  have hin : meth.name = "<init>" := hin
  have hl : lv_has ls 2 [(0, .ref o)] := hl
  refine lv_aload_n hx hb dX5_init_0 rfl (lv_at hl 0 rfl) ?_
  refine W.objInit hx hb hown (hts (.methodLink RX5 3 objectInit) (List.mem_of_getElem? (i := 1) rfl)) (hts (.instanceMethod objectInit) (List.mem_of_getElem? (i := 2) rfl)) (hts _ (List.mem_of_getElem? (i := 3) rfl)) rfl (by rw [hml]; exact hl.1) rfl dX5_init_1 (Nat.le_of_ble_eq_true rfl) (Nat.le_of_ble_eq_true rfl) ?_
  refine W.eq (g2 := F0 m 4 ls []) rfl ?_
  refine lv_aload_n hx hb dX5_init_4 rfl (lv_at hl 0 rfl) ?_
  refine lv_sipush (v := 2278) hx hb dX5_init_5 (by decide) ?_
  refine xnewa (N' := 2278) hx hb (hts (.arrayClass .int) (List.mem_of_getElem? (i := 4) rfl)) hK hP hD hS hA (by decide) rfl (Nat.le_of_ble_eq_true rfl) (Nat.le_of_ble_eq_true rfl) (Nat.le_of_ble_eq_true rfl) dX5_init_8 (fun q8 H hP hD hS => ?_)
  have hP : va_P D vwCl ([(o, .inr (5, [.null, .null, .int 0])), (q8, .inl (cI, 2278, .inl (fun _ => 0)))]) H := hP
  have hD : va_D A ([(o, .inr (5, [.null, .null, .int 0])), (q8, .inl (cI, 2278, .inl (fun _ => 0)))]) := hD
  refine W.widen (k := 1) (n := 2278) (Nat.le_of_ble_eq_true rfl) (Nat.le_of_ble_eq_true rfl) ?_
  refine va_putF (D := D) (ci := 5) (v := .ref q8) (ty := .array .int) (C := RX5) (T := TX5) (N := 3) hx hb hts jX5_init_X5c tyX5 tyX5_ok nmX5 hown hK hP hD hS 0 rfl rfl 0 (by decide) (hts (.fieldLink RX5 9 "BrotherAutomata$SmallTrees" "contents" "[I") (List.mem_of_getElem? (i := 5) rfl)) (fun _ h9 => h9) rfl hin rfl (by decide +kernel) rfl rfl (Nat.le_of_ble_eq_true rfl) dX5_init_10 (fun H locs hP hD hS => ?_)
  have hP : va_P D vwCl ([(o, .inr (5, [.ref q8, .null, .int 0])), (q8, .inl (cI, 2278, .inl (fun _ => 0)))]) H := hP
  have hD : va_D A ([(o, .inr (5, [.ref q8, .null, .int 0])), (q8, .inl (cI, 2278, .inl (fun _ => 0)))]) := hD
  refine lv_aload_n hx hb dX5_init_13 rfl (lv_at hl 0 rfl) ?_
  refine lv_sipush (v := 2278) hx hb dX5_init_14 (by decide) ?_
  refine xnewa (N' := 2278) hx hb (hts (.arrayClass .int) (List.mem_of_getElem? (i := 4) rfl)) hK hP hD hS hA (by decide) rfl (Nat.le_of_ble_eq_true rfl) (Nat.le_of_ble_eq_true rfl) (Nat.le_of_ble_eq_true rfl) dX5_init_17 (fun q17 H hP hD hS => ?_)
  have hP : va_P D vwCl ([(o, .inr (5, [.ref q8, .null, .int 0])), (q8, .inl (cI, 2278, .inl (fun _ => 0))), (q17, .inl (cI, 2278, .inl (fun _ => 0)))]) H := hP
  have hD : va_D A ([(o, .inr (5, [.ref q8, .null, .int 0])), (q8, .inl (cI, 2278, .inl (fun _ => 0))), (q17, .inl (cI, 2278, .inl (fun _ => 0)))]) := hD
  refine W.widen (k := 2) (n := 4556) (Nat.le_of_ble_eq_true rfl) (Nat.le_of_ble_eq_true rfl) ?_
  refine va_putF (D := D) (ci := 5) (v := .ref q17) (ty := .array .int) (C := RX5) (T := TX5) (N := 3) hx hb hts jX5_init_X5c tyX5 tyX5_ok nmX5 hown hK hP hD hS 0 rfl rfl 1 (by decide) (hts (.fieldLink RX5 15 "BrotherAutomata$SmallTrees" "heights" "[I") (List.mem_of_getElem? (i := 6) rfl)) (fun _ h9 => h9) rfl hin rfl (by decide +kernel) rfl rfl (Nat.le_of_ble_eq_true rfl) dX5_init_19 (fun H locs hP hD hS => ?_)
  have hP : va_P D vwCl ([(o, .inr (5, [.ref q8, .ref q17, .int 0])), (q8, .inl (cI, 2278, .inl (fun _ => 0))), (q17, .inl (cI, 2278, .inl (fun _ => 0)))]) H := hP
  have hD : va_D A ([(o, .inr (5, [.ref q8, .ref q17, .int 0])), (q8, .inl (cI, 2278, .inl (fun _ => 0))), (q17, .inl (cI, 2278, .inl (fun _ => 0)))]) := hD
  refine lv_aload_n hx hb dX5_init_22 rfl (lv_at hl 0 rfl) ?_
  refine lv_iconst (v := 0) hx hb dX5_init_23 (by decide) ?_
  refine va_put (D := D) (ci := 5) (v := .int 0) (ty := .int) (C := RX5) (T := TX5) (N := 3) hx hb hts jX5_init_X5c tyX5 tyX5_ok nmX5 hown hK hP hD hS 0 rfl rfl 2 (by decide) (hts (.fieldLink RX5 18 "BrotherAutomata$SmallTrees" "made" "I") (List.mem_of_getElem? (i := 7) rfl)) (fun _ h9 => h9) rfl (by decide +kernel) rfl rfl (Nat.le_of_ble_eq_true rfl) dX5_init_24 (fun H locs hP hD hS => ?_)
  have hP : va_P D vwCl ([(o, .inr (5, [.ref q8, .ref q17, .int 0])), (q8, .inl (cI, 2278, .inl (fun _ => 0))), (q17, .inl (cI, 2278, .inl (fun _ => 0)))]) H := hP
  have hD : va_D A ([(o, .inr (5, [.ref q8, .ref q17, .int 0])), (q8, .inl (cI, 2278, .inl (fun _ => 0))), (q17, .inl (cI, 2278, .inl (fun _ => 0)))]) := hD
  exact xQmono (w := w_X5_init cI cO (fun j => match j with | 0 => o | 1 => q8 | _ => q17)) (fun z : CS => ((fun j => match j with | 0 => o | 1 => q8 | _ => q17), z)) (tX5_init D cI cO tA tS (fun j => match j with | 0 => o | 1 => q8 | _ => q17) z0 h hx hb hr hts hown hlocks hml hA hS hP hK hD hE hl) (fun z hz => ⟨rfl, hz⟩) (fun _ => rfl)
