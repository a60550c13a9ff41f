set_option maxRecDepth 20000 in
theorem ggX7_init_X7_lays : GoodIn wsX7_init wsX7_lays := goodIn_r _ [22, 5, 17, 6, 7, 8, 9, 27, 28, 29, 30, 31, 32, 33, 34, 35, 36, 37, 38, 39, 40] (by decide +kernel) (by decide +kernel)
set_option maxRecDepth 20000 in
theorem gX7_init_X7_lays : GoodIn wsX7_init (wsV RX7 50 RX7 yX7_lays wsX7_lays) := goodIn_app (goodIn_of _ (by decide +kernel)) ggX7_init_X7_lays
set_option maxRecDepth 20000 in
theorem ggX7_init_X7_grows : GoodIn wsX7_init wsX7_grows := goodIn_r _ [26, 17, 10, 9, 8, 18, 19, 20, 21, 22, 5, 6, 7, 27, 28, 29, 30, 31, 32, 33, 34, 35, 36, 37, 38, 39, 40] (by decide +kernel) (by decide +kernel)
set_option maxRecDepth 20000 in
theorem gX7_init_X7_grows : GoodIn wsX7_init (wsV RX7 54 RX7 yX7_grows wsX7_grows) := goodIn_app (goodIn_of _ (by decide +kernel)) ggX7_init_X7_grows
theorem dX7_init_0 : decode cX7_init 0 = .ok (.aload_n 0, 1) := by decide +kernel
theorem dX7_init_1 : decode cX7_init 1 = .ok (.invokespecial 1, 3) := by decide +kernel
theorem dX7_init_4 : decode cX7_init 4 = .ok (.aload_n 0, 1) := by decide +kernel
theorem dX7_init_5 : decode cX7_init 5 = .ok (.sipush 2278, 3) := by decide +kernel
theorem dX7_init_8 : decode cX7_init 8 = .ok (.newarray .int, 2) := by decide +kernel
theorem dX7_init_10 : decode cX7_init 10 = .ok (.putfield 7, 3) := by decide +kernel
theorem dX7_init_13 : decode cX7_init 13 = .ok (.aload_n 0, 1) := by decide +kernel
theorem dX7_init_14 : decode cX7_init 14 = .ok (.sipush 2278, 3) := by decide +kernel
theorem dX7_init_17 : decode cX7_init 17 = .ok (.newarray .int, 2) := by decide +kernel
theorem dX7_init_19 : decode cX7_init 19 = .ok (.putfield 13, 3) := by decide +kernel
theorem dX7_init_22 : decode cX7_init 22 = .ok (.aload_n 0, 1) := by decide +kernel
theorem dX7_init_23 : decode cX7_init 23 = .ok (.sipush 2278, 3) := by decide +kernel
theorem dX7_init_26 : decode cX7_init 26 = .ok (.newarray .int, 2) := by decide +kernel
theorem dX7_init_28 : decode cX7_init 28 = .ok (.putfield 16, 3) := by decide +kernel
theorem dX7_init_31 : decode cX7_init 31 = .ok (.aload_n 0, 1) := by decide +kernel
theorem dX7_init_32 : decode cX7_init 32 = .ok (.sipush 2278, 3) := by decide +kernel
theorem dX7_init_35 : decode cX7_init 35 = .ok (.newarray .int, 2) := by decide +kernel
theorem dX7_init_37 : decode cX7_init 37 = .ok (.putfield 19, 3) := by decide +kernel
theorem dX7_init_40 : decode cX7_init 40 = .ok (.aload_n 0, 1) := by decide +kernel
theorem dX7_init_41 : decode cX7_init 41 = .ok (.sipush 2278, 3) := by decide +kernel
theorem dX7_init_44 : decode cX7_init 44 = .ok (.newarray .int, 2) := by decide +kernel
theorem dX7_init_46 : decode cX7_init 46 = .ok (.putfield 22, 3) := by decide +kernel
theorem dX7_init_49 : decode cX7_init 49 = .ok (.aload_n 0, 1) := by decide +kernel
theorem dX7_init_50 : decode cX7_init 50 = .ok (.bipush 9, 2) := by decide +kernel
theorem dX7_init_52 : decode cX7_init 52 = .ok (.newarray .int, 2) := by decide +kernel
theorem dX7_init_54 : decode cX7_init 54 = .ok (.putfield 25, 3) := by decide +kernel
theorem dX7_init_57 : decode cX7_init 57 = .ok (.aload_n 0, 1) := by decide +kernel
theorem dX7_init_58 : decode cX7_init 58 = .ok (.sipush 13668, 3) := by decide +kernel
theorem dX7_init_61 : decode cX7_init 61 = .ok (.newarray .int, 2) := by decide +kernel
theorem dX7_init_63 : decode cX7_init 63 = .ok (.putfield 28, 3) := by decide +kernel
theorem dX7_init_66 : decode cX7_init 66 = .ok (.aload_n 0, 1) := by decide +kernel
theorem dX7_init_67 : decode cX7_init 67 = .ok (.iconst 2, 1) := by decide +kernel
theorem dX7_init_68 : decode cX7_init 68 = .ok (.putfield 31, 3) := by decide +kernel
theorem dX7_init_71 : decode cX7_init 71 = .ok (.aload_n 0, 1) := by decide +kernel
theorem dX7_init_72 : decode cX7_init 72 = .ok (.bipush 82, 2) := by decide +kernel
theorem dX7_init_74 : decode cX7_init 74 = .ok (.newarray .int, 2) := by decide +kernel
theorem dX7_init_76 : decode cX7_init 76 = .ok (.putfield 35, 3) := by decide +kernel
theorem dX7_init_79 : decode cX7_init 79 = .ok (.aload_n 0, 1) := by decide +kernel
theorem dX7_init_80 : decode cX7_init 80 = .ok (.sipush 410, 3) := by decide +kernel
theorem dX7_init_83 : decode cX7_init 83 = .ok (.newarray .int, 2) := by decide +kernel
theorem dX7_init_85 : decode cX7_init 85 = .ok (.putfield 38, 3) := by decide +kernel
theorem dX7_init_88 : decode cX7_init 88 = .ok (.aload_n 0, 1) := by decide +kernel
theorem dX7_init_89 : decode cX7_init 89 = .ok (.bipush 64, 2) := by decide +kernel
theorem dX7_init_91 : decode cX7_init 91 = .ok (.newarray .int, 2) := by decide +kernel
theorem dX7_init_93 : decode cX7_init 93 = .ok (.putfield 41, 3) := by decide +kernel
theorem dX7_init_96 : decode cX7_init 96 = .ok (.aload_n 0, 1) := by decide +kernel
theorem dX7_init_97 : decode cX7_init 97 = .ok (.bipush 64, 2) := by decide +kernel
theorem dX7_init_99 : decode cX7_init 99 = .ok (.newarray .int, 2) := by decide +kernel
theorem dX7_init_101 : decode cX7_init 101 = .ok (.putfield 44, 3) := by decide +kernel
theorem dX7_init_104 : decode cX7_init 104 = .ok (.iconst 1, 1) := by decide +kernel
theorem dX7_init_105 : decode cX7_init 105 = .ok (.istore_n 1, 1) := by decide +kernel
theorem dX7_init_106 : decode cX7_init 106 = .ok (.iload_n 1, 1) := by decide +kernel
theorem dX7_init_107 : decode cX7_init 107 = .ok (.bipush 8, 2) := by decide +kernel
theorem dX7_init_109 : decode cX7_init 109 = .ok (.if_icmp .ge 50, 3) := by decide +kernel
theorem dX7_init_112 : decode cX7_init 112 = .ok (.aload_n 0, 1) := by decide +kernel
theorem dX7_init_113 : decode cX7_init 113 = .ok (.getfield 25, 3) := by decide +kernel
theorem dX7_init_116 : decode cX7_init 116 = .ok (.iload_n 1, 1) := by decide +kernel
theorem dX7_init_117 : decode cX7_init 117 = .ok (.aload_n 0, 1) := by decide +kernel
theorem dX7_init_118 : decode cX7_init 118 = .ok (.getfield 47, 3) := by decide +kernel
theorem dX7_init_121 : decode cX7_init 121 = .ok (.iastore, 1) := by decide +kernel
theorem dX7_init_122 : decode cX7_init 122 = .ok (.iload_n 1, 1) := by decide +kernel
theorem dX7_init_123 : decode cX7_init 123 = .ok (.iconst 1, 1) := by decide +kernel
theorem dX7_init_124 : decode cX7_init 124 = .ok (.if_icmp .ne 24, 3) := by decide +kernel
theorem dX7_init_127 : decode cX7_init 127 = .ok (.aload_n 0, 1) := by decide +kernel
theorem dX7_init_128 : decode cX7_init 128 = .ok (.iconst 0, 1) := by decide +kernel
theorem dX7_init_129 : decode cX7_init 129 = .ok (.iconst 0, 1) := by decide +kernel
theorem dX7_init_130 : decode cX7_init 130 = .ok (.iconst 0, 1) := by decide +kernel
theorem dX7_init_131 : decode cX7_init 131 = .ok (.iconst 1, 1) := by decide +kernel
theorem dX7_init_132 : decode cX7_init 132 = .ok (.iconst 0, 1) := by decide +kernel
theorem dX7_init_133 : decode cX7_init 133 = .ok (.invokevirtual 50, 3) := by decide +kernel
theorem dX7_init_136 : decode cX7_init 136 = .ok (.aload_n 0, 1) := by decide +kernel
theorem dX7_init_137 : decode cX7_init 137 = .ok (.iconst 1, 1) := by decide +kernel
theorem dX7_init_138 : decode cX7_init 138 = .ok (.iconst 0, 1) := by decide +kernel
theorem dX7_init_139 : decode cX7_init 139 = .ok (.iconst 0, 1) := by decide +kernel
theorem dX7_init_140 : decode cX7_init 140 = .ok (.iconst 1, 1) := by decide +kernel
theorem dX7_init_141 : decode cX7_init 141 = .ok (.iconst 0, 1) := by decide +kernel
theorem dX7_init_142 : decode cX7_init 142 = .ok (.invokevirtual 50, 3) := by decide +kernel
theorem dX7_init_145 : decode cX7_init 145 = .ok (.goto 8, 3) := by decide +kernel
theorem dX7_init_148 : decode cX7_init 148 = .ok (.aload_n 0, 1) := by decide +kernel
theorem dX7_init_149 : decode cX7_init 149 = .ok (.iload_n 1, 1) := by decide +kernel
theorem dX7_init_150 : decode cX7_init 150 = .ok (.invokevirtual 54, 3) := by decide +kernel
theorem dX7_init_153 : decode cX7_init 153 = .ok (.iinc 1 1, 3) := by decide +kernel
theorem dX7_init_156 : decode cX7_init 156 = .ok (.goto (-50), 3) := by decide +kernel
theorem dX7_init_159 : decode cX7_init 159 = .ok (.aload_n 0, 1) := by decide +kernel
theorem dX7_init_160 : decode cX7_init 160 = .ok (.getfield 25, 3) := by decide +kernel
theorem dX7_init_163 : decode cX7_init 163 = .ok (.bipush 8, 2) := by decide +kernel
theorem dX7_init_165 : decode cX7_init 165 = .ok (.aload_n 0, 1) := by decide +kernel
theorem dX7_init_166 : decode cX7_init 166 = .ok (.getfield 47, 3) := by decide +kernel
theorem dX7_init_169 : decode cX7_init 169 = .ok (.iastore, 1) := by decide +kernel
theorem dX7_init_170 : decode cX7_init 170 = .ok (.return_, 1) := by decide +kernel
def qX7_init_153 (post : ((CS)) → Prop)  (k106 : (Int32) → (CS) → Prop) (y1 : Int32) (zN : CS) : Prop :=
  k106 (y1 + (1 : Int32)) zN
def qX7_init_106b (post : ((CS)) → Prop)   (k106 : (Int32) → (CS) → Prop) (y1 : Int32) (zN : CS) : Prop :=
  ((8 : Int32) ≤ y1 → (vp_in (8 : Int32) 9 ∧ (post (st zN 5 (8 : Int32).toNatClampNeg (zN 11 0))))) ∧ (¬ (8 : Int32) ≤ y1 → (vp_in y1 9 ∧ ((y1 = (1 : Int32) → (qX7_lays (fun (u133 : (CS)) => qX7_lays (fun (u142 : (CS)) => qX7_init_153 post k106 y1 u142) (1 : Int32) (0 : Int32) (0 : Int32) (1 : Int32) (0 : Int32) u133) (0 : Int32) (0 : Int32) (0 : Int32) (1 : Int32) (0 : Int32) (st zN 5 y1.toNatClampNeg (zN 11 0)))) ∧ (¬ y1 = (1 : Int32) → (qX7_grows (fun (u150 : (CS)) => qX7_init_153 post k106 y1 u150) y1 (st zN 5 y1.toNatClampNeg (zN 11 0)))))))
def qX7_init_106 (post : ((CS)) → Prop)   (n : Nat) : (Int32) → (CS) → Prop :=
  Nat.rec (motive := fun _ => (Int32) → (CS) → Prop) (fun _ _ => False) (fun _ k => qX7_init_106b post k) n
def qX7_init (post : ((CS)) → Prop)  (zN : CS) : Prop :=
  ∃ n : Nat, qX7_init_106 post n (1 : Int32) zN

theorem jX7_init_X7 : ∀ w ∈ wsX70, w ∈ wsX7_init := by decide +kernel
abbrev w_X7_init (cI cO : ClassId) (aN : Nat → Nat)  : ((CS)) → va_W := fun u => (wN cI aN u)
set_option maxRecDepth 100000 in
set_option maxHeartbeats 8000000 in
theorem tX7_init {p : Program} {l : Launch} {e : Env} {s : State} {m : MethodId} {below : List Frame} {meth : Method} {c : Code} {A : Nat → Prop} {H : Heap} {locs : List Loc} {ls : Array Slot} (D : va_G) (cI cO : ClassId) (tA tS : Nat) (aN : Nat → Nat) (zN : CS) {post : ((CS)) → Prop} (h : qX7_init post zN) (hx : p.tables.exec = Jvm.exec) (hb : c.code = cX7_init) (hr : meth.sig.returnType = none) (hts : ∀ w ∈ wsX7_init, w.before ([.ref (aN 0)] : List Value).toArray s = true) (hown : s.vm.findClass RX7 = some m.cls) (hlocks : meth.locks = false) (hml : c.maxLocals = 2) (hA : ∀ q : Nat, s.heap.size ≤ q → A q) (hS : va_S A s.heap H locs) (hP : va_P D vwCl (wN cI aN zN) H) (hK : va_K D vwCl (xT cI cO) s) (hD : va_D A (wN cI aN zN)) (hE : xE tA tS A s s.heap) (hl : lv_has ls 2 [(0, .ref (aN 0))]) : W p l e ({ frames := 2, cells := 11, slots := 25687, locals := 51 } : Room) s m ([.ref (aN 0)] : List Value).toArray below meth c H locs 11 25687 (MQ below (va_Qv post (xB D cI cO A (w_X7_init cI cO aN)) A) ([.ref (aN 0)] : List Value).toArray s 11 25687 A) (F0 m 104 ls []) := by
  have g153 : ∀ (k106 : (Int32) → (CS) → Prop), (∀ (y1 : Int32) (zN : CS) (H : Heap) (locs : List Loc) (ls : Array Slot), k106 y1 zN → va_P D vwCl (wN cI aN zN) H → va_D A (wN cI aN zN) → va_S A s.heap H locs → lv_has ls 2 [(1, .int y1), (0, .ref (aN 0))] → W p l e ({ frames := 2, cells := 11, slots := 25687, locals := 51 } : Room) s m ([.ref (aN 0)] : List Value).toArray below meth c H locs 11 25687 (MQ below (va_Qv post (xB D cI cO A (w_X7_init cI cO aN)) A) ([.ref (aN 0)] : List Value).toArray s 11 25687 A) (F0 m 106 ls [])) → ∀ (y1 : Int32) (zN : CS) (H : Heap) (locs : List Loc) (ls : Array Slot), qX7_init_153 post k106 y1 zN → va_P D vwCl (wN cI aN zN) H → va_D A (wN cI aN zN) → va_S A s.heap H locs → lv_has ls 2 [(1, .int y1), (0, .ref (aN 0))] → W p l e ({ frames := 2, cells := 11, slots := 25687, locals := 51 } : Room) s m ([.ref (aN 0)] : List Value).toArray below meth c H locs 11 25687 (MQ below (va_Qv post (xB D cI cO A (w_X7_init cI cO aN)) A) ([.ref (aN 0)] : List Value).toArray s 11 25687 A) (F0 m 153 ls []) := by
    intro k106 hk106 y1 zN H locs ls h hP hD hS hl
    refine lv_iinc (v := (y1 + (1 : Int32))) (lv' := [(1, .int (y1 + (1 : Int32))), (0, .ref (aN 0))]) hx hb dX7_init_153 hl (k := 0) rfl rfl (by decide) rfl (fun ls hl => ?_)
    refine lv_goto (tgt := 106) hx hb dX7_init_156 (by decide) ?_
    exact hk106 (y1 + (1 : Int32)) zN _ _ _ h hP hD hS hl
  have g106 : ∀ (n : Nat) (y1 : Int32) (zN : CS) (H : Heap) (locs : List Loc) (ls : Array Slot), qX7_init_106 post n y1 zN → va_P D vwCl (wN cI aN zN) H → va_D A (wN cI aN zN) → va_S A s.heap H locs → lv_has ls 2 [(1, .int y1), (0, .ref (aN 0))] → W p l e ({ frames := 2, cells := 11, slots := 25687, locals := 51 } : Room) s m ([.ref (aN 0)] : List Value).toArray below meth c H locs 11 25687 (MQ below (va_Qv post (xB D cI cO A (w_X7_init cI cO aN)) A) ([.ref (aN 0)] : List Value).toArray s 11 25687 A) (F0 m 106 ls []) := by
    intro n
    induction n with
    | zero => intro y1 zN H locs ls h; exact False.elim h
    | succ n hk106 =>
      intro y1 zN H locs ls h hP hD hS hl
      have h : qX7_init_106b post (qX7_init_106 post n) y1 zN := h
      refine lv_iload_n hx hb dX7_init_106 rfl (lv_at hl 0 rfl) ?_
      refine lv_bipush (v := 8) hx hb dX7_init_107 (by decide) ?_
      obtain ⟨hh1, hh2⟩ := h
      refine lv_icmp_ge (tgt := 159) hx hb dX7_init_109 (by decide) (fun hc => ?_) (fun hc => ?_)
      · have h := hh1 hc
        refine lv_aload_n hx hb dX7_init_159 rfl (lv_at hl 1 rfl) ?_
        refine va_get (D := D) (ci := 7) (v := .ref (aN 6)) (C := RX7) (T := TX7) (N := 14) hx hb hts jX7_init_X7 hown hK hP 0 rfl rfl 6 (by decide) (hts (.fieldLink RX7 25 "BrotherAutomataModel" "begin" "[I") (List.mem_of_getElem? (i := 10) rfl)) (fun _ h9 => h9) rfl dX7_init_160 ?_
        refine lv_bipush (v := 8) hx hb dX7_init_163 (by decide) ?_
        refine lv_aload_n hx hb dX7_init_165 rfl (lv_at hl 1 rfl) ?_
        refine va_get (D := D) (ci := 7) (v := .int (zN 11 0)) (C := RX7) (T := TX7) (N := 14) hx hb hts jX7_init_X7 hown hK hP 0 rfl rfl 0 (by decide) (hts (.fieldLink RX7 47 "BrotherAutomataModel" "trees" "I") (List.mem_of_getElem? (i := 17) rfl)) (fun _ h9 => h9) rfl dX7_init_166 ?_
        obtain ⟨hi, h⟩ := h
        refine va_iast hx hb hK hP hD hS 6 0 rfl rfl hi dX7_init_169 (fun H locs hP hD hS => ?_)
        have hP : va_P D vwCl (wN cI aN (st zN 5 (8 : Int32).toNatClampNeg (zN 11 0))) H := hP
        have hD : va_D A (wN cI aN (st zN 5 (8 : Int32).toNatClampNeg (zN 11 0))) := hD
        exact xvret (w := (w_X7_init cI cO aN)) (st zN 5 (8 : Int32).toNatClampNeg (zN 11 0)) hx hb hr hlocks h hP hK hD hS dX7_init_170
      · have h := hh2 hc
        refine lv_aload_n hx hb dX7_init_112 rfl (lv_at hl 1 rfl) ?_
        refine va_get (D := D) (ci := 7) (v := .ref (aN 6)) (C := RX7) (T := TX7) (N := 14) hx hb hts jX7_init_X7 hown hK hP 0 rfl rfl 6 (by decide) (hts (.fieldLink RX7 25 "BrotherAutomataModel" "begin" "[I") (List.mem_of_getElem? (i := 10) rfl)) (fun _ h9 => h9) rfl dX7_init_113 ?_
        refine lv_iload_n hx hb dX7_init_116 rfl (lv_at hl 0 rfl) ?_
        refine lv_aload_n hx hb dX7_init_117 rfl (lv_at hl 1 rfl) ?_
        refine va_get (D := D) (ci := 7) (v := .int (zN 11 0)) (C := RX7) (T := TX7) (N := 14) hx hb hts jX7_init_X7 hown hK hP 0 rfl rfl 0 (by decide) (hts (.fieldLink RX7 47 "BrotherAutomataModel" "trees" "I") (List.mem_of_getElem? (i := 17) rfl)) (fun _ h9 => h9) rfl dX7_init_118 ?_
        obtain ⟨hi, h⟩ := h
        refine va_iast hx hb hK hP hD hS 6 0 rfl rfl hi dX7_init_121 (fun H locs hP hD hS => ?_)
        have hP : va_P D vwCl (wN cI aN (st zN 5 y1.toNatClampNeg (zN 11 0))) H := hP
        have hD : va_D A (wN cI aN (st zN 5 y1.toNatClampNeg (zN 11 0))) := hD
        refine lv_iload_n hx hb dX7_init_122 rfl (lv_at hl 0 rfl) ?_
        refine lv_iconst (v := 1) hx hb dX7_init_123 (by decide) ?_
        obtain ⟨hh1, hh2⟩ := h
        refine lv_icmp_ne (tgt := 148) hx hb dX7_init_124 (by decide) (fun hc => ?_) (fun hc => ?_)
        · have h := hh2 hc
          refine lv_aload_n hx hb dX7_init_148 rfl (lv_at hl 1 rfl) ?_
          refine lv_iload_n hx hb dX7_init_149 rfl (lv_at hl 0 rfl) ?_
          refine xcallv (wr := ([] : va_W)) (w2 := fun (u150 : (CS)) => (wN cI aN u150)) (va_runV (As := [.int y1]) (rest := []) ⟨hx, hb, hml, hown, hts⟩ (mX7_grows l D cI cO tA tS aN (st zN 5 y1.toNatClampNeg (zN 11 0)) y1 _ h) (cwV 1 hts gX7_init_X7_grows rfl rfl rfl (by decide +kernel) ⟨Nat.le_of_ble_eq_true rfl, Nat.le_of_ble_eq_true rfl⟩) (xpreV hP hD hS hA hK hE [0, 1, 2, 3, 4, 5, 6, 7, 8, 9, 10, 11] rfl rfl 7 0 rfl rfl) rfl rfl hl.1 rfl (lv_room (Nat.le_of_ble_eq_true rfl)) dX7_init_150 ⟨Nat.le_of_ble_eq_true rfl, Nat.le_of_ble_eq_true rfl⟩) hP hD hS hA [0, 1, 2, 3, 4, 5, 6, 7, 8, 9, 10, 11] [] [0, 1, 2, 3, 4, 5, 6, 7, 8, 9, 10, 11] rfl rfl rfl (by decide) rfl (fun _ => rfl) (fun u150 H locs h hP hD hS => ?_)
          exact g153 (qX7_init_106 post n) hk106 y1 u150 _ _ _ h hP hD hS hl
        · have h := hh1 hc
          refine lv_aload_n hx hb dX7_init_127 rfl (lv_at hl 1 rfl) ?_
          refine lv_iconst (v := 0) hx hb dX7_init_128 (by decide) ?_
          refine lv_iconst (v := 0) hx hb dX7_init_129 (by decide) ?_
          refine lv_iconst (v := 0) hx hb dX7_init_130 (by decide) ?_
          refine lv_iconst (v := 1) hx hb dX7_init_131 (by decide) ?_
          refine lv_iconst (v := 0) hx hb dX7_init_132 (by decide) ?_
          refine xcallv (wr := ([] : va_W)) (w2 := fun (u133 : (CS)) => (wN cI aN u133)) (va_runV (As := [.int (0 : Int32), .int (0 : Int32), .int (0 : Int32), .int (1 : Int32), .int (0 : Int32)]) (rest := []) ⟨hx, hb, hml, hown, hts⟩ (mX7_lays l D cI cO tA tS aN (st zN 5 y1.toNatClampNeg (zN 11 0)) (0 : Int32) (0 : Int32) (0 : Int32) (1 : Int32) (0 : Int32) _ h) (cwV 5 hts gX7_init_X7_lays rfl rfl rfl (by decide +kernel) ⟨Nat.le_of_ble_eq_true rfl, Nat.le_of_ble_eq_true rfl⟩) (xpreV hP hD hS hA hK hE [0, 1, 2, 3, 4, 5, 6, 7, 8, 9, 10, 11] rfl rfl 7 0 rfl rfl) rfl rfl hl.1 rfl (lv_room (Nat.le_of_ble_eq_true rfl)) dX7_init_133 ⟨Nat.le_of_ble_eq_true rfl, Nat.le_of_ble_eq_true rfl⟩) hP hD hS hA [0, 1, 2, 3, 4, 5, 6, 7, 8, 9, 10, 11] [] [0, 1, 2, 3, 4, 5, 6, 7, 8, 9, 10, 11] rfl rfl rfl (by decide) rfl (fun _ => rfl) (fun u133 H locs h hP hD hS => ?_)
          refine lv_aload_n hx hb dX7_init_136 rfl (lv_at hl 1 rfl) ?_
          refine lv_iconst (v := 1) hx hb dX7_init_137 (by decide) ?_
          refine lv_iconst (v := 0) hx hb dX7_init_138 (by decide) ?_
          refine lv_iconst (v := 0) hx hb dX7_init_139 (by decide) ?_
          refine lv_iconst (v := 1) hx hb dX7_init_140 (by decide) ?_
          refine lv_iconst (v := 0) hx hb dX7_init_141 (by decide) ?_
          refine xcallv (wr := ([] : va_W)) (w2 := fun (u142 : (CS)) => (wN cI aN u142)) (va_runV (As := [.int (1 : Int32), .int (0 : Int32), .int (0 : Int32), .int (1 : Int32), .int (0 : Int32)]) (rest := []) ⟨hx, hb, hml, hown, hts⟩ (mX7_lays l D cI cO tA tS aN u133 (1 : Int32) (0 : Int32) (0 : Int32) (1 : Int32) (0 : Int32) _ h) (cwV 5 hts gX7_init_X7_lays rfl rfl rfl (by decide +kernel) ⟨Nat.le_of_ble_eq_true rfl, Nat.le_of_ble_eq_true rfl⟩) (xpreV hP hD hS hA hK hE [0, 1, 2, 3, 4, 5, 6, 7, 8, 9, 10, 11] rfl rfl 7 0 rfl rfl) rfl rfl hl.1 rfl (lv_room (Nat.le_of_ble_eq_true rfl)) dX7_init_142 ⟨Nat.le_of_ble_eq_true rfl, Nat.le_of_ble_eq_true rfl⟩) hP hD hS hA [0, 1, 2, 3, 4, 5, 6, 7, 8, 9, 10, 11] [] [0, 1, 2, 3, 4, 5, 6, 7, 8, 9, 10, 11] rfl rfl rfl (by decide) rfl (fun _ => rfl) (fun u142 H locs h hP hD hS => ?_)
          refine lv_goto (tgt := 153) hx hb dX7_init_145 (by decide) ?_
          exact g153 (qX7_init_106 post n) hk106 y1 u142 _ _ _ h hP hD hS hl
  refine lv_iconst (v := 1) hx hb dX7_init_104 (by decide) ?_
  refine lv_istore_n (lv' := [(1, .int (1 : Int32)), (0, .ref (aN 0))]) hx hb dX7_init_105 rfl hl (by decide) rfl (fun ls hl => ?_)
  obtain ⟨n0, h⟩ := h
  exact g106 n0 (1 : Int32) zN _ _ _ h hP hD hS hl

theorem jX7_init_X7c : ∀ w ∈ wsX70, w ∈ wsX7_init := by decide +kernel
set_option maxRecDepth 100000 in
set_option maxHeartbeats 8000000 in
theorem mX7_init (l : Launch) (D : va_G) (cI cO : ClassId) (tA tS : Nat) (o : Nat) (sz : Nat) {post : CS → Prop} (h : qX7_init post (st z0 11 1 2)) : Met l yX7_init wsX7_init ({ frames := 2, cells := 11, slots := 25687, locals := 51 } : Room) (xPre D cI cO tA tS [.ref o] [(o, .inr (7, [.int 0, .null, .null, .null, .null, .null, .null, .null, .int 0, .null, .null, .int 0, .null, .null]))] sz) (va_Qv (fun u : ((Nat → Nat) × CS) => u.1 0 = o ∧ post u.2) (xB D cI cO (va_A [(o, .inr (7, [.int 0, .null, .null, .null, .null, .null, .null, .null, .int 0, .null, .null, .int 0, .null, .null]))] sz) (fun u : ((Nat → Nat) × CS) => wN cI u.1 u.2)) (va_A [(o, .inr (7, [.int 0, .null, .null, .null, .null, .null, .null, .null, .int 0, .null, .null, .int 0, .null, .null]))] sz)) 11 25687 (va_A [(o, .inr (7, [.int 0, .null, .null, .null, .null, .null, .null, .null, .int 0, .null, .null, .int 0, .null, .null]))] sz) := by
  refine xMet D cI cO tA tS (fun A => va_Qv (fun u : ((Nat → Nat) × CS) => u.1 0 = o ∧ post u.2) (xB D cI cO A (fun u : ((Nat → Nat) × CS) => wN cI u.1 u.2)) A) (cc := cX7_init) (maxL := 2) (ret := none) (by decide) rfl (Nat.le_of_ble_eq_true rfl) ?_
  intro p e s m below meth c A ls hx hb hr hts hown hlocks hin hml hA hS hP hK hD hE hl
  have hown : s.vm.findClass RX7 = some m.cls := hown
  have hin : meth.name = "<init>" := hin
  have hl : lv_has ls 2 [(0, .ref o)] := hl
  refine lv_aload_n hx hb dX7_init_0 rfl (lv_at hl 0 rfl) ?_
  refine W.objInit hx hb hown (hts (.methodLink RX7 1 objectInit) (List.mem_of_getElem? (i := 1) rfl)) (hts (.instanceMethod objectInit) (List.mem_of_getElem? (i := 2) rfl)) (hts _ (List.mem_of_getElem? (i := 3) rfl)) rfl (by rw [hml]; exact hl.1) rfl dX7_init_1 (Nat.le_of_ble_eq_true rfl) (Nat.le_of_ble_eq_true rfl) ?_
  refine W.eq (g2 := F0 m 4 ls []) rfl ?_
  refine lv_aload_n hx hb dX7_init_4 rfl (lv_at hl 0 rfl) ?_
  refine lv_sipush (v := 2278) hx hb dX7_init_5 (by decide) ?_
  refine xnewa (N' := 2278) hx hb (hts (.arrayClass .int) (List.mem_of_getElem? (i := 4) rfl)) hK hP hD hS hA (by decide) rfl (Nat.le_of_ble_eq_true rfl) (Nat.le_of_ble_eq_true rfl) (Nat.le_of_ble_eq_true rfl) dX7_init_8 (fun q8 H hP hD hS => ?_)
  have hP : va_P D vwCl ([(o, .inr (7, [.int 0, .null, .null, .null, .null, .null, .null, .null, .int 0, .null, .null, .int 0, .null, .null])), (q8, .inl (cI, 2278, .inl (fun _ => 0)))]) H := hP
  have hD : va_D A ([(o, .inr (7, [.int 0, .null, .null, .null, .null, .null, .null, .null, .int 0, .null, .null, .int 0, .null, .null])), (q8, .inl (cI, 2278, .inl (fun _ => 0)))]) := hD
  refine W.widen (k := 1) (n := 2278) (Nat.le_of_ble_eq_true rfl) (Nat.le_of_ble_eq_true rfl) ?_
  refine va_putF (D := D) (ci := 7) (v := .ref q8) (ty := .array .int) (C := RX7) (T := TX7) (N := 14) hx hb hts jX7_init_X7c tyX7 tyX7_ok nmX7 hown hK hP hD hS 0 rfl rfl 1 (by decide) (hts (.fieldLink RX7 7 "BrotherAutomataModel" "symbol" "[I") (List.mem_of_getElem? (i := 5) rfl)) (fun _ h9 => h9) rfl hin rfl (by decide +kernel) rfl rfl (Nat.le_of_ble_eq_true rfl) dX7_init_10 (fun H locs hP hD hS => ?_)
  have hP : va_P D vwCl ([(o, .inr (7, [.int 0, .ref q8, .null, .null, .null, .null, .null, .null, .int 0, .null, .null, .int 0, .null, .null])), (q8, .inl (cI, 2278, .inl (fun _ => 0)))]) H := hP
  have hD : va_D A ([(o, .inr (7, [.int 0, .ref q8, .null, .null, .null, .null, .null, .null, .int 0, .null, .null, .int 0, .null, .null])), (q8, .inl (cI, 2278, .inl (fun _ => 0)))]) := hD
  refine lv_aload_n hx hb dX7_init_13 rfl (lv_at hl 0 rfl) ?_
  refine lv_sipush (v := 2278) hx hb dX7_init_14 (by decide) ?_
  refine xnewa (N' := 2278) hx hb (hts (.arrayClass .int) (List.mem_of_getElem? (i := 4) rfl)) hK hP hD hS hA (by decide) rfl (Nat.le_of_ble_eq_true rfl) (Nat.le_of_ble_eq_true rfl) (Nat.le_of_ble_eq_true rfl) dX7_init_17 (fun q17 H hP hD hS => ?_)
  have hP : va_P D vwCl ([(o, .inr (7, [.int 0, .ref q8, .null, .null, .null, .null, .null, .null, .int 0, .null, .null, .int 0, .null, .null])), (q8, .inl (cI, 2278, .inl (fun _ => 0))), (q17, .inl (cI, 2278, .inl (fun _ => 0)))]) H := hP
  have hD : va_D A ([(o, .inr (7, [.int 0, .ref q8, .null, .null, .null, .null, .null, .null, .int 0, .null, .null, .int 0, .null, .null])), (q8, .inl (cI, 2278, .inl (fun _ => 0))), (q17, .inl (cI, 2278, .inl (fun _ => 0)))]) := hD
  refine W.widen (k := 2) (n := 4556) (Nat.le_of_ble_eq_true rfl) (Nat.le_of_ble_eq_true rfl) ?_
  refine va_putF (D := D) (ci := 7) (v := .ref q17) (ty := .array .int) (C := RX7) (T := TX7) (N := 14) hx hb hts jX7_init_X7c tyX7 tyX7_ok nmX7 hown hK hP hD hS 0 rfl rfl 2 (by decide) (hts (.fieldLink RX7 13 "BrotherAutomataModel" "first" "[I") (List.mem_of_getElem? (i := 6) rfl)) (fun _ h9 => h9) rfl hin rfl (by decide +kernel) rfl rfl (Nat.le_of_ble_eq_true rfl) dX7_init_19 (fun H locs hP hD hS => ?_)
  have hP : va_P D vwCl ([(o, .inr (7, [.int 0, .ref q8, .ref q17, .null, .null, .null, .null, .null, .int 0, .null, .null, .int 0, .null, .null])), (q8, .inl (cI, 2278, .inl (fun _ => 0))), (q17, .inl (cI, 2278, .inl (fun _ => 0)))]) H := hP
  have hD : va_D A ([(o, .inr (7, [.int 0, .ref q8, .ref q17, .null, .null, .null, .null, .null, .int 0, .null, .null, .int 0, .null, .null])), (q8, .inl (cI, 2278, .inl (fun _ => 0))), (q17, .inl (cI, 2278, .inl (fun _ => 0)))]) := hD
  refine lv_aload_n hx hb dX7_init_22 rfl (lv_at hl 0 rfl) ?_
  refine lv_sipush (v := 2278) hx hb dX7_init_23 (by decide) ?_
  refine xnewa (N' := 2278) hx hb (hts (.arrayClass .int) (List.mem_of_getElem? (i := 4) rfl)) hK hP hD hS hA (by decide) rfl (Nat.le_of_ble_eq_true rfl) (Nat.le_of_ble_eq_true rfl) (Nat.le_of_ble_eq_true rfl) dX7_init_26 (fun q26 H hP hD hS => ?_)
  have hP : va_P D vwCl ([(o, .inr (7, [.int 0, .ref q8, .ref q17, .null, .null, .null, .null, .null, .int 0, .null, .null, .int 0, .null, .null])), (q8, .inl (cI, 2278, .inl (fun _ => 0))), (q17, .inl (cI, 2278, .inl (fun _ => 0))), (q26, .inl (cI, 2278, .inl (fun _ => 0)))]) H := hP
  have hD : va_D A ([(o, .inr (7, [.int 0, .ref q8, .ref q17, .null, .null, .null, .null, .null, .int 0, .null, .null, .int 0, .null, .null])), (q8, .inl (cI, 2278, .inl (fun _ => 0))), (q17, .inl (cI, 2278, .inl (fun _ => 0))), (q26, .inl (cI, 2278, .inl (fun _ => 0)))]) := hD
  refine W.widen (k := 3) (n := 6834) (Nat.le_of_ble_eq_true rfl) (Nat.le_of_ble_eq_true rfl) ?_
  refine va_putF (D := D) (ci := 7) (v := .ref q26) (ty := .array .int) (C := RX7) (T := TX7) (N := 14) hx hb hts jX7_init_X7c tyX7 tyX7_ok nmX7 hown hK hP hD hS 0 rfl rfl 3 (by decide) (hts (.fieldLink RX7 16 "BrotherAutomataModel" "second" "[I") (List.mem_of_getElem? (i := 7) rfl)) (fun _ h9 => h9) rfl hin rfl (by decide +kernel) rfl rfl (Nat.le_of_ble_eq_true rfl) dX7_init_28 (fun H locs hP hD hS => ?_)
  have hP : va_P D vwCl ([(o, .inr (7, [.int 0, .ref q8, .ref q17, .ref q26, .null, .null, .null, .null, .int 0, .null, .null, .int 0, .null, .null])), (q8, .inl (cI, 2278, .inl (fun _ => 0))), (q17, .inl (cI, 2278, .inl (fun _ => 0))), (q26, .inl (cI, 2278, .inl (fun _ => 0)))]) H := hP
  have hD : va_D A ([(o, .inr (7, [.int 0, .ref q8, .ref q17, .ref q26, .null, .null, .null, .null, .int 0, .null, .null, .int 0, .null, .null])), (q8, .inl (cI, 2278, .inl (fun _ => 0))), (q17, .inl (cI, 2278, .inl (fun _ => 0))), (q26, .inl (cI, 2278, .inl (fun _ => 0)))]) := hD
  refine lv_aload_n hx hb dX7_init_31 rfl (lv_at hl 0 rfl) ?_
  refine lv_sipush (v := 2278) hx hb dX7_init_32 (by decide) ?_
  refine xnewa (N' := 2278) hx hb (hts (.arrayClass .int) (List.mem_of_getElem? (i := 4) rfl)) hK hP hD hS hA (by decide) rfl (Nat.le_of_ble_eq_true rfl) (Nat.le_of_ble_eq_true rfl) (Nat.le_of_ble_eq_true rfl) dX7_init_35 (fun q35 H hP hD hS => ?_)
  have hP : va_P D vwCl ([(o, .inr (7, [.int 0, .ref q8, .ref q17, .ref q26, .null, .null, .null, .null, .int 0, .null, .null, .int 0, .null, .null])), (q8, .inl (cI, 2278, .inl (fun _ => 0))), (q17, .inl (cI, 2278, .inl (fun _ => 0))), (q26, .inl (cI, 2278, .inl (fun _ => 0))), (q35, .inl (cI, 2278, .inl (fun _ => 0)))]) H := hP
  have hD : va_D A ([(o, .inr (7, [.int 0, .ref q8, .ref q17, .ref q26, .null, .null, .null, .null, .int 0, .null, .null, .int 0, .null, .null])), (q8, .inl (cI, 2278, .inl (fun _ => 0))), (q17, .inl (cI, 2278, .inl (fun _ => 0))), (q26, .inl (cI, 2278, .inl (fun _ => 0))), (q35, .inl (cI, 2278, .inl (fun _ => 0)))]) := hD
  refine W.widen (k := 4) (n := 9112) (Nat.le_of_ble_eq_true rfl) (Nat.le_of_ble_eq_true rfl) ?_
  refine va_putF (D := D) (ci := 7) (v := .ref q35) (ty := .array .int) (C := RX7) (T := TX7) (N := 14) hx hb hts jX7_init_X7c tyX7 tyX7_ok nmX7 hown hK hP hD hS 0 rfl rfl 4 (by decide) (hts (.fieldLink RX7 19 "BrotherAutomataModel" "size" "[I") (List.mem_of_getElem? (i := 8) rfl)) (fun _ h9 => h9) rfl hin rfl (by decide +kernel) rfl rfl (Nat.le_of_ble_eq_true rfl) dX7_init_37 (fun H locs hP hD hS => ?_)
  have hP : va_P D vwCl ([(o, .inr (7, [.int 0, .ref q8, .ref q17, .ref q26, .ref q35, .null, .null, .null, .int 0, .null, .null, .int 0, .null, .null])), (q8, .inl (cI, 2278, .inl (fun _ => 0))), (q17, .inl (cI, 2278, .inl (fun _ => 0))), (q26, .inl (cI, 2278, .inl (fun _ => 0))), (q35, .inl (cI, 2278, .inl (fun _ => 0)))]) H := hP
  have hD : va_D A ([(o, .inr (7, [.int 0, .ref q8, .ref q17, .ref q26, .ref q35, .null, .null, .null, .int 0, .null, .null, .int 0, .null, .null])), (q8, .inl (cI, 2278, .inl (fun _ => 0))), (q17, .inl (cI, 2278, .inl (fun _ => 0))), (q26, .inl (cI, 2278, .inl (fun _ => 0))), (q35, .inl (cI, 2278, .inl (fun _ => 0)))]) := hD
  refine lv_aload_n hx hb dX7_init_40 rfl (lv_at hl 0 rfl) ?_
  refine lv_sipush (v := 2278) hx hb dX7_init_41 (by decide) ?_
  refine xnewa (N' := 2278) hx hb (hts (.arrayClass .int) (List.mem_of_getElem? (i := 4) rfl)) hK hP hD hS hA (by decide) rfl (Nat.le_of_ble_eq_true rfl) (Nat.le_of_ble_eq_true rfl) (Nat.le_of_ble_eq_true rfl) dX7_init_44 (fun q44 H hP hD hS => ?_)
  have hP : va_P D vwCl ([(o, .inr (7, [.int 0, .ref q8, .ref q17, .ref q26, .ref q35, .null, .null, .null, .int 0, .null, .null, .int 0, .null, .null])), (q8, .inl (cI, 2278, .inl (fun _ => 0))), (q17, .inl (cI, 2278, .inl (fun _ => 0))), (q26, .inl (cI, 2278, .inl (fun _ => 0))), (q35, .inl (cI, 2278, .inl (fun _ => 0))), (q44, .inl (cI, 2278, .inl (fun _ => 0)))]) H := hP
  have hD : va_D A ([(o, .inr (7, [.int 0, .ref q8, .ref q17, .ref q26, .ref q35, .null, .null, .null, .int 0, .null, .null, .int 0, .null, .null])), (q8, .inl (cI, 2278, .inl (fun _ => 0))), (q17, .inl (cI, 2278, .inl (fun _ => 0))), (q26, .inl (cI, 2278, .inl (fun _ => 0))), (q35, .inl (cI, 2278, .inl (fun _ => 0))), (q44, .inl (cI, 2278, .inl (fun _ => 0)))]) := hD
  refine W.widen (k := 5) (n := 11390) (Nat.le_of_ble_eq_true rfl) (Nat.le_of_ble_eq_true rfl) ?_
  refine va_putF (D := D) (ci := 7) (v := .ref q44) (ty := .array .int) (C := RX7) (T := TX7) (N := 14) hx hb hts jX7_init_X7c tyX7 tyX7_ok nmX7 hown hK hP hD hS 0 rfl rfl 5 (by decide) (hts (.fieldLink RX7 22 "BrotherAutomataModel" "height" "[I") (List.mem_of_getElem? (i := 9) rfl)) (fun _ h9 => h9) rfl hin rfl (by decide +kernel) rfl rfl (Nat.le_of_ble_eq_true rfl) dX7_init_46 (fun H locs hP hD hS => ?_)
  have hP : va_P D vwCl ([(o, .inr (7, [.int 0, .ref q8, .ref q17, .ref q26, .ref q35, .ref q44, .null, .null, .int 0, .null, .null, .int 0, .null, .null])), (q8, .inl (cI, 2278, .inl (fun _ => 0))), (q17, .inl (cI, 2278, .inl (fun _ => 0))), (q26, .inl (cI, 2278, .inl (fun _ => 0))), (q35, .inl (cI, 2278, .inl (fun _ => 0))), (q44, .inl (cI, 2278, .inl (fun _ => 0)))]) H := hP
  have hD : va_D A ([(o, .inr (7, [.int 0, .ref q8, .ref q17, .ref q26, .ref q35, .ref q44, .null, .null, .int 0, .null, .null, .int 0, .null, .null])), (q8, .inl (cI, 2278, .inl (fun _ => 0))), (q17, .inl (cI, 2278, .inl (fun _ => 0))), (q26, .inl (cI, 2278, .inl (fun _ => 0))), (q35, .inl (cI, 2278, .inl (fun _ => 0))), (q44, .inl (cI, 2278, .inl (fun _ => 0)))]) := hD
  refine lv_aload_n hx hb dX7_init_49 rfl (lv_at hl 0 rfl) ?_
  refine lv_bipush (v := 9) hx hb dX7_init_50 (by decide) ?_
  refine xnewa (N' := 9) hx hb (hts (.arrayClass .int) (List.mem_of_getElem? (i := 4) rfl)) hK hP hD hS hA (by decide) rfl (Nat.le_of_ble_eq_true rfl) (Nat.le_of_ble_eq_true rfl) (Nat.le_of_ble_eq_true rfl) dX7_init_52 (fun q52 H hP hD hS => ?_)
  have hP : va_P D vwCl ([(o, .inr (7, [.int 0, .ref q8, .ref q17, .ref q26, .ref q35, .ref q44, .null, .null, .int 0, .null, .null, .int 0, .null, .null])), (q8, .inl (cI, 2278, .inl (fun _ => 0))), (q17, .inl (cI, 2278, .inl (fun _ => 0))), (q26, .inl (cI, 2278, .inl (fun _ => 0))), (q35, .inl (cI, 2278, .inl (fun _ => 0))), (q44, .inl (cI, 2278, .inl (fun _ => 0))), (q52, .inl (cI, 9, .inl (fun _ => 0)))]) H := hP
  have hD : va_D A ([(o, .inr (7, [.int 0, .ref q8, .ref q17, .ref q26, .ref q35, .ref q44, .null, .null, .int 0, .null, .null, .int 0, .null, .null])), (q8, .inl (cI, 2278, .inl (fun _ => 0))), (q17, .inl (cI, 2278, .inl (fun _ => 0))), (q26, .inl (cI, 2278, .inl (fun _ => 0))), (q35, .inl (cI, 2278, .inl (fun _ => 0))), (q44, .inl (cI, 2278, .inl (fun _ => 0))), (q52, .inl (cI, 9, .inl (fun _ => 0)))]) := hD
  refine W.widen (k := 6) (n := 11399) (Nat.le_of_ble_eq_true rfl) (Nat.le_of_ble_eq_true rfl) ?_
  refine va_putF (D := D) (ci := 7) (v := .ref q52) (ty := .array .int) (C := RX7) (T := TX7) (N := 14) hx hb hts jX7_init_X7c tyX7 tyX7_ok nmX7 hown hK hP hD hS 0 rfl rfl 6 (by decide) (hts (.fieldLink RX7 25 "BrotherAutomataModel" "begin" "[I") (List.mem_of_getElem? (i := 10) rfl)) (fun _ h9 => h9) rfl hin rfl (by decide +kernel) rfl rfl (Nat.le_of_ble_eq_true rfl) dX7_init_54 (fun H locs hP hD hS => ?_)
  have hP : va_P D vwCl ([(o, .inr (7, [.int 0, .ref q8, .ref q17, .ref q26, .ref q35, .ref q44, .ref q52, .null, .int 0, .null, .null, .int 0, .null, .null])), (q8, .inl (cI, 2278, .inl (fun _ => 0))), (q17, .inl (cI, 2278, .inl (fun _ => 0))), (q26, .inl (cI, 2278, .inl (fun _ => 0))), (q35, .inl (cI, 2278, .inl (fun _ => 0))), (q44, .inl (cI, 2278, .inl (fun _ => 0))), (q52, .inl (cI, 9, .inl (fun _ => 0)))]) H := hP
  have hD : va_D A ([(o, .inr (7, [.int 0, .ref q8, .ref q17, .ref q26, .ref q35, .ref q44, .ref q52, .null, .int 0, .null, .null, .int 0, .null, .null])), (q8, .inl (cI, 2278, .inl (fun _ => 0))), (q17, .inl (cI, 2278, .inl (fun _ => 0))), (q26, .inl (cI, 2278, .inl (fun _ => 0))), (q35, .inl (cI, 2278, .inl (fun _ => 0))), (q44, .inl (cI, 2278, .inl (fun _ => 0))), (q52, .inl (cI, 9, .inl (fun _ => 0)))]) := hD
  refine lv_aload_n hx hb dX7_init_57 rfl (lv_at hl 0 rfl) ?_
  refine lv_sipush (v := 13668) hx hb dX7_init_58 (by decide) ?_
  refine xnewa (N' := 13668) hx hb (hts (.arrayClass .int) (List.mem_of_getElem? (i := 4) rfl)) hK hP hD hS hA (by decide) rfl (Nat.le_of_ble_eq_true rfl) (Nat.le_of_ble_eq_true rfl) (Nat.le_of_ble_eq_true rfl) dX7_init_61 (fun q61 H hP hD hS => ?_)
  have hP : va_P D vwCl ([(o, .inr (7, [.int 0, .ref q8, .ref q17, .ref q26, .ref q35, .ref q44, .ref q52, .null, .int 0, .null, .null, .int 0, .null, .null])), (q8, .inl (cI, 2278, .inl (fun _ => 0))), (q17, .inl (cI, 2278, .inl (fun _ => 0))), (q26, .inl (cI, 2278, .inl (fun _ => 0))), (q35, .inl (cI, 2278, .inl (fun _ => 0))), (q44, .inl (cI, 2278, .inl (fun _ => 0))), (q52, .inl (cI, 9, .inl (fun _ => 0))), (q61, .inl (cI, 13668, .inl (fun _ => 0)))]) H := hP
  have hD : va_D A ([(o, .inr (7, [.int 0, .ref q8, .ref q17, .ref q26, .ref q35, .ref q44, .ref q52, .null, .int 0, .null, .null, .int 0, .null, .null])), (q8, .inl (cI, 2278, .inl (fun _ => 0))), (q17, .inl (cI, 2278, .inl (fun _ => 0))), (q26, .inl (cI, 2278, .inl (fun _ => 0))), (q35, .inl (cI, 2278, .inl (fun _ => 0))), (q44, .inl (cI, 2278, .inl (fun _ => 0))), (q52, .inl (cI, 9, .inl (fun _ => 0))), (q61, .inl (cI, 13668, .inl (fun _ => 0)))]) := hD
  refine W.widen (k := 7) (n := 25067) (Nat.le_of_ble_eq_true rfl) (Nat.le_of_ble_eq_true rfl) ?_
  refine va_putF (D := D) (ci := 7) (v := .ref q61) (ty := .array .int) (C := RX7) (T := TX7) (N := 14) hx hb hts jX7_init_X7c tyX7 tyX7_ok nmX7 hown hK hP hD hS 0 rfl rfl 7 (by decide) (hts (.fieldLink RX7 28 "BrotherAutomataModel" "runs" "[I") (List.mem_of_getElem? (i := 11) rfl)) (fun _ h9 => h9) rfl hin rfl (by decide +kernel) rfl rfl (Nat.le_of_ble_eq_true rfl) dX7_init_63 (fun H locs hP hD hS => ?_)
  have hP : va_P D vwCl ([(o, .inr (7, [.int 0, .ref q8, .ref q17, .ref q26, .ref q35, .ref q44, .ref q52, .ref q61, .int 0, .null, .null, .int 0, .null, .null])), (q8, .inl (cI, 2278, .inl (fun _ => 0))), (q17, .inl (cI, 2278, .inl (fun _ => 0))), (q26, .inl (cI, 2278, .inl (fun _ => 0))), (q35, .inl (cI, 2278, .inl (fun _ => 0))), (q44, .inl (cI, 2278, .inl (fun _ => 0))), (q52, .inl (cI, 9, .inl (fun _ => 0))), (q61, .inl (cI, 13668, .inl (fun _ => 0)))]) H := hP
  have hD : va_D A ([(o, .inr (7, [.int 0, .ref q8, .ref q17, .ref q26, .ref q35, .ref q44, .ref q52, .ref q61, .int 0, .null, .null, .int 0, .null, .null])), (q8, .inl (cI, 2278, .inl (fun _ => 0))), (q17, .inl (cI, 2278, .inl (fun _ => 0))), (q26, .inl (cI, 2278, .inl (fun _ => 0))), (q35, .inl (cI, 2278, .inl (fun _ => 0))), (q44, .inl (cI, 2278, .inl (fun _ => 0))), (q52, .inl (cI, 9, .inl (fun _ => 0))), (q61, .inl (cI, 13668, .inl (fun _ => 0)))]) := hD
  refine lv_aload_n hx hb dX7_init_66 rfl (lv_at hl 0 rfl) ?_
  refine lv_iconst (v := 2) hx hb dX7_init_67 (by decide) ?_
  refine va_put (D := D) (ci := 7) (v := .int 2) (ty := .int) (C := RX7) (T := TX7) (N := 14) hx hb hts jX7_init_X7c tyX7 tyX7_ok nmX7 hown hK hP hD hS 0 rfl rfl 8 (by decide) (hts (.fieldLink RX7 31 "BrotherAutomataModel" "states" "I") (List.mem_of_getElem? (i := 12) rfl)) (fun _ h9 => h9) rfl (by decide +kernel) rfl rfl (Nat.le_of_ble_eq_true rfl) dX7_init_68 (fun H locs hP hD hS => ?_)
  have hP : va_P D vwCl ([(o, .inr (7, [.int 0, .ref q8, .ref q17, .ref q26, .ref q35, .ref q44, .ref q52, .ref q61, .int 2, .null, .null, .int 0, .null, .null])), (q8, .inl (cI, 2278, .inl (fun _ => 0))), (q17, .inl (cI, 2278, .inl (fun _ => 0))), (q26, .inl (cI, 2278, .inl (fun _ => 0))), (q35, .inl (cI, 2278, .inl (fun _ => 0))), (q44, .inl (cI, 2278, .inl (fun _ => 0))), (q52, .inl (cI, 9, .inl (fun _ => 0))), (q61, .inl (cI, 13668, .inl (fun _ => 0)))]) H := hP
  have hD : va_D A ([(o, .inr (7, [.int 0, .ref q8, .ref q17, .ref q26, .ref q35, .ref q44, .ref q52, .ref q61, .int 2, .null, .null, .int 0, .null, .null])), (q8, .inl (cI, 2278, .inl (fun _ => 0))), (q17, .inl (cI, 2278, .inl (fun _ => 0))), (q26, .inl (cI, 2278, .inl (fun _ => 0))), (q35, .inl (cI, 2278, .inl (fun _ => 0))), (q44, .inl (cI, 2278, .inl (fun _ => 0))), (q52, .inl (cI, 9, .inl (fun _ => 0))), (q61, .inl (cI, 13668, .inl (fun _ => 0)))]) := hD
  refine lv_aload_n hx hb dX7_init_71 rfl (lv_at hl 0 rfl) ?_
  refine lv_bipush (v := 82) hx hb dX7_init_72 (by decide) ?_
  refine xnewa (N' := 82) hx hb (hts (.arrayClass .int) (List.mem_of_getElem? (i := 4) rfl)) hK hP hD hS hA (by decide) rfl (Nat.le_of_ble_eq_true rfl) (Nat.le_of_ble_eq_true rfl) (Nat.le_of_ble_eq_true rfl) dX7_init_74 (fun q74 H hP hD hS => ?_)
  have hP : va_P D vwCl ([(o, .inr (7, [.int 0, .ref q8, .ref q17, .ref q26, .ref q35, .ref q44, .ref q52, .ref q61, .int 2, .null, .null, .int 0, .null, .null])), (q8, .inl (cI, 2278, .inl (fun _ => 0))), (q17, .inl (cI, 2278, .inl (fun _ => 0))), (q26, .inl (cI, 2278, .inl (fun _ => 0))), (q35, .inl (cI, 2278, .inl (fun _ => 0))), (q44, .inl (cI, 2278, .inl (fun _ => 0))), (q52, .inl (cI, 9, .inl (fun _ => 0))), (q61, .inl (cI, 13668, .inl (fun _ => 0))), (q74, .inl (cI, 82, .inl (fun _ => 0)))]) H := hP
  have hD : va_D A ([(o, .inr (7, [.int 0, .ref q8, .ref q17, .ref q26, .ref q35, .ref q44, .ref q52, .ref q61, .int 2, .null, .null, .int 0, .null, .null])), (q8, .inl (cI, 2278, .inl (fun _ => 0))), (q17, .inl (cI, 2278, .inl (fun _ => 0))), (q26, .inl (cI, 2278, .inl (fun _ => 0))), (q35, .inl (cI, 2278, .inl (fun _ => 0))), (q44, .inl (cI, 2278, .inl (fun _ => 0))), (q52, .inl (cI, 9, .inl (fun _ => 0))), (q61, .inl (cI, 13668, .inl (fun _ => 0))), (q74, .inl (cI, 82, .inl (fun _ => 0)))]) := hD
  refine W.widen (k := 8) (n := 25149) (Nat.le_of_ble_eq_true rfl) (Nat.le_of_ble_eq_true rfl) ?_
  refine va_putF (D := D) (ci := 7) (v := .ref q74) (ty := .array .int) (C := RX7) (T := TX7) (N := 14) hx hb hts jX7_init_X7c tyX7 tyX7_ok nmX7 hown hK hP hD hS 0 rfl rfl 9 (by decide) (hts (.fieldLink RX7 35 "BrotherAutomataModel" "now" "[I") (List.mem_of_getElem? (i := 13) rfl)) (fun _ h9 => h9) rfl hin rfl (by decide +kernel) rfl rfl (Nat.le_of_ble_eq_true rfl) dX7_init_76 (fun H locs hP hD hS => ?_)
  have hP : va_P D vwCl ([(o, .inr (7, [.int 0, .ref q8, .ref q17, .ref q26, .ref q35, .ref q44, .ref q52, .ref q61, .int 2, .ref q74, .null, .int 0, .null, .null])), (q8, .inl (cI, 2278, .inl (fun _ => 0))), (q17, .inl (cI, 2278, .inl (fun _ => 0))), (q26, .inl (cI, 2278, .inl (fun _ => 0))), (q35, .inl (cI, 2278, .inl (fun _ => 0))), (q44, .inl (cI, 2278, .inl (fun _ => 0))), (q52, .inl (cI, 9, .inl (fun _ => 0))), (q61, .inl (cI, 13668, .inl (fun _ => 0))), (q74, .inl (cI, 82, .inl (fun _ => 0)))]) H := hP
  have hD : va_D A ([(o, .inr (7, [.int 0, .ref q8, .ref q17, .ref q26, .ref q35, .ref q44, .ref q52, .ref q61, .int 2, .ref q74, .null, .int 0, .null, .null])), (q8, .inl (cI, 2278, .inl (fun _ => 0))), (q17, .inl (cI, 2278, .inl (fun _ => 0))), (q26, .inl (cI, 2278, .inl (fun _ => 0))), (q35, .inl (cI, 2278, .inl (fun _ => 0))), (q44, .inl (cI, 2278, .inl (fun _ => 0))), (q52, .inl (cI, 9, .inl (fun _ => 0))), (q61, .inl (cI, 13668, .inl (fun _ => 0))), (q74, .inl (cI, 82, .inl (fun _ => 0)))]) := hD
  refine lv_aload_n hx hb dX7_init_79 rfl (lv_at hl 0 rfl) ?_
  refine lv_sipush (v := 410) hx hb dX7_init_80 (by decide) ?_
  refine xnewa (N' := 410) hx hb (hts (.arrayClass .int) (List.mem_of_getElem? (i := 4) rfl)) hK hP hD hS hA (by decide) rfl (Nat.le_of_ble_eq_true rfl) (Nat.le_of_ble_eq_true rfl) (Nat.le_of_ble_eq_true rfl) dX7_init_83 (fun q83 H hP hD hS => ?_)
  have hP : va_P D vwCl ([(o, .inr (7, [.int 0, .ref q8, .ref q17, .ref q26, .ref q35, .ref q44, .ref q52, .ref q61, .int 2, .ref q74, .null, .int 0, .null, .null])), (q8, .inl (cI, 2278, .inl (fun _ => 0))), (q17, .inl (cI, 2278, .inl (fun _ => 0))), (q26, .inl (cI, 2278, .inl (fun _ => 0))), (q35, .inl (cI, 2278, .inl (fun _ => 0))), (q44, .inl (cI, 2278, .inl (fun _ => 0))), (q52, .inl (cI, 9, .inl (fun _ => 0))), (q61, .inl (cI, 13668, .inl (fun _ => 0))), (q74, .inl (cI, 82, .inl (fun _ => 0))), (q83, .inl (cI, 410, .inl (fun _ => 0)))]) H := hP
  have hD : va_D A ([(o, .inr (7, [.int 0, .ref q8, .ref q17, .ref q26, .ref q35, .ref q44, .ref q52, .ref q61, .int 2, .ref q74, .null, .int 0, .null, .null])), (q8, .inl (cI, 2278, .inl (fun _ => 0))), (q17, .inl (cI, 2278, .inl (fun _ => 0))), (q26, .inl (cI, 2278, .inl (fun _ => 0))), (q35, .inl (cI, 2278, .inl (fun _ => 0))), (q44, .inl (cI, 2278, .inl (fun _ => 0))), (q52, .inl (cI, 9, .inl (fun _ => 0))), (q61, .inl (cI, 13668, .inl (fun _ => 0))), (q74, .inl (cI, 82, .inl (fun _ => 0))), (q83, .inl (cI, 410, .inl (fun _ => 0)))]) := hD
  refine W.widen (k := 9) (n := 25559) (Nat.le_of_ble_eq_true rfl) (Nat.le_of_ble_eq_true rfl) ?_
  refine va_putF (D := D) (ci := 7) (v := .ref q83) (ty := .array .int) (C := RX7) (T := TX7) (N := 14) hx hb hts jX7_init_X7c tyX7 tyX7_ok nmX7 hown hK hP hD hS 0 rfl rfl 10 (by decide) (hts (.fieldLink RX7 38 "BrotherAutomataModel" "history" "[I") (List.mem_of_getElem? (i := 14) rfl)) (fun _ h9 => h9) rfl hin rfl (by decide +kernel) rfl rfl (Nat.le_of_ble_eq_true rfl) dX7_init_85 (fun H locs hP hD hS => ?_)
  have hP : va_P D vwCl ([(o, .inr (7, [.int 0, .ref q8, .ref q17, .ref q26, .ref q35, .ref q44, .ref q52, .ref q61, .int 2, .ref q74, .ref q83, .int 0, .null, .null])), (q8, .inl (cI, 2278, .inl (fun _ => 0))), (q17, .inl (cI, 2278, .inl (fun _ => 0))), (q26, .inl (cI, 2278, .inl (fun _ => 0))), (q35, .inl (cI, 2278, .inl (fun _ => 0))), (q44, .inl (cI, 2278, .inl (fun _ => 0))), (q52, .inl (cI, 9, .inl (fun _ => 0))), (q61, .inl (cI, 13668, .inl (fun _ => 0))), (q74, .inl (cI, 82, .inl (fun _ => 0))), (q83, .inl (cI, 410, .inl (fun _ => 0)))]) H := hP
  have hD : va_D A ([(o, .inr (7, [.int 0, .ref q8, .ref q17, .ref q26, .ref q35, .ref q44, .ref q52, .ref q61, .int 2, .ref q74, .ref q83, .int 0, .null, .null])), (q8, .inl (cI, 2278, .inl (fun _ => 0))), (q17, .inl (cI, 2278, .inl (fun _ => 0))), (q26, .inl (cI, 2278, .inl (fun _ => 0))), (q35, .inl (cI, 2278, .inl (fun _ => 0))), (q44, .inl (cI, 2278, .inl (fun _ => 0))), (q52, .inl (cI, 9, .inl (fun _ => 0))), (q61, .inl (cI, 13668, .inl (fun _ => 0))), (q74, .inl (cI, 82, .inl (fun _ => 0))), (q83, .inl (cI, 410, .inl (fun _ => 0)))]) := hD
  refine lv_aload_n hx hb dX7_init_88 rfl (lv_at hl 0 rfl) ?_
  refine lv_bipush (v := 64) hx hb dX7_init_89 (by decide) ?_
  refine xnewa (N' := 64) hx hb (hts (.arrayClass .int) (List.mem_of_getElem? (i := 4) rfl)) hK hP hD hS hA (by decide) rfl (Nat.le_of_ble_eq_true rfl) (Nat.le_of_ble_eq_true rfl) (Nat.le_of_ble_eq_true rfl) dX7_init_91 (fun q91 H hP hD hS => ?_)
  have hP : va_P D vwCl ([(o, .inr (7, [.int 0, .ref q8, .ref q17, .ref q26, .ref q35, .ref q44, .ref q52, .ref q61, .int 2, .ref q74, .ref q83, .int 0, .null, .null])), (q8, .inl (cI, 2278, .inl (fun _ => 0))), (q17, .inl (cI, 2278, .inl (fun _ => 0))), (q26, .inl (cI, 2278, .inl (fun _ => 0))), (q35, .inl (cI, 2278, .inl (fun _ => 0))), (q44, .inl (cI, 2278, .inl (fun _ => 0))), (q52, .inl (cI, 9, .inl (fun _ => 0))), (q61, .inl (cI, 13668, .inl (fun _ => 0))), (q74, .inl (cI, 82, .inl (fun _ => 0))), (q83, .inl (cI, 410, .inl (fun _ => 0))), (q91, .inl (cI, 64, .inl (fun _ => 0)))]) H := hP
  have hD : va_D A ([(o, .inr (7, [.int 0, .ref q8, .ref q17, .ref q26, .ref q35, .ref q44, .ref q52, .ref q61, .int 2, .ref q74, .ref q83, .int 0, .null, .null])), (q8, .inl (cI, 2278, .inl (fun _ => 0))), (q17, .inl (cI, 2278, .inl (fun _ => 0))), (q26, .inl (cI, 2278, .inl (fun _ => 0))), (q35, .inl (cI, 2278, .inl (fun _ => 0))), (q44, .inl (cI, 2278, .inl (fun _ => 0))), (q52, .inl (cI, 9, .inl (fun _ => 0))), (q61, .inl (cI, 13668, .inl (fun _ => 0))), (q74, .inl (cI, 82, .inl (fun _ => 0))), (q83, .inl (cI, 410, .inl (fun _ => 0))), (q91, .inl (cI, 64, .inl (fun _ => 0)))]) := hD
  refine W.widen (k := 10) (n := 25623) (Nat.le_of_ble_eq_true rfl) (Nat.le_of_ble_eq_true rfl) ?_
  refine va_putF (D := D) (ci := 7) (v := .ref q91) (ty := .array .int) (C := RX7) (T := TX7) (N := 14) hx hb hts jX7_init_X7c tyX7 tyX7_ok nmX7 hown hK hP hD hS 0 rfl rfl 12 (by decide) (hts (.fieldLink RX7 41 "BrotherAutomataModel" "many" "[I") (List.mem_of_getElem? (i := 15) rfl)) (fun _ h9 => h9) rfl hin rfl (by decide +kernel) rfl rfl (Nat.le_of_ble_eq_true rfl) dX7_init_93 (fun H locs hP hD hS => ?_)
  have hP : va_P D vwCl ([(o, .inr (7, [.int 0, .ref q8, .ref q17, .ref q26, .ref q35, .ref q44, .ref q52, .ref q61, .int 2, .ref q74, .ref q83, .int 0, .ref q91, .null])), (q8, .inl (cI, 2278, .inl (fun _ => 0))), (q17, .inl (cI, 2278, .inl (fun _ => 0))), (q26, .inl (cI, 2278, .inl (fun _ => 0))), (q35, .inl (cI, 2278, .inl (fun _ => 0))), (q44, .inl (cI, 2278, .inl (fun _ => 0))), (q52, .inl (cI, 9, .inl (fun _ => 0))), (q61, .inl (cI, 13668, .inl (fun _ => 0))), (q74, .inl (cI, 82, .inl (fun _ => 0))), (q83, .inl (cI, 410, .inl (fun _ => 0))), (q91, .inl (cI, 64, .inl (fun _ => 0)))]) H := hP
  have hD : va_D A ([(o, .inr (7, [.int 0, .ref q8, .ref q17, .ref q26, .ref q35, .ref q44, .ref q52, .ref q61, .int 2, .ref q74, .ref q83, .int 0, .ref q91, .null])), (q8, .inl (cI, 2278, .inl (fun _ => 0))), (q17, .inl (cI, 2278, .inl (fun _ => 0))), (q26, .inl (cI, 2278, .inl (fun _ => 0))), (q35, .inl (cI, 2278, .inl (fun _ => 0))), (q44, .inl (cI, 2278, .inl (fun _ => 0))), (q52, .inl (cI, 9, .inl (fun _ => 0))), (q61, .inl (cI, 13668, .inl (fun _ => 0))), (q74, .inl (cI, 82, .inl (fun _ => 0))), (q83, .inl (cI, 410, .inl (fun _ => 0))), (q91, .inl (cI, 64, .inl (fun _ => 0)))]) := hD
  refine lv_aload_n hx hb dX7_init_96 rfl (lv_at hl 0 rfl) ?_
  refine lv_bipush (v := 64) hx hb dX7_init_97 (by decide) ?_
  refine xnewa (N' := 64) hx hb (hts (.arrayClass .int) (List.mem_of_getElem? (i := 4) rfl)) hK hP hD hS hA (by decide) rfl (Nat.le_of_ble_eq_true rfl) (Nat.le_of_ble_eq_true rfl) (Nat.le_of_ble_eq_true rfl) dX7_init_99 (fun q99 H hP hD hS => ?_)
  have hP : va_P D vwCl ([(o, .inr (7, [.int 0, .ref q8, .ref q17, .ref q26, .ref q35, .ref q44, .ref q52, .ref q61, .int 2, .ref q74, .ref q83, .int 0, .ref q91, .null])), (q8, .inl (cI, 2278, .inl (fun _ => 0))), (q17, .inl (cI, 2278, .inl (fun _ => 0))), (q26, .inl (cI, 2278, .inl (fun _ => 0))), (q35, .inl (cI, 2278, .inl (fun _ => 0))), (q44, .inl (cI, 2278, .inl (fun _ => 0))), (q52, .inl (cI, 9, .inl (fun _ => 0))), (q61, .inl (cI, 13668, .inl (fun _ => 0))), (q74, .inl (cI, 82, .inl (fun _ => 0))), (q83, .inl (cI, 410, .inl (fun _ => 0))), (q91, .inl (cI, 64, .inl (fun _ => 0))), (q99, .inl (cI, 64, .inl (fun _ => 0)))]) H := hP
  have hD : va_D A ([(o, .inr (7, [.int 0, .ref q8, .ref q17, .ref q26, .ref q35, .ref q44, .ref q52, .ref q61, .int 2, .ref q74, .ref q83, .int 0, .ref q91, .null])), (q8, .inl (cI, 2278, .inl (fun _ => 0))), (q17, .inl (cI, 2278, .inl (fun _ => 0))), (q26, .inl (cI, 2278, .inl (fun _ => 0))), (q35, .inl (cI, 2278, .inl (fun _ => 0))), (q44, .inl (cI, 2278, .inl (fun _ => 0))), (q52, .inl (cI, 9, .inl (fun _ => 0))), (q61, .inl (cI, 13668, .inl (fun _ => 0))), (q74, .inl (cI, 82, .inl (fun _ => 0))), (q83, .inl (cI, 410, .inl (fun _ => 0))), (q91, .inl (cI, 64, .inl (fun _ => 0))), (q99, .inl (cI, 64, .inl (fun _ => 0)))]) := hD
  refine W.widen (k := 11) (n := 25687) (Nat.le_of_ble_eq_true rfl) (Nat.le_of_ble_eq_true rfl) ?_
  refine va_putF (D := D) (ci := 7) (v := .ref q99) (ty := .array .int) (C := RX7) (T := TX7) (N := 14) hx hb hts jX7_init_X7c tyX7 tyX7_ok nmX7 hown hK hP hD hS 0 rfl rfl 13 (by decide) (hts (.fieldLink RX7 44 "BrotherAutomataModel" "more" "[I") (List.mem_of_getElem? (i := 16) rfl)) (fun _ h9 => h9) rfl hin rfl (by decide +kernel) rfl rfl (Nat.le_of_ble_eq_true rfl) dX7_init_101 (fun H locs hP hD hS => ?_)
  have hP : va_P D vwCl ([(o, .inr (7, [.int 0, .ref q8, .ref q17, .ref q26, .ref q35, .ref q44, .ref q52, .ref q61, .int 2, .ref q74, .ref q83, .int 0, .ref q91, .ref q99])), (q8, .inl (cI, 2278, .inl (fun _ => 0))), (q17, .inl (cI, 2278, .inl (fun _ => 0))), (q26, .inl (cI, 2278, .inl (fun _ => 0))), (q35, .inl (cI, 2278, .inl (fun _ => 0))), (q44, .inl (cI, 2278, .inl (fun _ => 0))), (q52, .inl (cI, 9, .inl (fun _ => 0))), (q61, .inl (cI, 13668, .inl (fun _ => 0))), (q74, .inl (cI, 82, .inl (fun _ => 0))), (q83, .inl (cI, 410, .inl (fun _ => 0))), (q91, .inl (cI, 64, .inl (fun _ => 0))), (q99, .inl (cI, 64, .inl (fun _ => 0)))]) H := hP
  have hD : va_D A ([(o, .inr (7, [.int 0, .ref q8, .ref q17, .ref q26, .ref q35, .ref q44, .ref q52, .ref q61, .int 2, .ref q74, .ref q83, .int 0, .ref q91, .ref q99])), (q8, .inl (cI, 2278, .inl (fun _ => 0))), (q17, .inl (cI, 2278, .inl (fun _ => 0))), (q26, .inl (cI, 2278, .inl (fun _ => 0))), (q35, .inl (cI, 2278, .inl (fun _ => 0))), (q44, .inl (cI, 2278, .inl (fun _ => 0))), (q52, .inl (cI, 9, .inl (fun _ => 0))), (q61, .inl (cI, 13668, .inl (fun _ => 0))), (q74, .inl (cI, 82, .inl (fun _ => 0))), (q83, .inl (cI, 410, .inl (fun _ => 0))), (q91, .inl (cI, 64, .inl (fun _ => 0))), (q99, .inl (cI, 64, .inl (fun _ => 0)))]) := hD
  exact xQmono (w := w_X7_init cI cO (fun j => match j with | 0 => o | 1 => q8 | 2 => q17 | 3 => q26 | 4 => q35 | 5 => q44 | 6 => q52 | 7 => q61 | 8 => q74 | 9 => q83 | 10 => q91 | _ => q99)) (fun z : CS => ((fun j => match j with | 0 => o | 1 => q8 | 2 => q17 | 3 => q26 | 4 => q35 | 5 => q44 | 6 => q52 | 7 => q61 | 8 => q74 | 9 => q83 | 10 => q91 | _ => q99), z)) (tX7_init D cI cO tA tS (fun j => match j with | 0 => o | 1 => q8 | 2 => q17 | 3 => q26 | 4 => q35 | 5 => q44 | 6 => q52 | 7 => q61 | 8 => q74 | 9 => q83 | 10 => q91 | _ => q99) (st z0 11 1 2) h hx hb hr hts hown hlocks hml hA hS hP hK hD hE hl) (fun z hz => ⟨rfl, hz⟩) (fun _ => rfl)
