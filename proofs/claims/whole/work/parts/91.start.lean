theorem lwJ6 : ∀ w ∈ wsX60, w ∈ wsL_law := mem_pl [633, 634, 635, 636, 637, 638, 639, 640, 641, 642] (by decide +kernel)
theorem lwJ7 : ∀ w ∈ wsX70, w ∈ wsL_law := mem_pl [643, 644, 645, 646, 647, 648, 649, 650, 651, 652, 653, 654, 655, 656] (by decide +kernel)
set_option maxRecDepth 100000 in
set_option maxHeartbeats 8000000 in
theorem whole_start {p : Program} {e : Env} {s : State} {m : MethodId} {below : List Frame} {meth : Method} {c : Code} (l : Launch) (hflags : l.flags = flags0) {b L : Nat} {xs : Nat → Int32} (hL : L ≤ 3072) (C0 : lw_At p s m meth c b L xs) : W p l e room_1 s m #[Value.ref b] below meth c s.heap [] 0 0 (lw_Z below #[Value.ref b] s) (entryFrame m ([Value.ref b] : List Value).toArray 4) := by
  obtain ⟨hx, hb, hr, hml, hown, hts, hX, hbl, hlocks, hgv⟩ := C0
  obtain ⟨D, cI, cO, hK⟩ := xKn hts
  have hO := xOv hts
  obtain ⟨tA, tS, hE⟩ := xSt hts hgv
  have hown : s.vm.findClass RL = some m.cls := hown
  have hb : c.code = cL_law := hb
  have htw : ∀ w ∈ wsL_law, w.before #[Value.ref b] s = true := fun w hw => hts w (wsL_law_in w hw)
  obtain ⟨A, hAe⟩ : ∃ A : Nat → Prop, A = fun q => s.heap.size ≤ q := ⟨_, rfl⟩
  rw [← hAe] at hE
  have hA : ∀ q : Nat, s.heap.size ≤ q → A q := fun q h => by rw [hAe]; exact h
  have hAz : ∀ q : Nat, A q → s.heap.size ≤ q := fun q h => by rw [hAe] at h; exact h
  have hbA : ¬ A b := fun h => Nat.not_le.mpr hbl (hAz b h)
  have F : lwFx p s m c b L xs A D cI cO tA tS := ⟨hx, hb, hml, hown, htw, hX, hbl, hA, hbA, hK, hE, hL⟩
  have hS : va_S A s.heap s.heap [] := va_S.rf
  have hP : va_P D vwCl [] s.heap := fun k q h => by simp at h
  have hD : va_D A [] := ⟨fun i j p q h => by simp at h, fun k q h => by simp at h⟩
  have hl := lv_entry ([.ref b]) (n := 4) (Nat.le_of_ble_eq_true rfl)
  rw [lg_entry_eq]
  generalize (lg_sl ([.ref b]) ++ List.replicate (4 - (lg_sl ([.ref b])).length) Slot.unset).toArray = ls at hl ⊢
  have hl : lv_has ls 4 [(0, .ref b)] := hl
  refine va_new (ci := 6) (fs := [.null, .null, .null, .null, .null, .null, .null, .int 0, .int 0, .int 0]) (C := RX6) (T := TX6) (N := 10) hx hb htw lwJ6 tyX6 tyX6_ok hown (htw (.classLink RL 7 RX6) (List.mem_of_getElem? (i := 0) rfl)) (htw (.instantiable RX6 10) (List.mem_of_getElem? (i := 1) rfl)) (htw (.initialized RX6) (List.mem_of_getElem? (i := 2) rfl)) hK hP hD hS hA rfl (fun j hj => by rcases (show j = 0 ∨ j = 1 ∨ j = 2 ∨ j = 3 ∨ j = 4 ∨ j = 5 ∨ j = 6 ∨ j = 7 ∨ j = 8 ∨ j = 9 by omega) with rfl | rfl | rfl | rfl | rfl | rfl | rfl | rfl | rfl | rfl <;> rfl) (Nat.le_of_ble_eq_true rfl) (Nat.le_of_ble_eq_true rfl) dL_law_0 (fun q0 H hP hD hS => ?_)
  have hP : va_P D vwCl [(q0, .inr (6, [.null, .null, .null, .null, .null, .null, .null, .int 0, .int 0, .int 0]))] H := hP
  have hD : va_D A [(q0, .inr (6, [.null, .null, .null, .null, .null, .null, .null, .int 0, .int 0, .int 0]))] := hD
  refine W.widen (k := 1) (n := 10) (Nat.le_of_ble_eq_true rfl) (Nat.le_of_ble_eq_true rfl) ?_
  refine lv_dup hx hb dL_law_3 rfl ?_
  refine xcallN (wc := [(q0, .inr (6, [.null, .null, .null, .null, .null, .null, .null, .int 0, .int 0, .int 0]))]) (wr := ([] : va_W)) (va_runI (As := []) (rest := [.ref q0]) ⟨hx, hb, hml, hown, htw⟩ (mX6_init l D cI cO tA tS q0 _ (s5_init (post := RT) (fun _ h => h))) (cwI 0 htw gL_law_X6_init rfl rfl rfl (htw (.initialized RX6) (List.mem_of_getElem? (i := 2) rfl)) (htw (.methodLink RL 9 yX6_init) (List.mem_of_getElem? (i := 6) rfl)) (htw (.instanceMethod yX6_init) (List.mem_of_getElem? (i := 7) rfl)) rfl (by decide +kernel) ⟨(Nat.le_of_ble_eq_true rfl), (Nat.le_of_ble_eq_true rfl)⟩) (xpreO hO hP hD hS hA hK hE [0] rfl rfl) rfl rfl hl.1 rfl (lv_room (Nat.le_of_ble_eq_true rfl)) dL_law_4 ⟨(Nat.le_of_ble_eq_true rfl), (Nat.le_of_ble_eq_true rfl)⟩) hP hD hS hA [0] [] rfl rfl rfl (by decide) (fun u6 H9 locs9 hw hP9 hD9 hS9 => ?_)
  obtain ⟨hw, hT⟩ := hw
  have hT : RT u6.2.2 := hT
  subst hw
  have hP : va_P D vwCl (w6 cI cO (u6.1 0) (u6.1 1) (u6.1 2) (u6.1 3) (u6.1 4) (u6.1 5) (u6.1 6) u6.2.1 (st z0 1 2 2) u6.2.2 z0 z0 (fun _ => z0) z0 z0 z0) H9 := hP9
  have hD : va_D A (w6 cI cO (u6.1 0) (u6.1 1) (u6.1 2) (u6.1 3) (u6.1 4) (u6.1 5) (u6.1 6) u6.2.1 (st z0 1 2 2) u6.2.2 z0 z0 (fun _ => z0) z0 z0 z0) := hD9
  have hS := hS9
  refine W.widen (k := 56) (n := 7786) (Nat.le_of_ble_eq_true rfl) (Nat.le_of_ble_eq_true rfl) ?_
  refine lv_astore_n (lv' := [(1, .ref (u6.1 0 0)), (0, .ref b)]) hx hb dL_law_7 rfl hl (by decide) rfl (fun ls hl => ?_)
  refine va_new (ci := 7) (fs := [.int 0, .null, .null, .null, .null, .null, .null, .null, .int 0, .null, .null, .int 0, .null, .null]) (C := RX7) (T := TX7) (N := 14) hx hb htw lwJ7 tyX7 tyX7_ok hown (htw (.classLink RL 10 RX7) (List.mem_of_getElem? (i := 3) rfl)) (htw (.instantiable RX7 14) (List.mem_of_getElem? (i := 4) rfl)) (htw (.initialized RX7) (List.mem_of_getElem? (i := 5) rfl)) hK hP hD hS hA rfl (fun j hj => by rcases (show j = 0 ∨ j = 1 ∨ j = 2 ∨ j = 3 ∨ j = 4 ∨ j = 5 ∨ j = 6 ∨ j = 7 ∨ j = 8 ∨ j = 9 ∨ j = 10 ∨ j = 11 ∨ j = 12 ∨ j = 13 by omega) with rfl | rfl | rfl | rfl | rfl | rfl | rfl | rfl | rfl | rfl | rfl | rfl | rfl | rfl <;> rfl) (Nat.le_of_ble_eq_true rfl) (Nat.le_of_ble_eq_true rfl) dL_law_8 (fun q7 H hP hD hS => ?_)
  have hP : va_P D vwCl (w6 cI cO (u6.1 0) (u6.1 1) (u6.1 2) (u6.1 3) (u6.1 4) (u6.1 5) (u6.1 6) u6.2.1 (st z0 1 2 2) u6.2.2 z0 z0 (fun _ => z0) z0 z0 z0 ++ [(q7, .inr (7, [.int 0, .null, .null, .null, .null, .null, .null, .null, .int 0, .null, .null, .int 0, .null, .null]))]) H := hP
  have hD : va_D A (w6 cI cO (u6.1 0) (u6.1 1) (u6.1 2) (u6.1 3) (u6.1 4) (u6.1 5) (u6.1 6) u6.2.1 (st z0 1 2 2) u6.2.2 z0 z0 (fun _ => z0) z0 z0 z0 ++ [(q7, .inr (7, [.int 0, .null, .null, .null, .null, .null, .null, .null, .int 0, .null, .null, .int 0, .null, .null]))]) := hD
  refine W.widen (k := 57) (n := 7800) (Nat.le_of_ble_eq_true rfl) (Nat.le_of_ble_eq_true rfl) ?_
  refine lv_dup hx hb dL_law_11 rfl ?_
  refine xcallN (wc := [(q7, .inr (7, [.int 0, .null, .null, .null, .null, .null, .null, .null, .int 0, .null, .null, .int 0, .null, .null]))]) (wr := (w6 cI cO (u6.1 0) (u6.1 1) (u6.1 2) (u6.1 3) (u6.1 4) (u6.1 5) (u6.1 6) u6.2.1 (st z0 1 2 2) u6.2.2 z0 z0 (fun _ => z0) z0 z0 z0)) (va_runI (As := []) (rest := [.ref q7]) ⟨hx, hb, hml, hown, htw⟩ (mX7_init l D cI cO tA tS q7 _ (s7_init (post := fun z => RTN z ∧ FRN z) (fun _ h1 h2 => ⟨h1, h2⟩))) (cwI 0 htw gL_law_X7_init rfl rfl rfl (htw (.initialized RX7) (List.mem_of_getElem? (i := 5) rfl)) (htw (.methodLink RL 12 yX7_init) (List.mem_of_getElem? (i := 114) rfl)) (htw (.instanceMethod yX7_init) (List.mem_of_getElem? (i := 115) rfl)) rfl (by decide +kernel) ⟨(Nat.le_of_ble_eq_true rfl), (Nat.le_of_ble_eq_true rfl)⟩) (xpreP hP hD hS hA hK hE [56] rfl rfl) rfl rfl hl.1 rfl (lv_room (Nat.le_of_ble_eq_true rfl)) dL_law_12 ⟨(Nat.le_of_ble_eq_true rfl), (Nat.le_of_ble_eq_true rfl)⟩) hP hD hS hA [56] [0, 1, 2, 3, 4, 5, 6, 7, 8, 9, 10, 11, 12, 13, 14, 15, 16, 17, 18, 19, 20, 21, 22, 23, 24, 25, 26, 27, 28, 29, 30, 31, 32, 33, 34, 35, 36, 37, 38, 39, 40, 41, 42, 43, 44, 45, 46, 47, 48, 49, 50, 51, 52, 53, 54, 55] rfl rfl rfl (by decide) (fun u7 H9 locs9 hw hP9 hD9 hS9 => ?_)
  obtain ⟨hw, hN, hF⟩ := hw
  subst hw
  have hP : va_P D vwCl (wL cI cO (u6.1 0) (u6.1 1) (u6.1 2) (u6.1 3) (u6.1 4) (u6.1 5) (u6.1 6) u6.2.1 u7.1 (st z0 1 2 2) u6.2.2 z0 z0 (fun _ => z0) z0 z0 z0 u7.2) H9 := hP9
  have hD : va_D A (wL cI cO (u6.1 0) (u6.1 1) (u6.1 2) (u6.1 3) (u6.1 4) (u6.1 5) (u6.1 6) u6.2.1 u7.1 (st z0 1 2 2) u6.2.2 z0 z0 (fun _ => z0) z0 z0 z0 u7.2) := hD9
  have hS := hS9
  refine W.widen (k := 68) (n := 33487) (Nat.le_of_ble_eq_true rfl) (Nat.le_of_ble_eq_true rfl) ?_
  refine lv_astore_n (lv' := [(2, .ref (u7.1 0)), (1, .ref (u6.1 0 0)), (0, .ref b)]) hx hb dL_law_15 rfl hl (by decide) rfl (fun ls hl => ?_)
  refine lv_iconst (v := 0) hx hb dL_law_16 (by decide) ?_
  refine lv_istore_n (lv' := [(3, .int 0), (2, .ref (u7.1 0)), (1, .ref (u6.1 0 0)), (0, .ref b)]) hx hb dL_law_17 rfl hl (by decide) rfl (fun ls hl => ?_)
  exact lwLoop F hr hlocks hAz (L + 1) 0 0 (Nat.zero_le L) (by omega) nI_0.symm _ _ _ _ _ _ _ _ _ _ _ _ (inv0 hT hN hF) hP hD hS (lv_sub hl [3, 2, 1, 0] rfl)
