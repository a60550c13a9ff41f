set_option maxRecDepth 100000 in
set_option maxHeartbeats 8000000 in
theorem lwC_reset {p : Program} {l : Launch} {e : Env} {s : State} {m : MethodId} {below : List Frame} {meth : Method} {c : Code} {b L : Nat} {xs : Nat → Int32} {A : Nat → Prop} {D : va_G} {cI cO : ClassId} {tA tS : Nat} {aS aT aB aH aM aC aZ : Nat → Nat} {aR : Nat → Nat → Nat} {aN : Nat → Nat} (F : lwFx p s m c b L xs A D cI cO tA tS) {x3 : Int32} {k : Nat} (ex : x3 = nI k) (hk : k + 6 ≤ L) (hN : lwNx p l e s m below meth c b A D cI cO aS aT aB aH aM aC aZ aR aN x3) (zS zT zB zH : CS) (zR : Nat → CS) (zM zC zZ zN : CS) (H : Heap) (locs : List Loc) (ls : Array Slot) (hI : INV zS zT zB zH zR zM zZ zN) (hP : va_P D vwCl (wL cI cO aS aT aB aH aM aC aZ aR aN zS zT zB zH zR zM zC zZ zN) H) (hD : va_D A (wL cI cO aS aT aB aH aM aC aZ aR aN zS zT zB zH zR zM zC zZ zN)) (hS : va_S A s.heap H locs) (hl : lv_has ls 4 [(0, .ref b), (1, .ref (aS 0)), (2, .ref (aN 0)), (3, .int x3)]) : W p l e room_1 s m #[Value.ref b] below meth c H locs 68 33487 (lw_Z below #[Value.ref b] s) (F0 m 156 ls []) := by
  obtain ⟨hx, hb, hml, hown, hts, hX, hbl, hA, hbA, hK, hE, hL⟩ := F
  have i1 : vp_in (x3 + (1 : Int32)) L := lwI 1 ex (by omega) hL
  refine lv_aload_n hx hb dL_law_156 rfl (lv_at hl 1 rfl) ?_
  refine lv_aload_n hx hb dL_law_157 rfl (lv_at hl 0 rfl) ?_
  refine lv_iload_n hx hb dL_law_158 rfl (lv_at hl 3 rfl) ?_
  refine lv_iconst (v := 1) hx hb dL_law_159 (by decide) ?_
  refine lv_iadd hx hb dL_law_160 ?_
  refine va_sld hx hb hX hbl hbA hS i1 dL_law_161 ?_
  refine xcalli (wr := (wT cI aT zT ++ (wR cI aR zR ++ (wC cI aC zC ++ (wZ cI aZ zZ ++ (wN cI aN zN)))))) (w2 := fun (u1 : (CS) × (CS) × (CS) × (CS)) => wL cI cO aS aT aB aH aM aC aZ aR aN u1.1 zT u1.2.1 u1.2.2.1 zR u1.2.2.2 zC zZ zN) (va_runV (As := [.int (xs (x3 + (1 : Int32)).toNatClampNeg)]) (rest := []) ⟨hx, hb, hml, hown, hts⟩ (mX6_reset l D cI cO tA tS aS aT aB aH aM aC aZ aR zS zB zH zM (xs (x3 + (1 : Int32)).toNatClampNeg) _ (o_reset hI (xs (x3 + (1 : Int32)).toNatClampNeg))) (cwV 1 hts gL_law_X6_reset rfl rfl rfl (by decide +kernel) ⟨Nat.le_of_ble_eq_true rfl, Nat.le_of_ble_eq_true rfl⟩) (xpreV hP hD hS hA hK hE [0, 1, 5, 6, 7, 8, 9, 10, 11, 12, 43, 44, 45, 46, 47] rfl rfl 6 0 rfl rfl) rfl rfl hl.1 rfl (lv_room (Nat.le_of_ble_eq_true rfl)) dL_law_162 ⟨Nat.le_of_ble_eq_true rfl, Nat.le_of_ble_eq_true rfl⟩) hP hD hS hA [0, 1, 5, 6, 7, 8, 9, 10, 11, 12, 43, 44, 45, 46, 47] [2, 3, 4, 13, 14, 15, 16, 17, 18, 19, 20, 21, 22, 23, 24, 25, 26, 27, 28, 29, 30, 31, 32, 33, 34, 35, 36, 37, 38, 39, 40, 41, 42, 48, 49, 50, 51, 52, 53, 54, 55, 56, 57, 58, 59, 60, 61, 62, 63, 64, 65, 66, 67] [53, 54, 0, 1, 2, 55, 56, 57, 58, 59, 60, 61, 62, 3, 4, 5, 6, 7, 8, 9, 10, 11, 12, 13, 14, 15, 16, 17, 18, 19, 20, 21, 22, 23, 24, 25, 26, 27, 28, 29, 30, 31, 32, 63, 64, 65, 66, 67, 33, 34, 35, 36, 37, 38, 39, 40, 41, 42, 43, 44, 45, 46, 47, 48, 49, 50, 51, 52] rfl rfl rfl (by decide) rfl (fun _ => rfl) (fun r1 u1 H locs h hP hD hS => ?_)
  refine lv_aload_n hx hb dL_law_165 rfl (lv_at hl 2 rfl) ?_
  refine lv_aload_n hx hb dL_law_166 rfl (lv_at hl 0 rfl) ?_
  refine lv_iload_n hx hb dL_law_167 rfl (lv_at hl 3 rfl) ?_
  refine lv_iconst (v := 1) hx hb dL_law_168 (by decide) ?_
  refine lv_iadd hx hb dL_law_169 ?_
  refine va_sld hx hb hX hbl hbA hS i1 dL_law_170 ?_
  refine xcalli (wr := (wS cI aS aT aB aH aM aC aZ u1.1 ++ (wT cI aT zT ++ (wB cI aB u1.2.1 ++ (wH cO aH aR u1.2.2.1 ++ (wR cI aR zR ++ (wM cI aM u1.2.2.2 ++ (wC cI aC zC ++ (wZ cI aZ zZ))))))))) (w2 := fun (u2 : (CS)) => wL cI cO aS aT aB aH aM aC aZ aR aN u1.1 zT u1.2.1 u1.2.2.1 zR u1.2.2.2 zC zZ u2) (va_runV (As := [.int (xs (x3 + (1 : Int32)).toNatClampNeg)]) (rest := [.int r1]) ⟨hx, hb, hml, hown, hts⟩ (mX7_reset l D cI cO tA tS aN zN (xs (x3 + (1 : Int32)).toNatClampNeg) _ h) (cwV 1 hts gL_law_X7_reset rfl rfl rfl (by decide +kernel) ⟨Nat.le_of_ble_eq_true rfl, Nat.le_of_ble_eq_true rfl⟩) (xpreV hP hD hS hA hK hE [56, 57, 58, 59, 60, 61, 62, 63, 64, 65, 66, 67] rfl rfl 7 56 rfl rfl) rfl rfl hl.1 rfl (lv_room (Nat.le_of_ble_eq_true rfl)) dL_law_171 ⟨Nat.le_of_ble_eq_true rfl, Nat.le_of_ble_eq_true rfl⟩) hP hD hS hA [56, 57, 58, 59, 60, 61, 62, 63, 64, 65, 66, 67] [0, 1, 2, 3, 4, 5, 6, 7, 8, 9, 10, 11, 12, 13, 14, 15, 16, 17, 18, 19, 20, 21, 22, 23, 24, 25, 26, 27, 28, 29, 30, 31, 32, 33, 34, 35, 36, 37, 38, 39, 40, 41, 42, 43, 44, 45, 46, 47, 48, 49, 50, 51, 52, 53, 54, 55] [0, 1, 2, 3, 4, 5, 6, 7, 8, 9, 10, 11, 12, 13, 14, 15, 16, 17, 18, 19, 20, 21, 22, 23, 24, 25, 26, 27, 28, 29, 30, 31, 32, 33, 34, 35, 36, 37, 38, 39, 40, 41, 42, 43, 44, 45, 46, 47, 48, 49, 50, 51, 52, 53, 54, 55, 56, 57, 58, 59, 60, 61, 62, 63, 64, 65, 66, 67] rfl rfl rfl (by decide) rfl (fun _ => rfl) (fun r2 u2 H locs h hP hD hS => ?_)
  exact lv_icmp_eq (tgt := 813) hx hb dL_law_174 (by decide) (fun _ => hN u1.1 zT u1.2.1 u1.2.2.1 zR u1.2.2.2 zC zZ u2 H locs ls h.2 hP hD hS hl) (fun h9 => absurd h.1 h9)
set_option maxRecDepth 100000 in
set_option maxHeartbeats 8000000 in
theorem lwC_setFinal {p : Program} {l : Launch} {e : Env} {s : State} {m : MethodId} {below : List Frame} {meth : Method} {c : Code} {b L : Nat} {xs : Nat → Int32} {A : Nat → Prop} {D : va_G} {cI cO : ClassId} {tA tS : Nat} {aS aT aB aH aM aC aZ : Nat → Nat} {aR : Nat → Nat → Nat} {aN : Nat → Nat} (F : lwFx p s m c b L xs A D cI cO tA tS) {x3 : Int32} {k : Nat} (ex : x3 = nI k) (hk : k + 6 ≤ L) (hN : lwNx p l e s m below meth c b A D cI cO aS aT aB aH aM aC aZ aR aN x3) (zS zT zB zH : CS) (zR : Nat → CS) (zM zC zZ zN : CS) (H : Heap) (locs : List Loc) (ls : Array Slot) (hI : INV zS zT zB zH zR zM zZ zN) (hP : va_P D vwCl (wL cI cO aS aT aB aH aM aC aZ aR aN zS zT zB zH zR zM zC zZ zN) H) (hD : va_D A (wL cI cO aS aT aB aH aM aC aZ aR aN zS zT zB zH zR zM zC zZ zN)) (hS : va_S A s.heap H locs) (hl : lv_has ls 4 [(0, .ref b), (1, .ref (aS 0)), (2, .ref (aN 0)), (3, .int x3)]) : W p l e room_1 s m #[Value.ref b] below meth c H locs 68 33487 (lw_Z below #[Value.ref b] s) (F0 m 179 ls []) := by
  obtain ⟨hx, hb, hml, hown, hts, hX, hbl, hA, hbA, hK, hE, hL⟩ := F
  have i1 : vp_in (x3 + (1 : Int32)) L := lwI 1 ex (by omega) hL
  have i2 : vp_in (x3 + (2 : Int32)) L := lwI 2 ex (by omega) hL
  refine lv_aload_n hx hb dL_law_179 rfl (lv_at hl 1 rfl) ?_
  refine lv_aload_n hx hb dL_law_180 rfl (lv_at hl 0 rfl) ?_
  refine lv_iload_n hx hb dL_law_181 rfl (lv_at hl 3 rfl) ?_
  refine lv_iconst (v := 1) hx hb dL_law_182 (by decide) ?_
  refine lv_iadd hx hb dL_law_183 ?_
  refine va_sld hx hb hX hbl hbA hS i1 dL_law_184 ?_
  refine lv_aload_n hx hb dL_law_185 rfl (lv_at hl 0 rfl) ?_
  refine lv_iload_n hx hb dL_law_186 rfl (lv_at hl 3 rfl) ?_
  refine lv_iconst (v := 2) hx hb dL_law_187 (by decide) ?_
  refine lv_iadd hx hb dL_law_188 ?_
  refine va_sld hx hb hX hbl hbA hS i2 dL_law_189 ?_
  refine lv_if_eq (tgt := 197) hx hb dL_law_190 (by decide) (fun hc => ?_) (fun hc => ?_)
  · refine lv_iconst (v := 0) hx hb dL_law_197 (by decide) ?_
    refine xcalli (wr := (wT cI aT zT ++ (wM cI aM zM ++ (wC cI aC zC ++ (wZ cI aZ zZ ++ (wN cI aN zN)))))) (w2 := fun (u1 : (CS) × (CS) × (Nat → CS)) => wL cI cO aS aT aB aH aM aC aZ aR aN zS zT u1.1 u1.2.1 u1.2.2 zM zC zZ zN) (va_runV (As := [.int (xs (x3 + (1 : Int32)).toNatClampNeg), .int (0 : Int32)]) (rest := []) ⟨hx, hb, hml, hown, hts⟩ (mX6_setFinal l D cI cO tA tS aS aT aB aH aM aC aZ aR zS zB zH zR (xs (x3 + (1 : Int32)).toNatClampNeg) (0 : Int32) _ (o_setFinal hI (xs (x3 + (1 : Int32)).toNatClampNeg) (0 : Int32))) (cwV 2 hts gL_law_X6_setFinal rfl rfl rfl (by decide +kernel) ⟨Nat.le_of_ble_eq_true rfl, Nat.le_of_ble_eq_true rfl⟩) (xpreV hP hD hS hA hK hE [0, 1, 5, 6, 7, 8, 9, 10, 11, 12, 13, 14, 15, 16, 17, 18, 19, 20, 21, 22, 23, 24, 25, 26, 27, 28, 29, 30, 31, 32, 33, 34, 35, 36, 37, 38, 39, 40, 41, 42] rfl rfl 6 0 rfl rfl) rfl rfl hl.1 rfl (lv_room (Nat.le_of_ble_eq_true rfl)) dL_law_198 ⟨Nat.le_of_ble_eq_true rfl, Nat.le_of_ble_eq_true rfl⟩) hP hD hS hA [0, 1, 5, 6, 7, 8, 9, 10, 11, 12, 13, 14, 15, 16, 17, 18, 19, 20, 21, 22, 23, 24, 25, 26, 27, 28, 29, 30, 31, 32, 33, 34, 35, 36, 37, 38, 39, 40, 41, 42] [2, 3, 4, 43, 44, 45, 46, 47, 48, 49, 50, 51, 52, 53, 54, 55, 56, 57, 58, 59, 60, 61, 62, 63, 64, 65, 66, 67] [28, 29, 0, 1, 2, 30, 31, 32, 33, 34, 35, 36, 37, 38, 39, 40, 41, 42, 43, 44, 45, 46, 47, 48, 49, 50, 51, 52, 53, 54, 55, 56, 57, 58, 59, 60, 61, 62, 63, 64, 65, 66, 67, 3, 4, 5, 6, 7, 8, 9, 10, 11, 12, 13, 14, 15, 16, 17, 18, 19, 20, 21, 22, 23, 24, 25, 26, 27] rfl rfl rfl (by decide) rfl (fun _ => rfl) (fun r1 u1 H locs h hP hD hS => ?_)
    refine lv_aload_n hx hb dL_law_201 rfl (lv_at hl 2 rfl) ?_
    refine lv_aload_n hx hb dL_law_202 rfl (lv_at hl 0 rfl) ?_
    refine lv_iload_n hx hb dL_law_203 rfl (lv_at hl 3 rfl) ?_
    refine lv_iconst (v := 1) hx hb dL_law_204 (by decide) ?_
    refine lv_iadd hx hb dL_law_205 ?_
    refine va_sld hx hb hX hbl hbA hS i1 dL_law_206 ?_
    refine lv_aload_n hx hb dL_law_207 rfl (lv_at hl 0 rfl) ?_
    refine lv_iload_n hx hb dL_law_208 rfl (lv_at hl 3 rfl) ?_
    refine lv_iconst (v := 2) hx hb dL_law_209 (by decide) ?_
    refine lv_iadd hx hb dL_law_210 ?_
    refine va_sld hx hb hX hbl hbA hS i2 dL_law_211 ?_
    refine lv_if_eq (tgt := 219) hx hb dL_law_212 (by decide) (fun _ => ?_) (fun hd => absurd hc hd)
    refine lv_iconst (v := 0) hx hb dL_law_219 (by decide) ?_
    refine xcalli (wr := (wS cI aS aT aB aH aM aC aZ zS ++ (wT cI aT zT ++ (wB cI aB u1.1 ++ (wH cO aH aR u1.2.1 ++ (wR cI aR u1.2.2 ++ (wM cI aM zM ++ (wC cI aC zC ++ (wZ cI aZ zZ))))))))) (w2 := fun (u2 : (CS)) => wL cI cO aS aT aB aH aM aC aZ aR aN zS zT u1.1 u1.2.1 u1.2.2 zM zC zZ u2) (va_runV (As := [.int (xs (x3 + (1 : Int32)).toNatClampNeg), .int (0 : Int32)]) (rest := [.int r1]) ⟨hx, hb, hml, hown, hts⟩ (mX7_setFinal l D cI cO tA tS aN zN (xs (x3 + (1 : Int32)).toNatClampNeg) (0 : Int32) _ h) (cwV 2 hts gL_law_X7_setFinal rfl rfl rfl (by decide +kernel) ⟨Nat.le_of_ble_eq_true rfl, Nat.le_of_ble_eq_true rfl⟩) (xpreV hP hD hS hA hK hE [56, 57, 58, 59, 60, 61, 62, 63, 64, 65, 66, 67] rfl rfl 7 56 rfl rfl) rfl rfl hl.1 rfl (lv_room (Nat.le_of_ble_eq_true rfl)) dL_law_220 ⟨Nat.le_of_ble_eq_true rfl, Nat.le_of_ble_eq_true rfl⟩) hP hD hS hA [56, 57, 58, 59, 60, 61, 62, 63, 64, 65, 66, 67] [0, 1, 2, 3, 4, 5, 6, 7, 8, 9, 10, 11, 12, 13, 14, 15, 16, 17, 18, 19, 20, 21, 22, 23, 24, 25, 26, 27, 28, 29, 30, 31, 32, 33, 34, 35, 36, 37, 38, 39, 40, 41, 42, 43, 44, 45, 46, 47, 48, 49, 50, 51, 52, 53, 54, 55] [0, 1, 2, 3, 4, 5, 6, 7, 8, 9, 10, 11, 12, 13, 14, 15, 16, 17, 18, 19, 20, 21, 22, 23, 24, 25, 26, 27, 28, 29, 30, 31, 32, 33, 34, 35, 36, 37, 38, 39, 40, 41, 42, 43, 44, 45, 46, 47, 48, 49, 50, 51, 52, 53, 54, 55, 56, 57, 58, 59, 60, 61, 62, 63, 64, 65, 66, 67] rfl rfl rfl (by decide) rfl (fun _ => rfl) (fun r2 u2 H locs h hP hD hS => ?_)
    exact lv_icmp_eq (tgt := 813) hx hb dL_law_223 (by decide) (fun _ => hN zS zT u1.1 u1.2.1 u1.2.2 zM zC zZ u2 H locs ls h.2 hP hD hS hl) (fun h9 => absurd h.1 h9)
  · refine lv_iconst (v := 1) hx hb dL_law_193 (by decide) ?_
    refine lv_goto (tgt := 198) hx hb dL_law_194 (by decide) ?_
    refine xcalli (wr := (wT cI aT zT ++ (wM cI aM zM ++ (wC cI aC zC ++ (wZ cI aZ zZ ++ (wN cI aN zN)))))) (w2 := fun (u1 : (CS) × (CS) × (Nat → CS)) => wL cI cO aS aT aB aH aM aC aZ aR aN zS zT u1.1 u1.2.1 u1.2.2 zM zC zZ zN) (va_runV (As := [.int (xs (x3 + (1 : Int32)).toNatClampNeg), .int (1 : Int32)]) (rest := []) ⟨hx, hb, hml, hown, hts⟩ (mX6_setFinal l D cI cO tA tS aS aT aB aH aM aC aZ aR zS zB zH zR (xs (x3 + (1 : Int32)).toNatClampNeg) (1 : Int32) _ (o_setFinal hI (xs (x3 + (1 : Int32)).toNatClampNeg) (1 : Int32))) (cwV 2 hts gL_law_X6_setFinal rfl rfl rfl (by decide +kernel) ⟨Nat.le_of_ble_eq_true rfl, Nat.le_of_ble_eq_true rfl⟩) (xpreV hP hD hS hA hK hE [0, 1, 5, 6, 7, 8, 9, 10, 11, 12, 13, 14, 15, 16, 17, 18, 19, 20, 21, 22, 23, 24, 25, 26, 27, 28, 29, 30, 31, 32, 33, 34, 35, 36, 37, 38, 39, 40, 41, 42] rfl rfl 6 0 rfl rfl) rfl rfl hl.1 rfl (lv_room (Nat.le_of_ble_eq_true rfl)) dL_law_198 ⟨Nat.le_of_ble_eq_true rfl, Nat.le_of_ble_eq_true rfl⟩) hP hD hS hA [0, 1, 5, 6, 7, 8, 9, 10, 11, 12, 13, 14, 15, 16, 17, 18, 19, 20, 21, 22, 23, 24, 25, 26, 27, 28, 29, 30, 31, 32, 33, 34, 35, 36, 37, 38, 39, 40, 41, 42] [2, 3, 4, 43, 44, 45, 46, 47, 48, 49, 50, 51, 52, 53, 54, 55, 56, 57, 58, 59, 60, 61, 62, 63, 64, 65, 66, 67] [28, 29, 0, 1, 2, 30, 31, 32, 33, 34, 35, 36, 37, 38, 39, 40, 41, 42, 43, 44, 45, 46, 47, 48, 49, 50, 51, 52, 53, 54, 55, 56, 57, 58, 59, 60, 61, 62, 63, 64, 65, 66, 67, 3, 4, 5, 6, 7, 8, 9, 10, 11, 12, 13, 14, 15, 16, 17, 18, 19, 20, 21, 22, 23, 24, 25, 26, 27] rfl rfl rfl (by decide) rfl (fun _ => rfl) (fun r1 u1 H locs h hP hD hS => ?_)
    refine lv_aload_n hx hb dL_law_201 rfl (lv_at hl 2 rfl) ?_
    refine lv_aload_n hx hb dL_law_202 rfl (lv_at hl 0 rfl) ?_
    refine lv_iload_n hx hb dL_law_203 rfl (lv_at hl 3 rfl) ?_
    refine lv_iconst (v := 1) hx hb dL_law_204 (by decide) ?_
    refine lv_iadd hx hb dL_law_205 ?_
    refine va_sld hx hb hX hbl hbA hS i1 dL_law_206 ?_
    refine lv_aload_n hx hb dL_law_207 rfl (lv_at hl 0 rfl) ?_
    refine lv_iload_n hx hb dL_law_208 rfl (lv_at hl 3 rfl) ?_
    refine lv_iconst (v := 2) hx hb dL_law_209 (by decide) ?_
    refine lv_iadd hx hb dL_law_210 ?_
    refine va_sld hx hb hX hbl hbA hS i2 dL_law_211 ?_
    refine lv_if_eq (tgt := 219) hx hb dL_law_212 (by decide) (fun hd => absurd hd hc) (fun _ => ?_)
    refine lv_iconst (v := 1) hx hb dL_law_215 (by decide) ?_
    refine lv_goto (tgt := 220) hx hb dL_law_216 (by decide) ?_
    refine xcalli (wr := (wS cI aS aT aB aH aM aC aZ zS ++ (wT cI aT zT ++ (wB cI aB u1.1 ++ (wH cO aH aR u1.2.1 ++ (wR cI aR u1.2.2 ++ (wM cI aM zM ++ (wC cI aC zC ++ (wZ cI aZ zZ))))))))) (w2 := fun (u2 : (CS)) => wL cI cO aS aT aB aH aM aC aZ aR aN zS zT u1.1 u1.2.1 u1.2.2 zM zC zZ u2) (va_runV (As := [.int (xs (x3 + (1 : Int32)).toNatClampNeg), .int (1 : Int32)]) (rest := [.int r1]) ⟨hx, hb, hml, hown, hts⟩ (mX7_setFinal l D cI cO tA tS aN zN (xs (x3 + (1 : Int32)).toNatClampNeg) (1 : Int32) _ h) (cwV 2 hts gL_law_X7_setFinal rfl rfl rfl (by decide +kernel) ⟨Nat.le_of_ble_eq_true rfl, Nat.le_of_ble_eq_true rfl⟩) (xpreV hP hD hS hA hK hE [56, 57, 58, 59, 60, 61, 62, 63, 64, 65, 66, 67] rfl rfl 7 56 rfl rfl) rfl rfl hl.1 rfl (lv_room (Nat.le_of_ble_eq_true rfl)) dL_law_220 ⟨Nat.le_of_ble_eq_true rfl, Nat.le_of_ble_eq_true rfl⟩) hP hD hS hA [56, 57, 58, 59, 60, 61, 62, 63, 64, 65, 66, 67] [0, 1, 2, 3, 4, 5, 6, 7, 8, 9, 10, 11, 12, 13, 14, 15, 16, 17, 18, 19, 20, 21, 22, 23, 24, 25, 26, 27, 28, 29, 30, 31, 32, 33, 34, 35, 36, 37, 38, 39, 40, 41, 42, 43, 44, 45, 46, 47, 48, 49, 50, 51, 52, 53, 54, 55] [0, 1, 2, 3, 4, 5, 6, 7, 8, 9, 10, 11, 12, 13, 14, 15, 16, 17, 18, 19, 20, 21, 22, 23, 24, 25, 26, 27, 28, 29, 30, 31, 32, 33, 34, 35, 36, 37, 38, 39, 40, 41, 42, 43, 44, 45, 46, 47, 48, 49, 50, 51, 52, 53, 54, 55, 56, 57, 58, 59, 60, 61, 62, 63, 64, 65, 66, 67] rfl rfl rfl (by decide) rfl (fun _ => rfl) (fun r2 u2 H locs h hP hD hS => ?_)
    exact lv_icmp_eq (tgt := 813) hx hb dL_law_223 (by decide) (fun _ => hN zS zT u1.1 u1.2.1 u1.2.2 zM zC zZ u2 H locs ls h.2 hP hD hS hl) (fun h9 => absurd h.1 h9)
set_option maxRecDepth 100000 in
set_option maxHeartbeats 8000000 in
theorem lwC_addRule {p : Program} {l : Launch} {e : Env} {s : State} {m : MethodId} {below : List Frame} {meth : Method} {c : Code} {b L : Nat} {xs : Nat → Int32} {A : Nat → Prop} {D : va_G} {cI cO : ClassId} {tA tS : Nat} {aS aT aB aH aM aC aZ : Nat → Nat} {aR : Nat → Nat → Nat} {aN : Nat → Nat} (F : lwFx p s m c b L xs A D cI cO tA tS) {x3 : Int32} {k : Nat} (ex : x3 = nI k) (hk : k + 6 ≤ L) (hN : lwNx p l e s m below meth c b A D cI cO aS aT aB aH aM aC aZ aR aN x3) (zS zT zB zH : CS) (zR : Nat → CS) (zM zC zZ zN : CS) (H : Heap) (locs : List Loc) (ls : Array Slot) (hI : INV zS zT zB zH zR zM zZ zN) (hP : va_P D vwCl (wL cI cO aS aT aB aH aM aC aZ aR aN zS zT zB zH zR zM zC zZ zN) H) (hD : va_D A (wL cI cO aS aT aB aH aM aC aZ aR aN zS zT zB zH zR zM zC zZ zN)) (hS : va_S A s.heap H locs) (hl : lv_has ls 4 [(0, .ref b), (1, .ref (aS 0)), (2, .ref (aN 0)), (3, .int x3)]) : W p l e room_1 s m #[Value.ref b] below meth c H locs 68 33487 (lw_Z below #[Value.ref b] s) (F0 m 228 ls []) := by
  obtain ⟨hx, hb, hml, hown, hts, hX, hbl, hA, hbA, hK, hE, hL⟩ := F
  have i1 : vp_in (x3 + (1 : Int32)) L := lwI 1 ex (by omega) hL
  have i2 : vp_in (x3 + (2 : Int32)) L := lwI 2 ex (by omega) hL
  have i3 : vp_in (x3 + (3 : Int32)) L := lwI 3 ex (by omega) hL
  have i4 : vp_in (x3 + (4 : Int32)) L := lwI 4 ex (by omega) hL
  have i5 : vp_in (x3 + (5 : Int32)) L := lwI 5 ex (by omega) hL
  refine lv_aload_n hx hb dL_law_228 rfl (lv_at hl 1 rfl) ?_
  refine lv_aload_n hx hb dL_law_229 rfl (lv_at hl 0 rfl) ?_
  refine lv_iload_n hx hb dL_law_230 rfl (lv_at hl 3 rfl) ?_
  refine lv_iconst (v := 1) hx hb dL_law_231 (by decide) ?_
  refine lv_iadd hx hb dL_law_232 ?_
  refine va_sld hx hb hX hbl hbA hS i1 dL_law_233 ?_
  refine lv_aload_n hx hb dL_law_234 rfl (lv_at hl 0 rfl) ?_
  refine lv_iload_n hx hb dL_law_235 rfl (lv_at hl 3 rfl) ?_
  refine lv_iconst (v := 2) hx hb dL_law_236 (by decide) ?_
  refine lv_iadd hx hb dL_law_237 ?_
  refine va_sld hx hb hX hbl hbA hS i2 dL_law_238 ?_
  refine lv_aload_n hx hb dL_law_239 rfl (lv_at hl 0 rfl) ?_
  refine lv_iload_n hx hb dL_law_240 rfl (lv_at hl 3 rfl) ?_
  refine lv_iconst (v := 3) hx hb dL_law_241 (by decide) ?_
  refine lv_iadd hx hb dL_law_242 ?_
  refine va_sld hx hb hX hbl hbA hS i3 dL_law_243 ?_
  refine lv_aload_n hx hb dL_law_244 rfl (lv_at hl 0 rfl) ?_
  refine lv_iload_n hx hb dL_law_245 rfl (lv_at hl 3 rfl) ?_
  refine lv_iconst (v := 4) hx hb dL_law_246 (by decide) ?_
  refine lv_iadd hx hb dL_law_247 ?_
  refine va_sld hx hb hX hbl hbA hS i4 dL_law_248 ?_
  refine lv_aload_n hx hb dL_law_249 rfl (lv_at hl 0 rfl) ?_
  refine lv_iload_n hx hb dL_law_250 rfl (lv_at hl 3 rfl) ?_
  refine lv_iconst (v := 5) hx hb dL_law_251 (by decide) ?_
  refine lv_iadd hx hb dL_law_252 ?_
  refine va_sld hx hb hX hbl hbA hS i5 dL_law_253 ?_
  refine xcalli (wr := (wT cI aT zT ++ (wC cI aC zC ++ (wZ cI aZ zZ ++ (wN cI aN zN))))) (w2 := fun (u1 : (CS) × (CS) × (CS) × (Nat → CS) × (CS)) => wL cI cO aS aT aB aH aM aC aZ aR aN u1.1 zT u1.2.1 u1.2.2.1 u1.2.2.2.1 u1.2.2.2.2 zC zZ zN) (va_runV (As := [.int (xs (x3 + (1 : Int32)).toNatClampNeg), .int (xs (x3 + (2 : Int32)).toNatClampNeg), .int (xs (x3 + (3 : Int32)).toNatClampNeg), .int (xs (x3 + (4 : Int32)).toNatClampNeg), .int (xs (x3 + (5 : Int32)).toNatClampNeg)]) (rest := []) ⟨hx, hb, hml, hown, hts⟩ (mX6_addRule l D cI cO tA tS aS aT aB aH aM aC aZ aR zS zB zH zR zM (xs (x3 + (1 : Int32)).toNatClampNeg) (xs (x3 + (2 : Int32)).toNatClampNeg) (xs (x3 + (3 : Int32)).toNatClampNeg) (xs (x3 + (4 : Int32)).toNatClampNeg) (xs (x3 + (5 : Int32)).toNatClampNeg) _ (o_addRule hI (xs (x3 + (1 : Int32)).toNatClampNeg) (xs (x3 + (2 : Int32)).toNatClampNeg) (xs (x3 + (3 : Int32)).toNatClampNeg) (xs (x3 + (4 : Int32)).toNatClampNeg) (xs (x3 + (5 : Int32)).toNatClampNeg))) (cwV 5 hts gL_law_X6_addRule rfl rfl rfl (by decide +kernel) ⟨Nat.le_of_ble_eq_true rfl, Nat.le_of_ble_eq_true rfl⟩) (xpreV hP hD hS hA hK hE [0, 1, 5, 6, 7, 8, 9, 10, 11, 12, 13, 14, 15, 16, 17, 18, 19, 20, 21, 22, 23, 24, 25, 26, 27, 28, 29, 30, 31, 32, 33, 34, 35, 36, 37, 38, 39, 40, 41, 42, 43, 44, 45, 46, 47] rfl rfl 6 0 rfl rfl) rfl rfl hl.1 rfl (lv_room (Nat.le_of_ble_eq_true rfl)) dL_law_254 ⟨Nat.le_of_ble_eq_true rfl, Nat.le_of_ble_eq_true rfl⟩) hP hD hS hA [0, 1, 5, 6, 7, 8, 9, 10, 11, 12, 13, 14, 15, 16, 17, 18, 19, 20, 21, 22, 23, 24, 25, 26, 27, 28, 29, 30, 31, 32, 33, 34, 35, 36, 37, 38, 39, 40, 41, 42, 43, 44, 45, 46, 47] [2, 3, 4, 48, 49, 50, 51, 52, 53, 54, 55, 56, 57, 58, 59, 60, 61, 62, 63, 64, 65, 66, 67] [23, 24, 0, 1, 2, 25, 26, 27, 28, 29, 30, 31, 32, 33, 34, 35, 36, 37, 38, 39, 40, 41, 42, 43, 44, 45, 46, 47, 48, 49, 50, 51, 52, 53, 54, 55, 56, 57, 58, 59, 60, 61, 62, 63, 64, 65, 66, 67, 3, 4, 5, 6, 7, 8, 9, 10, 11, 12, 13, 14, 15, 16, 17, 18, 19, 20, 21, 22] rfl rfl rfl (by decide) rfl (fun _ => rfl) (fun r1 u1 H locs h hP hD hS => ?_)
  refine lv_aload_n hx hb dL_law_257 rfl (lv_at hl 2 rfl) ?_
  refine lv_aload_n hx hb dL_law_258 rfl (lv_at hl 0 rfl) ?_
  refine lv_iload_n hx hb dL_law_259 rfl (lv_at hl 3 rfl) ?_
  refine lv_iconst (v := 1) hx hb dL_law_260 (by decide) ?_
  refine lv_iadd hx hb dL_law_261 ?_
  refine va_sld hx hb hX hbl hbA hS i1 dL_law_262 ?_
  refine lv_aload_n hx hb dL_law_263 rfl (lv_at hl 0 rfl) ?_
  refine lv_iload_n hx hb dL_law_264 rfl (lv_at hl 3 rfl) ?_
  refine lv_iconst (v := 2) hx hb dL_law_265 (by decide) ?_
  refine lv_iadd hx hb dL_law_266 ?_
  refine va_sld hx hb hX hbl hbA hS i2 dL_law_267 ?_
  refine lv_aload_n hx hb dL_law_268 rfl (lv_at hl 0 rfl) ?_
  refine lv_iload_n hx hb dL_law_269 rfl (lv_at hl 3 rfl) ?_
  refine lv_iconst (v := 3) hx hb dL_law_270 (by decide) ?_
  refine lv_iadd hx hb dL_law_271 ?_
  refine va_sld hx hb hX hbl hbA hS i3 dL_law_272 ?_
  refine lv_aload_n hx hb dL_law_273 rfl (lv_at hl 0 rfl) ?_
  refine lv_iload_n hx hb dL_law_274 rfl (lv_at hl 3 rfl) ?_
  refine lv_iconst (v := 4) hx hb dL_law_275 (by decide) ?_
  refine lv_iadd hx hb dL_law_276 ?_
  refine va_sld hx hb hX hbl hbA hS i4 dL_law_277 ?_
  refine lv_aload_n hx hb dL_law_278 rfl (lv_at hl 0 rfl) ?_
  refine lv_iload_n hx hb dL_law_279 rfl (lv_at hl 3 rfl) ?_
  refine lv_iconst (v := 5) hx hb dL_law_280 (by decide) ?_
  refine lv_iadd hx hb dL_law_281 ?_
  refine va_sld hx hb hX hbl hbA hS i5 dL_law_282 ?_
  refine xcalli (wr := (wS cI aS aT aB aH aM aC aZ u1.1 ++ (wT cI aT zT ++ (wB cI aB u1.2.1 ++ (wH cO aH aR u1.2.2.1 ++ (wR cI aR u1.2.2.2.1 ++ (wM cI aM u1.2.2.2.2 ++ (wC cI aC zC ++ (wZ cI aZ zZ))))))))) (w2 := fun (u2 : (CS)) => wL cI cO aS aT aB aH aM aC aZ aR aN u1.1 zT u1.2.1 u1.2.2.1 u1.2.2.2.1 u1.2.2.2.2 zC zZ u2) (va_runV (As := [.int (xs (x3 + (1 : Int32)).toNatClampNeg), .int (xs (x3 + (2 : Int32)).toNatClampNeg), .int (xs (x3 + (3 : Int32)).toNatClampNeg), .int (xs (x3 + (4 : Int32)).toNatClampNeg), .int (xs (x3 + (5 : Int32)).toNatClampNeg)]) (rest := [.int r1]) ⟨hx, hb, hml, hown, hts⟩ (mX7_addRule l D cI cO tA tS aN zN (xs (x3 + (1 : Int32)).toNatClampNeg) (xs (x3 + (2 : Int32)).toNatClampNeg) (xs (x3 + (3 : Int32)).toNatClampNeg) (xs (x3 + (4 : Int32)).toNatClampNeg) (xs (x3 + (5 : Int32)).toNatClampNeg) _ h) (cwV 5 hts gL_law_X7_addRule rfl rfl rfl (by decide +kernel) ⟨Nat.le_of_ble_eq_true rfl, Nat.le_of_ble_eq_true rfl⟩) (xpreV hP hD hS hA hK hE [56, 57, 58, 59, 60, 61, 62, 63, 64, 65, 66, 67] rfl rfl 7 56 rfl rfl) rfl rfl hl.1 rfl (lv_room (Nat.le_of_ble_eq_true rfl)) dL_law_283 ⟨Nat.le_of_ble_eq_true rfl, Nat.le_of_ble_eq_true rfl⟩) hP hD hS hA [56, 57, 58, 59, 60, 61, 62, 63, 64, 65, 66, 67] [0, 1, 2, 3, 4, 5, 6, 7, 8, 9, 10, 11, 12, 13, 14, 15, 16, 17, 18, 19, 20, 21, 22, 23, 24, 25, 26, 27, 28, 29, 30, 31, 32, 33, 34, 35, 36, 37, 38, 39, 40, 41, 42, 43, 44, 45, 46, 47, 48, 49, 50, 51, 52, 53, 54, 55] [0, 1, 2, 3, 4, 5, 6, 7, 8, 9, 10, 11, 12, 13, 14, 15, 16, 17, 18, 19, 20, 21, 22, 23, 24, 25, 26, 27, 28, 29, 30, 31, 32, 33, 34, 35, 36, 37, 38, 39, 40, 41, 42, 43, 44, 45, 46, 47, 48, 49, 50, 51, 52, 53, 54, 55, 56, 57, 58, 59, 60, 61, 62, 63, 64, 65, 66, 67] rfl rfl rfl (by decide) rfl (fun _ => rfl) (fun r2 u2 H locs h hP hD hS => ?_)
  exact lv_icmp_eq (tgt := 813) hx hb dL_law_286 (by decide) (fun _ => hN u1.1 zT u1.2.1 u1.2.2.1 u1.2.2.2.1 u1.2.2.2.2 zC zZ u2 H locs ls h.2 hP hD hS hl) (fun h9 => absurd h.1 h9)
set_option maxRecDepth 100000 in
set_option maxHeartbeats 8000000 in
theorem lwC_removeRule {p : Program} {l : Launch} {e : Env} {s : State} {m : MethodId} {below : List Frame} {meth : Method} {c : Code} {b L : Nat} {xs : Nat → Int32} {A : Nat → Prop} {D : va_G} {cI cO : ClassId} {tA tS : Nat} {aS aT aB aH aM aC aZ : Nat → Nat} {aR : Nat → Nat → Nat} {aN : Nat → Nat} (F : lwFx p s m c b L xs A D cI cO tA tS) {x3 : Int32} {k : Nat} (ex : x3 = nI k) (hk : k + 6 ≤ L) (hN : lwNx p l e s m below meth c b A D cI cO aS aT aB aH aM aC aZ aR aN x3) (zS zT zB zH : CS) (zR : Nat → CS) (zM zC zZ zN : CS) (H : Heap) (locs : List Loc) (ls : Array Slot) (hI : INV zS zT zB zH zR zM zZ zN) (hP : va_P D vwCl (wL cI cO aS aT aB aH aM aC aZ aR aN zS zT zB zH zR zM zC zZ zN) H) (hD : va_D A (wL cI cO aS aT aB aH aM aC aZ aR aN zS zT zB zH zR zM zC zZ zN)) (hS : va_S A s.heap H locs) (hl : lv_has ls 4 [(0, .ref b), (1, .ref (aS 0)), (2, .ref (aN 0)), (3, .int x3)]) : W p l e room_1 s m #[Value.ref b] below meth c H locs 68 33487 (lw_Z below #[Value.ref b] s) (F0 m 291 ls []) := by
  obtain ⟨hx, hb, hml, hown, hts, hX, hbl, hA, hbA, hK, hE, hL⟩ := F
  have i1 : vp_in (x3 + (1 : Int32)) L := lwI 1 ex (by omega) hL
  refine lv_aload_n hx hb dL_law_291 rfl (lv_at hl 1 rfl) ?_
  refine lv_aload_n hx hb dL_law_292 rfl (lv_at hl 0 rfl) ?_
  refine lv_iload_n hx hb dL_law_293 rfl (lv_at hl 3 rfl) ?_
  refine lv_iconst (v := 1) hx hb dL_law_294 (by decide) ?_
  refine lv_iadd hx hb dL_law_295 ?_
  refine va_sld hx hb hX hbl hbA hS i1 dL_law_296 ?_
  refine xcalli (wr := (wT cI aT zT ++ (wC cI aC zC ++ (wZ cI aZ zZ ++ (wN cI aN zN))))) (w2 := fun (u1 : (CS) × (CS) × (CS) × (Nat → CS) × (CS)) => wL cI cO aS aT aB aH aM aC aZ aR aN u1.1 zT u1.2.1 u1.2.2.1 u1.2.2.2.1 u1.2.2.2.2 zC zZ zN) (va_runV (As := [.int (xs (x3 + (1 : Int32)).toNatClampNeg)]) (rest := []) ⟨hx, hb, hml, hown, hts⟩ (mX6_removeRule l D cI cO tA tS aS aT aB aH aM aC aZ aR zS zB zH zR zM (xs (x3 + (1 : Int32)).toNatClampNeg) _ (o_removeRule hI (xs (x3 + (1 : Int32)).toNatClampNeg))) (cwV 1 hts gL_law_X6_removeRule rfl rfl rfl (by decide +kernel) ⟨Nat.le_of_ble_eq_true rfl, Nat.le_of_ble_eq_true rfl⟩) (xpreV hP hD hS hA hK hE [0, 1, 5, 6, 7, 8, 9, 10, 11, 12, 13, 14, 15, 16, 17, 18, 19, 20, 21, 22, 23, 24, 25, 26, 27, 28, 29, 30, 31, 32, 33, 34, 35, 36, 37, 38, 39, 40, 41, 42, 43, 44, 45, 46, 47] rfl rfl 6 0 rfl rfl) rfl rfl hl.1 rfl (lv_room (Nat.le_of_ble_eq_true rfl)) dL_law_297 ⟨Nat.le_of_ble_eq_true rfl, Nat.le_of_ble_eq_true rfl⟩) hP hD hS hA [0, 1, 5, 6, 7, 8, 9, 10, 11, 12, 13, 14, 15, 16, 17, 18, 19, 20, 21, 22, 23, 24, 25, 26, 27, 28, 29, 30, 31, 32, 33, 34, 35, 36, 37, 38, 39, 40, 41, 42, 43, 44, 45, 46, 47] [2, 3, 4, 48, 49, 50, 51, 52, 53, 54, 55, 56, 57, 58, 59, 60, 61, 62, 63, 64, 65, 66, 67] [23, 24, 0, 1, 2, 25, 26, 27, 28, 29, 30, 31, 32, 33, 34, 35, 36, 37, 38, 39, 40, 41, 42, 43, 44, 45, 46, 47, 48, 49, 50, 51, 52, 53, 54, 55, 56, 57, 58, 59, 60, 61, 62, 63, 64, 65, 66, 67, 3, 4, 5, 6, 7, 8, 9, 10, 11, 12, 13, 14, 15, 16, 17, 18, 19, 20, 21, 22] rfl rfl rfl (by decide) rfl (fun _ => rfl) (fun r1 u1 H locs h hP hD hS => ?_)
  refine lv_aload_n hx hb dL_law_300 rfl (lv_at hl 2 rfl) ?_
  refine lv_aload_n hx hb dL_law_301 rfl (lv_at hl 0 rfl) ?_
  refine lv_iload_n hx hb dL_law_302 rfl (lv_at hl 3 rfl) ?_
  refine lv_iconst (v := 1) hx hb dL_law_303 (by decide) ?_
  refine lv_iadd hx hb dL_law_304 ?_
  refine va_sld hx hb hX hbl hbA hS i1 dL_law_305 ?_
  refine xcalli (wr := (wS cI aS aT aB aH aM aC aZ u1.1 ++ (wT cI aT zT ++ (wB cI aB u1.2.1 ++ (wH cO aH aR u1.2.2.1 ++ (wR cI aR u1.2.2.2.1 ++ (wM cI aM u1.2.2.2.2 ++ (wC cI aC zC ++ (wZ cI aZ zZ))))))))) (w2 := fun (u2 : (CS)) => wL cI cO aS aT aB aH aM aC aZ aR aN u1.1 zT u1.2.1 u1.2.2.1 u1.2.2.2.1 u1.2.2.2.2 zC zZ u2) (va_runV (As := [.int (xs (x3 + (1 : Int32)).toNatClampNeg)]) (rest := [.int r1]) ⟨hx, hb, hml, hown, hts⟩ (mX7_removeRule l D cI cO tA tS aN zN (xs (x3 + (1 : Int32)).toNatClampNeg) _ h) (cwV 1 hts gL_law_X7_removeRule rfl rfl rfl (by decide +kernel) ⟨Nat.le_of_ble_eq_true rfl, Nat.le_of_ble_eq_true rfl⟩) (xpreV hP hD hS hA hK hE [56, 57, 58, 59, 60, 61, 62, 63, 64, 65, 66, 67] rfl rfl 7 56 rfl rfl) rfl rfl hl.1 rfl (lv_room (Nat.le_of_ble_eq_true rfl)) dL_law_306 ⟨Nat.le_of_ble_eq_true rfl, Nat.le_of_ble_eq_true rfl⟩) hP hD hS hA [56, 57, 58, 59, 60, 61, 62, 63, 64, 65, 66, 67] [0, 1, 2, 3, 4, 5, 6, 7, 8, 9, 10, 11, 12, 13, 14, 15, 16, 17, 18, 19, 20, 21, 22, 23, 24, 25, 26, 27, 28, 29, 30, 31, 32, 33, 34, 35, 36, 37, 38, 39, 40, 41, 42, 43, 44, 45, 46, 47, 48, 49, 50, 51, 52, 53, 54, 55] [0, 1, 2, 3, 4, 5, 6, 7, 8, 9, 10, 11, 12, 13, 14, 15, 16, 17, 18, 19, 20, 21, 22, 23, 24, 25, 26, 27, 28, 29, 30, 31, 32, 33, 34, 35, 36, 37, 38, 39, 40, 41, 42, 43, 44, 45, 46, 47, 48, 49, 50, 51, 52, 53, 54, 55, 56, 57, 58, 59, 60, 61, 62, 63, 64, 65, 66, 67] rfl rfl rfl (by decide) rfl (fun _ => rfl) (fun r2 u2 H locs h hP hD hS => ?_)
  exact lv_icmp_eq (tgt := 813) hx hb dL_law_309 (by decide) (fun _ => hN u1.1 zT u1.2.1 u1.2.2.1 u1.2.2.2.1 u1.2.2.2.2 zC zZ u2 H locs ls h.2 hP hD hS hl) (fun h9 => absurd h.1 h9)
set_option maxRecDepth 100000 in
set_option maxHeartbeats 8000000 in
theorem lwC_swapStates {p : Program} {l : Launch} {e : Env} {s : State} {m : MethodId} {below : List Frame} {meth : Method} {c : Code} {b L : Nat} {xs : Nat → Int32} {A : Nat → Prop} {D : va_G} {cI cO : ClassId} {tA tS : Nat} {aS aT aB aH aM aC aZ : Nat → Nat} {aR : Nat → Nat → Nat} {aN : Nat → Nat} (F : lwFx p s m c b L xs A D cI cO tA tS) {x3 : Int32} {k : Nat} (ex : x3 = nI k) (hk : k + 6 ≤ L) (hN : lwNx p l e s m below meth c b A D cI cO aS aT aB aH aM aC aZ aR aN x3) (zS zT zB zH : CS) (zR : Nat → CS) (zM zC zZ zN : CS) (H : Heap) (locs : List Loc) (ls : Array Slot) (hI : INV zS zT zB zH zR zM zZ zN) (hP : va_P D vwCl (wL cI cO aS aT aB aH aM aC aZ aR aN zS zT zB zH zR zM zC zZ zN) H) (hD : va_D A (wL cI cO aS aT aB aH aM aC aZ aR aN zS zT zB zH zR zM zC zZ zN)) (hS : va_S A s.heap H locs) (hl : lv_has ls 4 [(0, .ref b), (1, .ref (aS 0)), (2, .ref (aN 0)), (3, .int x3)]) : W p l e room_1 s m #[Value.ref b] below meth c H locs 68 33487 (lw_Z below #[Value.ref b] s) (F0 m 314 ls []) := by
  obtain ⟨hx, hb, hml, hown, hts, hX, hbl, hA, hbA, hK, hE, hL⟩ := F
  have i1 : vp_in (x3 + (1 : Int32)) L := lwI 1 ex (by omega) hL
  have i2 : vp_in (x3 + (2 : Int32)) L := lwI 2 ex (by omega) hL
  refine lv_aload_n hx hb dL_law_314 rfl (lv_at hl 1 rfl) ?_
  refine lv_aload_n hx hb dL_law_315 rfl (lv_at hl 0 rfl) ?_
  refine lv_iload_n hx hb dL_law_316 rfl (lv_at hl 3 rfl) ?_
  refine lv_iconst (v := 1) hx hb dL_law_317 (by decide) ?_
  refine lv_iadd hx hb dL_law_318 ?_
  refine va_sld hx hb hX hbl hbA hS i1 dL_law_319 ?_
  refine lv_aload_n hx hb dL_law_320 rfl (lv_at hl 0 rfl) ?_
  refine lv_iload_n hx hb dL_law_321 rfl (lv_at hl 3 rfl) ?_
  refine lv_iconst (v := 2) hx hb dL_law_322 (by decide) ?_
  refine lv_iadd hx hb dL_law_323 ?_
  refine va_sld hx hb hX hbl hbA hS i2 dL_law_324 ?_
  refine xcalli (wr := (wT cI aT zT ++ (wC cI aC zC ++ (wZ cI aZ zZ ++ (wN cI aN zN))))) (w2 := fun (u1 : (CS) × (CS) × (CS) × (Nat → CS) × (CS)) => wL cI cO aS aT aB aH aM aC aZ aR aN u1.1 zT u1.2.1 u1.2.2.1 u1.2.2.2.1 u1.2.2.2.2 zC zZ zN) (va_runV (As := [.int (xs (x3 + (1 : Int32)).toNatClampNeg), .int (xs (x3 + (2 : Int32)).toNatClampNeg)]) (rest := []) ⟨hx, hb, hml, hown, hts⟩ (mX6_swapStates l D cI cO tA tS aS aT aB aH aM aC aZ aR zS zB zH zR zM (xs (x3 + (1 : Int32)).toNatClampNeg) (xs (x3 + (2 : Int32)).toNatClampNeg) _ (o_swapStates hI (xs (x3 + (1 : Int32)).toNatClampNeg) (xs (x3 + (2 : Int32)).toNatClampNeg))) (cwV 2 hts gL_law_X6_swapStates rfl rfl rfl (by decide +kernel) ⟨Nat.le_of_ble_eq_true rfl, Nat.le_of_ble_eq_true rfl⟩) (xpreV hP hD hS hA hK hE [0, 1, 5, 6, 7, 8, 9, 10, 11, 12, 13, 14, 15, 16, 17, 18, 19, 20, 21, 22, 23, 24, 25, 26, 27, 28, 29, 30, 31, 32, 33, 34, 35, 36, 37, 38, 39, 40, 41, 42, 43, 44, 45, 46, 47] rfl rfl 6 0 rfl rfl) rfl rfl hl.1 rfl (lv_room (Nat.le_of_ble_eq_true rfl)) dL_law_325 ⟨Nat.le_of_ble_eq_true rfl, Nat.le_of_ble_eq_true rfl⟩) hP hD hS hA [0, 1, 5, 6, 7, 8, 9, 10, 11, 12, 13, 14, 15, 16, 17, 18, 19, 20, 21, 22, 23, 24, 25, 26, 27, 28, 29, 30, 31, 32, 33, 34, 35, 36, 37, 38, 39, 40, 41, 42, 43, 44, 45, 46, 47] [2, 3, 4, 48, 49, 50, 51, 52, 53, 54, 55, 56, 57, 58, 59, 60, 61, 62, 63, 64, 65, 66, 67] [23, 24, 0, 1, 2, 25, 26, 27, 28, 29, 30, 31, 32, 33, 34, 35, 36, 37, 38, 39, 40, 41, 42, 43, 44, 45, 46, 47, 48, 49, 50, 51, 52, 53, 54, 55, 56, 57, 58, 59, 60, 61, 62, 63, 64, 65, 66, 67, 3, 4, 5, 6, 7, 8, 9, 10, 11, 12, 13, 14, 15, 16, 17, 18, 19, 20, 21, 22] rfl rfl rfl (by decide) rfl (fun _ => rfl) (fun r1 u1 H locs h hP hD hS => ?_)
  refine lv_aload_n hx hb dL_law_328 rfl (lv_at hl 2 rfl) ?_
  refine lv_aload_n hx hb dL_law_329 rfl (lv_at hl 0 rfl) ?_
  refine lv_iload_n hx hb dL_law_330 rfl (lv_at hl 3 rfl) ?_
  refine lv_iconst (v := 1) hx hb dL_law_331 (by decide) ?_
  refine lv_iadd hx hb dL_law_332 ?_
  refine va_sld hx hb hX hbl hbA hS i1 dL_law_333 ?_
  refine lv_aload_n hx hb dL_law_334 rfl (lv_at hl 0 rfl) ?_
  refine lv_iload_n hx hb dL_law_335 rfl (lv_at hl 3 rfl) ?_
  refine lv_iconst (v := 2) hx hb dL_law_336 (by decide) ?_
  refine lv_iadd hx hb dL_law_337 ?_
  refine va_sld hx hb hX hbl hbA hS i2 dL_law_338 ?_
  refine xcalli (wr := (wS cI aS aT aB aH aM aC aZ u1.1 ++ (wT cI aT zT ++ (wB cI aB u1.2.1 ++ (wH cO aH aR u1.2.2.1 ++ (wR cI aR u1.2.2.2.1 ++ (wM cI aM u1.2.2.2.2 ++ (wC cI aC zC ++ (wZ cI aZ zZ))))))))) (w2 := fun (u2 : (CS)) => wL cI cO aS aT aB aH aM aC aZ aR aN u1.1 zT u1.2.1 u1.2.2.1 u1.2.2.2.1 u1.2.2.2.2 zC zZ u2) (va_runV (As := [.int (xs (x3 + (1 : Int32)).toNatClampNeg), .int (xs (x3 + (2 : Int32)).toNatClampNeg)]) (rest := [.int r1]) ⟨hx, hb, hml, hown, hts⟩ (mX7_swapStates l D cI cO tA tS aN zN (xs (x3 + (1 : Int32)).toNatClampNeg) (xs (x3 + (2 : Int32)).toNatClampNeg) _ h) (cwV 2 hts gL_law_X7_swapStates rfl rfl rfl (by decide +kernel) ⟨Nat.le_of_ble_eq_true rfl, Nat.le_of_ble_eq_true rfl⟩) (xpreV hP hD hS hA hK hE [56, 57, 58, 59, 60, 61, 62, 63, 64, 65, 66, 67] rfl rfl 7 56 rfl rfl) rfl rfl hl.1 rfl (lv_room (Nat.le_of_ble_eq_true rfl)) dL_law_339 ⟨Nat.le_of_ble_eq_true rfl, Nat.le_of_ble_eq_true rfl⟩) hP hD hS hA [56, 57, 58, 59, 60, 61, 62, 63, 64, 65, 66, 67] [0, 1, 2, 3, 4, 5, 6, 7, 8, 9, 10, 11, 12, 13, 14, 15, 16, 17, 18, 19, 20, 21, 22, 23, 24, 25, 26, 27, 28, 29, 30, 31, 32, 33, 34, 35, 36, 37, 38, 39, 40, 41, 42, 43, 44, 45, 46, 47, 48, 49, 50, 51, 52, 53, 54, 55] [0, 1, 2, 3, 4, 5, 6, 7, 8, 9, 10, 11, 12, 13, 14, 15, 16, 17, 18, 19, 20, 21, 22, 23, 24, 25, 26, 27, 28, 29, 30, 31, 32, 33, 34, 35, 36, 37, 38, 39, 40, 41, 42, 43, 44, 45, 46, 47, 48, 49, 50, 51, 52, 53, 54, 55, 56, 57, 58, 59, 60, 61, 62, 63, 64, 65, 66, 67] rfl rfl rfl (by decide) rfl (fun _ => rfl) (fun r2 u2 H locs h hP hD hS => ?_)
  exact lv_icmp_eq (tgt := 813) hx hb dL_law_342 (by decide) (fun _ => hN u1.1 zT u1.2.1 u1.2.2.1 u1.2.2.2.1 u1.2.2.2.2 zC zZ u2 H locs ls h.2 hP hD hS hl) (fun h9 => absurd h.1 h9)
