/-! own layer over the kit: one form of contract for all methods. State of a component: rows of ints. -/
abbrev CS : Type := Nat → Nat → Int32
def st (b : CS) (j i : Nat) (x : Int32) : CS := fun k => match Nat.beq k j with
  | true => upd (b j) i x
  | false => b k
def sr (b : CS) (j : Nat) (f : Nat → Int32) : CS := fun k => match Nat.beq k j with
  | true => f
  | false => b k
def sR (z : Nat → CS) (j : Nat) (b : CS) : Nat → CS := fun k => match Nat.beq k j with
  | true => b
  | false => z k
def xar : Nat → Int32 := fun j => match j with
  | 2 => 1
  | 3 => 2
  | 4 => 2
  | _ => 0
def xst : Nat → Int32 := fun j => match j with
  | 2 => 2
  | 3 => 4
  | 4 => 14
  | 5 => 40
  | 6 => 154
  | 7 => 556
  | 8 => 2278
  | _ => 0
abbrev xNW : List Cond := [
  .methodLinkNest RX5 37 yX6_sizeAt "BrotherAutomata",
  .fieldLinkNest RX5 45 "BrotherAutomata" "ARITY" "[I" "BrotherAutomata",
  .fieldLinkNest RX5 34 "BrotherAutomata" "START" "[I" "BrotherAutomata",
  .fieldLinkNest RX4 75 "BrotherAutomata$RuleBook" "seconds" "[I" "BrotherAutomata",
  .fieldLinkNest RX4 72 "BrotherAutomata$RuleBook" "firsts" "[I" "BrotherAutomata",
  .fieldLinkNest RX4 69 "BrotherAutomata" "ARITY" "[I" "BrotherAutomata",
  .fieldLinkNest RX4 62 "BrotherAutomata$RuleBook" "targets" "[I" "BrotherAutomata",
  .fieldLinkNest RX4 59 "BrotherAutomata$RuleBook" "constraints" "[I" "BrotherAutomata",
  .fieldLinkNest RX4 56 "BrotherAutomata$RuleBook" "symbols" "[I" "BrotherAutomata",
  .fieldLinkNest RX4 50 "BrotherAutomata$RuleBook" "count" "I" "BrotherAutomata",
  .fieldLinkNest RX3 65 "BrotherAutomata$RuleBook" "constraints" "[I" "BrotherAutomata",
  .fieldLinkNest RX3 62 "BrotherAutomata$RuleBook" "targets" "[I" "BrotherAutomata",
  .fieldLinkNest RX3 59 "BrotherAutomata$RuleBook" "seconds" "[I" "BrotherAutomata",
  .fieldLinkNest RX3 56 "BrotherAutomata$RuleBook" "firsts" "[I" "BrotherAutomata",
  .fieldLinkNest RX3 53 "BrotherAutomata" "ARITY" "[I" "BrotherAutomata",
  .fieldLinkNest RX3 50 "BrotherAutomata$RuleBook" "symbols" "[I" "BrotherAutomata",
  .fieldLinkNest RX3 37 "BrotherAutomata$RuleBook" "count" "I" "BrotherAutomata",
  .fieldLinkNest RX2 48 "BrotherAutomata" "ARITY" "[I" "BrotherAutomata",
  .fieldLinkNest RX6 87 "BrotherAutomata$RuleBook" "finals" "I" "BrotherAutomata",
  .fieldLinkNest RX6 188 "BrotherAutomata$History" "kept" "I" "BrotherAutomata",
  .fieldLinkNest RX6 187 "BrotherAutomata$Census" "heights" "[I" "BrotherAutomata",
  .fieldLinkNest RX6 178 "BrotherAutomata$Census" "numbers" "[I" "BrotherAutomata",
  .fieldLinkNest RX6 159 "BrotherAutomata$SmallTrees" "heights" "[I" "BrotherAutomata",
  .fieldLinkNest RX6 109 "BrotherAutomata$RuleBook" "count" "I" "BrotherAutomata"]
def xE (tA tS : Nat) (A : Nat → Prop) (U : State) (H : Heap) : Prop := (∀ w ∈ xNW, va_Nw w U) ∧ va_Z "BrotherAutomata" "ARITY" "[I" (.ref tA) A U H ∧ va_T .int tA 5 (fun j => .int (xar j)) A U H ∧ va_Z "BrotherAutomata" "START" "[I" (.ref tS) A U H ∧ va_T .int tS 9 (fun j => .int (xst j)) A U H
theorem xNW_warm {s U : State} (hW : s.WarmedH U.vm) : ∀ w ∈ xNW, va_Nw w s → va_Nw w U := by
  intro w hw h
  simp only [xNW, List.mem_cons, List.not_mem_nil, or_false] at hw
  rcases hw with rfl | rfl | rfl | rfl | rfl | rfl | rfl | rfl | rfl | rfl | rfl | rfl | rfl | rfl | rfl | rfl | rfl | rfl | rfl | rfl | rfl | rfl | rfl | rfl <;> first | exact va_Nw.warmF hW h | exact va_Nw.warmM hW h
theorem xNW_same {s U : State} (hv : s.vm = U.vm) : ∀ w ∈ xNW, va_Nw w s → va_Nw w U := by
  intro w hw h
  simp only [xNW, List.mem_cons, List.not_mem_nil, or_false] at hw
  rcases hw with rfl | rfl | rfl | rfl | rfl | rfl | rfl | rfl | rfl | rfl | rfl | rfl | rfl | rfl | rfl | rfl | rfl | rfl | rfl | rfl | rfl | rfl | rfl | rfl <;> exact va_Nw.same rfl hv h
theorem xE.warm {tA tS : Nat} {A : Nat → Prop} {s U : State} {H : Heap} (hW : s.WarmedH U.vm) (h : xE tA tS A s H) : xE tA tS A U H :=
  ⟨fun w hw => xNW_warm hW w hw (h.1 w hw), h.2.1.moved hW.alike, h.2.2.1.moved hW.alike, h.2.2.2.1.moved hW.alike, h.2.2.2.2.moved hW.alike⟩
theorem xE.same {tA tS : Nat} {A : Nat → Prop} {s U : State} {H : Heap} (hv : s.vm = U.vm) (h : xE tA tS A s H) : xE tA tS A U H := by
  have ha : s.vm.Alike U.vm := by rw [hv]; exact Vm.Alike.refl _
  exact ⟨fun w hw => xNW_same hv w hw (h.1 w hw), h.2.1.moved ha, h.2.2.1.moved ha, h.2.2.2.1.moved ha, h.2.2.2.2.moved ha⟩
theorem xE.kept {tA tS : Nat} {A : Nat → Prop} {U : State} {H H1 : Heap} (h : xE tA tS A U H) (hq : ∀ a : Nat, a < H.size → ¬ A a → H1[a]? = H[a]?) : xE tA tS A U H1 :=
  ⟨h.1, h.2.1.kept hq, h.2.2.1.kept hq, h.2.2.2.1.kept hq, h.2.2.2.2.kept hq⟩
theorem xE.narrow {tA tS : Nat} {A B : Nat → Prop} {U : State} {H : Heap} (h : xE tA tS A U H) (hAB : ∀ q, B q → A q) : xE tA tS B U H :=
  ⟨h.1, h.2.1.narrow hAB, h.2.2.1.narrow hAB, h.2.2.2.1.narrow hAB, h.2.2.2.2.narrow hAB⟩
abbrev xT (cI cO : ClassId) : List (ClassId × FieldType) := [(cI, .int), (cO, .object "BrotherAutomata$RuleBook")]
def xPre (D : va_G) (cI cO : ClassId) (tA tS : Nat) (av : List Value) (W0 : va_W) (sz : Nat) : Array Value → State → Prop :=
  va_Pc av (fun U => U.heap.size = sz ∧ va_P D vwCl W0 U.heap ∧ va_K D vwCl (xT cI cO) U ∧ va_D (fun _ => True) W0 ∧ xE tA tS (va_A W0 sz) U U.heap)
def xB {S : Type} (D : va_G) (cI cO : ClassId) (A : Nat → Prop) (w : S → va_W) : S → State → Prop :=
  fun u t => va_P D vwCl (w u) t.heap ∧ va_K D vwCl (xT cI cO) t ∧ va_D A (w u)
theorem xMet {l : Launch} {y : MethodName} {ws ws' : List Cond} {rm : Room} {cc : ByteArray} {maxL : Nat} {ret : Option FieldType} {av : List Value} {W0 : va_W} {sz mc ms : Nat} (D : va_G) (cI cO : ClassId) (tA tS : Nat) (Qf : (Nat → Prop) → Array Value → State → Outcome → State → Prop)
    (hy : plainName y.cls = true) (hw : ws = Cond.code y cc maxL ret :: ws') (hlen : (lg_sl av).length ≤ maxL)
    (body : ∀ (p : Program) (e : Env) (s : State) (m : MethodId) (below : List Frame) (meth : Method) (c : Code) (A : Nat → Prop) (ls : Array Slot), p.tables.exec = Jvm.exec → c.code = cc → meth.sig.returnType = ret → (∀ w ∈ ws, w.before av.toArray s = true) → s.vm.findClass y.cls = some m.cls → meth.locks = false → meth.name = y.name → c.maxLocals = maxL → (∀ q : Nat, s.heap.size ≤ q → A q) → va_S A s.heap s.heap [] → va_P D vwCl W0 s.heap → va_K D vwCl (xT cI cO) s → va_D A W0 → xE tA tS A s s.heap → lv_has ls maxL (lv_args 0 av) →
      W p l e rm s m av.toArray below meth c s.heap [] 0 0 (MQ below (Qf A) av.toArray s mc ms A) (F0 m 0 ls [])) :
    Met l y ws rm (xPre D cI cO tA tS av W0 sz) (Qf (va_A W0 sz)) mc ms (va_A W0 sz) := by
  refine Met.ofW (cc := cc) (maxL := maxL) (ret := ret) hy hw ?_
  intro p e s m args below meth c s₁ B hml hv
  obtain ⟨rfl, hsz, hP, hK, hD0, hE⟩ := hv
  subst hsz
  have hown : s.vm.findClass y.cls = some m.cls := findClass_of_methodNamed B.named
  rw [lg_entry_eq]
  exact body p e s m below meth c (va_A W0 s.heap.size) _ B.exec B.bytes B.returns (atoms_spec B.pre) hown B.notSynchronized (name_of_methodNamed B.named B.method).1 hml (fun q h => Or.inr h) va_S.rf hP hK hD0.self hE (lv_entry av hlen)
theorem va_P.subM {D : va_G} {cl : List vw_C} {ws ws' : va_W} {H : Heap} (h : va_P D cl ws H) (is : List Nat) (hs : is.map (fun i => ws[i]?) = ws'.map some) : va_P D cl ws' H := by
  intro k q hk
  have h1 : (is.map (fun i => ws[i]?))[k]? = some (some q) := by rw [hs, List.getElem?_map, hk]; rfl
  rw [List.getElem?_map] at h1
  cases hi : is[k]? with
  | none => rw [hi] at h1; cases h1
  | some i => rw [hi] at h1; exact h i q (Option.some.inj h1)
section XA
variable {p : Program} {l : Launch} {e : Env} {R : Room} {s : State} {m : MethodId} {args : Array Value} {below : List Frame} {meth : Method} {c : Code} {H : Heap} {locs : List Loc} {cells slots : Nat} {Q : State → Prop} {cc : ByteArray} {S : Type} {A : Nat → Prop} {D : va_G} {cI cO : ClassId} {pc : Nat} {ls : Array Slot}
theorem xiret {post : Int32 → S → Prop} {w : S → va_W} {v : Int32} (u : S) (hx : p.tables.exec = Jvm.exec) (hb : c.code = cc) (hr : meth.sig.returnType = some .int) (hlocks : meth.locks = false) (hp : post v u) (hP : va_P D vwCl (w u) H) (hK : va_K D vwCl (xT cI cO) s) (hD : va_D A (w u)) (hS : va_S A s.heap H locs) (hdg : decode cc pc = .ok (.ireturn, 1)) :
    W p l e R s m args below meth c H locs cells slots (MQ below (va_Qi post (xB D cI cO A w) A) args s cells slots A) (F0 m pc ls [.int v]) :=
  W.iret hx hb hr (fun t ht hW => ⟨⟨v, u, rfl, hp, by rw [ht]; exact hP, va_K.moved hW.alike hK, hD⟩, hS.F ht⟩) hS.2.2 hdg hlocks
theorem xzret {post : Int32 → S → Prop} {w : S → va_W} {v : Int32} (u : S) (hx : p.tables.exec = Jvm.exec) (hb : c.code = cc) (hr : meth.sig.returnType = some .boolean) (hlocks : meth.locks = false) (hn : narrow .boolean (.int v) = .int v) (hp : post v u) (hP : va_P D vwCl (w u) H) (hK : va_K D vwCl (xT cI cO) s) (hD : va_D A (w u)) (hS : va_S A s.heap H locs) (hdg : decode cc pc = .ok (.ireturn, 1)) :
    W p l e R s m args below meth c H locs cells slots (MQ below (va_Qi post (xB D cI cO A w) A) args s cells slots A) (F0 m pc ls [.int v]) :=
  W.zret hx hb hr hn (fun t ht hW => ⟨⟨v, u, rfl, hp, by rw [ht]; exact hP, va_K.moved hW.alike hK, hD⟩, hS.F ht⟩) hS.2.2 hdg hlocks
theorem xvret {post : S → Prop} {w : S → va_W} (u : S) (hx : p.tables.exec = Jvm.exec) (hb : c.code = cc) (hr : meth.sig.returnType = none) (hlocks : meth.locks = false) (hp : post u) (hP : va_P D vwCl (w u) H) (hK : va_K D vwCl (xT cI cO) s) (hD : va_D A (w u)) (hS : va_S A s.heap H locs) (hdg : decode cc pc = .ok (.return_, 1)) :
    W p l e R s m args below meth c H locs cells slots (MQ below (va_Qv post (xB D cI cO A w) A) args s cells slots A) (F0 m pc ls []) :=
  W.vret hx hb hr (fun t ht hW => ⟨⟨u, rfl, hp, by rw [ht]; exact hP, va_K.moved hW.alike hK, hD⟩, hS.F ht⟩) hS.2.2 hdg hlocks
theorem xcalli {post : Int32 → S → Prop} {w1 w2 : S → va_W} {ws wc wr : va_W} {H0 : Heap} {rest st0 : List Value} {a : Array Value}
    (hr : va_Run p l e R s m args below meth c H locs cells slots 0 0 (F0 m pc ls st0) rest (va_Qi post (xB D cI cO (va_A wc H.size) w1) (va_A wc H.size) a) (va_A wc H.size))
    (hP : va_P D vwCl ws H) (hD : va_D A ws) (hS : va_S A H0 H locs) (hA : ∀ q : Nat, H0.size ≤ q → A q) (isC isR is2 : List Nat) (hC : isC.map (fun i => ws[i]?) = wc.map some) (hR : isR.map (fun i => ws[i]?) = wr.map some) (hn : va_nd isR = true) (hdis : ∀ i ∈ isR, i ∉ isC) (hn2 : va_nd is2 = true) (h2 : ∀ u, is2.map (fun i => (wr ++ w1 u)[i]?) = (w2 u).map some)
    (kk : ∀ (r : Int32) (u : S) (H1 : Heap) (locs1 : List Loc), post r u → va_P D vwCl (w2 u) H1 → va_D A (w2 u) → va_S A H0 H1 locs1 → W p l e R s m args below meth c H1 locs1 cells slots Q (F0 m (pc + 3) ls (.int r :: rest))) : W p l e R s m args below meth c H locs cells slots Q (F0 m pc ls st0) := by
  have hFc := va_free (wc := wc) hD hS hA isC hC
  refine va_calli hr hS (fun q _ h => hFc q h) hFc (fun r u t H1 locs1 ht hvm hw hB hz1 hk1 hS1 => ?_)
  obtain ⟨hP1, hK1, hD1⟩ := hB
  rw [ht] at hP1
  obtain ⟨hP2, hD2⟩ := va_join (wr := wr) (w1 := w1 u) hP hD isC isR hC hR hn hdis hk1 hFc hP1 hD1
  exact kk r u H1 locs1 hw (hP2.subM is2 (h2 u)) (hD2.sub is2 hn2 (h2 u)) hS1
theorem xcallv {post : S → Prop} {w1 w2 : S → va_W} {ws wc wr : va_W} {H0 : Heap} {rest st0 : List Value} {a : Array Value}
    (hr : va_Run p l e R s m args below meth c H locs cells slots 0 0 (F0 m pc ls st0) rest (va_Qv post (xB D cI cO (va_A wc H.size) w1) (va_A wc H.size) a) (va_A wc H.size))
    (hP : va_P D vwCl ws H) (hD : va_D A ws) (hS : va_S A H0 H locs) (hA : ∀ q : Nat, H0.size ≤ q → A q) (isC isR is2 : List Nat) (hC : isC.map (fun i => ws[i]?) = wc.map some) (hR : isR.map (fun i => ws[i]?) = wr.map some) (hn : va_nd isR = true) (hdis : ∀ i ∈ isR, i ∉ isC) (hn2 : va_nd is2 = true) (h2 : ∀ u, is2.map (fun i => (wr ++ w1 u)[i]?) = (w2 u).map some)
    (kk : ∀ (u : S) (H1 : Heap) (locs1 : List Loc), post u → va_P D vwCl (w2 u) H1 → va_D A (w2 u) → va_S A H0 H1 locs1 → W p l e R s m args below meth c H1 locs1 cells slots Q (F0 m (pc + 3) ls rest)) : W p l e R s m args below meth c H locs cells slots Q (F0 m pc ls st0) := by
  have hFc := va_free (wc := wc) hD hS hA isC hC
  refine va_callv hr hS (fun q _ h => hFc q h) hFc (fun u t H1 locs1 ht hvm hw hB hz1 hk1 hS1 => ?_)
  obtain ⟨hP1, hK1, hD1⟩ := hB
  rw [ht] at hP1
  obtain ⟨hP2, hD2⟩ := va_join (wr := wr) (w1 := w1 u) hP hD isC isR hC hR hn hdis hk1 hFc hP1 hD1
  exact kk u H1 locs1 hw (hP2.subM is2 (h2 u)) (hD2.sub is2 hn2 (h2 u)) hS1
theorem xpreP {tA tS : Nat} {ws wc : va_W} {av : List Value} (hP : va_P D vwCl ws H) (hD : va_D A ws) (hS : va_S A s.heap H locs) (hA : ∀ q : Nat, s.heap.size ≤ q → A q) (hK : va_K D vwCl (xT cI cO) s) (hE : xE tA tS A s s.heap) (isC : List Nat) (hC : isC.map (fun i => ws[i]?) = wc.map some) (hnC : va_nd isC = true) : PreS s H (xPre D cI cO tA tS av wc H.size) av := by
  refine ⟨fun a U g mk q => ?_, fun U hU hW => ?_⟩
  · obtain ⟨q0, q1, qP, qK, qD, qE⟩ := q
    exact ⟨q0, q1, qP, va_K.moved (u := U) (U := U.calling g mk a) (Vm.Alike.refl U.vm) qK, qD, xE.same (s := U) (U := U.calling g mk a) rfl qE⟩
  · have hE1 : xE tA tS A s H := hE.kept (fun a h1 h2 => hS.2.1 a h1 h2)
    have hE2 : xE tA tS (va_A wc H.size) s H := hE1.narrow (va_free (wc := wc) hD hS hA isC hC)
    exact ⟨rfl, by rw [hU], by rw [hU]; exact hP.subM isC hC, va_K.moved hW.alike hK, (hD.sub isC hnC hC).weaken (fun _ _ _ _ => trivial), by rw [hU]; exact hE2.warm hW⟩
theorem xpreV {tA tS : Nat} {ws wc : va_W} {b : Nat} {As : List Value} {Cn : String} {Tn : u_T} {Nn : Nat} {fs : List Value} (hP : va_P D vwCl ws H) (hD : va_D A ws) (hS : va_S A s.heap H locs) (hA : ∀ q : Nat, s.heap.size ≤ q → A q) (hK : va_K D vwCl (xT cI cO) s) (hE : xE tA tS A s s.heap) (isC : List Nat) (hC : isC.map (fun i => ws[i]?) = wc.map some) (hnC : va_nd isC = true) (ci q0 : Nat) (hc : vwCl[ci]? = some (Cn, Tn, Nn)) (he : ws[q0]? = some (b, .inr (ci, fs))) : PreV s H Cn b (xPre D cI cO tA tS (.ref b :: As) wc H.size) As :=
  ⟨(xpreP hP hD hS hA hK hE isC hC hnC).1, va_recv hK hP hc he, (xpreP (av := .ref b :: As) hP hD hS hA hK hE isC hC hnC).2⟩
end XA
