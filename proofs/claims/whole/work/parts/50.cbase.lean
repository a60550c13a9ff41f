/-! ===== constructors: what they need beside ===== -/
def z0 : CS := fun _ _ => 0
section XC
variable {p : Program} {l : Launch} {e : Env} {R : Room} {s : State} {m : MethodId} {args : Array Value} {below : List Frame} {meth : Method} {c : Code} {H : Heap} {locs : List Loc} {cells slots : Nat} {Q : State → Prop} {cc : ByteArray} {S : Type} {A : Nat → Prop} {D : va_G} {cI cO : ClassId} {pc : Nat} {ls : Array Slot} {rest : List Value}
theorem xnewa {ws : va_W} {H0 : Heap} {n : Int32} {N' : Nat} (hexec : p.tables.exec = Jvm.exec) (hb : c.code = cc) (harr : (Cond.arrayClass .int).before args s = true) (hK : va_K D vwCl (xT cI cO) s) (hP : va_P D vwCl ws H) (hD : va_D A ws) (hS : va_S A H0 H locs) (hA : ∀ q : Nat, H0.size ≤ q → A q)
    (hn : ¬ n < 0) (hN : n.toNatClampNeg = N') (hbytes : N' * componentBytes .int ≤ 536870912) (hcells : cells + 1 ≤ R.cells) (hslots : slots + N' ≤ R.slots) (hdg : decode cc pc = .ok (.newarray .int, 2))
    (kk : ∀ (q : Nat) (H1 : Heap), va_P D vwCl (ws ++ [(q, .inl (cI, N', .inl (fun _ => 0)))]) H1 → va_D A (ws ++ [(q, .inl (cI, N', .inl (fun _ => 0)))]) → va_S A H0 H1 locs →
      W p l e R s m args below meth c H1 locs (cells + 1) (slots + N') Q (F0 m (pc + 2) ls (.ref q :: rest))) : W p l e R s m args below meth c H locs cells slots Q (F0 m pc ls (.int n :: rest)) := by
  refine va_newa (atype := .int) (ty := .int) (a0 := (N', .inl (fun _ => 0))) hexec hb harr rfl hK hP hD hS hA (fun _ => rfl) hn hN hbytes hcells hslots hdg (fun q cA H1 hK1 hP1 hD1 hS1 => ?_)
  have e1 : s.vm.findClass ("[" ++ FieldType.int.toString) = some cA := (hK1.2 2 (cA, .int) rfl).2
  have e2 : s.vm.findClass ("[" ++ FieldType.int.toString) = some cI := (hK.2 0 (cI, .int) rfl).2
  have e3 : cA = cI := Option.some.inj (e1.symm.trans e2)
  rw [e3] at hP1 hD1
  exact kk q H1 hP1 hD1 hS1
theorem xnewq {ws : va_W} {H0 : Heap} {n : Int32} {N' index : Nat} {own : String} (hexec : p.tables.exec = Jvm.exec) (hb : c.code = cc) (hown : s.vm.findClass own = some m.cls) (hcl : (Cond.classLink own index "BrotherAutomata$RuleBook").before args s = true) (hover : va_AO "BrotherAutomata$RuleBook" s) (hK : va_K D vwCl (xT cI cO) s) (hP : va_P D vwCl ws H) (hD : va_D A ws) (hS : va_S A H0 H locs) (hA : ∀ q : Nat, H0.size ≤ q → A q)
    (hn : ¬ n < 0) (hN : n.toNatClampNeg = N') (hbytes : N' * 4 ≤ 536870912) (hcells : cells + 1 ≤ R.cells) (hslots : slots + N' ≤ R.slots) (hdg : decode cc pc = .ok (.anewarray index, 3))
    (kk : ∀ (q : Nat) (H1 : Heap), va_P D vwCl (ws ++ [(q, .inl (cO, N', .inr (.inr (.inr (.inr (fun _ => none))))))]) H1 → va_D A (ws ++ [(q, .inl (cO, N', .inr (.inr (.inr (.inr (fun _ => none))))))]) → va_S A H0 H1 locs →
      W p l e R s m args below meth c H1 locs (cells + 1) (slots + N') Q (F0 m (pc + 3) ls (.ref q :: rest))) : W p l e R s m args below meth c H locs cells slots Q (F0 m pc ls (.int n :: rest)) := by
  refine va_newq hexec hb hown hcl hover hK hP hD hS hA hn hN hbytes hcells hslots hdg (fun q cA H1 hK1 hP1 hD1 hS1 => ?_)
  obtain ⟨-, -, -, -, -, e1⟩ := (hK1.2 2 (cA, .object "BrotherAutomata$RuleBook") rfl).2
  obtain ⟨-, -, -, -, -, e2⟩ := (hK.2 1 (cO, .object "BrotherAutomata$RuleBook") rfl).2
  have e3 : cA = cO := Option.some.inj (e1.symm.trans e2)
  rw [e3] at hP1 hD1
  exact kk q H1 hP1 hD1 hS1
theorem xcallN {post : S → Prop} {w1 : S → va_W} {ws wc wr : va_W} {H0 : Heap} {st0 : List Value} {a : Array Value} {mc ms : Nat}
    (hr : va_Run p l e R s m args below meth c H locs cells slots mc ms (F0 m pc ls st0) rest (va_Qv post (xB D cI cO (va_A wc H.size) w1) (va_A wc H.size) a) (va_A wc H.size))
    (hP : va_P D vwCl ws H) (hD : va_D A ws) (hS : va_S A H0 H locs) (hA : ∀ q : Nat, H0.size ≤ q → A q) (isC isR : List Nat) (hC : isC.map (fun i => ws[i]?) = wc.map some) (hR : isR.map (fun i => ws[i]?) = wr.map some) (hn : va_nd isR = true) (hdis : ∀ i ∈ isR, i ∉ isC)
    (kk : ∀ (u : S) (H1 : Heap) (locs1 : List Loc), post u → va_P D vwCl (wr ++ w1 u) H1 → va_D A (wr ++ w1 u) → va_S A H0 H1 locs1 → W p l e R s m args below meth c H1 locs1 (cells + mc) (slots + ms) Q (F0 m (pc + 3) ls rest)) : W p l e R s m args below meth c H locs cells slots Q (F0 m pc ls st0) := by
  have hFc := va_free (wc := wc) hD hS hA isC hC
  refine va_callv hr hS (fun q _ h => hFc q h) hFc (fun u t H1 locs1 ht hvm hw hB hz1 hk1 hS1 => ?_)
  obtain ⟨hP1, hK1, hD1⟩ := hB
  rw [ht] at hP1
  obtain ⟨hP2, hD2⟩ := va_join (wr := wr) (w1 := w1 u) hP hD isC isR hC hR hn hdis hk1 hFc hP1 hD1
  exact kk u H1 locs1 hw hP2 hD2 hS1
def xPreO (D : va_G) (cI cO : ClassId) (tA tS : Nat) (av : List Value) (W0 : va_W) (sz : Nat) : Array Value → State → Prop :=
  va_Pc av (fun U => (U.heap.size = sz ∧ va_P D vwCl W0 U.heap ∧ va_K D vwCl (xT cI cO) U ∧ va_D (fun _ => True) W0 ∧ xE tA tS (va_A W0 sz) U U.heap) ∧ va_AO "BrotherAutomata$RuleBook" U)
theorem xpreO {tA tS : Nat} {ws wc : va_W} {av : List Value} (hO : va_AO "BrotherAutomata$RuleBook" s) (hP : va_P D vwCl ws H) (hD : va_D A ws) (hS : va_S A s.heap H locs) (hA : ∀ q : Nat, s.heap.size ≤ q → A q) (hK : va_K D vwCl (xT cI cO) s) (hE : xE tA tS A s s.heap) (isC : List Nat) (hC : isC.map (fun i => ws[i]?) = wc.map some) (hnC : va_nd isC = true) : PreS s H (xPreO D cI cO tA tS av wc H.size) av := by
  have hp := xpreP (av := av) hP hD hS hA hK hE isC hC hnC
  refine ⟨fun a U g mk q => ?_, fun U hU hW => ?_⟩
  · obtain ⟨q0, q1, q2⟩ := q
    obtain ⟨r0, r1⟩ := hp.1 a U g mk ⟨q0, q1⟩
    exact ⟨r0, r1, va_AO.moved (u := U) (U := U.calling g mk a) (Vm.Alike.refl U.vm) q2⟩
  · obtain ⟨r0, r1⟩ := hp.2 U hU hW
    exact ⟨r0, r1, hO.moved hW.alike⟩
end XC
theorem xMetO {l : Launch} {y : MethodName} {ws ws' : List Cond} {rm : Room} {cc : ByteArray} {maxL : Nat} {ret : Option FieldType} {av : List Value} {W0 : va_W} {sz mc ms : Nat} (D : va_G) (cI cO : ClassId) (tA tS : Nat) (Qf : (Nat → Prop) → Array Value → State → Outcome → State → Prop)
    (hy : plainName y.cls = true) (hw : ws = Cond.code y cc maxL ret :: ws') (hlen : (lg_sl av).length ≤ maxL)
    (body : ∀ (p : Program) (e : Env) (s : State) (m : MethodId) (below : List Frame) (meth : Method) (c : Code) (A : Nat → Prop) (ls : Array Slot), p.tables.exec = Jvm.exec → c.code = cc → meth.sig.returnType = ret → (∀ w ∈ ws, w.before av.toArray s = true) → s.vm.findClass y.cls = some m.cls → meth.locks = false → meth.name = y.name → c.maxLocals = maxL → (∀ q : Nat, s.heap.size ≤ q → A q) → va_S A s.heap s.heap [] → va_P D vwCl W0 s.heap → va_K D vwCl (xT cI cO) s → va_D A W0 → xE tA tS A s s.heap → va_AO "BrotherAutomata$RuleBook" s → lv_has ls maxL (lv_args 0 av) →
      W p l e rm s m av.toArray below meth c s.heap [] 0 0 (MQ below (Qf A) av.toArray s mc ms A) (F0 m 0 ls [])) :
    Met l y ws rm (xPreO D cI cO tA tS av W0 sz) (Qf (va_A W0 sz)) mc ms (va_A W0 sz) := by
  refine Met.ofW (cc := cc) (maxL := maxL) (ret := ret) hy hw ?_
  intro p e s m args below meth c s₁ B hml hv
  obtain ⟨rfl, ⟨hsz, hP, hK, hD0, hE⟩, hO⟩ := hv
  subst hsz
  have hown : s.vm.findClass y.cls = some m.cls := findClass_of_methodNamed B.named
  rw [lg_entry_eq]
  exact body p e s m below meth c (va_A W0 s.heap.size) _ B.exec B.bytes B.returns (atoms_spec B.pre) hown B.notSynchronized (name_of_methodNamed B.named B.method).1 hml (fun q h => Or.inr h) va_S.rf hP hK hD0.self hE hO (lv_entry av hlen)
theorem va_P.ring {D : va_G} {cl : List vw_C} {ws : va_W} {H : Heap} {k a : Nat} {cA : ClassId} {f g : Nat → Option Nat} (h : va_P D cl ws H) (hk : ws[k]? = some (a, .inl (cA, 5, .inr (.inr (.inr (.inr f)))))) (e : ∀ j : Nat, j < 5 → f j = g j) : va_P D cl (ws.set k (a, .inl (cA, 5, .inr (.inr (.inr (.inr g)))))) H := by
  intro i q hq
  rw [List.getElem?_set] at hq
  by_cases hi : k = i
  · subst hi
    have hl : k < ws.length := (List.getElem?_eq_some_iff.mp hk).1
    rw [if_pos rfl, if_pos hl] at hq
    cases hq
    have h1 : H[a]? = some (vp_cell cA (5, .inr (.inr (.inr (.inr f))))) := h k _ hk
    show H[a]? = some (vp_cell cA (5, .inr (.inr (.inr (.inr g)))))
    rw [h1]
    show some (arrV cA 5 (fun j => va_rf (f j))) = some (arrV cA 5 (fun j => va_rf (g j)))
    unfold arrV
    have : (fun j : Fin 5 => va_rf (f j.val)) = (fun j : Fin 5 => va_rf (g j.val)) := funext (fun j => by rw [e j.val j.isLt])
    rw [this]
  · rw [if_neg hi] at hq
    exact h i q hq
theorem va_D.ring {A : Nat → Prop} {ws : va_W} {k a : Nat} {cA : ClassId} {f g : Nat → Option Nat} (h : va_D A ws) (hk : ws[k]? = some (a, .inl (cA, 5, .inr (.inr (.inr (.inr f)))))) : va_D A (ws.set k (a, .inl (cA, 5, .inr (.inr (.inr (.inr g)))))) := by
  have key : ∀ (i : Nat) (q : Nat × va_E), (ws.set k (a, .inl (cA, 5, .inr (.inr (.inr (.inr g))))))[i]? = some q → ∃ q' : Nat × va_E, ws[i]? = some q' ∧ q'.1 = q.1 := by
    intro i q hq
    rw [List.getElem?_set] at hq
    by_cases hi : k = i
    · subst hi
      have hl : k < ws.length := (List.getElem?_eq_some_iff.mp hk).1
      rw [if_pos rfl, if_pos hl] at hq
      cases hq
      exact ⟨_, hk, rfl⟩
    · rw [if_neg hi] at hq
      exact ⟨q, hq, rfl⟩
  refine ⟨fun i j p q hi hj hpq => ?_, fun i q hi => ?_⟩
  · obtain ⟨p', e1, e2⟩ := key i p hi
    obtain ⟨q', e3, e4⟩ := key j q hj
    exact h.1 i j p' q' e1 e3 (by rw [e2, e4, hpq])
  · obtain ⟨q', e1, e2⟩ := key i q hi
    rw [← e2]
    exact h.2 i q' e1
theorem xQmono {p : Program} {l : Launch} {e : Env} {R : Room} {s : State} {m : MethodId} {args : Array Value} {below : List Frame} {meth : Method} {c : Code} {H : Heap} {locs : List Loc} {cells slots mc ms : Nat} {A : Nat → Prop} {D : va_G} {cI cO : ClassId} {g : JFrame} {S S' : Type} {post : S → Prop} {w : S → va_W} {post' : S' → Prop} {w' : S' → va_W} (f : S → S')
    (h : W p l e R s m args below meth c H locs cells slots (MQ below (va_Qv post (xB D cI cO A w) A) args s mc ms A) g) (hp : ∀ u, post u → post' (f u)) (hw : ∀ u, w u = w' (f u)) : W p l e R s m args below meth c H locs cells slots (MQ below (va_Qv post' (xB D cI cO A w') A) args s mc ms A) g := by
  intro T hT X
  obtain ⟨t, a, o, b1, b2, ⟨⟨u, e1, e2, e3, e4, e5⟩, b4⟩, b5⟩ := h T hT X
  refine ⟨t, a, o, b1, b2, ⟨⟨f u, e1, hp u e2, ?_, e4, ?_⟩, b4⟩, b5⟩
  · rw [← hw]; exact e3
  · rw [← hw]; exact e5
