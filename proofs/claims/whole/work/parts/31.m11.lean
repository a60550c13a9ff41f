/-! ===== the class's count of runs ===== -/
theorem sm_drop {g : Nat → Nat} {p : Nat} : ∀ u, p < u → sm u (fun q => if q < p then 0 else g q) = sm u (fun q => if q < p + 1 then 0 else g q) + g p
  | 0, h => absurd h (by omega)
  | u + 1, h => by
    show sm u (fun q => if q < p then 0 else g q) + (if u < p then 0 else g u) = (sm u (fun q => if q < p + 1 then 0 else g q) + (if u < p + 1 then 0 else g u)) + g p
    by_cases e : p = u
    · subst e
      rw [if_neg (by omega), if_pos (by omega), sm_zero p (fun i hi => if_pos (by omega)), sm_zero p (fun i hi => if_pos (by omega))]
    · rw [sm_drop u (by omega), if_neg (by omega), if_neg (by omega)]
      omega
/-- the nodes of a tree in a row -/
def LY (t u : Nat) (nd fp : Nat → Nat) (z : CS) : Prop := 1 ≤ u ∧ u ≤ 7 ∧ nd 0 = t ∧ ∀ p, p < u → z 0 p = nI (nd p) ∧ nd p < 2278 ∧ (z 1 p = nI (fp p) ∧ fp p < 8) ∧ (0 < arN (TS (nd p)) → p < fp p ∧ fp p < u ∧ nd (fp p) = TA (nd p)) ∧ (1 < arN (TS (nd p)) → fp p + 1 < u ∧ nd (fp p + 1) = TB (nd p))
theorem s4_layOut {zT zC : CS} (hT : RT zT) {t : Nat} (ht : t < 2278) {post : Int32 → CS → Prop} (h : ∀ z u nd fp, LY t u nd fp z → post (nI u) z) : qX4_layOut post (nI t) zT zC := by
  have key : ∀ d u p (nd fp : Nat → Nat) (z : CS), p + d = 7 → p ≤ u → 1 ≤ u → nd 0 = t → u + sm u (fun q => if q < p then 0 else TZ (nd q) - 1) = TZ t → (∀ q, q < u → z 0 q = nI (nd q) ∧ nd q < 2278) →
      (∀ q, q < p → (z 1 q = nI (fp q) ∧ fp q < 8) ∧ (0 < arN (TS (nd q)) → q < fp q ∧ fp q < u ∧ nd (fp q) = TA (nd q)) ∧ (1 < arN (TS (nd q)) → fp q + 1 < u ∧ nd (fp q + 1) = TB (nd q))) → qX4_layOut_12 post (nI t) zT (d + 1) (nI u) (nI p) z := by
    have hz := (tabF ht).2.2.2.2.1
    intro d
    induction d with
    | zero =>
      intro u p nd fp z hp hpu hu h0 hs h1 h2
      show qX4_layOut_12b post _ zT _ _ _ _
      refine pk_le u p (fun _ => h z u nd fp ⟨hu, by omega, h0, fun q hq => ?_⟩) (fun h => absurd h (by omega))
      exact ⟨(h1 q hq).1, (h1 q hq).2, h2 q (by omega)⟩
    | succ d ih =>
      intro u p nd fp z hp hpu hu h0 hs h1 h2
      show qX4_layOut_12b post _ zT (qX4_layOut_12 post (nI t) zT (d + 1)) _ _ _
      refine pk_le u p (fun hle => h z u nd fp ⟨hu, by omega, h0, fun q hq => ?_⟩) (fun hlt => ?_)
      · exact ⟨(h1 q hq).1, (h1 q hq).2, h2 q (by omega)⟩
      · refine pk_le 7 p (fun h => absurd h (by omega)) (fun _ => ?_)
        obtain ⟨n0, n1⟩ := h1 p hlt
        have ip : vp_in (nI p) 7 := vp_in_nI (by omega) (by decide)
        have cp : (nI p).toNatClampNeg = p := nI_clamp (by omega)
        have cu : (nI u).toNatClampNeg = u := nI_clamp (by omega)
        have hd := sm_drop (g := fun q => TZ (nd q) - 1) u hlt
        rw [hd] at hs
        have mA := (tabF n1).2.1
        have mB := (tabF n1).2.2.1
        have hz1 := (tabF n1).2.2.2.1
        rw [cp, n0, e5_arityAt hT n1]
        refine ⟨ip, ip, ?_⟩
        have hle := arN_le (TS (nd p))
        obtain ⟨-, -, -, -, -, -, -, -, hc | hc | hc⟩ := tabF n1
        · rw [hc.1]
          refine pk_le 0 0 (fun _ => ?_) (fun h => absurd h (by omega)) rfl rfl
          refine pk_le 0 1 (fun _ => ?_) (fun h => absurd h (by omega)) rfl rfl
          show qX4_layOut_12 post _ zT (d + 1) _ (_ + _) _
          rw [nI_1]
          refine ih u (p + 1) nd (va_up fp p u) _ (by omega) (by omega) hu h0 (by omega) (fun q hq => h1 q hq) (fun q hq => ?_)
          rw [st_s]
          by_cases hqp : q = p
          · subst hqp
            exact ⟨⟨by rw [pk_us]; simp [va_up], by simp [va_up]; omega⟩, fun h => absurd h (by omega), fun h => absurd h (by omega)⟩
          · rw [pk_un hqp, show va_up fp p u q = fp q from if_neg hqp]
            exact h2 q (by omega)
        · have hzA := (tabF (show TA (nd p) < 2278 by omega)).2.2.2.1
          have hu7 : u < 7 := by omega
          rw [hc.1]
          refine pk_le 1 0 (fun h => absurd h (by omega)) (fun _ => pk_le 7 u (fun h => absurd h (by omega)) (fun _ => ⟨ip, ?_⟩)) rfl rfl
          rw [st_n _ _ _ (show (0 : Nat) ≠ 1 by decide), n0, e5_firstAt hT n1]
          refine ⟨vp_in_nI (by omega) (by decide), ?_⟩
          refine pk_le 1 1 (fun _ => ?_) (fun h => absurd h (by omega)) rfl rfl
          show qX4_layOut_12 post _ zT (d + 1) _ (_ + _) _
          rw [nI_1, nI_1, cu]
          refine ih (u + 1) (p + 1) (va_up nd u (TA (nd p))) (va_up fp p u) _ (by omega) (by omega) (by omega) ((show va_up nd u (TA (nd p)) 0 = nd 0 from if_neg (by omega)).trans h0) ?_ (fun q hq => ?_) (fun q hq => ?_)
          · show u + 1 + (sm u (fun q => if q < p + 1 then 0 else TZ (va_up nd u (TA (nd p)) q) - 1) + (if u < p + 1 then 0 else TZ (va_up nd u (TA (nd p)) u) - 1)) = TZ t
            rw [sm_congr u (g := fun q => if q < p + 1 then 0 else TZ (nd q) - 1) (fun i hi => by rw [show va_up nd u (TA (nd p)) i = nd i from if_neg (by omega)]), if_neg (by omega), show va_up nd u (TA (nd p)) u = TA (nd p) from if_pos rfl]
            omega
          · rw [st_s]
            by_cases hqu : q = u
            · subst hqu
              rw [pk_us, show va_up nd q (TA (nd p)) q = TA (nd p) from if_pos rfl]
              exact ⟨rfl, by omega⟩
            · rw [pk_un hqu, show va_up nd u (TA (nd p)) q = nd q from if_neg hqu]
              exact h1 q (by omega)
          · rw [st_n _ _ _ (show (1 : Nat) ≠ 0 by decide), st_s]
            by_cases hqp : q = p
            · subst hqp
              rw [show va_up fp q u q = u from if_pos rfl, show va_up nd u (TA (nd q)) q = nd q from if_neg (by omega), show va_up nd u (TA (nd q)) u = TA (nd q) from if_pos rfl]
              exact ⟨⟨by rw [pk_us], by omega⟩, fun _ => ⟨hlt, by omega, rfl⟩, fun h => absurd h (by omega)⟩
            · obtain ⟨f1, f2, f3⟩ := h2 q (by omega)
              rw [pk_un hqp, show va_up fp p u q = fp q from if_neg hqp, show va_up nd u (TA (nd p)) q = nd q from if_neg (by omega)]
              refine ⟨f1, fun hh => ?_, fun hh => ?_⟩
              · obtain ⟨g1, g2, g3⟩ := f2 hh
                rw [show va_up nd u (TA (nd p)) (fp q) = nd (fp q) from if_neg (by omega)]
                exact ⟨g1, by omega, g3⟩
              · obtain ⟨g1, g2⟩ := f3 hh
                rw [show va_up nd u (TA (nd p)) (fp q + 1) = nd (fp q + 1) from if_neg (by omega)]
                exact ⟨by omega, g2⟩
        · have hzA := (tabF (show TA (nd p) < 2278 by omega)).2.2.2.1
          have hzB := (tabF (show TB (nd p) < 2278 by omega)).2.2.2.1
          have hzp := hc.2.2.2.1
          have hu7 : u + 1 < 7 := by omega
          have cu1 : (nI (u + 1)).toNatClampNeg = u + 1 := nI_clamp (by omega)
          rw [hc.1]
          refine pk_le 2 0 (fun h => absurd h (by omega)) (fun _ => pk_le 7 u (fun h => absurd h (by omega)) (fun _ => ⟨ip, ?_⟩)) rfl rfl
          rw [st_n _ _ _ (show (0 : Nat) ≠ 1 by decide), n0, e5_firstAt hT n1, nI_1]
          refine ⟨vp_in_nI (by omega) (by decide), ?_⟩
          refine pk_le 2 1 (fun h => absurd h (by omega)) (fun _ => pk_le 7 (u + 1) (fun h => absurd h (by omega)) (fun _ => ⟨ip, ?_⟩)) rfl rfl
          rw [cp, cu, st_s, pk_un (by omega), st_n _ _ _ (show (0 : Nat) ≠ 1 by decide), n0, e5_secondAt hT n1]
          refine ⟨vp_in_nI (by omega) (by decide), ?_⟩
          show qX4_layOut_12 post _ zT (d + 1) _ (_ + _) _
          rw [nI_1, nI_1, cu1]
          refine ih (u + 1 + 1) (p + 1) (va_up (va_up nd u (TA (nd p))) (u + 1) (TB (nd p))) (va_up fp p u) _ (by omega) (by omega) (by omega) ?_ ?_ (fun q hq => ?_) (fun q hq => ?_)
          · rw [show va_up (va_up nd u (TA (nd p))) (u + 1) (TB (nd p)) 0 = va_up nd u (TA (nd p)) 0 from if_neg (by omega), show va_up nd u (TA (nd p)) 0 = nd 0 from if_neg (by omega)]
            exact h0
          · have ex : ∀ i, i < u → va_up (va_up nd u (TA (nd p))) (u + 1) (TB (nd p)) i = nd i := fun i hi => by
              rw [show va_up (va_up nd u (TA (nd p))) (u + 1) (TB (nd p)) i = va_up nd u (TA (nd p)) i from if_neg (by omega)]
              exact if_neg (by omega)
            have e1 : va_up (va_up nd u (TA (nd p))) (u + 1) (TB (nd p)) u = TA (nd p) := by
              rw [show va_up (va_up nd u (TA (nd p))) (u + 1) (TB (nd p)) u = va_up nd u (TA (nd p)) u from if_neg (by omega)]
              exact if_pos rfl
            have e2 : va_up (va_up nd u (TA (nd p))) (u + 1) (TB (nd p)) (u + 1) = TB (nd p) := if_pos rfl
            generalize va_up (va_up nd u (TA (nd p))) (u + 1) (TB (nd p)) = nd2 at ex e1 e2 ⊢
            show u + 1 + 1 + ((sm u (fun q => if q < p + 1 then 0 else TZ (nd2 q) - 1) + (if u < p + 1 then 0 else TZ (nd2 u) - 1)) + (if u + 1 < p + 1 then 0 else TZ (nd2 (u + 1)) - 1)) = TZ t
            rw [sm_congr u (g := fun q => if q < p + 1 then 0 else TZ (nd q) - 1) (fun i hi => by rw [ex i hi]), if_neg (by omega), if_neg (by omega), e1, e2]
            omega
          · rw [st_s, st_s, st_n _ _ _ (show (0 : Nat) ≠ 1 by decide)]
            by_cases hq1 : q = u + 1
            · subst hq1
              rw [pk_us, show va_up (va_up nd u (TA (nd p))) (u + 1) (TB (nd p)) (u + 1) = TB (nd p) from if_pos rfl]
              exact ⟨rfl, by omega⟩
            · rw [pk_un hq1, show va_up (va_up nd u (TA (nd p))) (u + 1) (TB (nd p)) q = va_up nd u (TA (nd p)) q from if_neg hq1]
              by_cases hqu : q = u
              · subst hqu
                rw [pk_us, show va_up nd q (TA (nd p)) q = TA (nd p) from if_pos rfl]
                exact ⟨rfl, by omega⟩
              · rw [pk_un hqu, show va_up nd u (TA (nd p)) q = nd q from if_neg hqu]
                exact h1 q (by omega)
          · have ex : ∀ i, i < u → va_up (va_up nd u (TA (nd p))) (u + 1) (TB (nd p)) i = nd i := fun i hi => by
              rw [show va_up (va_up nd u (TA (nd p))) (u + 1) (TB (nd p)) i = va_up nd u (TA (nd p)) i from if_neg (by omega)]
              exact if_neg (by omega)
            have e1 : va_up (va_up nd u (TA (nd p))) (u + 1) (TB (nd p)) u = TA (nd p) := by
              rw [show va_up (va_up nd u (TA (nd p))) (u + 1) (TB (nd p)) u = va_up nd u (TA (nd p)) u from if_neg (by omega)]
              exact if_pos rfl
            have e2 : va_up (va_up nd u (TA (nd p))) (u + 1) (TB (nd p)) (u + 1) = TB (nd p) := if_pos rfl
            generalize va_up (va_up nd u (TA (nd p))) (u + 1) (TB (nd p)) = nd2 at ex e1 e2 ⊢
            rw [st_n _ _ _ (show (1 : Nat) ≠ 0 by decide), st_n _ _ _ (show (1 : Nat) ≠ 0 by decide), st_s, ex q (by omega)]
            by_cases hqp : q = p
            · subst hqp
              rw [show va_up fp q u q = u from if_pos rfl]
              exact ⟨⟨by rw [pk_us], by omega⟩, fun _ => ⟨hlt, by omega, e1⟩, fun _ => ⟨by omega, e2⟩⟩
            · obtain ⟨f1, f2, f3⟩ := h2 q (by omega)
              rw [pk_un hqp, show va_up fp p u q = fp q from if_neg hqp]
              refine ⟨f1, fun hh => ?_, fun hh => ?_⟩
              · obtain ⟨g1, g2, g3⟩ := f2 hh
                rw [ex _ g2]
                exact ⟨g1, by omega, g3⟩
              · obtain ⟨g1, g2⟩ := f3 hh
                rw [ex _ g1]
                exact ⟨by omega, g2⟩
  refine ⟨pk_in 0 7 (by omega), 8, ?_⟩
  refine key 7 1 0 (fun _ => t) (fun _ => 0) _ (by omega) (by omega) (by omega) rfl ?_ (fun q hq => ?_) (fun q hq => absurd hq (by omega))
  · show 1 + (0 + (if 0 < 0 then 0 else TZ t - 1)) = TZ t
    have := (tabF ht).2.2.2.1
    simp
    omega
  · rw [show q = 0 by omega]
    exact ⟨rfl, ht⟩
