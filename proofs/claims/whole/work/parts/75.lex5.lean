/-! a clause of each kind, up to its sign -/
def MID (N k : Nat) (ch : Nat → Nat) (tx : Nat → Int32) (s : Nat) (na fa fb : Int32) (C : tyC) (M : tyM) (tm : Option Int32) (row : Option (Int32 × Int32 × Int32 × Int32 × Int32 × Int32 × tyM)) (cls : Option (Int32 × Int32 × Int32 × Int32 × tyC)) (j189 : Int32 → Int32 → Int32 → Int32 → Option (Int32 × Int32 × Int32 × Int32 × tyC)) (addc : Int32 → Int32 → Option tyC) : Prop :=
  (tm = some 1 ∧ cls = some (3, nI s, nI s, na, C)) ∨
  (tm = some 0 ∧ ∃ (e q : Nat) (x na' a2 s2 o2 v2 : Int32) (M' : tyM), 1 ≤ e ∧ e ≤ 4 ∧ q ≤ k ∧ cls = some (nI e, x, nI q, na', C) ∧ row = some (a2, s2, o2, v2, nI e, x, M') ∧ FRt M M') ∨
  (tm = some 0 ∧ ∃ (q : Nat) (r71 x6 na' a2 o2 v2 : Int32) (M' : tyM) (C' : tyC), s < q ∧ q ≤ k ∧ cls = j189 r71 x6 (nI q) na' ∧ row = some (a2, nI (adk ch isB k q), o2, v2, 0, fb, M') ∧ TK N k ch tx (adk ch isB k q) a2 o2 v2 ∧ addc r71 x6 = some C' ∧ CVt C' M' ∧ FRt M M')
theorem CVt_mk {P Wn Q W : Nat} {cp cm cw cq ci ct cwi : Int32} {cr cn ca cc cs ce : Nat → Int32} {hI : Int32} {mp mr mw wm mm per ag su it wi wf wl : Nat → Int32} (h : CVx P Wn Q W cp cm cw cq ci ct cwi cr cn ca cc cs ce hI mp mr mw wm mm per ag su it wi wf wl) : CVt (cp, cm, cw, cq, ci, ct, cwi, cr, cn, ca, cc, cs, ce) (hI, mp, mr, mw, wm, mm, per, ag, su, it, wi, wf, wl) := ⟨P, Wn, Q, W, h⟩
theorem FRt_mk {hI hI' : Int32} {mp mr mw wm mm per ag su it wi wf wl mp' mr' mw' wm' mm' per' ag' su' it' wi' wf' wl' : Nat → Int32} (h : FRx mp mr mw mm per it wi wf wl mp' mr' mw' mm' per' it' wi' wf' wl') : FRt (hI, mp, mr, mw, wm, mm, per, ag, su, it, wi, wf, wl) (hI', mp', mr', mw', wm', mm', per', ag', su', it', wi', wf', wl') := h
theorem e12 {e : Int32} (h : e = 1 ∨ e = 2) : ∃ n : Nat, 1 ≤ n ∧ n ≤ 4 ∧ e = nI n ∧ e ≠ 0 := by
  rcases h with rfl | rfl
  · exact ⟨1, by omega, by omega, rfl, by decide⟩
  · exact ⟨2, by omega, by omega, rfl, by decide⟩
theorem rate_b {a b : Nat} (h1 : 1 ≤ a) (h2 : a ≤ 9) (h3 : 1 ≤ b) (h4 : b ≤ 6) : 10 ≤ 60 * a / b ∧ 60 * a / b ≤ 540 := by
  rcases (show b = 1 ∨ b = 2 ∨ b = 3 ∨ b = 4 ∨ b = 5 ∨ b = 6 by omega) with rfl | rfl | rfl | rfl | rfl | rfl <;> omega
theorem FR_un {n : Nat} {f : Nat → Int32} {c j : Nat} {x : Int32} (hj : j < n) (hc : n ≤ c) : upd f c x j = f j := pk_un (by omega)

theorem mid_part (N : Nat) (hN : 1000 ≤ N) {k : Nat} {ch : Nat → Nat} {tx mx : Nat → Int32} (hT : TX k ch tx mx) {s e1 : Nat} (hse : s < e1) (he1 : e1 ≤ k) (fa na fb : Int32) (cp cm cw cq ci ct cwi : Int32) (cr cn ca cc cs ce : Nat → Int32) (hI : Int32) (mp mr mw wm mm per ag su it wi wf wl : Nat → Int32) {P Wn Q W : Nat} (hCV : CVx P Wn Q W cp cm cw cq ci ct cwi cr cn ca cc cs ce hI mp mr mw wm mm per ag su it wi wf wl) {a1 o1 v1 : Int32} (hK : TK N k ch tx (adk ch isB k e1) a1 o1 v1) (h1 : f3_wordEnd N (nI s) (nI k) tx = some (nI e1)) (h2 : f3_clauseOf N (nI s) (nI e1) tx = some 1) :
    MID N k ch tx s na fa fb (cp, cm, cw, cq, ci, ct, cwi, cr, cn, ca, cc, cs, ce) (hI, mp, mr, mw, wm, mm, per, ag, su, it, wi, wf, wl) (f9_isTooMany N 0 hI mp wm per wi) (f9_readRow N 0 (nI k) a1 (nI (adk ch isB k e1)) o1 v1 0 fb hI mx mp mr mw wm mm per ag su it wi wf wl) (f3_readClause N 0 fa (nI s) (nI k) na tx cp cm cw cq ci ct cwi cr cn ca cc cs ce) (fun r71 x6 at' num => f3_readClause_J189 N (nI k) tx cp cm cw cq ci ct cwi cr cn ca cc cs ce 1 r71 x6 at' num 0 fa) (fun a b => f3_addClause N 1 a b cp cm cw cq ci ct cwi cr cn ca cc cs ce) := by
  have hk := hT.1
  have hCV0 := hCV
  obtain ⟨⟨hP, c1, c2⟩, ⟨hWn, c3, c4⟩, ⟨hQ, c5, c6⟩, ⟨hW, c7, c8⟩, c9, ⟨i, hi, c10, c11⟩, ⟨c12, c13⟩, cP, cQ, cW⟩ := hCV
  by_cases hfull : P = 7
  · left
    refine ⟨?_, rc_full N _ _ _ _ _ cp cm cw cq ci ct cwi cr cn ca cc cs ce h1 h2 (by decide) ?_⟩
    · unfold f9_isTooMany
      rw [if_pos rfl, gi_ok (i := 1) (by decide) (by decide), n_1, c2, hfull]
      rfl
    · unfold f3_isFull
      rw [if_pos rfl, c1, hfull]
      rfl
  right
  have tm0 : f9_isTooMany N 0 hI mp wm per wi = some 0 := by
    unfold f9_isTooMany
    rw [if_pos rfl, gi_ok (i := 1) (by decide) (by decide), n_1, c2, if_neg (ne_lit (x := 7) (b := 7) rfl (by omega) (by omega) hfull)]
  have cl0 : f3_isFull N 1 cp cw cq ct cwi = some 0 := by
    unfold f3_isFull
    rw [if_pos rfl, c1, if_pos (by rw [t_lt, t_7, t_nI (by omega)]; omega)]
  rcases num_both N hN hT he1 hK 1 9 (by decide) (by decide) 0 fa na fb with ⟨v, q, a2, o2, v2, hv, hv1, hv2, hpq, hq, n1, n2, hK2, -, -⟩ | ⟨e, vc, q, he, hq, n1, n2, -⟩
  · have g1 := rc_go N _ _ _ _ _ cp cm cw cq ci ct cwi cr cn ca cc cs ce h1 h2 (by decide) cl0 rfl rfl n1 (Or.inr (by decide))
    rcases num_both N hN hT hq hK2 1 6 (by decide) (by decide) 0 fa (nI (adk ch isB k e1)) fb with ⟨v', q', a3, o3, v3, hw, hw1, hw2, hpq', hq', m1, m2, hK3, -, -⟩ | ⟨e, vc, q', he, hq', m1, m2, -⟩
    · right
      have hv1' : 1 ≤ v := by rw [t_1] at hv1; omega
      have hv2' : v ≤ 9 := by have h9 : (9 : Int32).toInt = 9 := rfl; rw [h9] at hv2; omega
      have hw1' : 1 ≤ v' := by rw [t_1] at hw1; omega
      have hw2' : v' ≤ 6 := by rw [t_6] at hw2; omega
      obtain ⟨b1, b2⟩ := rate_b hv1' hv2' hw1' hw2'
      have val : (60 : Int32) * nI v / nI v' = nI (60 * v / v') := by
        rw [l_60, pk_mul, pk_div (by omega) (by omega) (by omega)]
      refine ⟨tm0, q', nI v, nI v', nI (adk ch isB k q), a3, o3, v3, (hI, upd mp 1 (nI (P + 1)), upd mr (7 + P) (nI (60 * v / v')), upd mw (7 + P) 0, wm, mm, per, ag, su, it, wi, wf, wl), (nI (P + 1), cm, cw, cq, ci, ct, cwi, upd cr P (nI (60 * v / v')), upd cn P 0, ca, cc, cs, ce), by omega, hq', ?_, ?_, hK3, ?_, ?_, ?_⟩
      · rw [g1, J107_two N _ _ cp cm cw cq ci ct cwi cr cn ca cc cs ce _ _ _ _ _ _ _ (by decide) (by decide) rfl rfl m1, J149_no N _ _ cp cm cw cq ci ct cwi cr cn ca cc cs ce _ _ _ _ _ _ (by decide)]
      · unfold f9_readRow
        rw [if_pos rfl, n2, ob7_k, m2, ob7_k, if_pos rfl, gi_ok (i := 1) (by decide) (by decide), gz_ok (nI_ne0 (by omega) (by omega)), n_1, c2, l_7, nI_add, x_gi (by omega) (by omega), gi_ok (i := 1) (by decide) (by decide), x_gi (by omega) (by omega), gi_ok (i := 1) (by decide) (by decide), gi_ok (i := 1) (by decide) (by decide), nI_1, cl_nI (by omega), val]
      · show f3_addClause N 1 (nI v) (nI v') cp cm cw cq ci ct cwi cr cn ca cc cs ce = _
        unfold f3_addClause f0_addPart
        rw [if_pos rfl, c1, if_neg (nI_pos (by omega)), if_neg (by rw [t_le, t_7, t_nI (by omega)]; omega), if_neg (nI_nle (by omega) (by omega)), gz_ok (nI_ne0 (by omega) (by omega)), x_gi (by omega) (by omega), x_gi (by omega) (by omega), nI_1, cl_nI (by omega), val]
        rfl
      · refine CVt_mk (P := P + 1) (Wn := Wn) (Q := Q) (W := W) ⟨⟨by omega, rfl, pk_us⟩, ⟨hWn, c3, c4⟩, ⟨hQ, c5, c6⟩, ⟨hW, c7, c8⟩, c9, ⟨i, hi, c10, c11⟩, ⟨c12, c13⟩, fun p hp => ?_, cQ, cW⟩
        show upd cr P (nI (60 * v / v')) p = upd mr (7 + P) (nI (60 * v / v')) (7 + p) ∧ upd cn P 0 p = upd mw (7 + P) 0 (7 + p) ∧ 10 ≤ (upd mr (7 + P) (nI (60 * v / v')) (7 + p)).toInt ∧ (upd mr (7 + P) (nI (60 * v / v')) (7 + p)).toInt ≤ 540
        by_cases z : p = P
        · subst z
          rw [pk_us, pk_us, pk_us, pk_us, t_nI (by omega)]
          exact ⟨rfl, rfl, by omega, by omega⟩
        · rw [pk_un z, pk_un z, pk_un (by omega), pk_un (by omega)]
          exact cP p (by omega)
      · exact FRt_mk ⟨pk_un (by omega), fun j hj => ⟨pk_un (by omega), pk_un (by omega)⟩, rfl, rfl, rfl, rfl, fun _ _ => ⟨rfl, rfl⟩⟩
    · left
      obtain ⟨n, k1, k2, k3, k4⟩ := e12 he
      refine ⟨tm0, n, q', nI (adk ch isB k q), nI (adk ch isB k q), a2, nI (adk ch isB k q), o2, v2, (hI, mp, mr, mw, wm, mm, per, ag, su, it, wi, wf, wl), k1, k2, hq', ?_, ?_, FRt_refl _⟩
      · rw [g1, J107_two N _ _ cp cm cw cq ci ct cwi cr cn ca cc cs ce _ _ _ _ _ _ _ (by decide) (by decide) rfl rfl m1, J149_bad N _ _ cp cm cw cq ci ct cwi cr cn ca cc cs ce _ _ _ _ _ _ _ k4, k3]
      · unfold f9_readRow
        rw [if_pos rfl, n2, ob7_k, m2, ob7_k, if_neg k4, k3]
  · left
    obtain ⟨n, k1, k2, k3, k4⟩ := e12 he
    have g1 := rc_go N _ _ _ _ _ cp cm cw cq ci ct cwi cr cn ca cc cs ce h1 h2 (by decide) cl0 rfl rfl n1 (Or.inl k4)
    refine ⟨tm0, n, q, nI (adk ch isB k e1), nI (adk ch isB k e1), a1, nI (adk ch isB k e1), o1, v1, (hI, mp, mr, mw, wm, mm, per, ag, su, it, wi, wf, wl), k1, k2, hq, ?_, ?_, FRt_refl _⟩
    · rw [g1, J107_bad N _ _ cp cm cw cq ci ct cwi cr cn ca cc cs ce _ _ _ _ _ _ k4, k3]
    · unfold f9_readRow
      rw [if_pos rfl, n2, ob7_k, num_bad N _ _ _ _ _ _ _ _ _ _ k4, ob7_k, if_neg k4, k3]
theorem mid_person (N : Nat) (hN : 1000 ≤ N) {k : Nat} {ch : Nat → Nat} {tx mx : Nat → Int32} (hT : TX k ch tx mx) {s e1 : Nat} (hse : s < e1) (he1 : e1 ≤ k) (fa na fb : Int32) (cp cm cw cq ci ct cwi : Int32) (cr cn ca cc cs ce : Nat → Int32) (hI : Int32) (mp mr mw wm mm per ag su it wi wf wl : Nat → Int32) {P Wn Q W : Nat} (hCV : CVx P Wn Q W cp cm cw cq ci ct cwi cr cn ca cc cs ce hI mp mr mw wm mm per ag su it wi wf wl) {a1 o1 v1 : Int32} (hK : TK N k ch tx (adk ch isB k e1) a1 o1 v1) (h1 : f3_wordEnd N (nI s) (nI k) tx = some (nI e1)) (h2 : f3_clauseOf N (nI s) (nI e1) tx = some 4) :
    MID N k ch tx s na fa fb (cp, cm, cw, cq, ci, ct, cwi, cr, cn, ca, cc, cs, ce) (hI, mp, mr, mw, wm, mm, per, ag, su, it, wi, wf, wl) (f9_isTooMany N 3 hI mp wm per wi) (f9_readRow N 3 (nI k) a1 (nI (adk ch isB k e1)) o1 v1 0 fb hI mx mp mr mw wm mm per ag su it wi wf wl) (f3_readClause N 0 fa (nI s) (nI k) na tx cp cm cw cq ci ct cwi cr cn ca cc cs ce) (fun r71 x6 at' num => f3_readClause_J189 N (nI k) tx cp cm cw cq ci ct cwi cr cn ca cc cs ce 4 r71 x6 at' num 0 fa) (fun a b => f3_addClause N 4 a b cp cm cw cq ci ct cwi cr cn ca cc cs ce) := by
  have hk := hT.1
  have hCV0 := hCV
  obtain ⟨⟨hP, c1, c2⟩, ⟨hWn, c3, c4⟩, ⟨hQ, c5, c6⟩, ⟨hW, c7, c8⟩, c9, ⟨i, hi, c10, c11⟩, ⟨c12, c13⟩, cP, cQ, cW⟩ := hCV
  by_cases hfull : Q = 6
  · left
    refine ⟨?_, rc_full N _ _ _ _ _ cp cm cw cq ci ct cwi cr cn ca cc cs ce h1 h2 (by decide) ?_⟩
    · unfold f9_isTooMany
      rw [if_neg (by decide), if_neg (by decide), if_neg (by decide), if_pos rfl, gi_ok (i := 1) (by decide) (by decide), n_1, c6, hfull]
      rfl
    · unfold f3_isFull
      rw [if_neg (by decide), if_neg (by decide), if_neg (by decide), if_pos rfl, c5, hfull]
      rfl
  right
  have tm0 : f9_isTooMany N 3 hI mp wm per wi = some 0 := by
    unfold f9_isTooMany
    rw [if_neg (by decide), if_neg (by decide), if_neg (by decide), if_pos rfl, gi_ok (i := 1) (by decide) (by decide), n_1, c6, if_neg (ne_lit (x := 6) (b := 6) rfl (by omega) (by omega) hfull)]
  have cl0 : f3_isFull N 4 cp cw cq ct cwi = some 0 := by
    unfold f3_isFull
    rw [if_neg (by decide), if_neg (by decide), if_neg (by decide), if_pos rfl, c5, if_pos (by rw [t_lt, t_6, t_nI (by omega)]; omega)]
  rcases num_both N hN hT he1 hK 0 99 (by decide) (by decide) 0 fa na fb with ⟨v, q, a2, o2, v2, hv, hv1, hv2, hpq, hq, n1, n2, hK2, -, -⟩ | ⟨e, vc, q, he, hq, n1, n2, -⟩
  · have g1 := rc_go N _ _ _ _ _ cp cm cw cq ci ct cwi cr cn ca cc cs ce h1 h2 (by decide) cl0 rfl rfl n1 (Or.inr (by decide))
    rcases num_both N hN hT hq hK2 0 999 (by decide) (by decide) 0 fa (nI (adk ch isB k e1)) fb with ⟨v', q', a3, o3, v3, hw, hw1, hw2, hpq', hq', m1, m2, hK3, -, -⟩ | ⟨e, vc, q', he, hq', m1, m2, -⟩
    · right
      have hw2' : v' ≤ 999 := hw
      refine ⟨tm0, q', nI v, nI v', nI (adk ch isB k q), a3, o3, v3, (hI, mp, mr, mw, wm, mm, upd per 1 (nI (Q + 1)), upd ag (6 + Q) (nI v), upd su (6 + Q) (nI v'), it, wi, wf, wl), (cp, cm, cw, nI (Q + 1), ci, ct, cwi, cr, cn, upd ca Q (60 * nI v), upd cc Q (nI v'), cs, ce), by omega, hq', ?_, ?_, hK3, ?_, ?_, ?_⟩
      · rw [g1, J107_two N _ _ cp cm cw cq ci ct cwi cr cn ca cc cs ce _ _ _ _ _ _ _ (by decide) (by decide) rfl rfl m1, J149_no N _ _ cp cm cw cq ci ct cwi cr cn ca cc cs ce _ _ _ _ _ _ (by decide)]
      · have l6 : (6 : Int32) = nI 6 := rfl
        unfold f9_readRow
        rw [if_neg (by decide), if_neg (by decide), if_neg (by decide), if_pos rfl, gi_ok (i := 1) (by decide) (by decide), n2, ob7_k, m2, ob7_k, if_pos rfl, n_1, c6, l6, nI_add, x_gi (by omega) (by omega), x_gi (by omega) (by omega), gi_ok (i := 1) (by decide) (by decide), gi_ok (i := 1) (by decide) (by decide), nI_1, cl_nI (by omega)]
      · show f3_addClause N 4 (nI v) (nI v') cp cm cw cq ci ct cwi cr cn ca cc cs ce = _
        unfold f3_addClause f0_addPerson
        rw [if_neg (by decide), if_neg (by decide), if_neg (by decide), if_pos rfl, c5, if_neg (nI_pos (by omega)), if_neg (by rw [t_le, t_6, t_nI (by omega)]; omega), x_gi (by omega) (by omega), x_gi (by omega) (by omega), nI_1, cl_nI (by omega)]
        rfl
      · refine CVt_mk (P := P) (Wn := Wn) (Q := Q + 1) (W := W) ⟨⟨hP, c1, c2⟩, ⟨hWn, c3, c4⟩, ⟨by omega, rfl, pk_us⟩, ⟨hW, c7, c8⟩, c9, ⟨i, hi, c10, c11⟩, ⟨c12, c13⟩, cP, fun p hp => ?_, cW⟩
        show ∃ c : Nat, c ≤ 999 ∧ upd ca Q (60 * nI v) p = 60 * upd ag (6 + Q) (nI v) (6 + p) ∧ upd cc Q (nI v') p = nI c ∧ upd su (6 + Q) (nI v') (6 + p) = nI c
        by_cases z : p = Q
        · subst z
          rw [pk_us, pk_us, pk_us, pk_us]
          exact ⟨v', hw2', rfl, rfl, rfl⟩
        · rw [pk_un z, pk_un z, pk_un (by omega), pk_un (by omega)]
          exact cQ p (by omega)
      · exact FRt_mk ⟨rfl, fun j hj => ⟨rfl, rfl⟩, rfl, pk_un (by omega), rfl, rfl, fun _ _ => ⟨rfl, rfl⟩⟩
    · left
      obtain ⟨n, k1, k2, k3, k4⟩ := e12 he
      refine ⟨tm0, n, q', nI (adk ch isB k q), nI (adk ch isB k q), a2, nI (adk ch isB k q), o2, v2, (hI, mp, mr, mw, wm, mm, per, ag, su, it, wi, wf, wl), k1, k2, hq', ?_, ?_, FRt_refl _⟩
      · rw [g1, J107_two N _ _ cp cm cw cq ci ct cwi cr cn ca cc cs ce _ _ _ _ _ _ _ (by decide) (by decide) rfl rfl m1, J149_bad N _ _ cp cm cw cq ci ct cwi cr cn ca cc cs ce _ _ _ _ _ _ _ k4, k3]
      · unfold f9_readRow
        rw [if_neg (by decide), if_neg (by decide), if_neg (by decide), if_pos rfl, gi_ok (i := 1) (by decide) (by decide), n2, ob7_k, m2, ob7_k, if_neg k4, k3]
  · left
    obtain ⟨n, k1, k2, k3, k4⟩ := e12 he
    have g1 := rc_go N _ _ _ _ _ cp cm cw cq ci ct cwi cr cn ca cc cs ce h1 h2 (by decide) cl0 rfl rfl n1 (Or.inl k4)
    refine ⟨tm0, n, q, nI (adk ch isB k e1), nI (adk ch isB k e1), a1, nI (adk ch isB k e1), o1, v1, (hI, mp, mr, mw, wm, mm, per, ag, su, it, wi, wf, wl), k1, k2, hq, ?_, ?_, FRt_refl _⟩
    · rw [g1, J107_bad N _ _ cp cm cw cq ci ct cwi cr cn ca cc cs ce _ _ _ _ _ _ k4, k3]
    · unfold f9_readRow
      rw [if_neg (by decide), if_neg (by decide), if_neg (by decide), if_pos rfl, gi_ok (i := 1) (by decide) (by decide), n2, ob7_k, num_bad N _ _ _ _ _ _ _ _ _ _ k4, ob7_k, if_neg k4, k3]
theorem mid_winter (N : Nat) (hN : 1000 ≤ N) {k : Nat} {ch : Nat → Nat} {tx mx : Nat → Int32} (hT : TX k ch tx mx) {s e1 : Nat} (hse : s < e1) (he1 : e1 ≤ k) (fa na fb : Int32) (cp cm cw cq ci ct cwi : Int32) (cr cn ca cc cs ce : Nat → Int32) (hI : Int32) (mp mr mw wm mm per ag su it wi wf wl : Nat → Int32) {P Wn Q W : Nat} (hCV : CVx P Wn Q W cp cm cw cq ci ct cwi cr cn ca cc cs ce hI mp mr mw wm mm per ag su it wi wf wl) {a1 o1 v1 : Int32} (hK : TK N k ch tx (adk ch isB k e1) a1 o1 v1) (h1 : f3_wordEnd N (nI s) (nI k) tx = some (nI e1)) (h2 : f3_clauseOf N (nI s) (nI e1) tx = some 6) :
    MID N k ch tx s na fa fb (cp, cm, cw, cq, ci, ct, cwi, cr, cn, ca, cc, cs, ce) (hI, mp, mr, mw, wm, mm, per, ag, su, it, wi, wf, wl) (f9_isTooMany N 5 hI mp wm per wi) (f9_readRow N 5 (nI k) a1 (nI (adk ch isB k e1)) o1 v1 0 fb hI mx mp mr mw wm mm per ag su it wi wf wl) (f3_readClause N 0 fa (nI s) (nI k) na tx cp cm cw cq ci ct cwi cr cn ca cc cs ce) (fun r71 x6 at' num => f3_readClause_J189 N (nI k) tx cp cm cw cq ci ct cwi cr cn ca cc cs ce 6 r71 x6 at' num 0 fa) (fun a b => f3_addClause N 6 a b cp cm cw cq ci ct cwi cr cn ca cc cs ce) := by
  have hk := hT.1
  have hCV0 := hCV
  obtain ⟨⟨hP, c1, c2⟩, ⟨hWn, c3, c4⟩, ⟨hQ, c5, c6⟩, ⟨hW, c7, c8⟩, c9, ⟨i, hi, c10, c11⟩, ⟨c12, c13⟩, cP, cQ, cW⟩ := hCV
  by_cases hfull : W = 5
  · left
    refine ⟨?_, rc_full N _ _ _ _ _ cp cm cw cq ci ct cwi cr cn ca cc cs ce h1 h2 (by decide) ?_⟩
    · unfold f9_isTooMany
      rw [if_neg (by decide), if_neg (by decide), if_neg (by decide), if_neg (by decide), if_neg (by decide), if_pos rfl, gi_ok (i := 1) (by decide) (by decide), n_1, c8, hfull]
      rfl
    · unfold f3_isFull
      rw [if_neg (by decide), if_neg (by decide), if_neg (by decide), if_neg (by decide), if_neg (by decide), if_pos rfl, c7, hfull]
      rfl
  right
  have tm0 : f9_isTooMany N 5 hI mp wm per wi = some 0 := by
    unfold f9_isTooMany
    rw [if_neg (by decide), if_neg (by decide), if_neg (by decide), if_neg (by decide), if_neg (by decide), if_pos rfl, gi_ok (i := 1) (by decide) (by decide), n_1, c8, if_neg (ne_lit (x := 5) (b := 5) rfl (by omega) (by omega) hfull)]
  have cl0 : f3_isFull N 6 cp cw cq ct cwi = some 0 := by
    unfold f3_isFull
    rw [if_neg (by decide), if_neg (by decide), if_neg (by decide), if_neg (by decide), if_neg (by decide), if_pos rfl, c7, if_pos (by rw [t_lt, t_5, t_nI (by omega)]; omega)]
  rcases num_both N hN hT he1 hK 0 90 (by decide) (by decide) 0 fa na fb with ⟨v, q, a2, o2, v2, hv, hv1, hv2, hpq, hq, n1, n2, hK2, -, -⟩ | ⟨e, vc, q, he, hq, n1, n2, -⟩
  · have g1 := rc_go N _ _ _ _ _ cp cm cw cq ci ct cwi cr cn ca cc cs ce h1 h2 (by decide) cl0 rfl rfl n1 (Or.inr (by decide))
    rcases num_both N hN hT hq hK2 1 9 (by decide) (by decide) 0 fa (nI (adk ch isB k e1)) fb with ⟨v', q', a3, o3, v3, hw, hw1, hw2, hpq', hq', m1, m2, hK3, -, -⟩ | ⟨e, vc, q', he, hq', m1, m2, -⟩
    · right
      have hv2' : v ≤ 90 := by have h9 : (90 : Int32).toInt = 90 := rfl; rw [h9] at hv2; omega
      have hw1' : 1 ≤ v' := by rw [t_1] at hw1; omega
      have hw2' : v' ≤ 9 := by have h9 : (9 : Int32).toInt = 9 := rfl; rw [h9] at hw2; omega
      refine ⟨tm0, q', nI v, nI v', nI (adk ch isB k q), a3, o3, v3, (hI, mp, mr, mw, wm, mm, per, ag, su, it, upd wi 1 (nI (W + 1)), upd wf (5 + W) (nI v), upd wl (5 + W) (nI v')), (cp, cm, cw, cq, ci, ct, nI (W + 1), cr, cn, ca, cc, upd cs W (nI (60 * v)), upd ce W (nI (60 * (v + v')))), by omega, hq', ?_, ?_, hK3, ?_, ?_, ?_⟩
      · rw [g1, J107_two N _ _ cp cm cw cq ci ct cwi cr cn ca cc cs ce _ _ _ _ _ _ _ (by decide) (by decide) rfl rfl m1, J149_no N _ _ cp cm cw cq ci ct cwi cr cn ca cc cs ce _ _ _ _ _ _ (by decide)]
      · have l5 : (5 : Int32) = nI 5 := rfl
        unfold f9_readRow
        rw [if_neg (by decide), if_neg (by decide), if_neg (by decide), if_neg (by decide), if_neg (by decide), gi_ok (i := 1) (by decide) (by decide), n2, ob7_k, m2, ob7_k, if_pos rfl, n_1, c8, l5, nI_add, x_gi (by omega) (by omega), x_gi (by omega) (by omega), gi_ok (i := 1) (by decide) (by decide), gi_ok (i := 1) (by decide) (by decide), nI_1, cl_nI (by omega)]
      · show f3_addClause N 6 (nI v) (nI v') cp cm cw cq ci ct cwi cr cn ca cc cs ce = _
        unfold f3_addClause f0_addWinter
        rw [if_neg (by decide), if_neg (by decide), if_neg (by decide), if_neg (by decide), if_neg (by decide), c7, if_neg (nI_pos (by omega)), if_neg (by rw [t_le, t_5, t_nI (by omega)]; omega), x_gi (by omega) (by omega), x_gi (by omega) (by omega), nI_1, cl_nI (by omega), l_60, nI_add, pk_mul, pk_mul]
        rfl
      · refine CVt_mk (P := P) (Wn := Wn) (Q := Q) (W := W + 1) ⟨⟨hP, c1, c2⟩, ⟨hWn, c3, c4⟩, ⟨hQ, c5, c6⟩, ⟨by omega, rfl, pk_us⟩, c9, ⟨i, hi, c10, c11⟩, ⟨c12, c13⟩, cP, cQ, fun p hp => ?_⟩
        show ∃ f l : Nat, f ≤ 90 ∧ 1 ≤ l ∧ l ≤ 9 ∧ upd wf (5 + W) (nI v) (5 + p) = nI f ∧ upd wl (5 + W) (nI v') (5 + p) = nI l ∧ upd cs W (nI (60 * v)) p = nI (60 * f) ∧ upd ce W (nI (60 * (v + v'))) p = nI (60 * (f + l))
        by_cases z : p = W
        · subst z
          rw [pk_us, pk_us, pk_us, pk_us]
          exact ⟨v, v', hv2', hw1', hw2', rfl, rfl, rfl, rfl⟩
        · rw [pk_un z, pk_un z, pk_un (by omega), pk_un (by omega)]
          exact cW p (by omega)
      · exact FRt_mk ⟨rfl, fun j hj => ⟨rfl, rfl⟩, rfl, rfl, rfl, pk_un (by omega), fun j hj => ⟨pk_un (by omega), pk_un (by omega)⟩⟩
    · left
      obtain ⟨n, k1, k2, k3, k4⟩ := e12 he
      refine ⟨tm0, n, q', nI (adk ch isB k q), nI (adk ch isB k q), a2, nI (adk ch isB k q), o2, v2, (hI, mp, mr, mw, wm, mm, per, ag, su, it, wi, wf, wl), k1, k2, hq', ?_, ?_, FRt_refl _⟩
      · rw [g1, J107_two N _ _ cp cm cw cq ci ct cwi cr cn ca cc cs ce _ _ _ _ _ _ _ (by decide) (by decide) rfl rfl m1, J149_bad N _ _ cp cm cw cq ci ct cwi cr cn ca cc cs ce _ _ _ _ _ _ _ k4, k3]
      · unfold f9_readRow
        rw [if_neg (by decide), if_neg (by decide), if_neg (by decide), if_neg (by decide), if_neg (by decide), gi_ok (i := 1) (by decide) (by decide), n2, ob7_k, m2, ob7_k, if_neg k4, k3]
  · left
    obtain ⟨n, k1, k2, k3, k4⟩ := e12 he
    have g1 := rc_go N _ _ _ _ _ cp cm cw cq ci ct cwi cr cn ca cc cs ce h1 h2 (by decide) cl0 rfl rfl n1 (Or.inl k4)
    refine ⟨tm0, n, q, nI (adk ch isB k e1), nI (adk ch isB k e1), a1, nI (adk ch isB k e1), o1, v1, (hI, mp, mr, mw, wm, mm, per, ag, su, it, wi, wf, wl), k1, k2, hq, ?_, ?_, FRt_refl _⟩
    · rw [g1, J107_bad N _ _ cp cm cw cq ci ct cwi cr cn ca cc cs ce _ _ _ _ _ _ k4, k3]
    · unfold f9_readRow
      rw [if_neg (by decide), if_neg (by decide), if_neg (by decide), if_neg (by decide), if_neg (by decide), gi_ok (i := 1) (by decide) (by decide), n2, ob7_k, num_bad N _ _ _ _ _ _ _ _ _ _ k4, ob7_k, if_neg k4, k3]
theorem mid_interest (N : Nat) (hN : 1000 ≤ N) {k : Nat} {ch : Nat → Nat} {tx mx : Nat → Int32} (hT : TX k ch tx mx) {s e1 : Nat} (hse : s < e1) (he1 : e1 ≤ k) (fa na fb : Int32) (cp cm cw cq ci ct cwi : Int32) (cr cn ca cc cs ce : Nat → Int32) (hI : Int32) (mp mr mw wm mm per ag su it wi wf wl : Nat → Int32) {P Wn Q W : Nat} (hCV : CVx P Wn Q W cp cm cw cq ci ct cwi cr cn ca cc cs ce hI mp mr mw wm mm per ag su it wi wf wl) {a1 o1 v1 : Int32} (hK : TK N k ch tx (adk ch isB k e1) a1 o1 v1) (h1 : f3_wordEnd N (nI s) (nI k) tx = some (nI e1)) (h2 : f3_clauseOf N (nI s) (nI e1) tx = some 5) :
    MID N k ch tx s na fa fb (cp, cm, cw, cq, ci, ct, cwi, cr, cn, ca, cc, cs, ce) (hI, mp, mr, mw, wm, mm, per, ag, su, it, wi, wf, wl) (f9_isTooMany N 4 hI mp wm per wi) (f9_readRow N 4 (nI k) a1 (nI (adk ch isB k e1)) o1 v1 0 fb hI mx mp mr mw wm mm per ag su it wi wf wl) (f3_readClause N 0 fa (nI s) (nI k) na tx cp cm cw cq ci ct cwi cr cn ca cc cs ce) (fun r71 x6 at' num => f3_readClause_J189 N (nI k) tx cp cm cw cq ci ct cwi cr cn ca cc cs ce 5 r71 x6 at' num 0 fa) (fun a b => f3_addClause N 5 a b cp cm cw cq ci ct cwi cr cn ca cc cs ce) := by
  have hk := hT.1
  obtain ⟨⟨hP, c1, c2⟩, ⟨hWn, c3, c4⟩, ⟨hQ, c5, c6⟩, ⟨hW, c7, c8⟩, c9, ⟨i, hi, c10, c11⟩, ⟨c12, c13⟩, cP, cQ, cW⟩ := hCV
  have tmE : f9_isTooMany N 4 hI mp wm per wi = gb hI (some hI) := by
    unfold f9_isTooMany
    rw [if_neg (by decide), if_neg (by decide), if_neg (by decide), if_neg (by decide), if_pos rfl]
  have clE : f3_isFull N 5 cp cw cq ct cwi = gb ct (some ct) := by
    unfold f3_isFull
    rw [if_neg (by decide), if_neg (by decide), if_neg (by decide), if_neg (by decide), if_pos rfl]
  rcases c13 with h0 | h0
  · right
    have tm0 : f9_isTooMany N 4 hI mp wm per wi = some 0 := by rw [tmE, h0, gb_0]
    have cl0 : f3_isFull N 5 cp cw cq ct cwi = some 0 := by rw [clE, c12, h0, gb_0]
    rcases num_both N hN hT he1 hK 0 50 (by decide) (by decide) 0 fa na fb with ⟨v, q, a2, o2, v2, hv, hv1, hv2, hpq, hq, n1, n2, hK2, -, -⟩ | ⟨e, vc, q, he, hq, n1, n2, -⟩
    · right
      have hv2' : v ≤ 50 := by have h9 : (50 : Int32).toInt = 50 := rfl; rw [h9] at hv2; omega
      have g1 := rc_go N _ _ _ _ _ cp cm cw cq ci ct cwi cr cn ca cc cs ce h1 h2 (by decide) cl0 rfl rfl n1 (Or.inr (by decide))
      refine ⟨tm0, q, nI v, 0, nI (adk ch isB k e1), a2, o2, v2, (1, mp, mr, mw, wm, mm, per, ag, su, upd it 1 (nI v), wi, wf, wl), (cp, cm, cw, cq, nI v, 1, cwi, cr, cn, ca, cc, cs, ce), by omega, hq, ?_, ?_, hK2, ?_, ?_, ?_⟩
      · rw [g1, J107_one N _ _ cp cm cw cq ci ct cwi cr cn ca cc cs ce _ _ _ _ _ (Or.inr rfl), J149_no N _ _ cp cm cw cq ci ct cwi cr cn ca cc cs ce _ _ _ _ _ _ (by decide)]
      · unfold f9_readRow
        rw [if_neg (by decide), if_neg (by decide), if_neg (by decide), if_neg (by decide), if_pos rfl, n2, ob7_k, gi_ok (i := 1) (by decide) (by decide), n_1]
      · rfl
      · exact CVt_mk (P := P) (Wn := Wn) (Q := Q) (W := W) ⟨⟨hP, c1, c2⟩, ⟨hWn, c3, c4⟩, ⟨hQ, c5, c6⟩, ⟨hW, c7, c8⟩, c9, ⟨v, hv2', rfl, pk_us⟩, ⟨rfl, Or.inr rfl⟩, cP, cQ, cW⟩
      · exact FRt_mk ⟨rfl, fun j hj => ⟨rfl, rfl⟩, rfl, rfl, pk_un (by omega), rfl, fun _ _ => ⟨rfl, rfl⟩⟩
    · left
      obtain ⟨n, k1, k2, k3, k4⟩ := e12 he
      have g1 := rc_go N _ _ _ _ _ cp cm cw cq ci ct cwi cr cn ca cc cs ce h1 h2 (by decide) cl0 rfl rfl n1 (Or.inl k4)
      refine ⟨tm0, n, q, nI (adk ch isB k e1), nI (adk ch isB k e1), a1, nI (adk ch isB k e1), o1, v1, (1, mp, mr, mw, wm, mm, per, ag, su, upd it 1 v1, wi, wf, wl), k1, k2, hq, ?_, ?_, ?_⟩
      · rw [g1, J107_bad N _ _ cp cm cw cq ci ct cwi cr cn ca cc cs ce _ _ _ _ _ _ k4, k3]
      · unfold f9_readRow
        rw [if_neg (by decide), if_neg (by decide), if_neg (by decide), if_neg (by decide), if_pos rfl, n2, ob7_k, gi_ok (i := 1) (by decide) (by decide), n_1, k3]
      · exact FRt_mk ⟨rfl, fun j hj => ⟨rfl, rfl⟩, rfl, rfl, pk_un (by omega), rfl, fun _ _ => ⟨rfl, rfl⟩⟩
  · left
    refine ⟨by rw [tmE, h0, gb_1], rc_full N _ _ _ _ _ cp cm cw cq ci ct cwi cr cn ca cc cs ce h1 h2 (by decide) (by rw [clE, c12, h0, gb_1])⟩
