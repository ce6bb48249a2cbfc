/-! sets of parts, bit by bit -/
theorem sa_i : ∀ s, s < 32 → ((nI s &&& (31 : Int32)).toBitVec.smod 32).toNat = s := by decide +kernel
theorem b1i : ∀ i, i < 32 → (1#32).getLsbD i = decide (i = 0) := by decide
theorem bW_bit (x : Int32) {q : Nat} (hq : q < 32) : bW x (nI q) ↔ x.toBitVec.getLsbD q = true := by
  have e0 : (x >>> (nI q &&& (31 : Int32))).toBitVec = x.toBitVec.sshiftRight (((nI q &&& (31 : Int32)).toBitVec.smod 32).toNat) := rfl
  have e : bW x (nI q) ↔ x.toBitVec.sshiftRight q &&& 1#32 = 1#32 := by
    show ((x >>> (nI q &&& (31 : Int32))) &&& (1 : Int32)) = (1 : Int32) ↔ _
    rw [← Int32.toBitVec_inj, Int32.toBitVec_and, e0, sa_i q hq]
    exact Iff.rfl
  rw [e]
  constructor
  · intro h
    have g := congrArg (fun z : BitVec 32 => z.getLsbD 0) h
    simp only [BitVec.getLsbD_and, BitVec.getLsbD_sshiftRight] at g
    rw [b1i 0 (by omega)] at g
    simpa [hq] using g
  · intro h
    apply BitVec.eq_of_getLsbD_eq
    intro i hi
    rw [BitVec.getLsbD_and, b1i i hi, BitVec.getLsbD_sshiftRight]
    by_cases c : i = 0
    · subst c
      simp [hq, h]
    · simp [c]
theorem bW_or (x : Int32) {p q : Nat} (hp : p < 32) (hq : q < 32) : bW (x ||| ((1 : Int32) <<< (nI p &&& (31 : Int32)))) (nI q) ↔ (bW x (nI q) ∨ p = q) := by
  have e0 : ((1 : Int32) <<< (nI p &&& (31 : Int32))).toBitVec = (1#32) <<< (((nI p &&& (31 : Int32)).toBitVec.smod 32).toNat) := rfl
  rw [bW_bit _ hq, bW_bit _ hq, Int32.toBitVec_or, BitVec.getLsbD_or, e0, sa_i p hp, BitVec.getLsbD_shiftLeft, Bool.or_eq_true]
  have e1 : ((decide (q < 32) && (!decide (q < p)) && (1#32).getLsbD (q - p)) = true) ↔ p = q := by
    rw [b1i (q - p) (by omega)]
    simp only [Bool.and_eq_true, decide_eq_true_iff, Bool.not_eq_true', decide_eq_false_iff_not]
    omega
  constructor
  · rintro (h | h)
    · exact Or.inl h
    · exact Or.inr (e1.mp (by simpa using h))
  · rintro (h | h)
    · exact Or.inl h
    · exact Or.inr (by simpa using e1.mpr h)
theorem bW_0 : ∀ q, q < 7 → ¬ bW 0 (nI q) := by decide
theorem but_both (N : Nat) (hN : 1000 ≤ N) {k : Nat} {ch : Nat → Nat} {tx mx : Nat → Int32} (hT : TX k ch tx mx) {p : Nat} (hp : p ≤ k) {at' so va : Int32} (hK : TK N k ch tx (adk ch isB k p) at' so va) {P : Nat} (hP : P ≤ 7) {mp : Nat → Int32} (hm : mp 1 = nI P) (X fk fa na fb : Int32) :
    (∃ (v q : Nat) (at2 so2 va2 : Int32), v < P ∧ p < q ∧ q ≤ k ∧ f3_readNumber N 0 (nI P - 1) fk fa (nI p) (nI k) na tx = some (nI v, fk, fa, nI q, nI (adk ch isB k p)) ∧ TK N k ch tx (adk ch isB k q) at2 so2 va2 ∧ ((¬ bW X (nI v) ∧ f9_partBut N X (nI k) at' (nI (adk ch isB k p)) so va 0 fb mx mp = some (nI v, at2, nI (adk ch isB k q), so2, va2, 0, fb)) ∨ (bW X (nI v) ∧ f9_partBut N X (nI k) at' (nI (adk ch isB k p)) so va 0 fb mx mp = some (nI v, at', nI (adk ch isB k p), so, nI v, 4, nI (adk ch isB k p))))) ∨
    (∃ (e vc : Int32) (q : Nat), (e = 1 ∨ e = 2) ∧ q ≤ k ∧ f3_readNumber N 0 (nI P - 1) fk fa (nI p) (nI k) na tx = some (vc, e, nI (adk ch isB k p), nI q, nI (adk ch isB k p)) ∧ f9_partBut N X (nI k) at' (nI (adk ch isB k p)) so va 0 fb mx mp = some (va, at', nI (adk ch isB k p), so, va, e, nI (adk ch isB k p))) := by
  have hi : (nI P - 1).toInt = (P : Int) - 1 := by rw [t_sub (by rw [t_nI (by omega), t_1]; omega) (by rw [t_nI (by omega), t_1]; omega), t_nI (by omega), t_1]
  unfold f9_partBut
  rw [if_pos rfl, n_1, hm]
  rcases num_both N hN hT hp hK 0 (nI P - 1) (by decide) (by rw [hi]; omega) fk fa na fb with ⟨v, q, a2, o2, v2, hv, hv1, hv2, hpq, hq, n1, n2, hK2, hs, rfl⟩ | ⟨e, vc, q, he, hq, n1, n2, hin⟩
  · left
    rw [hi] at hv2
    refine ⟨v, q, a2, o2, v2, by omega, hpq, hq, n1, hK2, ?_⟩
    have in1 : f9_in N (nI v) 0 (nI P - 1) = some 1 := by
      rw [m_in, hi, t_0, t_nI (by omega), if_pos ⟨by omega, by omega⟩]
    rw [if_pos hs, gi_ok (i := 1) (by decide) (by decide), in1, ob1_k, if_neg (by decide)]
    by_cases c : bW X (nI v)
    · right
      refine ⟨c, ?_⟩
      unfold f9_fails
      rw [if_pos c, if_pos rfl, ob2_k, gi_ok (i := 1) (by decide) (by decide), num_bad N _ _ _ _ _ _ _ _ _ _ (by decide), ob7_k]
    · left
      refine ⟨c, ?_⟩
      rw [if_neg c, gi_ok (i := 1) (by decide) (by decide), n2, ob7_k]
  · right
    refine ⟨e, vc, q, he, hq, n1, ?_⟩
    by_cases hs : so = 6
    · rw [if_pos hs, gi_ok (i := 1) (by decide) (by decide), hin hs, ob1_k, if_pos rfl, gi_ok (i := 1) (by decide) (by decide), n2, ob7_k]
    · rw [if_neg hs, gi_ok (i := 1) (by decide) (by decide), n2, ob7_k]
theorem mid_mouth (N : Nat) (hN : 1000 ≤ N) {k : Nat} {ch : Nat → Nat} {tx mx : Nat → Int32} (hT : TX k ch tx mx) {s e1 : Nat} (hse : s < e1) (he1 : e1 ≤ k) (fa na fb : Int32) (cp cm cw cq ci ct cwi : Int32) (cr cn ca cc cs ce : Nat → Int32) (hI : Int32) (mp mr mw wm mm per ag su it wi wf wl : Nat → Int32) {P Wn Q W : Nat} (hCV : CVx P Wn Q W cp cm cw cq ci ct cwi cr cn ca cc cs ce hI mp mr mw wm mm per ag su it wi wf wl) {a1 o1 v1 : Int32} (hK : TK N k ch tx (adk ch isB k e1) a1 o1 v1) (h1 : f3_wordEnd N (nI s) (nI k) tx = some (nI e1)) (h2 : f3_clauseOf N (nI s) (nI e1) tx = some 2) :
    MID N k ch tx s na fa fb (cp, cm, cw, cq, ci, ct, cwi, cr, cn, ca, cc, cs, ce) (hI, mp, mr, mw, wm, mm, per, ag, su, it, wi, wf, wl) (f9_isTooMany N 1 hI mp wm per wi) (f9_readRow N 1 (nI k) a1 (nI (adk ch isB k e1)) o1 v1 0 fb hI mx mp mr mw wm mm per ag su it wi wf wl) (f3_readClause N 0 fa (nI s) (nI k) na tx cp cm cw cq ci ct cwi cr cn ca cc cs ce) (fun r71 x6 at' num => f3_readClause_J189 N (nI k) tx cp cm cw cq ci ct cwi cr cn ca cc cs ce 2 r71 x6 at' num 0 fa) (fun a b => f3_addClause N 2 a b cp cm cw cq ci ct cwi cr cn ca cc cs ce) := by
  have hk := hT.1
  obtain ⟨⟨hP, c1, c2⟩, ⟨hWn, c3, c4⟩, ⟨hQ, c5, c6⟩, ⟨hW, c7, c8⟩, c9, ⟨i, hi, c10, c11⟩, ⟨c12, c13⟩, cP, cQ, cW⟩ := hCV
  have tm0 : f9_isTooMany N 1 hI mp wm per wi = some 0 := by
    unfold f9_isTooMany
    rw [if_neg (by decide), if_pos rfl]
  have cl0 : f3_isFull N 2 cp cw cq ct cwi = some 0 := rfl
  have hh : f3_highest N 2 0 cp = some (nI P - 1) := by
    show some (cp - 1) = _
    rw [c1]
  right
  rcases but_both N hN hT he1 hK hP c2 (mm 1) 0 fa na fb with ⟨v, q, a2, o2, v2, hv, hpq, hq, n1, hK2, n2⟩ | ⟨e, vc, q, he, hq, n1, n2⟩
  · have hv0 : 0 ≤ (nI v).toInt ∧ (nI v).toInt < (P : Int) := nI_in7 hP hv
    have hb : f0_hasMouth N (nI v) cp cm = some (if (0 ≤ (nI v).toInt ∧ (nI v).toInt < (P : Int)) ∧ bW cm (nI v) then 1 else 0) := by
      rw [c1]
      exact x_hasMouth N (nI v) P hP cm
    have g1 := rc_mouth N _ _ fa na _ cp cm cw cq ci ct cwi cr cn ca cc cs ce h1 h2 rfl hh n1 hb
    simp only [b_z, ite_not] at g1
    rcases n2 with ⟨ns, n2⟩ | ⟨ns, n2⟩
    · right
      rw [if_neg (fun h => ns (by rw [← c9]; exact h.2))] at g1
      refine ⟨tm0, q, nI v, 0, nI (adk ch isB k e1), a2, o2, v2, (hI, mp, mr, mw, wm, upd mm 1 (mm 1 ||| ((1 : Int32) <<< (nI v &&& 31))), per, ag, su, it, wi, wf, wl), (cp, cm ||| ((1 : Int32) <<< (nI v &&& 31)), cw, cq, ci, ct, cwi, cr, cn, ca, cc, cs, ce), by omega, hq, ?_, ?_, hK2, ?_, ?_, ?_⟩
      · rw [g1, J107_one N _ _ cp cm cw cq ci ct cwi cr cn ca cc cs ce _ _ _ _ _ (Or.inl rfl), J149_no N _ _ cp cm cw cq ci ct cwi cr cn ca cc cs ce _ _ _ _ _ _ (by decide)]
      · unfold f9_readRow
        rw [if_neg (by decide), if_pos rfl, gi_ok (i := 1) (by decide) (by decide), n_1, n2, ob7_k, gi_ok (i := 1) (by decide) (by decide), if_pos rfl, gi_ok (i := 1) (by decide) (by decide)]
      · show f3_addClause N 2 (nI v) 0 cp cm cw cq ci ct cwi cr cn ca cc cs ce = _
        unfold f3_addClause f0_addMouth
        rw [if_neg (by decide), if_pos rfl, c1, part_in N hP hv, ob1_k, if_neg (by decide)]
        rfl
      · exact CVt_mk (P := P) (Wn := Wn) (Q := Q) (W := W) ⟨⟨hP, c1, c2⟩, ⟨hWn, c3, c4⟩, ⟨hQ, c5, c6⟩, ⟨hW, c7, c8⟩, by rw [pk_us, c9], ⟨i, hi, c10, c11⟩, ⟨c12, c13⟩, cP, cQ, cW⟩
      · exact FRt_mk ⟨rfl, fun j hj => ⟨rfl, rfl⟩, pk_un (by omega), rfl, rfl, rfl, fun _ _ => ⟨rfl, rfl⟩⟩
    · left
      rw [if_pos ⟨hv0, by rw [c9]; exact ns⟩] at g1
      refine ⟨tm0, 4, q, nI (adk ch isB k e1), nI (adk ch isB k e1), a1, nI (adk ch isB k e1), o1, nI v, (hI, mp, mr, mw, wm, upd mm 1 (mm 1 ||| 0), per, ag, su, it, wi, wf, wl), by omega, by omega, hq, ?_, ?_, ?_⟩
      · rw [g1, J107_bad N _ _ cp cm cw cq ci ct cwi cr cn ca cc cs ce _ _ _ _ _ _ (by decide)]
        rfl
      · unfold f9_readRow
        rw [if_neg (by decide), if_pos rfl, gi_ok (i := 1) (by decide) (by decide), n_1, n2, ob7_k, gi_ok (i := 1) (by decide) (by decide), if_neg (by decide), gi_ok (i := 1) (by decide) (by decide)]
        rfl
      · exact FRt_mk ⟨rfl, fun j hj => ⟨rfl, rfl⟩, pk_un (by omega), rfl, rfl, rfl, fun _ _ => ⟨rfl, rfl⟩⟩
  · left
    obtain ⟨n, k1, k2, k3, k4⟩ := e12 he
    have g1 := rc_go N _ _ _ _ _ cp cm cw cq ci ct cwi cr cn ca cc cs ce h1 h2 (by decide) cl0 rfl hh n1 (Or.inl k4)
    refine ⟨tm0, n, q, nI (adk ch isB k e1), nI (adk ch isB k e1), a1, nI (adk ch isB k e1), o1, v1, (hI, mp, mr, mw, wm, upd mm 1 (mm 1 ||| 0), per, ag, su, it, wi, wf, wl), k1, k2, hq, ?_, ?_, ?_⟩
    · rw [g1, J107_bad N _ _ cp cm cw cq ci ct cwi cr cn ca cc cs ce _ _ _ _ _ _ k4, k3]
    · unfold f9_readRow
      rw [if_neg (by decide), if_pos rfl, gi_ok (i := 1) (by decide) (by decide), n_1, n2, ob7_k, gi_ok (i := 1) (by decide) (by decide), if_neg k4, gi_ok (i := 1) (by decide) (by decide), k3]
    · exact FRt_mk ⟨rfl, fun j hj => ⟨rfl, rfl⟩, pk_un (by omega), rfl, rfl, rfl, fun _ _ => ⟨rfl, rfl⟩⟩
theorem mid_way (N : Nat) (hN : 1000 ≤ N) {k : Nat} {ch : Nat → Nat} {tx mx : Nat → Int32} (hT : TX k ch tx mx) {s e1 : Nat} (hse : s < e1) (he1 : e1 ≤ k) (fa na fb : Int32) (cp cm cw cq ci ct cwi : Int32) (cr cn ca cc cs ce : Nat → Int32) (hI : Int32) (mp mr mw wm mm per ag su it wi wf wl : Nat → Int32) {P Wn Q W : Nat} (hCV : CVx P Wn Q W cp cm cw cq ci ct cwi cr cn ca cc cs ce hI mp mr mw wm mm per ag su it wi wf wl) {a1 o1 v1 : Int32} (hK : TK N k ch tx (adk ch isB k e1) a1 o1 v1) (h1 : f3_wordEnd N (nI s) (nI k) tx = some (nI e1)) (h2 : f3_clauseOf N (nI s) (nI e1) tx = some 3) :
    MID N k ch tx s na fa fb (cp, cm, cw, cq, ci, ct, cwi, cr, cn, ca, cc, cs, ce) (hI, mp, mr, mw, wm, mm, per, ag, su, it, wi, wf, wl) (f9_isTooMany N 2 hI mp wm per wi) (f9_readRow N 2 (nI k) a1 (nI (adk ch isB k e1)) o1 v1 0 fb hI mx mp mr mw wm mm per ag su it wi wf wl) (f3_readClause N 0 fa (nI s) (nI k) na tx cp cm cw cq ci ct cwi cr cn ca cc cs ce) (fun r71 x6 at' num => f3_readClause_J189 N (nI k) tx cp cm cw cq ci ct cwi cr cn ca cc cs ce 3 r71 x6 at' num 0 fa) (fun a b => f3_addClause N 3 a b cp cm cw cq ci ct cwi cr cn ca cc cs ce) := by
  have hk := hT.1
  obtain ⟨⟨hP, c1, c2⟩, ⟨hWn, c3, c4⟩, ⟨hQ, c5, c6⟩, ⟨hW, c7, c8⟩, c9, ⟨i, hi, c10, c11⟩, ⟨c12, c13⟩, cP, cQ, cW⟩ := hCV
  have hh : f3_highest N 3 0 cp = some (nI P - 1) := by
    show some (cp - 1) = _
    rw [c1]
  have hh2 : f3_highest N 3 1 cp = some (nI P - 1) := by
    show some (cp - 1) = _
    rw [c1]
  by_cases hfull : Wn = 12
  · left
    refine ⟨?_, rc_full N _ _ _ _ _ cp cm cw cq ci ct cwi cr cn ca cc cs ce h1 h2 (by decide) ?_⟩
    · unfold f9_isTooMany
      rw [if_neg (by decide), if_neg (by decide), if_pos rfl, gi_ok (i := 1) (by decide) (by decide), n_1, c4, hfull]
      rfl
    · unfold f3_isFull
      rw [if_neg (by decide), if_neg (by decide), if_pos rfl, c3, hfull]
      rfl
  right
  have tm0 : f9_isTooMany N 2 hI mp wm per wi = some 0 := by
    unfold f9_isTooMany
    rw [if_neg (by decide), if_neg (by decide), if_pos rfl, gi_ok (i := 1) (by decide) (by decide), n_1, c4, if_neg (ne_lit (x := 12) (b := 12) rfl (by omega) (by omega) hfull)]
  have cl0 : f3_isFull N 3 cp cw cq ct cwi = some 0 := by
    have t12 : (12 : Int32).toInt = 12 := rfl
    unfold f3_isFull
    rw [if_neg (by decide), if_neg (by decide), if_pos rfl, c3, if_pos (by rw [t_lt, t12, t_nI (by omega)]; omega)]
  rcases but_both N hN hT he1 hK hP c2 0 0 fa na fb with ⟨v, q, a2, o2, v2, hv, hpq, hq, n1, hK2, n2⟩ | ⟨e, vc, q, he, hq, n1, n2⟩
  · have n2 := n2.resolve_right (fun h => bW_0 v (by omega) h.1)
    obtain ⟨-, n2⟩ := n2
    have g1 := rc_go N _ _ _ _ _ cp cm cw cq ci ct cwi cr cn ca cc cs ce h1 h2 (by decide) cl0 rfl hh n1 (Or.inr (by decide))
    obtain ⟨-, nv, -, -⟩ := cP v hv
    rcases but_both N hN hT hq hK2 hP c2 (mw (7 + v) ||| ((1 : Int32) <<< (nI v &&& 31))) 0 fa (nI (adk ch isB k e1)) fb with ⟨u, q', a3, o3, v3, hu, hpq', hq', m1, hK3, m2⟩ | ⟨e, vc, q', he, hq', m1, m2⟩
    · have g2 := J107_two N (nI k) tx cp cm cw cq ci ct cwi cr cn ca cc cs ce 3 (nI v) (nI q) (nI (adk ch isB k e1)) fa _ _ (by decide) (by decide) rfl hh2 m1
      rcases m2 with ⟨ns, m2⟩ | ⟨ns, m2⟩
      · right
        rw [bW_or _ (by omega) (by omega)] at ns
        have hne : ¬ v = u := fun h => ns (Or.inr h)
        have hnb : ¬ bW (cn v) (nI u) := fun h => ns (Or.inl (by rw [← nv]; exact h))
        refine ⟨tm0, q', nI v, nI u, nI (adk ch isB k q), a3, o3, v3, (hI, mp, mr, upd (upd mw (7 + v) (mw (7 + v) ||| ((1 : Int32) <<< (nI u &&& 31)))) (7 + u) ((upd mw (7 + v) (mw (7 + v) ||| ((1 : Int32) <<< (nI u &&& 31)))) (7 + u) ||| ((1 : Int32) <<< (nI v &&& 31))), upd wm 1 (nI (Wn + 1)), mm, per, ag, su, it, wi, wf, wl), (cp, cm, nI (Wn + 1), cq, ci, ct, cwi, cr, upd (upd cn v (cn v ||| ((1 : Int32) <<< (nI u &&& 31)))) u ((upd cn v (cn v ||| ((1 : Int32) <<< (nI u &&& 31)))) u ||| ((1 : Int32) <<< (nI v &&& 31))), ca, cc, cs, ce), by omega, hq', ?_, ?_, hK3, ?_, ?_, ?_⟩
        · rw [g1, g2]
          show f3_readClause_J149 N (nI k) tx cp cm cw cq ci ct cwi cr cn ca cc cs ce 3 (nI v) (nI u) 0 fa (nI q') (nI (adk ch isB k q)) = f3_readClause_J189 N (nI k) tx cp cm cw cq ci ct cwi cr cn ca cc cs ce 3 (nI v) (nI u) (nI q') (nI (adk ch isB k q)) 0 fa
          unfold f3_readClause_J149
          rw [if_pos rfl, if_pos rfl, if_neg (fun h => hne ((nI_eq (by omega) (by omega)).mp h)), c1, x_hasWay N hP hv hu, ob1_k, if_neg hnb, if_pos rfl]
        · unfold f9_readRow f9_readRow_J153
          rw [if_neg (by decide), if_neg (by decide), if_pos rfl, n2, ob7_k, if_pos rfl, l_7, nI_add, x_gi (by omega) (by omega), cl_nI (by omega), m2, ob7_k, if_pos rfl, x_gi (by omega) (by omega), x_gi (by omega) (by omega), nI_add, x_gi (by omega) (by omega), x_gi (by omega) (by omega), gi_ok (i := 1) (by decide) (by decide), gi_ok (i := 1) (by decide) (by decide), n_1, c4, nI_1, cl_nI (by omega)]
        · show f3_addClause N 3 (nI v) (nI u) cp cm cw cq ci ct cwi cr cn ca cc cs ce = _
          unfold f3_addClause f0_addWay
          rw [if_neg (by decide), if_neg (by decide), if_pos rfl, c1, part_in N hP hv, part_in N hP hu, ob1_k, if_neg (by decide), ob1_k, if_neg (by decide), x_gi (by omega) (by omega), x_gi (by omega) (by omega), x_gi (by omega) (by omega), x_gi (by omega) (by omega), cl_nI (by omega), cl_nI (by omega), c3, nI_1]
          rfl
        · refine CVt_mk (P := P) (Wn := Wn + 1) (Q := Q) (W := W) ⟨⟨hP, c1, c2⟩, ⟨by omega, rfl, pk_us⟩, ⟨hQ, c5, c6⟩, ⟨hW, c7, c8⟩, c9, ⟨i, hi, c10, c11⟩, ⟨c12, c13⟩, fun p hp => ?_, cQ, cW⟩
          obtain ⟨d1, d2, d3, d4⟩ := cP p hp
          obtain ⟨-, du, -, -⟩ := cP u hu
          refine ⟨d1, ?_, d3, d4⟩
          by_cases z : p = u
          · subst z
            rw [pk_us, pk_us, pk_un (fun h => hne h.symm), pk_un (by omega), du]
          · rw [pk_un z, pk_un (f := upd mw (7 + v) _) (by omega)]
            by_cases y : p = v
            · subst y
              rw [pk_us, pk_us, nv]
            · rw [pk_un y, pk_un (by omega), d2]
        · exact FRt_mk ⟨rfl, fun j hj => ⟨rfl, by rw [pk_un (by omega), pk_un (by omega)]⟩, rfl, rfl, rfl, rfl, fun _ _ => ⟨rfl, rfl⟩⟩
      · left
        rw [bW_or _ (by omega) (by omega)] at ns
        refine ⟨tm0, 4, q', nI (adk ch isB k q), nI (adk ch isB k q), a2, nI (adk ch isB k q), o2, nI u, (hI, mp, mr, mw, wm, mm, per, ag, su, it, wi, wf, wl), by omega, by omega, hq', ?_, ?_, FRt_refl _⟩
        · rw [g1, g2]
          unfold f3_readClause_J149 f3_setFault
          rw [if_pos rfl, if_pos rfl]
          by_cases z : v = u
          · rw [if_pos (by rw [z]), ob2_k, J189_bad N _ _ cp cm cw cq ci ct cwi cr cn ca cc cs ce _ _ _ _ _ _ _ (by decide)]
            rfl
          · have hb : bW (cn v) (nI u) := by
              rw [nv]
              exact ns.resolve_right z
            rw [if_neg (fun h => z ((nI_eq (by omega) (by omega)).mp h))]
            have hw : f0_hasWay N (nI v) (nI u) cp cn = some 1 := by
              rw [c1, x_hasWay N hP hv hu, if_pos hb]
            rw [hw, ob1_k, if_neg (by decide), ob2_k, J189_bad N _ _ cp cm cw cq ci ct cwi cr cn ca cc cs ce _ _ _ _ _ _ _ (by decide)]
            rfl
        · unfold f9_readRow f9_readRow_J153
          rw [if_neg (by decide), if_neg (by decide), if_pos rfl, n2, ob7_k, if_pos rfl, l_7, nI_add, x_gi (by omega) (by omega), cl_nI (by omega), m2, ob7_k, if_neg (by decide)]
          rfl
    · left
      obtain ⟨n, k1, k2, k3, k4⟩ := e12 he
      have g2 := J107_two N (nI k) tx cp cm cw cq ci ct cwi cr cn ca cc cs ce 3 (nI v) (nI q) (nI (adk ch isB k e1)) fa _ _ (by decide) (by decide) rfl hh2 m1
      refine ⟨tm0, n, q', nI (adk ch isB k q), nI (adk ch isB k q), a2, nI (adk ch isB k q), o2, v2, (hI, mp, mr, mw, wm, mm, per, ag, su, it, wi, wf, wl), k1, k2, hq', ?_, ?_, FRt_refl _⟩
      · rw [g1, g2, J149_bad N _ _ cp cm cw cq ci ct cwi cr cn ca cc cs ce _ _ _ _ _ _ _ k4, k3]
      · unfold f9_readRow f9_readRow_J153
        rw [if_neg (by decide), if_neg (by decide), if_pos rfl, n2, ob7_k, if_pos rfl, l_7, nI_add, x_gi (by omega) (by omega), cl_nI (by omega), m2, ob7_k, if_neg k4, k3]
  · left
    obtain ⟨n, k1, k2, k3, k4⟩ := e12 he
    have g1 := rc_go N _ _ _ _ _ cp cm cw cq ci ct cwi cr cn ca cc cs ce h1 h2 (by decide) cl0 rfl hh n1 (Or.inl k4)
    refine ⟨tm0, n, q, nI (adk ch isB k e1), nI (adk ch isB k e1), a1, nI (adk ch isB k e1), o1, v1, (hI, mp, mr, mw, wm, mm, per, ag, su, it, wi, wf, wl), k1, k2, hq, ?_, ?_, FRt_refl _⟩
    · rw [g1, J107_bad N _ _ cp cm cw cq ci ct cwi cr cn ca cc cs ce _ _ _ _ _ _ k4, k3]
    · unfold f9_readRow f9_readRow_J153
      rw [if_neg (by decide), if_neg (by decide), if_pos rfl, n2, ob7_k, if_neg k4, but_bad N _ _ _ _ _ _ _ _ _ _ k4, ob7_k, if_neg k4, k3]
