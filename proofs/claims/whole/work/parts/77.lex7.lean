theorem ob18_k {T0 T1 T2 T3 T4 T5 T6 T7 T8 T9 T10 T11 T12 T13 T14 T15 T16 T17 C : Type} {a0 : T0} {a1 : T1} {a2 : T2} {a3 : T3} {a4 : T4} {a5 : T5} {a6 : T6} {a7 : T7} {a8 : T8} {a9 : T9} {a10 : T10} {a11 : T11} {a12 : T12} {a13 : T13} {a14 : T14} {a15 : T15} {a16 : T16} {a17 : T17} {k : T0 → T1 → T2 → T3 → T4 → T5 → T6 → T7 → T8 → T9 → T10 → T11 → T12 → T13 → T14 → T15 → T16 → T17 → Option C} : ob18 (some (a0, a1, a2, a3, a4, a5, a6, a7, a8, a9, a10, a11, a12, a13, a14, a15, a16, a17)) k = k a0 a1 a2 a3 a4 a5 a6 a7 a8 a9 a10 a11 a12 a13 a14 a15 a16 a17 := rfl
theorem ob17_k {T0 T1 T2 T3 T4 T5 T6 T7 T8 T9 T10 T11 T12 T13 T14 T15 T16 C : Type} {a0 : T0} {a1 : T1} {a2 : T2} {a3 : T3} {a4 : T4} {a5 : T5} {a6 : T6} {a7 : T7} {a8 : T8} {a9 : T9} {a10 : T10} {a11 : T11} {a12 : T12} {a13 : T13} {a14 : T14} {a15 : T15} {a16 : T16} {k : T0 → T1 → T2 → T3 → T4 → T5 → T6 → T7 → T8 → T9 → T10 → T11 → T12 → T13 → T14 → T15 → T16 → Option C} : ob17 (some (a0, a1, a2, a3, a4, a5, a6, a7, a8, a9, a10, a11, a12, a13, a14, a15, a16)) k = k a0 a1 a2 a3 a4 a5 a6 a7 a8 a9 a10 a11 a12 a13 a14 a15 a16 := rfl
/-! a whole clause on both sides -/
def CLO (N k : Nat) (ch : Nat → Nat) (tx : Nat → Int32) (s : Nat) (fa fb : Int32) (M : tyM) (cls : Option (Int32 × Int32 × Int32 × Int32 × tyC)) (mod : Option (Int32 × Int32 × Int32 × Int32 × Int32 × Int32 × tyM)) : Prop :=
  ∃ (fk' fa' : Int32) (p' : Nat) (num' : Int32) (C' : tyC) (at2 st2 so2 va2 f2 fb' : Int32) (M' : tyM), cls = some (fk', fa', nI p', num', C') ∧ mod = some (at2, st2, so2, va2, f2, fb', M') ∧ p' ≤ k ∧ FRt M M' ∧
    ((fk' = 0 ∧ fa' = fa ∧ f2 = 0 ∧ fb' = fb ∧ s < p' ∧ st2 = nI (adk ch isB k p') ∧ TK N k ch tx (adk ch isB k p') at2 so2 va2 ∧ CVt C' M') ∨ (∃ e : Nat, 1 ≤ e ∧ e ≤ 4 ∧ fk' = nI e ∧ f2 = nI e ∧ fb' = fa'))
theorem clause_mid (N : Nat) (hN : 1000 ≤ N) {k : Nat} {ch : Nat → Nat} {tx mx : Nat → Int32} (hT : TX k ch tx mx) {s e1 : Nat} (hs : s ≤ k) (fa na fb : Int32) (cp cm cw cq ci ct cwi : Int32) (cr cn ca cc cs ce : Nat → Int32) (hI : Int32) (mp mr mw wm mm per ag su it wi wf wl : Nat → Int32) {at' so va a1 o1 v1 W12 : Int32} (h5 : so.toInt ≤ 5) (hst : f9_step N (nI k) at' (nI s) so va mx = some (a1, nI (adk ch isB k e1), o1, v1))
    (hmid : MID N k ch tx s na fa fb (cp, cm, cw, cq, ci, ct, cwi, cr, cn, ca, cc, cs, ce) (hI, mp, mr, mw, wm, mm, per, ag, su, it, wi, wf, wl) (f9_isTooMany N so hI mp wm per wi) (f9_readRow N so (nI k) a1 (nI (adk ch isB k e1)) o1 v1 0 fb hI mx mp mr mw wm mm per ag su it wi wf wl) (f3_readClause N 0 fa (nI s) (nI k) na tx cp cm cw cq ci ct cwi cr cn ca cc cs ce) (fun r71 x6 at' num => f3_readClause_J189 N (nI k) tx cp cm cw cq ci ct cwi cr cn ca cc cs ce W12 r71 x6 at' num 0 fa) (fun a b => f3_addClause N W12 a b cp cm cw cq ci ct cwi cr cn ca cc cs ce)) :
    CLO N k ch tx s fa fb (hI, mp, mr, mw, wm, mm, per, ag, su, it, wi, wf, wl) (f3_readClause N 0 fa (nI s) (nI k) na tx cp cm cw cq ci ct cwi cr cn ca cc cs ce) (f9_readClause N (nI k) at' (nI s) so va 0 fb hI mx mp mr mw wm mm per ag su it wi wf wl) := by
  have hk := hT.1
  rcases hmid with ⟨t1, c1⟩ | ⟨t0, e, q, x, na', a2, s2, o2, v2, M', k1, k2, hq, c1, r1, fr⟩ | ⟨t0, q, r71, x6, na', a2, o2, v2, M', C', hsq, hq, c1, r1, hK, ha, hcv, fr⟩
  · exact ⟨_, _, s, _, _, _, _, _, _, _, _, _, c1, mc_full N _ _ _ _ _ _ _ _ mp mr mw wm mm per ag su it wi wf wl h5 t1, hs, FRt_refl _, Or.inr ⟨3, by omega, by omega, rfl, rfl, rfl⟩⟩
  · exact ⟨_, _, q, _, _, _, _, _, _, _, _, _, c1, mc_bad N _ _ _ _ _ _ _ _ mp mr mw wm mm per ag su it wi wf wl h5 t0 hst r1 (nI_ne0 (by omega) (by omega)), hq, fr, Or.inr ⟨e, k1, k2, rfl, rfl, rfl⟩⟩
  · have g := adk_ge ch isB k _ q rfl hq
    have c1' : f3_readClause N 0 fa (nI s) (nI k) na tx cp cm cw cq ci ct cwi cr cn ca cc cs ce = f3_readClause_J189 N (nI k) tx cp cm cw cq ci ct cwi cr cn ca cc cs ce W12 r71 x6 (nI q) na' 0 fa := c1
    rcases end_both N hN hT hq hK 0 fa with ⟨e7, elt, ea, er⟩ | ⟨e7, er⟩
    · rw [J189_ok N _ _ cp cm cw cq ci ct cwi cr cn ca cc cs ce _ _ _ _ _ _ _ C' er ha] at c1'
      obtain ⟨a3, o3, v3, s1, s2⟩ := m_step N hN hT (p := adk ch isB k q + 1) (by omega) (nI (adk ch isB k q)) o2 v2
      rw [← ea] at s1
      exact ⟨_, _, _, _, _, _, _, _, _, _, _, _, c1', mc_ok N _ _ _ _ _ _ _ _ mp mr mw wm mm per ag su it wi wf wl h5 t0 hst r1 e7 s1, by omega, fr, Or.inl ⟨rfl, rfl, rfl, rfl, by omega, rfl, s2, hcv⟩⟩
    · rw [J189_end N _ _ cp cm cw cq ci ct cwi cr cn ca cc cs ce _ _ _ _ _ _ _ _ er] at c1'
      exact ⟨_, _, _, _, _, _, _, _, _, _, _, _, c1', mc_end N _ _ _ _ _ _ _ _ mp mr mw wm mm per ag su it wi wf wl h5 t0 hst r1 e7, by omega, fr, Or.inr ⟨1, by omega, by omega, rfl, rfl, rfl⟩⟩
theorem clause_both (N : Nat) (hN : 1000 ≤ N) {k : Nat} {ch : Nat → Nat} {tx mx : Nat → Int32} (hT : TX k ch tx mx) {s : Nat} (hs : s < k) (fa na fb : Int32) (cp cm cw cq ci ct cwi : Int32) (cr cn ca cc cs ce : Nat → Int32) (hI : Int32) (mp mr mw wm mm per ag su it wi wf wl : Nat → Int32) {at' so va : Int32} (hK : TK N k ch tx s at' so va) {P Wn Q W : Nat} (hCV : CVx P Wn Q W cp cm cw cq ci ct cwi cr cn ca cc cs ce hI mp mr mw wm mm per ag su it wi wf wl) :
    CLO N k ch tx s fa fb (hI, mp, mr, mw, wm, mm, per, ag, su, it, wi, wf, wl) (f3_readClause N 0 fa (nI s) (nI k) na tx cp cm cw cq ci ct cwi cr cn ca cc cs ce) (f9_readClause N (nI k) at' (nI s) so va 0 fb hI mx mp mr mw wm mm per ag su it wi wf wl) := by
  have hk := hT.1
  obtain ⟨-, ⟨w, hw, hcl, hw1, hw0⟩, -⟩ := hK
  have hwd := x_word N hN hT (p := s) (by omega)
  by_cases z : w = 0
  · subst z
    exact ⟨_, _, s, _, _, _, _, _, _, _, _, _, rc_word N _ _ _ _ _ cp cm cw cq ci ct cwi cr cn ca cc cs ce hwd hcl, mc_word N _ _ _ _ _ _ _ _ mp mr mw wm mm per ag su it wi wf wl (hw0 rfl), by omega, FRt_refl _, Or.inr ⟨1, by omega, by omega, rfl, rfl, rfl⟩⟩
  · obtain ⟨e1, e2, e3⟩ := hw1 (by omega)
    obtain ⟨g1, g2, -⟩ := adk_ge ch isL k _ s rfl (by omega)
    subst e1
    subst e2
    generalize adk ch isL k s = e at *
    obtain ⟨a1, o1, v1, s1, hK1⟩ := m_step N hN hT g2 (nI s) (nI (w - 1)) va
    refine clause_mid N hN hT (by omega) fa na fb cp cm cw cq ci ct cwi cr cn ca cc cs ce hI mp mr mw wm mm per ag su it wi wf wl (W12 := nI w) (by rw [t_nI (by omega)]; omega) s1 ?_
    rcases (show w = 1 ∨ w = 2 ∨ w = 3 ∨ w = 4 ∨ w = 5 ∨ w = 6 by omega) with rfl | rfl | rfl | rfl | rfl | rfl
    · exact mid_part N hN hT e3 g2 fa na fb cp cm cw cq ci ct cwi cr cn ca cc cs ce hI mp mr mw wm mm per ag su it wi wf wl hCV hK1 hwd hcl
    · exact mid_mouth N hN hT e3 g2 fa na fb cp cm cw cq ci ct cwi cr cn ca cc cs ce hI mp mr mw wm mm per ag su it wi wf wl hCV hK1 hwd hcl
    · exact mid_way N hN hT e3 g2 fa na fb cp cm cw cq ci ct cwi cr cn ca cc cs ce hI mp mr mw wm mm per ag su it wi wf wl hCV hK1 hwd hcl
    · exact mid_person N hN hT e3 g2 fa na fb cp cm cw cq ci ct cwi cr cn ca cc cs ce hI mp mr mw wm mm per ag su it wi wf wl hCV hK1 hwd hcl
    · exact mid_interest N hN hT e3 g2 fa na fb cp cm cw cq ci ct cwi cr cn ca cc cs ce hI mp mr mw wm mm per ag su it wi wf wl hCV hK1 hwd hcl
    · exact mid_winter N hN hT e3 g2 fa na fb cp cm cw cq ci ct cwi cr cn ca cc cs ce hI mp mr mw wm mm per ag su it wi wf wl hCV hK1 hwd hcl
/-! the whole text -/
theorem len_min {k : Nat} (hk : k ≤ 500) : (if (500 : Int32) < nI k then (500 : Int32) else nI k) = nI k := by
  by_cases c : (500 : Int32) < nI k
  · exact absurd c (nI_nlt (a := 500) (by omega) (by omega))
  · rw [if_neg c]
theorem L37_stop (N : Nat) {k : Nat} (hk : k ≤ 500) (tx : Nat → Int32) (n : Nat) (x4 fk fa at' num : Int32) (cp cm cw cq ci ct cwi : Int32) (cr cn ca cc cs ce : Nat → Int32) (h : fk ≠ 0) : f3_readAll_L37 N (nI k) tx (n + 1) x4 fk fa at' num cp cm cw cq ci ct cwi cr cn ca cc cs ce = some (fk, fa, at', num, (cp, cm, cw, cq, ci, ct, cwi, cr, cn, ca, cc, cs, ce)) := by
  rw [f3_readAll_L37, len_min hk]
  by_cases c : nI k ≤ x4
  · rw [if_pos c]
  · rw [if_neg c]
    by_cases d : nI k ≤ at'
    · rw [if_pos d]
    · rw [if_neg d, if_neg h]
theorem all_loop (N : Nat) (hN : 1000 ≤ N) {k : Nat} {ch : Nat → Nat} {tx mx : Nat → Int32} (hT : TX k ch tx mx) (fa fb : Int32) : ∀ (m s c n n' : Nat) (na : Int32) (cp cm cw cq ci ct cwi : Int32) (cr cn ca cc cs ce : Nat → Int32) (hI : Int32) (mp mr mw wm mm per ag su it wi wf wl : Nat → Int32) (at' so va : Int32) (P Wn Q W : Nat), k - s ≤ m → s ≤ k → c ≤ s → m < n → m < n' → TK N k ch tx s at' so va → CVx P Wn Q W cp cm cw cq ci ct cwi cr cn ca cc cs ce hI mp mr mw wm mm per ag su it wi wf wl →
    ∃ (fk' fa' at1 num' : Int32) (C' : tyC) (at2 st2 so2 va2 f2 fb' : Int32) (M' : tyM), f3_readAll_L37 N (nI k) tx n (nI c) 0 fa (nI s) na cp cm cw cq ci ct cwi cr cn ca cc cs ce = some (fk', fa', at1, num', C') ∧ f9_cave_L66 N (nI k) mx n' at' (nI s) so va 0 fb hI mp mr mw wm mm per ag su it wi wf wl = some (at2, st2, so2, va2, f2, fb', M') ∧ FRt (hI, mp, mr, mw, wm, mm, per, ag, su, it, wi, wf, wl) M' ∧
      ((fk' = 0 ∧ fa' = fa ∧ f2 = 0 ∧ fb' = fb ∧ CVt C' M') ∨ (∃ e : Nat, 1 ≤ e ∧ e ≤ 4 ∧ fk' = nI e ∧ f2 = nI e ∧ fb' = fa')) := by
  have hk := hT.1
  intro m
  induction m with
  | zero =>
    intro s c n n' na cp cm cw cq ci ct cwi cr cn ca cc cs ce hI mp mr mw wm mm per ag su it wi wf wl at' so va P Wn Q W hm hs hc hn hn' hK hCV
    obtain ⟨n, rfl⟩ : ∃ x, n = x + 1 := ⟨n - 1, by omega⟩
    obtain ⟨n', rfl⟩ : ∃ x, n' = x + 1 := ⟨n' - 1, by omega⟩
    have e : s = k := by omega
    subst e
    refine ⟨0, fa, nI s, na, (cp, cm, cw, cq, ci, ct, cwi, cr, cn, ca, cc, cs, ce), at', nI s, so, va, 0, fb, (hI, mp, mr, mw, wm, mm, per, ag, su, it, wi, wf, wl), ?_, ?_, FRt_refl _, Or.inl ⟨rfl, rfl, rfl, rfl, CVt_mk hCV⟩⟩
    · rw [f3_readAll_L37, len_min hk]
      by_cases g : nI s ≤ nI c
      · rw [if_pos g]
      · rw [if_neg g, if_pos (nI_le (Nat.le_refl _) (by omega))]
    · rw [f9_cave_L66, if_pos rfl, if_pos (hK.2.2.2.2.2.mpr rfl)]
  | succ m ih =>
    intro s c n n' na cp cm cw cq ci ct cwi cr cn ca cc cs ce hI mp mr mw wm mm per ag su it wi wf wl at' so va P Wn Q W hm hs hc hn hn' hK hCV
    by_cases hsk : s = k
    · obtain ⟨n, rfl⟩ : ∃ x, n = x + 1 := ⟨n - 1, by omega⟩
      obtain ⟨n', rfl⟩ : ∃ x, n' = x + 1 := ⟨n' - 1, by omega⟩
      subst hsk
      refine ⟨0, fa, nI s, na, (cp, cm, cw, cq, ci, ct, cwi, cr, cn, ca, cc, cs, ce), at', nI s, so, va, 0, fb, (hI, mp, mr, mw, wm, mm, per, ag, su, it, wi, wf, wl), ?_, ?_, FRt_refl _, Or.inl ⟨rfl, rfl, rfl, rfl, CVt_mk hCV⟩⟩
      · rw [f3_readAll_L37, len_min hk]
        by_cases g : nI s ≤ nI c
        · rw [if_pos g]
        · rw [if_neg g, if_pos (nI_le (Nat.le_refl _) (by omega))]
      · rw [f9_cave_L66, if_pos rfl, if_pos (hK.2.2.2.2.2.mpr rfl)]
    · obtain ⟨n, rfl⟩ : ∃ x, n = x + 1 + 1 := ⟨n - 2, by omega⟩
      obtain ⟨n', rfl⟩ : ∃ x, n' = x + 1 + 1 := ⟨n' - 2, by omega⟩
      obtain ⟨fk', fa', p', num', C', a2, s2, o2, v2, f2, fb', M', h1, h2, hp, fr, h3⟩ := clause_both N hN hT (show s < k by omega) fa na fb cp cm cw cq ci ct cwi cr cn ca cc cs ce hI mp mr mw wm mm per ag su it wi wf wl hK hCV
      obtain ⟨cp', cm', cw', cq', ci', ct', cwi', cr', cn', ca', cc', cs', ce'⟩ := C'
      obtain ⟨hI', mp', mr', mw', wm', mm', per', ag', su', it', wi', wf', wl'⟩ := M'
      have cls : f3_readAll_L37 N (nI k) tx (n + 1 + 1) (nI c) 0 fa (nI s) na cp cm cw cq ci ct cwi cr cn ca cc cs ce = f3_readAll_L37 N (nI k) tx (n + 1) (nI (c + 1)) fk' fa' (nI (adk ch isB k p')) num' cp' cm' cw' cq' ci' ct' cwi' cr' cn' ca' cc' cs' ce' := by
        rw [f3_readAll_L37, len_min hk, if_neg (nI_ge (by omega) (by omega)), if_neg (nI_ge (by omega) (by omega)), if_pos rfl, h1, ob17_k, x_skip N hN hT hp, ob1_k, nI_1]
      have mod : f9_cave_L66 N (nI k) mx (n' + 1 + 1) at' (nI s) so va 0 fb hI mp mr mw wm mm per ag su it wi wf wl = f9_cave_L66 N (nI k) mx (n' + 1) a2 s2 o2 v2 f2 fb' hI' mp' mr' mw' wm' mm' per' ag' su' it' wi' wf' wl' := by
        rw [f9_cave_L66, if_pos rfl, if_neg (fun h => hsk (hK.2.2.2.2.2.mp h)), h2, ob19_k]
      rcases h3 with ⟨rfl, rfl, rfl, rfl, hsp, rfl, hK', P', Wn', Q', W', hCV'⟩ | ⟨e, k1, k2, rfl, rfl, rfl⟩
      · obtain ⟨g1, g2, -⟩ := adk_ge ch isB k _ p' rfl hp
        obtain ⟨fk2, fa2, at1, num2, C2, b2, t2, p2, u2, f3, fb2, M2, i1, i2, i3, i4⟩ := ih (adk ch isB k p') (c + 1) (n + 1) (n' + 1) num' cp' cm' cw' cq' ci' ct' cwi' cr' cn' ca' cc' cs' ce' hI' mp' mr' mw' wm' mm' per' ag' su' it' wi' wf' wl' a2 o2 v2 P' Wn' Q' W' (by omega) g2 (by omega) (by omega) (by omega) hK' hCV'
        exact ⟨fk2, fa2, at1, num2, C2, b2, t2, p2, u2, f3, fb2, M2, cls.trans i1, mod.trans i2, FRt_trans fr i3, i4⟩
      · have ne : nI e ≠ 0 := nI_ne0 (by omega) (by omega)
        refine ⟨nI e, fb', _, num', (cp', cm', cw', cq', ci', ct', cwi', cr', cn', ca', cc', cs', ce'), a2, s2, o2, v2, nI e, fb', (hI', mp', mr', mw', wm', mm', per', ag', su', it', wi', wf', wl'), cls.trans (L37_stop N hk tx n _ _ _ _ _ cp' cm' cw' cq' ci' ct' cwi' cr' cn' ca' cc' cs' ce' ne), mod.trans ?_, fr, Or.inr ⟨e, k1, k2, rfl, rfl, rfl⟩⟩
        rw [f9_cave_L66, if_neg ne]
