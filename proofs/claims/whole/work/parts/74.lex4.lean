/-! what is read so far, on both sides -/
abbrev tyC : Type := Int32 × Int32 × Int32 × Int32 × Int32 × Int32 × Int32 × (Nat → Int32) × (Nat → Int32) × (Nat → Int32) × (Nat → Int32) × (Nat → Int32) × (Nat → Int32)
abbrev tyM : Type := Int32 × (Nat → Int32) × (Nat → Int32) × (Nat → Int32) × (Nat → Int32) × (Nat → Int32) × (Nat → Int32) × (Nat → Int32) × (Nat → Int32) × (Nat → Int32) × (Nat → Int32) × (Nat → Int32) × (Nat → Int32)
def CVx (P Wn Q W : Nat) (cp cm cw cq ci ct cwi : Int32) (cr cn ca cc cs ce : Nat → Int32) (hI : Int32) (mp mr mw wm mm per ag su it wi wf wl : Nat → Int32) : Prop :=
  (P ≤ 7 ∧ cp = nI P ∧ mp 1 = nI P) ∧ (Wn ≤ 12 ∧ cw = nI Wn ∧ wm 1 = nI Wn) ∧ (Q ≤ 6 ∧ cq = nI Q ∧ per 1 = nI Q) ∧ (W ≤ 5 ∧ cwi = nI W ∧ wi 1 = nI W) ∧ cm = mm 1 ∧ (∃ i : Nat, i ≤ 50 ∧ ci = nI i ∧ it 1 = nI i) ∧ (ct = hI ∧ (hI = 0 ∨ hI = 1)) ∧
  (∀ p, p < P → cr p = mr (7 + p) ∧ cn p = mw (7 + p) ∧ 10 ≤ (mr (7 + p)).toInt ∧ (mr (7 + p)).toInt ≤ 540) ∧
  (∀ q, q < Q → ∃ c : Nat, c ≤ 999 ∧ ca q = 60 * ag (6 + q) ∧ cc q = nI c ∧ su (6 + q) = nI c) ∧
  (∀ w, w < W → ∃ f l : Nat, f ≤ 90 ∧ 1 ≤ l ∧ l ≤ 9 ∧ wf (5 + w) = nI f ∧ wl (5 + w) = nI l ∧ cs w = nI (60 * f) ∧ ce w = nI (60 * (f + l)))
def CVt (C : tyC) (M : tyM) : Prop := ∃ P Wn Q W : Nat, CVx P Wn Q W C.1 C.2.1 C.2.2.1 C.2.2.2.1 C.2.2.2.2.1 C.2.2.2.2.2.1 C.2.2.2.2.2.2.1 C.2.2.2.2.2.2.2.1 C.2.2.2.2.2.2.2.2.1 C.2.2.2.2.2.2.2.2.2.1 C.2.2.2.2.2.2.2.2.2.2.1 C.2.2.2.2.2.2.2.2.2.2.2.1 C.2.2.2.2.2.2.2.2.2.2.2.2 M.1 M.2.1 M.2.2.1 M.2.2.2.1 M.2.2.2.2.1 M.2.2.2.2.2.1 M.2.2.2.2.2.2.1 M.2.2.2.2.2.2.2.1 M.2.2.2.2.2.2.2.2.1 M.2.2.2.2.2.2.2.2.2.1 M.2.2.2.2.2.2.2.2.2.2.1 M.2.2.2.2.2.2.2.2.2.2.2.1 M.2.2.2.2.2.2.2.2.2.2.2.2
/-- the cave that stands is not touched -/
def FRx (mp mr mw mm per it wi wf wl mp' mr' mw' mm' per' it' wi' wf' wl' : Nat → Int32) : Prop := mp' 0 = mp 0 ∧ (∀ j, j < 7 → mr' j = mr j ∧ mw' j = mw j) ∧ mm' 0 = mm 0 ∧ per' 0 = per 0 ∧ it' 0 = it 0 ∧ wi' 0 = wi 0 ∧ (∀ j, j < 5 → wf' j = wf j ∧ wl' j = wl j)
def FRt (M M' : tyM) : Prop := FRx M.2.1 M.2.2.1 M.2.2.2.1 M.2.2.2.2.2.1 M.2.2.2.2.2.2.1 M.2.2.2.2.2.2.2.2.2.1 M.2.2.2.2.2.2.2.2.2.2.1 M.2.2.2.2.2.2.2.2.2.2.2.1 M.2.2.2.2.2.2.2.2.2.2.2.2 M'.2.1 M'.2.2.1 M'.2.2.2.1 M'.2.2.2.2.2.1 M'.2.2.2.2.2.2.1 M'.2.2.2.2.2.2.2.2.2.1 M'.2.2.2.2.2.2.2.2.2.2.1 M'.2.2.2.2.2.2.2.2.2.2.2.1 M'.2.2.2.2.2.2.2.2.2.2.2.2
theorem FRt_refl (M : tyM) : FRt M M := ⟨rfl, fun _ _ => ⟨rfl, rfl⟩, rfl, rfl, rfl, rfl, fun _ _ => ⟨rfl, rfl⟩⟩
theorem FRt_trans {M M1 M2 : tyM} (h : FRt M M1) (g : FRt M1 M2) : FRt M M2 := by
  obtain ⟨h1, h2, h3, h4, h5, h6, h7⟩ := h
  obtain ⟨g1, g2, g3, g4, g5, g6, g7⟩ := g
  exact ⟨g1.trans h1, fun j hj => ⟨(g2 j hj).1.trans (h2 j hj).1, (g2 j hj).2.trans (h2 j hj).2⟩, g3.trans h3, g4.trans h4, g5.trans h5, g6.trans h6, fun j hj => ⟨(g7 j hj).1.trans (h7 j hj).1, (g7 j hj).2.trans (h7 j hj).2⟩⟩
theorem ob13_k {T0 T1 T2 T3 T4 T5 T6 T7 T8 T9 T10 T11 T12 C : Type} {v : T0 × T1 × T2 × T3 × T4 × T5 × T6 × T7 × T8 × T9 × T10 × T11 × T12} {k : T0 → T1 → T2 → T3 → T4 → T5 → T6 → T7 → T8 → T9 → T10 → T11 → T12 → Option C} : ob13 (some v) k = k v.1 v.2.1 v.2.2.1 v.2.2.2.1 v.2.2.2.2.1 v.2.2.2.2.2.1 v.2.2.2.2.2.2.1 v.2.2.2.2.2.2.2.1 v.2.2.2.2.2.2.2.2.1 v.2.2.2.2.2.2.2.2.2.1 v.2.2.2.2.2.2.2.2.2.2.1 v.2.2.2.2.2.2.2.2.2.2.2.1 v.2.2.2.2.2.2.2.2.2.2.2.2 := rfl
theorem ob7_k {A B C D E F G H : Type} {a : A} {b : B} {c : C} {d : D} {e : E} {f : F} {g : G} {k : A → B → C → D → E → F → G → Option H} : ob7 (some (a, b, c, d, e, f, g)) k = k a b c d e f g := rfl
theorem ob19_k {T0 T1 T2 T3 T4 T5 T6 T7 T8 T9 T10 T11 T12 T13 T14 T15 T16 T17 T18 C : Type} {a0 : T0} {a1 : T1} {a2 : T2} {a3 : T3} {a4 : T4} {a5 : T5} {a6 : T6} {a7 : T7} {a8 : T8} {a9 : T9} {a10 : T10} {a11 : T11} {a12 : T12} {a13 : T13} {a14 : T14} {a15 : T15} {a16 : T16} {a17 : T17} {a18 : T18} {k : T0 → T1 → T2 → T3 → T4 → T5 → T6 → T7 → T8 → T9 → T10 → T11 → T12 → T13 → T14 → T15 → T16 → T17 → T18 → Option C} : ob19 (some (a0, a1, a2, a3, a4, a5, a6, a7, a8, a9, a10, a11, a12, a13, a14, a15, a16, a17, a18)) k = k a0 a1 a2 a3 a4 a5 a6 a7 a8 a9 a10 a11 a12 a13 a14 a15 a16 a17 a18 := rfl
/-! the class's clause, piece by piece -/
theorem J189_bad (N : Nat) (len : Int32) (tx : Nat → Int32) (cp cm cw cq ci ct cwi : Int32) (cr cn ca cc cs ce : Nat → Int32) (r12 r71 x6 at' num fk fa : Int32) (h : fk ≠ 0) : f3_readClause_J189 N len tx cp cm cw cq ci ct cwi cr cn ca cc cs ce r12 r71 x6 at' num fk fa = some (fk, fa, at', num, (cp, cm, cw, cq, ci, ct, cwi, cr, cn, ca, cc, cs, ce)) := by
  unfold f3_readClause_J189
  rw [if_neg h, if_neg h]
theorem J189_end (N : Nat) (len : Int32) (tx : Nat → Int32) (cp cm cw cq ci ct cwi : Int32) (cr cn ca cc cs ce : Nat → Int32) (r12 r71 x6 at' num fa a b : Int32) (h : f3_readEnd N 0 fa at' len tx = some (1, a, b)) : f3_readClause_J189 N len tx cp cm cw cq ci ct cwi cr cn ca cc cs ce r12 r71 x6 at' num 0 fa = some (1, a, b, num, (cp, cm, cw, cq, ci, ct, cwi, cr, cn, ca, cc, cs, ce)) := by
  unfold f3_readClause_J189
  rw [if_pos rfl, h, ob3_k, if_neg (by decide)]
theorem J189_ok (N : Nat) (len : Int32) (tx : Nat → Int32) (cp cm cw cq ci ct cwi : Int32) (cr cn ca cc cs ce : Nat → Int32) (r12 r71 x6 at' num fa b : Int32) (C : tyC) (h : f3_readEnd N 0 fa at' len tx = some (0, fa, b)) (g : f3_addClause N r12 r71 x6 cp cm cw cq ci ct cwi cr cn ca cc cs ce = some C) : f3_readClause_J189 N len tx cp cm cw cq ci ct cwi cr cn ca cc cs ce r12 r71 x6 at' num 0 fa = some (0, fa, b, num, C) := by
  unfold f3_readClause_J189
  rw [if_pos rfl, h, ob3_k, if_pos rfl, g]
  rfl
theorem J149_bad (N : Nat) (len : Int32) (tx : Nat → Int32) (cp cm cw cq ci ct cwi : Int32) (cr cn ca cc cs ce : Nat → Int32) (r12 r71 x6 at' num fk fa : Int32) (h : fk ≠ 0) : f3_readClause_J149 N len tx cp cm cw cq ci ct cwi cr cn ca cc cs ce r12 r71 x6 fk fa at' num = some (fk, fa, at', num, (cp, cm, cw, cq, ci, ct, cwi, cr, cn, ca, cc, cs, ce)) := by
  unfold f3_readClause_J149
  rw [if_neg h, J189_bad N len tx cp cm cw cq ci ct cwi cr cn ca cc cs ce r12 r71 x6 at' num fk fa h]
theorem J149_no (N : Nat) (len : Int32) (tx : Nat → Int32) (cp cm cw cq ci ct cwi : Int32) (cr cn ca cc cs ce : Nat → Int32) (r12 r71 x6 at' num fa : Int32) (h : r12 ≠ 3) : f3_readClause_J149 N len tx cp cm cw cq ci ct cwi cr cn ca cc cs ce r12 r71 x6 0 fa at' num = f3_readClause_J189 N len tx cp cm cw cq ci ct cwi cr cn ca cc cs ce r12 r71 x6 at' num 0 fa := by
  unfold f3_readClause_J149
  rw [if_pos rfl, if_neg h]
theorem J107_bad (N : Nat) (len : Int32) (tx : Nat → Int32) (cp cm cw cq ci ct cwi : Int32) (cr cn ca cc cs ce : Nat → Int32) (r12 r71 at' num fk fa : Int32) (h : fk ≠ 0) : f3_readClause_J107 N len tx cp cm cw cq ci ct cwi cr cn ca cc cs ce r12 r71 at' num fk fa = some (fk, fa, at', num, (cp, cm, cw, cq, ci, ct, cwi, cr, cn, ca, cc, cs, ce)) := by
  unfold f3_readClause_J107
  rw [if_neg h, J149_bad N len tx cp cm cw cq ci ct cwi cr cn ca cc cs ce r12 r71 0 at' num fk fa h]
theorem J107_one (N : Nat) (len : Int32) (tx : Nat → Int32) (cp cm cw cq ci ct cwi : Int32) (cr cn ca cc cs ce : Nat → Int32) (r12 r71 at' num fa : Int32) (h : r12 = 2 ∨ r12 = 5) : f3_readClause_J107 N len tx cp cm cw cq ci ct cwi cr cn ca cc cs ce r12 r71 at' num 0 fa = f3_readClause_J149 N len tx cp cm cw cq ci ct cwi cr cn ca cc cs ce r12 r71 0 0 fa at' num := by
  unfold f3_readClause_J107
  rw [if_pos rfl]
  rcases h with rfl | rfl
  · rw [if_pos rfl]
  · rw [if_neg (by decide), if_pos rfl]
theorem J107_two (N : Nat) (len : Int32) (tx : Nat → Int32) (cp cm cw cq ci ct cwi : Int32) (cr cn ca cc cs ce : Nat → Int32) (r12 r71 at' num fa lo hi : Int32) {v fk2 fa2 at2 num2 : Int32} (h2 : r12 ≠ 2) (h5 : r12 ≠ 5) (hl : f3_lowest N r12 1 = some lo) (hh : f3_highest N r12 1 cp = some hi) (hn : f3_readNumber N lo hi 0 fa at' len num tx = some (v, fk2, fa2, at2, num2)) : f3_readClause_J107 N len tx cp cm cw cq ci ct cwi cr cn ca cc cs ce r12 r71 at' num 0 fa = f3_readClause_J149 N len tx cp cm cw cq ci ct cwi cr cn ca cc cs ce r12 r71 v fk2 fa2 at2 num2 := by
  unfold f3_readClause_J107
  rw [if_pos rfl, if_neg h2, if_neg h5, hl, ob1_k, hh, ob1_k, hn, ob5_k]
theorem rc_word (N : Nat) (len at' fa num : Int32) (tx : Nat → Int32) (cp cm cw cq ci ct cwi : Int32) (cr cn ca cc cs ce : Nat → Int32) {r2 : Int32} (h1 : f3_wordEnd N at' len tx = some r2) (h2 : f3_clauseOf N at' r2 tx = some 0) : f3_readClause N 0 fa at' len num tx cp cm cw cq ci ct cwi cr cn ca cc cs ce = some (1, at', at', num, (cp, cm, cw, cq, ci, ct, cwi, cr, cn, ca, cc, cs, ce)) := by
  unfold f3_readClause f3_setFault
  rw [h1, ob1_k, h2, ob1_k, if_pos rfl, ob2_k]
theorem rc_full (N : Nat) (len at' fa num : Int32) (tx : Nat → Int32) (cp cm cw cq ci ct cwi : Int32) (cr cn ca cc cs ce : Nat → Int32) {r2 r12 : Int32} (h1 : f3_wordEnd N at' len tx = some r2) (h2 : f3_clauseOf N at' r2 tx = some r12) (h0 : r12 ≠ 0) (hf : f3_isFull N r12 cp cw cq ct cwi = some 1) : f3_readClause N 0 fa at' len num tx cp cm cw cq ci ct cwi cr cn ca cc cs ce = some (3, at', at', num, (cp, cm, cw, cq, ci, ct, cwi, cr, cn, ca, cc, cs, ce)) := by
  unfold f3_readClause f3_setFault
  rw [h1, ob1_k, h2, ob1_k, if_neg h0, hf, ob1_k, if_neg (by decide), ob2_k]
theorem rc_go (N : Nat) (len at' fa num : Int32) (tx : Nat → Int32) (cp cm cw cq ci ct cwi : Int32) (cr cn ca cc cs ce : Nat → Int32) {r2 r12 lo hi v fk2 fa2 at2 num2 : Int32} (h1 : f3_wordEnd N at' len tx = some r2) (h2 : f3_clauseOf N at' r2 tx = some r12) (h0 : r12 ≠ 0) (hf : f3_isFull N r12 cp cw cq ct cwi = some 0) (hl : f3_lowest N r12 0 = some lo) (hh : f3_highest N r12 0 cp = some hi) (hn : f3_readNumber N lo hi 0 fa r2 len num tx = some (v, fk2, fa2, at2, num2)) (h : fk2 ≠ 0 ∨ r12 ≠ 2) : f3_readClause N 0 fa at' len num tx cp cm cw cq ci ct cwi cr cn ca cc cs ce = f3_readClause_J107 N len tx cp cm cw cq ci ct cwi cr cn ca cc cs ce r12 v at2 num2 fk2 fa2 := by
  unfold f3_readClause
  rw [h1, ob1_k, h2, ob1_k, if_neg h0, hf, ob1_k, if_pos rfl, hl, ob1_k, hh, ob1_k, hn, ob5_k]
  by_cases c : fk2 = 0
  · rw [if_pos c, if_neg (h.resolve_left (fun q => q c))]
  · rw [if_neg c]
theorem rc_mouth (N : Nat) (len at' fa num : Int32) (tx : Nat → Int32) (cp cm cw cq ci ct cwi : Int32) (cr cn ca cc cs ce : Nat → Int32) {r2 lo hi v fa2 at2 num2 b : Int32} (h1 : f3_wordEnd N at' len tx = some r2) (h2 : f3_clauseOf N at' r2 tx = some 2) (hl : f3_lowest N 2 0 = some lo) (hh : f3_highest N 2 0 cp = some hi) (hn : f3_readNumber N lo hi 0 fa r2 len num tx = some (v, 0, fa2, at2, num2)) (hb : f0_hasMouth N v cp cm = some b) : f3_readClause N 0 fa at' len num tx cp cm cw cq ci ct cwi cr cn ca cc cs ce = if b = 0 then f3_readClause_J107 N len tx cp cm cw cq ci ct cwi cr cn ca cc cs ce 2 v at2 num2 0 fa2 else f3_readClause_J107 N len tx cp cm cw cq ci ct cwi cr cn ca cc cs ce 2 v at2 num2 4 num2 := by
  have hf : f3_isFull N 2 cp cw cq ct cwi = some 0 := rfl
  unfold f3_readClause f3_setFault
  rw [h1, ob1_k, h2, ob1_k, if_neg (by decide), hf, ob1_k, if_pos rfl, hl, ob1_k, hh, ob1_k, hn, ob5_k, if_pos rfl, if_pos rfl, hb, ob1_k]
  simp only [ob2_k]
/-! the reference's clause, piece by piece -/
theorem mc_word (N : Nat) (ty at' st so va fb : Int32) (mx : Nat → Int32) (hI : Int32) (mp mr mw wm mm per ag su it wi wf wl : Nat → Int32) (h : 6 ≤ so.toInt) : f9_readClause N ty at' st so va 0 fb hI mx mp mr mw wm mm per ag su it wi wf wl = some (at', st, so, va, 1, st, (hI, mp, mr, mw, wm, mm, per, ag, su, it, wi, wf, wl)) := by
  unfold f9_readClause f9_fails
  rw [if_neg (by rw [t_le, t_5]; omega), if_pos rfl, ob2_k]
theorem mc_full (N : Nat) (ty at' st so va fb : Int32) (mx : Nat → Int32) (hI : Int32) (mp mr mw wm mm per ag su it wi wf wl : Nat → Int32) (h : so.toInt ≤ 5) (hf : f9_isTooMany N so hI mp wm per wi = some 1) : f9_readClause N ty at' st so va 0 fb hI mx mp mr mw wm mm per ag su it wi wf wl = some (at', st, so, va, 3, st, (hI, mp, mr, mw, wm, mm, per, ag, su, it, wi, wf, wl)) := by
  unfold f9_readClause f9_fails
  rw [if_pos (by rw [t_le, t_5]; exact h), hf, ob1_k, if_neg (by decide), if_pos rfl, ob2_k]
theorem mc_bad (N : Nat) (ty at' st so va fb : Int32) (mx : Nat → Int32) (hI : Int32) (mp mr mw wm mm per ag su it wi wf wl : Nat → Int32) (h : so.toInt ≤ 5) (hf : f9_isTooMany N so hI mp wm per wi = some 0) {a1 s1 o1 v1 : Int32} (hs : f9_step N ty at' st so va mx = some (a1, s1, o1, v1)) {a2 s2 o2 v2 f2 b2 : Int32} {M : tyM} (hr : f9_readRow N so ty a1 s1 o1 v1 0 fb hI mx mp mr mw wm mm per ag su it wi wf wl = some (a2, s2, o2, v2, f2, b2, M)) (hb : f2 ≠ 0) : f9_readClause N ty at' st so va 0 fb hI mx mp mr mw wm mm per ag su it wi wf wl = some (a2, s2, o2, v2, f2, b2, M) := by
  obtain ⟨m0, m1, m2, m3, m4, m5, m6, m7, m8, m9, m10, m11, m12⟩ := M
  unfold f9_readClause
  rw [if_pos (by rw [t_le, t_5]; exact h), hf, ob1_k, if_pos rfl, hs, ob4_k, hr, ob19_k, if_neg hb, if_neg hb]
theorem mc_end (N : Nat) (ty at' st so va fb : Int32) (mx : Nat → Int32) (hI : Int32) (mp mr mw wm mm per ag su it wi wf wl : Nat → Int32) (h : so.toInt ≤ 5) (hf : f9_isTooMany N so hI mp wm per wi = some 0) {a1 s1 o1 v1 : Int32} (hs : f9_step N ty at' st so va mx = some (a1, s1, o1, v1)) {a2 s2 o2 v2 b2 : Int32} {M : tyM} (hr : f9_readRow N so ty a1 s1 o1 v1 0 fb hI mx mp mr mw wm mm per ag su it wi wf wl = some (a2, s2, o2, v2, 0, b2, M)) (hb : o2 ≠ 7) : f9_readClause N ty at' st so va 0 fb hI mx mp mr mw wm mm per ag su it wi wf wl = some (a2, s2, o2, v2, 1, s2, M) := by
  obtain ⟨m0, m1, m2, m3, m4, m5, m6, m7, m8, m9, m10, m11, m12⟩ := M
  unfold f9_readClause
  rw [if_pos (by rw [t_le, t_5]; exact h), hf, ob1_k, if_pos rfl, hs, ob4_k, hr, ob19_k, if_pos rfl, if_neg hb]
  rfl
theorem mc_ok (N : Nat) (ty at' st so va fb : Int32) (mx : Nat → Int32) (hI : Int32) (mp mr mw wm mm per ag su it wi wf wl : Nat → Int32) (h : so.toInt ≤ 5) (hf : f9_isTooMany N so hI mp wm per wi = some 0) {a1 s1 o1 v1 : Int32} (hs : f9_step N ty at' st so va mx = some (a1, s1, o1, v1)) {a2 s2 o2 v2 b2 : Int32} {M : tyM} (hr : f9_readRow N so ty a1 s1 o1 v1 0 fb hI mx mp mr mw wm mm per ag su it wi wf wl = some (a2, s2, o2, v2, 0, b2, M)) (hb : o2 = 7) {a3 s3 o3 v3 : Int32} (h3 : f9_step N ty a2 s2 o2 v2 mx = some (a3, s3, o3, v3)) : f9_readClause N ty at' st so va 0 fb hI mx mp mr mw wm mm per ag su it wi wf wl = some (a3, s3, o3, v3, 0, b2, M) := by
  obtain ⟨m0, m1, m2, m3, m4, m5, m6, m7, m8, m9, m10, m11, m12⟩ := M
  unfold f9_readClause
  rw [if_pos (by rw [t_le, t_5]; exact h), hf, ob1_k, if_pos rfl, hs, ob4_k, hr, ob19_k, if_pos rfl, if_pos hb, if_pos rfl, h3, ob4_k]
theorem num_bad (N : Nat) (lo hi ty at' st so va f fa : Int32) (mx : Nat → Int32) (h : f ≠ 0) : f9_number N lo hi ty at' st so va f fa mx = some (va, at', st, so, va, f, fa) := by
  unfold f9_number
  rw [if_neg h]
theorem but_bad (N : Nat) (set ty at' st so va f fa : Int32) (mx mp : Nat → Int32) (h : f ≠ 0) : f9_partBut N set ty at' st so va f fa mx mp = some (va, at', st, so, va, f, fa) := by
  unfold f9_partBut
  rw [if_neg h, num_bad N _ _ ty at' st so va f fa mx h, gi_ok (i := 1) (by decide) (by decide), ob7_k]
