/-! cave -/
theorem frU (f : Nat → Int32) (x : Int32) : upd f 1 x 0 = f 0 := pk_un (by decide)
theorem tx_of {k : Nat} (hk : k ≤ 500) {tx mx : Nat → Int32} (h : ∀ j, j < k → tx j = mx j &&& 255) : TX k (fun j => (mx j).toBitVec.toNat % 2 ^ 8) tx mx := by
  refine ⟨hk, fun j hj => ?_⟩
  have e : mx j &&& 255 = nI ((mx j).toBitVec.toNat % 2 ^ 8) := pk_and (mx j) 8 rfl
  refine ⟨by rw [h j hj, e], e, ?_⟩
  have := Nat.mod_lt ((mx j).toBitVec.toNat) (show 0 < 2 ^ 8 by decide)
  exact this
theorem cp183 (N : Nat) : ∀ (m j n : Nat) (r u : Nat → Int32), j + m = 7 → m < n → ∃ r' u', f9_cave_L183 N n (nI j) r u = some (r', u') ∧ (∀ i, j ≤ i → i < 7 → r' i = r (7 + i) ∧ u' i = u (7 + i)) ∧ (∀ i, i < j ∨ 7 ≤ i → r' i = r i ∧ u' i = u i) := by
  intro m
  induction m with
  | zero =>
    intro j n r u hj hn
    obtain ⟨n, rfl⟩ : ∃ x, n = x + 1 := ⟨n - 1, by omega⟩
    exact ⟨r, u, by rw [f9_cave_L183, if_pos (by rw [t_le, t_7, t_nI (by omega)]; omega)], fun i h1 h2 => by omega, fun _ _ => ⟨rfl, rfl⟩⟩
  | succ m ih =>
    intro j n r u hj hn
    obtain ⟨n, rfl⟩ : ∃ x, n = x + 1 := ⟨n - 1, by omega⟩
    obtain ⟨r', u', e1, e2, e3⟩ := ih (j + 1) n (upd r j (r (7 + j))) (upd u j (u (7 + j))) (by omega) (by omega)
    refine ⟨r', u', ?_, fun i h1 h2 => ?_, fun i hi => ?_⟩
    · rw [f9_cave_L183, if_neg (c7 (by omega)), l_7, nI_add, x_gi (by omega) (by omega), x_gi (by omega) (by omega), x_gi (by omega) (by omega), x_gi (by omega) (by omega), cl_nI (by omega), cl_nI (by omega), nI_1]
      exact e1
    · by_cases z : i = j
      · subst z
        obtain ⟨g1, g2⟩ := e3 i (Or.inl (by omega))
        rw [g1, g2, pk_us, pk_us]
        exact ⟨rfl, rfl⟩
      · obtain ⟨g1, g2⟩ := e2 i (by omega) h2
        rw [g1, g2, pk_un (by omega), pk_un (by omega)]
        exact ⟨rfl, rfl⟩
    · obtain ⟨g1, g2⟩ := e3 i (by omega)
      rw [g1, g2, pk_un (by omega), pk_un (by omega)]
      exact ⟨rfl, rfl⟩
theorem cp227 (N : Nat) : ∀ (m j n : Nat) (r u : Nat → Int32), j + m = 5 → m < n → ∃ r' u', f9_cave_L227 N n (nI j) r u = some (r', u') ∧ (∀ i, j ≤ i → i < 5 → r' i = r (5 + i) ∧ u' i = u (5 + i)) ∧ (∀ i, i < j ∨ 5 ≤ i → r' i = r i ∧ u' i = u i) := by
  intro m
  induction m with
  | zero =>
    intro j n r u hj hn
    obtain ⟨n, rfl⟩ : ∃ x, n = x + 1 := ⟨n - 1, by omega⟩
    exact ⟨r, u, by rw [f9_cave_L227, if_pos (by rw [t_le, t_5, t_nI (by omega)]; omega)], fun i h1 h2 => by omega, fun _ _ => ⟨rfl, rfl⟩⟩
  | succ m ih =>
    intro j n r u hj hn
    obtain ⟨n, rfl⟩ : ∃ x, n = x + 1 := ⟨n - 1, by omega⟩
    obtain ⟨r', u', e1, e2, e3⟩ := ih (j + 1) n (upd r j (r (5 + j))) (upd u j (u (5 + j))) (by omega) (by omega)
    have l5 : (5 : Int32) = nI 5 := rfl
    refine ⟨r', u', ?_, fun i h1 h2 => ?_, fun i hi => ?_⟩
    · rw [f9_cave_L227, l5, if_neg (nI_ge (by omega) (by omega)), nI_add, x_gi (by omega) (by omega), x_gi (by omega) (by omega), x_gi (by omega) (by omega), x_gi (by omega) (by omega), cl_nI (by omega), cl_nI (by omega), nI_1]
      exact e1
    · by_cases z : i = j
      · subst z
        obtain ⟨g1, g2⟩ := e3 i (Or.inl (by omega))
        rw [g1, g2, pk_us, pk_us]
        exact ⟨rfl, rfl⟩
      · obtain ⟨g1, g2⟩ := e2 i (by omega) h2
        rw [g1, g2, pk_un (by omega), pk_un (by omega)]
        exact ⟨rfl, rfl⟩
    · obtain ⟨g1, g2⟩ := e3 i (by omega)
      rw [g1, g2, pk_un (by omega), pk_un (by omega)]
      exact ⟨rfl, rfl⟩
theorem cp275 (N : Nat) (ag su : Nat → Int32) : ∀ (m j n : Nat) (now : Nat → Int32), j + m = 6 → m < n → ∃ now', f9_cave_L275 N ag su n (nI j) now = some now' ∧ (∀ i, j ≤ i → i < 6 → now' (1 + i) = 60 * ag (6 + i) ∧ now' (7 + i) = su (6 + i) ∧ now' (13 + i) = 0) ∧ (∀ i, i < j → now' (1 + i) = now (1 + i) ∧ now' (7 + i) = now (7 + i) ∧ now' (13 + i) = now (13 + i)) ∧ now' 0 = now 0 := by
  intro m
  induction m with
  | zero =>
    intro j n now hj hn
    obtain ⟨n, rfl⟩ : ∃ x, n = x + 1 := ⟨n - 1, by omega⟩
    exact ⟨now, by rw [f9_cave_L275, if_pos (by rw [t_le, t_6, t_nI (by omega)]; omega)], fun i h1 h2 => by omega, fun _ _ => ⟨rfl, rfl, rfl⟩, rfl⟩
  | succ m ih =>
    intro j n now hj hn
    obtain ⟨n, rfl⟩ : ∃ x, n = x + 1 := ⟨n - 1, by omega⟩
    obtain ⟨now', e1, e2, e3, e4⟩ := ih (j + 1) n (upd (upd (upd now (1 + j) (60 * ag (6 + j))) (7 + j) (su (6 + j))) (13 + j) 0) (by omega) (by omega)
    have l6 : (6 : Int32) = nI 6 := rfl
    refine ⟨now', ?_, fun i h1 h2 => ?_, fun i hi => ?_, ?_⟩
    · rw [f9_cave_L275, l6, if_neg (nI_ge (by omega) (by omega)), nI_1]
      have i1 : (1 : Int32) + nI j = nI (1 + j) := nI_add 1 j
      rw [i1, l_7, l_13, nI_add, nI_add, nI_add, x_gi (by omega) (by omega), x_gi (by omega) (by omega), x_gi (by omega) (by omega), x_gi (by omega) (by omega), x_gi (by omega) (by omega), cl_nI (by omega), cl_nI (by omega), cl_nI (by omega), cl_nI (by omega)]
      exact e1
    · by_cases z : i = j
      · subst z
        obtain ⟨g1, g2, g3⟩ := e3 i (by omega)
        rw [g1, g2, g3, pk_us, pk_un (by omega), pk_un (by omega), pk_us, pk_un (by omega), pk_us]
        exact ⟨rfl, rfl, rfl⟩
      · exact e2 i (by omega) h2
    · obtain ⟨g1, g2, g3⟩ := e3 i (by omega)
      rw [g1, g2, g3, pk_un (by omega), pk_un (by omega), pk_un (by omega), pk_un (by omega), pk_un (by omega), pk_un (by omega), pk_un (by omega), pk_un (by omega), pk_un (by omega)]
      exact ⟨rfl, rfl, rfl⟩
    · rw [e4, pk_un (by omega), pk_un (by omega), pk_un (by omega)]
theorem st_in (N : Nat) (fa fr : Nat → Int32) : ∀ (m j n : Nat) (a r o : Nat → Int32), j + m = 6 → m < n → ∃ a' r' o', f2_startIn_L7 N fa fr n (nI j) a r o = some (a', r', o') ∧ (∀ i, j ≤ i → i < 6 → a' i = fa i ∧ r' i = fr i ∧ o' i = -1) ∧ (∀ i, i < j → a' i = a i ∧ r' i = r i ∧ o' i = o i) := by
  intro m
  induction m with
  | zero =>
    intro j n a r o hj hn
    obtain ⟨n, rfl⟩ : ∃ x, n = x + 1 := ⟨n - 1, by omega⟩
    exact ⟨a, r, o, by rw [f2_startIn_L7, if_pos (by rw [t_le, t_6, t_nI (by omega)]; omega)], fun i h1 h2 => by omega, fun _ _ => ⟨rfl, rfl, rfl⟩⟩
  | succ m ih =>
    intro j n a r o hj hn
    obtain ⟨n, rfl⟩ : ∃ x, n = x + 1 := ⟨n - 1, by omega⟩
    obtain ⟨a', r', o', e1, e2, e3⟩ := ih (j + 1) n (upd a j (fa j)) (upd r j (fr j)) (upd o j (-1)) (by omega) (by omega)
    have l6 : (6 : Int32) = nI 6 := rfl
    refine ⟨a', r', o', ?_, fun i h1 h2 => ?_, fun i hi => ?_⟩
    · rw [f2_startIn_L7, l6, if_neg (nI_ge (by omega) (by omega)), x_gi (by omega) (by omega), x_gi (by omega) (by omega), x_gi (by omega) (by omega), x_gi (by omega) (by omega), x_gi (by omega) (by omega), cl_nI (by omega), nI_1]
      exact e1
    · by_cases z : i = j
      · subst z
        obtain ⟨g1, g2, g3⟩ := e3 i (by omega)
        rw [g1, g2, g3, pk_us, pk_us, pk_us]
        exact ⟨rfl, rfl, rfl⟩
      · exact e2 i (by omega) h2
    · obtain ⟨g1, g2, g3⟩ := e3 i (by omega)
      rw [g1, g2, g3, pk_un (by omega), pk_un (by omega), pk_un (by omega)]
      exact ⟨rfl, rfl, rfl⟩

/-- what stands behind a cave that was told without fault -/
def CAV (P Q i W : Nat) (cp cm cq ci cwi : Int32) (cr cn cs ce : Nat → Int32) (dt : Int32) (ag ri ou : Nat → Int32) (mp mr mw mm per it wi wf wl now : Nat → Int32) : Prop :=
  RC P cp cr cn mp mr mw ∧ cm = mm 0 ∧ RPe Q cq per ∧ RIn i ci it ∧ RWi W cwi cs ce wi wf wl ∧ RFo Q dt ag ri ou 0 now
theorem CAV.fr {P Q i W : Nat} {cp cm cq ci cwi : Int32} {cr cn cs ce : Nat → Int32} {dt : Int32} {ag ri ou : Nat → Int32} {mp mr mw mm per it wi wf wl now mp' mr' mw' mm' per' it' wi' wf' wl' : Nat → Int32} (h : CAV P Q i W cp cm cq ci cwi cr cn cs ce dt ag ri ou mp mr mw mm per it wi wf wl now) (f : FRx mp mr mw mm per it wi wf wl mp' mr' mw' mm' per' it' wi' wf' wl') : CAV P Q i W cp cm cq ci cwi cr cn cs ce dt ag ri ou mp' mr' mw' mm' per' it' wi' wf' wl' now := by
  obtain ⟨⟨a1, a2, a3, a4⟩, b, ⟨c1, c2, c3⟩, ⟨d1, d2, d3⟩, ⟨e1, e2, e3, e4⟩, g⟩ := h
  obtain ⟨f1, f2, f3, f4, f5, f6, f7⟩ := f
  refine ⟨⟨a1, a2, f1.trans a3, fun p hp => ?_⟩, b.trans f3.symm, ⟨c1, c2, f4.trans c3⟩, ⟨d1, d2, f5.trans d3⟩, ⟨e1, e2, f6.trans e3, fun w hw => ?_⟩, g⟩
  · obtain ⟨x1, x2⟩ := f2 p (by omega)
    rw [x1, x2]
    exact a4 p hp
  · obtain ⟨x1, x2⟩ := f7 w (by omega)
    rw [x1, x2]
    exact e4 w hw
theorem q_cave (N : Nat) (hN : 200000 ≤ N) {k : Nat} (hk : k ≤ 500) {tx mx : Nat → Int32} (hc : ∀ j, j < k → tx j = mx j &&& 255) (vfa : Int32) (cp cm cw cq ci ct cwi : Int32) (cr cn ca cc cs ce : Nat → Int32) (rk rf ra rl rn sc fd : Int32) (fa0 fr0 fo0 : Nat → Int32) (ki1 ki2 tc rgc : Int32) (at0 st0 so0 va0 fl0 fla0 : Int32) (hI : Int32) (mp mr mw wm mm per ag su it wi wf wl : Nat → Int32) (sm tm lm : Int32) (now isK : Nat → Int32) :
    ∃ (r fa' : Int32) (cp' cm' cw' cq' ci' ct' cwi' : Int32) (cr' cn' ca' cc' cs' ce' : Nat → Int32) (rk' rf' ra' rl' rn' sc' fd' : Int32) (fa1 fr1 fo1 : Nat → Int32) (ki1' ki2' tc' rgc' : Int32) (nsw : Bool) (at1 st1 so1 va1 fl1 fla1 : Int32) (hI' : Int32) (mp' mr' mw' wm' mm' per' ag' su' it' wi' wf' wl' : Nat → Int32) (sm' tm' lm' : Int32) (now' isK' : Nat → Int32),
      f8_cave N (nI k) vfa tx cp cm cw cq ci ct cwi cr cn ca cc cs ce rk rf ra rl rn sc fd fa0 fr0 fo0 ki1 ki2 tc rgc = some (r, 0, fa', cp', cm', cw', cq', ci', ct', cwi', cr', cn', ca', cc', cs', ce', rk', rf', ra', rl', rn', sc', fd', fa1, fr1, fo1, ki1', ki2', tc', rgc', nsw) ∧
      f9_cave N (nI k) at0 st0 so0 va0 fl0 fla0 hI sm tm lm mx mp mr mw wm mm per ag su it wi wf wl now isK = some (r, 0, at1, st1, so1, va1, fl1, fla1, hI', sm', tm', lm', mp', mr', mw', wm', mm', per', ag', su', it', wi', wf', wl', now', isK') ∧ fa' = fla1 ∧
      ((nsw = false ∧ FRx mp mr mw mm per it wi wf wl mp' mr' mw' mm' per' it' wi' wf' wl' ∧ sc' = sc ∧ fd' = fd ∧ fa1 = fa0 ∧ fr1 = fr0 ∧ fo1 = fo0 ∧ ki1' = ki1 ∧ ki2' = ki2 ∧ tc' = tc ∧ rgc' = rgc ∧ sm' = sm ∧ tm' = tm ∧ lm' = lm ∧ now' = now ∧ isK' = isK) ∨
       (nsw = true ∧ (∃ P Q i W : Nat, CAV P Q i W cp' cm' cq' ci' cwi' cr' cn' cs' ce' fd' fa1 fr1 fo1 mp' mr' mw' mm' per' it' wi' wf' wl' now') ∧ sc' = 0 ∧ ki1' = 0 ∧ ki2' = 0 ∧ tc' = 0 ∧ rgc' = 0 ∧ sm' = 0 ∧ tm' = 0 ∧ lm' = 0 ∧ isK' 0 = 0 ∧ isK' 1 = 0)) := by
  have hT := tx_of hk hc
  generalize (fun j => (mx j).toBitVec.toNat % 2 ^ 8) = ch at hT
  have hsk := x_skip N (by omega) hT (Nat.zero_le k)
  obtain ⟨a1, o1, v1, s1, hK⟩ := m_step N (by omega) hT (Nat.zero_le k) st0 so0 va0
  obtain ⟨g1, g2, -⟩ := adk_ge ch isB k _ 0 rfl (Nat.zero_le k)
  have hCV : CVx 0 0 0 0 0 0 0 0 0 0 0 cr cn ca cc cs ce 0 (upd mp 1 0) mr mw (upd wm 1 0) (upd mm 1 0) (upd per 1 0) ag su (upd it 1 0) (upd wi 1 0) wf wl :=
    ⟨⟨by omega, rfl, pk_us⟩, ⟨by omega, rfl, pk_us⟩, ⟨by omega, rfl, pk_us⟩, ⟨by omega, rfl, pk_us⟩, pk_us.symm, ⟨0, by omega, rfl, pk_us⟩, ⟨rfl, Or.inl rfl⟩, fun p hp => by omega, fun p hp => by omega, fun p hp => by omega⟩
  obtain ⟨fk', fa', at1, num', C', a2, s2, o2, v2, f2, fb', M', i1, i2, fr, i4⟩ := all_loop N (by omega) hT (-1) (-1) k (adk ch isB k 0) 0 N N rn 0 0 0 0 0 0 0 cr cn ca cc cs ce 0 (upd mp 1 0) mr mw (upd wm 1 0) (upd mm 1 0) (upd per 1 0) ag su (upd it 1 0) (upd wi 1 0) wf wl a1 o1 v1 0 0 0 0 (by omega) g2 (Nat.zero_le _) (by omega) (by omega) hK hCV
  obtain ⟨cp', cm', cw', cq', ci', ct', cwi', cr', cn', ca', cc', cs', ce'⟩ := C'
  obtain ⟨hI', mp', mr', mw', wm', mm', per', ag', su', it', wi', wf', wl'⟩ := M'
  have frx : FRx mp mr mw mm per it wi wf wl mp' mr' mw' mm' per' it' wi' wf' wl' := by
    obtain ⟨x1, x2, x3, x4, x5, x6, x7⟩ := fr
    exact ⟨x1.trans (frU mp 0), x2, x3.trans (frU mm 0), x4.trans (frU per 0), x5.trans (frU it 0), x6.trans (frU wi 0), x7⟩
  rw [nI_0] at hsk i1 s1
  have rd : f3_readAll N (nI k) rk rf ra rl rn tx cp cm cw cq ci ct cwi cr cn ca cc cs ce = some (fk', fa', at1, nI k, num', cp', cm', cw', cq', ci', ct', cwi', cr', cn', ca', cc', cs', ce') := by
    unfold f3_readAll f0_clear
    rw [ob7_k, len_min hk, hsk, ob1_k, i1, ob17_k]
  unfold f8_cave f9_cave
  rw [rd, ob18_k]
  rw [gi_ok (i := 1) (by decide) (by decide), gi_ok (i := 1) (by decide) (by decide), gi_ok (i := 1) (by decide) (by decide), gi_ok (i := 1) (by decide) (by decide), gi_ok (i := 1) (by decide) (by decide), gi_ok (i := 1) (by decide) (by decide), s1, ob4_k, n_1, i2, ob19_k]
  rcases i4 with ⟨rfl, rfl, rfl, rfl, hcv⟩ | ⟨e, k1, k2, rfl, rfl, rfl⟩
  · obtain ⟨P, Wn, Q, W, hcv⟩ := hcv
    have hcv' : CVx P Wn Q W cp' cm' cw' cq' ci' ct' cwi' cr' cn' ca' cc' cs' ce' hI' mp' mr' mw' wm' mm' per' ag' su' it' wi' wf' wl' := hcv
    obtain ⟨⟨hP, c1, c2⟩, ⟨hWn, c3, c4⟩, ⟨hQ, c5, c6⟩, ⟨hW, c7', c8⟩, c9, ⟨i, hi, c10, c11⟩, ⟨c12, c13⟩, cP, cQ, cW⟩ := hcv'
    obtain ⟨r', u', y1, y2, -⟩ := cp183 N 7 0 N mr' mw' (by omega) (by omega)
    obtain ⟨f', l', z1, z2, -⟩ := cp227 N 5 0 N wf' wl' (by omega) (by omega)
    obtain ⟨now', n1, n2, -, n4⟩ := cp275 N ag' su' 6 0 N (upd now 0 0) (by omega) (by omega)
    obtain ⟨a', b', d', q1, q2, -⟩ := st_in N ca' cc' 6 0 N fa0 fr0 fo0 (by omega) (by omega)
    rw [nI_0] at y1 z1 n1 q1
    have st : f2_startIn N fd fa0 fr0 fo0 ca' cc' = some (0, a', b', d') := by
      unfold f2_startIn
      rw [q1, ob3_k]
    rw [if_pos rfl, if_pos rfl, st, ob4_k]
    simp only [gi_ok (i := (1 : Int32)) (n := 2) (by decide) (by decide), gi_ok (i := (0 : Int32)) (n := 2) (by decide) (by decide), gi_ok (i := (0 : Int32)) (n := 60) (by decide) (by decide), n_0, n_1]
    have er : upd mp' 0 (mp' 1) 0 = nI P := (pk_us (k := 0)).trans c2
    subst c1
    rw [y1, ob2_k, z1, ob2_k, n1, ob1_k]
    rw [er]
    refine ⟨_, _, _, _, _, _, _, _, _, _, _, _, _, _, _, _, _, _, _, _, _, _, _, _, _, _, _, _, _, _, _, _, _, _, _, _, _, _, _, _, _, _, _, _, _, _, _, _, _, _, _, _, _, _, rfl, rfl, rfl, Or.inr ⟨rfl, ⟨P, Q, i, W, ?_⟩, rfl, rfl, rfl, rfl, rfl, rfl, rfl, rfl, ?_, ?_⟩⟩
    · refine ⟨⟨hP, rfl, pk_us.trans c2, fun p hp => ?_⟩, c9.trans pk_us.symm, ⟨hQ, c5, pk_us.trans c6⟩, ⟨hi, c10, pk_us.trans c11⟩, ⟨hW, c7', pk_us.trans c8, fun w hw => ?_⟩, ⟨?_, by decide, by decide, fun q hq => ?_⟩⟩
      · obtain ⟨x1, x2⟩ := y2 p (Nat.zero_le _) (by omega)
        rw [x1, x2]
        exact cP p hp
      · obtain ⟨x1, x2⟩ := z2 w (Nat.zero_le _) (by omega)
        rw [x1, x2]
        exact cW w hw
      · rw [n4, pk_us]
      · obtain ⟨x1, x2, x3⟩ := n2 q (Nat.zero_le _) (by omega)
        obtain ⟨w1, w2, w3⟩ := q2 q (Nat.zero_le _) (by omega)
        obtain ⟨c, d1, d2, d3, d4⟩ := cQ q hq
        simp only [Nat.zero_add]
        rw [x1, x2, x3, w1, w2, w3, d2, d3, d4, n4, pk_us]
        exact ⟨rfl, rfl, by rw [t_nI (by omega)]; omega, by rw [t_nI (by omega)]; omega, by decide, by decide, rfl⟩
    · rw [pk_un (by decide), pk_us]
      rfl
    · rw [pk_us]
      rfl
  · have ne : nI e ≠ 0 := nI_ne0 (by omega) (by omega)
    rw [if_neg ne, if_neg ne]
    exact ⟨_, _, _, _, _, _, _, _, _, _, _, _, _, _, _, _, _, _, _, _, _, _, _, _, _, _, _, _, _, _, _, _, _, _, _, _, _, _, _, _, _, _, _, _, _, _, _, _, _, _, _, _, _, _, rfl, rfl, rfl, Or.inl ⟨rfl, frx, rfl, rfl, rfl, rfl, rfl, rfl, rfl, rfl, rfl, rfl, rfl, rfl, rfl, rfl⟩⟩

