/-! the reference's next word, number or sign, against what the class reads there -/
def TK (N k : Nat) (ch : Nat → Nat) (tx : Nat → Int32) (s : Nat) (at' so va : Int32) : Prop :=
  s ≤ k ∧ (∃ w : Nat, w ≤ 6 ∧ f3_clauseOf N (nI s) (nI (adk ch isL k s)) tx = some (nI w) ∧ (1 ≤ w → so = nI (w - 1) ∧ at' = nI (adk ch isL k s) ∧ s < adk ch isL k s) ∧ (w = 0 → 6 ≤ so.toInt)) ∧
  (∃ vc, f3_readNumber_L22 N (nI k) tx (nI s) N 0 (nI s) (nI s) = some (vc, nI (adk ch isD k s)) ∧ (so = 6 ↔ s < adk ch isD k s) ∧ (so = 6 → at' = nI (adk ch isD k s) ∧ nvR s (adk ch isD k s) vc va)) ∧
  (so = 7 ↔ (s < k ∧ ch s = 59)) ∧ (so = 7 → at' = nI (s + 1)) ∧ (so = 8 ↔ s = k)
theorem nI_so {w : Nat} (h : w ≤ 5) : ¬ nI w = (6 : Int32) ∧ ¬ nI w = (7 : Int32) ∧ ¬ nI w = (8 : Int32) := ⟨ne_lit (x := 6) (b := 6) rfl (by omega) (by omega) (by omega), ne_lit (x := 7) (b := 7) rfl (by omega) (by omega) (by omega), ne_lit (x := 8) (b := 8) rfl (by omega) (by omega) (by omega)⟩
theorem m_step (N : Nat) (hN : 1000 ≤ N) {k : Nat} {ch : Nat → Nat} {tx mx : Nat → Int32} (hT : TX k ch tx mx) {p : Nat} (hp : p ≤ k) (st so0 va0 : Int32) :
    ∃ at' so va, f9_step N (nI k) (nI p) st so0 va0 mx = some (at', nI (adk ch isB k p), so, va) ∧ TK N k ch tx (adk ch isB k p) at' so va := by
  have hk := hT.1
  obtain ⟨g1, g2, g3⟩ := adk_ge ch isB k _ p rfl hp
  unfold f9_step
  rw [m_skipL N hT (k - p) p N (by omega) (by omega), ob1_k]
  generalize adk ch isB k p = s at *
  rw [m_here N hT g2, ob1_k]
  obtain ⟨w, w1, w2, w3, w4⟩ := x_cls N hN hT g2
  obtain ⟨vc, vm, d1, d2, d3⟩ := dg_loop N hT (s := s) (k - s) s N N 0 0 (by omega) (by omega) (by omega) (Nat.le_refl _) (Or.inl ⟨by omega, 0, by rw [Nat.sub_self]; decide, rfl, rfl⟩)
  obtain ⟨L1, L2, L3⟩ := adk_ge ch isL k _ s rfl g2
  obtain ⟨D1, D2, D3⟩ := adk_ge ch isD k _ s rfl g2
  by_cases c0 : s < k
  · have hs := hT.2 s c0
    have h0 : hre k ch s = nI (ch s) := if_pos c0
    have nB : ch s ≠ 32 := fun q => g3 ⟨c0, decide_eq_true q⟩
    rw [h0, if_pos (nI_pos' (by omega)), ← h0]
    have hl := hre_L N hT g2
    by_cases cL : isL (ch s) = true
    · rw [if_pos ⟨c0, cL⟩] at hl
      have cl := of_decide_eq_true cL
      have nD : ¬ (s < k ∧ isD (ch s) = true) := fun q => by have := of_decide_eq_true q.2; omega
      have lt : s < adk ch isL k s := by
        rw [adk_yes c0 cL]
        have := (adk_ge ch isL k _ (s + 1) rfl (by omega)).1
        omega
      have wl := wd_loop N hT (s := s) (k - s) s N (by omega) (by omega) (Nat.le_refl _)
      rw [Nat.sub_self] at wl
      have z1 : cdV (fun j => ch (s + j) - 96) 0 = 0 := rfl
      have z2 : mrV (fun j => ch (s + j) - 96) 0 = 0 := rfl
      rw [z1, z2, nI_0] at wl
      rw [hl, ob1_k, if_neg (by decide), wl, ob3_k, w4 lt, ob1_k]
      refine ⟨_, _, _, rfl, g2, ⟨w, w1, w2, fun h => ⟨if_neg (by omega), rfl, lt⟩, fun h => ?_⟩, ⟨vc, d1, ?_, ?_⟩, ?_, ?_, ?_⟩
      · rw [if_pos h]
        decide
      · rw [adk_no nD]
        by_cases z : w = 0
        · rw [if_pos z]
          exact ⟨fun h => absurd h (by decide), fun h => by omega⟩
        · rw [if_neg z]
          exact ⟨fun h => absurd h (nI_so (by omega)).1, fun h => by omega⟩
      · intro h
        by_cases z : w = 0
        · rw [if_pos z] at h
          exact absurd h (by decide)
        · rw [if_neg z] at h
          exact absurd h (nI_so (by omega)).1
      · by_cases z : w = 0
        · rw [if_pos z]
          exact ⟨fun h => absurd h (by decide), fun h => by omega⟩
        · rw [if_neg z]
          exact ⟨fun h => absurd h (nI_so (by omega)).2.1, fun h => by omega⟩
      · intro h
        by_cases z : w = 0
        · rw [if_pos z] at h
          exact absurd h (by decide)
        · rw [if_neg z] at h
          exact absurd h (nI_so (by omega)).2.1
      · by_cases z : w = 0
        · rw [if_pos z]
          exact ⟨fun h => absurd h (by decide), fun h => by omega⟩
        · rw [if_neg z]
          exact ⟨fun h => absurd h (nI_so (by omega)).2.2, fun h => by omega⟩
    · have nL : ¬ (s < k ∧ isL (ch s) = true) := fun q => cL q.2
      have eL := adk_no (ch := ch) (f := isL) (k := k) (p := s) nL
      have w0 := w3 eL
      rw [if_neg nL] at hl
      rw [hl, ob1_k, if_pos rfl]
      have hd := hre_D N hT g2
      by_cases cD : isD (ch s) = true
      · rw [if_pos ⟨c0, cD⟩] at hd
        have cd := of_decide_eq_true cD
        have lt : s < adk ch isD k s := by
          rw [adk_yes c0 cD]
          have := (adk_ge ch isD k _ (s + 1) rfl (by omega)).1
          omega
        rw [hd, ob1_k, if_neg (by decide), d2, ob2_k]
        exact ⟨_, _, _, rfl, g2, ⟨w, w1, w2, fun h => by omega, fun h => by decide⟩, ⟨vc, d1, ⟨fun _ => lt, fun _ => rfl⟩, fun _ => ⟨rfl, d3⟩⟩, ⟨fun h => absurd h (by decide), fun h => by omega⟩, fun h => absurd h (by decide), ⟨fun h => absurd h (by decide), fun h => by omega⟩⟩
      · have nD : ¬ (s < k ∧ isD (ch s) = true) := fun q => cD q.2
        have eD := adk_no (ch := ch) (f := isD) (k := k) (p := s) nD
        rw [if_neg nD] at hd
        rw [hd, ob1_k, if_pos rfl, h0, nI_1]
        by_cases c9 : ch s = 59
        · rw [if_pos ((eq59 hs.2.2).mpr c9)]
          exact ⟨_, _, _, rfl, g2, ⟨w, w1, w2, fun h => by omega, fun h => by decide⟩, ⟨vc, d1, ⟨fun h => absurd h (by decide), fun h => by omega⟩, fun h => absurd h (by decide)⟩, ⟨fun _ => ⟨c0, c9⟩, fun _ => rfl⟩, fun _ => rfl, ⟨fun h => absurd h (by decide), fun h => by omega⟩⟩
        · rw [if_neg (fun q => c9 ((eq59 hs.2.2).mp q))]
          exact ⟨_, _, _, rfl, g2, ⟨w, w1, w2, fun h => by omega, fun h => by decide⟩, ⟨vc, d1, ⟨fun h => absurd h (by decide), fun h => by omega⟩, fun h => absurd h (by decide)⟩, ⟨fun h => absurd h (by decide), fun h => absurd h.2 c9⟩, fun h => absurd h (by decide), ⟨fun h => absurd h (by decide), fun h => by omega⟩⟩
  · have e : s = k := by omega
    subst e
    have h0 : hre s ch s = -1 := if_neg (by omega)
    have eL := adk_no (ch := ch) (f := isL) (k := s) (p := s) (by omega)
    have eD := adk_no (ch := ch) (f := isD) (k := s) (p := s) (by omega)
    have w0 := w3 eL
    rw [h0, if_neg (by decide)]
    exact ⟨_, _, _, rfl, g2, ⟨w, w1, w2, fun h => by omega, fun h => by decide⟩, ⟨vc, d1, ⟨fun h => absurd h (by decide), fun h => by omega⟩, fun h => absurd h (by decide)⟩, ⟨fun h => absurd h (by decide), fun h => by omega⟩, fun h => absurd h (by decide), ⟨fun _ => rfl, fun _ => rfl⟩⟩
theorem pow3 {x a : Nat} (hx : x ≤ 3) (h : a + 1 ≤ 10 ^ x) : a ≤ 999 := by
  rcases (show x = 0 ∨ x = 1 ∨ x = 2 ∨ x = 3 by omega) with rfl | rfl | rfl | rfl <;> simp at h <;> omega
theorem num_both (N : Nat) (hN : 1000 ≤ N) {k : Nat} {ch : Nat → Nat} {tx mx : Nat → Int32} (hT : TX k ch tx mx) {p : Nat} (hp : p ≤ k) {at' so va : Int32} (hK : TK N k ch tx (adk ch isB k p) at' so va) (lo hi : Int32) (h0 : 0 ≤ lo.toInt) (h9 : hi.toInt ≤ 999) (fk fa na fb : Int32) :
    (∃ (v q : Nat) (at2 so2 va2 : Int32), v ≤ 999 ∧ lo.toInt ≤ v ∧ (v : Int) ≤ hi.toInt ∧ p < q ∧ q ≤ k ∧ f3_readNumber N lo hi fk fa (nI p) (nI k) na tx = some (nI v, fk, fa, nI q, nI (adk ch isB k p)) ∧ f9_number N lo hi (nI k) at' (nI (adk ch isB k p)) so va 0 fb mx = some (nI v, at2, nI (adk ch isB k q), so2, va2, 0, fb) ∧ TK N k ch tx (adk ch isB k q) at2 so2 va2 ∧ so = 6 ∧ va = nI v) ∨
    (∃ (e vc : Int32) (q : Nat), (e = 1 ∨ e = 2) ∧ q ≤ k ∧ f3_readNumber N lo hi fk fa (nI p) (nI k) na tx = some (vc, e, nI (adk ch isB k p), nI q, nI (adk ch isB k p)) ∧ f9_number N lo hi (nI k) at' (nI (adk ch isB k p)) so va 0 fb mx = some (va, at', nI (adk ch isB k p), so, va, e, nI (adk ch isB k p)) ∧ (so = 6 → f9_in N va lo hi = some 0)) := by
  have hk := hT.1
  obtain ⟨g1, g2, g3⟩ := adk_ge ch isB k _ p rfl hp
  unfold f3_readNumber f9_number f9_fails f3_setFault
  rw [x_skip N hN hT hp, ob1_k]
  generalize adk ch isB k p = s at *
  obtain ⟨-, -, ⟨vc, d1, d2, d3⟩, -, -, -⟩ := hK
  obtain ⟨D1, D2, D3⟩ := adk_ge ch isD k _ s rfl g2
  rw [d1, ob2_k, if_pos rfl]
  simp only [ob2_k]
  by_cases c6 : so = 6
  · obtain ⟨a1, a2⟩ := d3 c6
    have lt := d2.mp c6
    rw [if_pos c6, if_neg (fun q => by have := (nI_eq (by omega) (by omega)).mp q; omega), pk_sub (by omega), m_in, ob1_k]
    have e3 : ((3 : Int32) < nI (adk ch isD k s - s)) ↔ 3 < adk ch isD k s - s := nI_ltI (a := 3) (by omega) (by omega)
    rcases a2 with ⟨b1, a, b2, rfl, rfl⟩ | ⟨b1, rfl⟩
    · have ha := pow3 b1 b2
      rw [if_neg (fun q => by have := e3.mp q; omega), t_nI (by omega)]
      by_cases cin : lo.toInt ≤ (a : Int) ∧ (a : Int) ≤ hi.toInt
      · left
        obtain ⟨at2, so2, va2, s1, s2⟩ := m_step N hN hT D2 (nI s) so (nI a)
        rw [if_neg (by rw [t_lt, t_nI (by omega)]; omega), if_pos (by rw [t_le, t_nI (by omega)]; omega), if_pos cin, if_neg (by decide), a1, s1]
        exact ⟨a, _, at2, so2, va2, ha, cin.1, cin.2, by omega, D2, rfl, rfl, s2, c6, rfl⟩
      · right
        rw [if_neg cin, if_pos rfl]
        refine ⟨2, nI a, _, Or.inr rfl, D2, ?_, rfl, fun _ => rfl⟩
        by_cases z : nI a < lo
        · rw [if_pos z]
        · rw [if_neg z, if_neg (fun q => cin ⟨by rw [t_lt, t_nI (by omega)] at z; omega, by rw [t_le, t_nI (by omega)] at q; exact q⟩)]
    · right
      have t9 : (9999 : Int32).toInt = 9999 := rfl
      have cin : ¬ (lo.toInt ≤ (9999 : Int32).toInt ∧ (9999 : Int32).toInt ≤ hi.toInt) := by
        rw [t9]
        omega
      rw [if_pos (e3.mpr b1), if_neg cin, if_pos rfl]
      exact ⟨2, vc, _, Or.inr rfl, D2, rfl, rfl, fun _ => rfl⟩
  · right
    have eD : adk ch isD k s = s := by
      by_cases z : s < adk ch isD k s
      · exact absurd (d2.mpr z) c6
      · omega
    rw [if_neg c6, eD, if_pos rfl]
    exact ⟨1, vc, s, Or.inl rfl, g2, rfl, rfl, fun h => absurd h c6⟩
theorem end_both (N : Nat) (hN : 1000 ≤ N) {k : Nat} {ch : Nat → Nat} {tx mx : Nat → Int32} (hT : TX k ch tx mx) {p : Nat} (hp : p ≤ k) {at' so va : Int32} (hK : TK N k ch tx (adk ch isB k p) at' so va) (fk fa : Int32) :
    (so = 7 ∧ adk ch isB k p < k ∧ at' = nI (adk ch isB k p + 1) ∧ f3_readEnd N fk fa (nI p) (nI k) tx = some (fk, fa, nI (adk ch isB k p + 1))) ∨ (so ≠ 7 ∧ f3_readEnd N fk fa (nI p) (nI k) tx = some (1, nI (adk ch isB k p), nI (adk ch isB k p))) := by
  have hk := hT.1
  obtain ⟨g1, g2, g3⟩ := adk_ge ch isB k _ p rfl hp
  unfold f3_readEnd f3_setFault
  rw [x_skip N hN hT hp, ob1_k]
  generalize adk ch isB k p = s at *
  obtain ⟨-, -, -, e1, e2, -⟩ := hK
  simp only [ob2_k]
  rw [if_neg (nI_pos (by omega))]
  by_cases c0 : s < k
  · have hs := hT.2 s c0
    rw [if_neg (nI_ge c0 (by omega)), if_neg (c500 (by omega)), x_gi (by omega) (by omega), cl_nI (by omega), hs.1]
    by_cases c9 : ch s = 59
    · have h7 := e1.mpr ⟨c0, c9⟩
      left
      rw [if_pos ((eq59 hs.2.2).mpr c9), nI_1]
      exact ⟨h7, c0, e2 h7, rfl⟩
    · right
      rw [if_neg (fun q => c9 ((eq59 hs.2.2).mp q))]
      exact ⟨fun h => c9 (e1.mp h).2, rfl⟩
  · right
    rw [if_pos (nI_le (by omega) (by omega))]
    exact ⟨fun h => c0 (e1.mp h).1, rfl⟩
