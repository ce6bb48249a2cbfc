/-- the first day that a thing holds of, or -1 -/
def rcR (f : Nat → Prop) (r : Int32) : Prop := (∃ d : Nat, 1 ≤ d ∧ d ≤ 40 ∧ r = nI d ∧ f d ∧ ∀ e, 1 ≤ e → e < d → ¬ f e) ∨ (r = -1 ∧ ∀ e, 1 ≤ e → e ≤ 40 → ¬ f e)
theorem rcR_eq {f g : Nat → Prop} {r s : Int32} (h : ∀ d, 1 ≤ d → d ≤ 40 → (f d ↔ g d)) (hf : rcR f r) (hg : rcR g s) : r = s := by
  rcases hf with ⟨d, d1, d2, rfl, d3, d4⟩ | ⟨rfl, h1⟩
  · rcases hg with ⟨e, e1, e2, rfl, e3, e4⟩ | ⟨rfl, h2⟩
    · by_cases c : d < e
      · exact absurd ((h d d1 d2).mp d3) (e4 d d1 c)
      · by_cases c2 : e < d
        · exact absurd ((h e e1 e2).mpr e3) (d4 e e1 c2)
        · rw [show d = e by omega]
    · exact absurd ((h d d1 d2).mp d3) (h2 d d1 d2)
  · rcases hg with ⟨e, e1, e2, rfl, e3, e4⟩ | ⟨rfl, h2⟩
    · exact absurd ((h e e1 e2).mpr e3) (h1 e e1 e2)
    · rfl
abbrev mx0 (t : Int32) : Int32 := if (0 : Int32) < t then t else (0 : Int32)
theorem sp_reach (N : Nat) (hN : 60 ≤ N) {P : Nat} {dr dn mp mr mw : Nat → Int32} (hc : RC P (nI P) dr dn mp mr mw) {to a : Nat} (hto : to < P) (ha : a < P) (T : Int32) (l m : Nat → Nat → Int32) :
    ∃ r l' m', f5_daysReaching N (nI a) (nI to) T l m (nI P) dr dn = some (r, l', m') ∧ rcR (fun d => ¬ (spR P mr mw to d a).2 < mx0 T) r ∧ (∀ d : Nat, d ≤ 40 → r = nI d → spA d P (spR P mr mw to) l' m') := by
  have hP := hc.1
  have H : ∀ (k e n : Nat) (l m : Nat → Nat → Int32), e + k = 41 → 1 ≤ e → k < n → spA (e - 1) P (spR P mr mw to) l m → (∀ d, 1 ≤ d → d < e → (spR P mr mw to d a).2 < mx0 T) →
      ∃ r l' m', f5_daysReaching_L3 N (nI a) (nI to) T (nI P) dr dn n (nI e) l m = some (r, l', m') ∧ rcR (fun d => ¬ (spR P mr mw to d a).2 < mx0 T) r ∧ (∀ d : Nat, d ≤ 40 → r = nI d → spA d P (spR P mr mw to) l' m') := by
    intro k
    induction k with
    | zero =>
      intro e n l m he h1 hn hA hno
      obtain ⟨n, rfl⟩ : ∃ n', n = n' + 1 := ⟨n - 1, by omega⟩
      refine ⟨-1, l, m, by rw [f5_daysReaching_L3, if_pos (by rw [t_lt, t_40, t_nI (by omega)]; omega)], Or.inr ⟨rfl, fun d h2 h3 h4 => h4 (hno d h2 (by omega))⟩, fun d h2 h3 => absurd h3.symm (nI_nm1 (by omega))⟩
    | succ k ih =>
      intro e n l m he h1 hn hA hno
      obtain ⟨n, rfl⟩ : ∃ n', n = n' + 1 := ⟨n - 1, by omega⟩
      obtain ⟨l1, m1, g1, g2⟩ := sp_layDay N (by omega) hc hto h1 (show e ≤ 40 by omega) l m hA
      have w : m1 e a = (spR P mr mw to e a).2 := congrArg Prod.snd (g2 e a h1 (Nat.le_refl _) ha)
      rw [f5_daysReaching_L3, if_neg (by rw [t_lt, t_40, t_nI (by omega)]; omega), g1, ob2_k, sp_most N h1 (by omega) (by omega), ob1_k, w, nI_1]
      by_cases c : (spR P mr mw to e a).2 < mx0 T
      · rw [if_pos c]
        refine ih (e + 1) n l1 m1 (by omega) (by omega) (by omega) g2 (fun d h2 h3 => ?_)
        by_cases g : d = e
        · rw [g]; exact c
        · exact hno d h2 (by omega)
      · rw [if_neg c]
        refine ⟨nI e, l1, m1, rfl, Or.inl ⟨e, h1, by omega, rfl, c, fun d h2 h3 h4 => h4 (hno d h2 h3)⟩, fun d h2 h3 => ?_⟩
        rw [(nI_eq (by omega) (by omega)).mp h3] at g2
        exact g2
  obtain ⟨r, l', m', e1, e2, e3⟩ := H 40 1 N l m (by omega) (by omega) (by omega) (fun d p h2 h3 h4 => by omega) (fun d h2 h3 => by omega)
  exact ⟨r, l', m', e1, e2, e3⟩
def wiOk (d : Nat) (x : Int32) : Prop := x = -1 ∨ ∃ e : Nat, x = nI e ∧ d < e ∧ e ≤ 10000
theorem wi_loop (N : Nat) {W : Nat} {dw : Int32} {ws we mwi wf wl : Nat → Int32} (hw : RWi W dw ws we mwi wf wl) {d : Nat} (hd : d ≤ 9999999) {now : Nat → Int32} (h0 : now 0 = nI d) : ∀ (k j n : Nat) (x : Int32), j + k = W → k < n → wiOk d x →
    ∃ x', f0_lastWinterEnd_L4 N (nI d) dw ws we n x (nI j) = some x' ∧ f9_sitOut_L15 N mwi wf wl now n x (nI j) = some x' ∧ wiOk d x' := by
  obtain ⟨hW, rfl, hm0, hE⟩ := hw
  intro k
  induction k with
  | zero =>
    intro j n x hj hn hx
    obtain ⟨n, rfl⟩ : ∃ n', n = n' + 1 := ⟨n - 1, by omega⟩
    refine ⟨x, by rw [f0_lastWinterEnd_L4, if_pos (nI_le (by omega) (by omega))], ?_, hx⟩
    rw [f9_sitOut_L15, gi_ok (i := 0) (by decide) (by decide), n_0, hm0, if_pos (nI_le (by omega) (by omega))]
  | succ k ih =>
    intro j n x hj hn hx
    obtain ⟨n, rfl⟩ : ∃ n', n = n' + 1 := ⟨n - 1, by omega⟩
    obtain ⟨f, g, f1, g1, g2, e1, e2, e3, e4⟩ := hE j (by omega)
    rw [f0_lastWinterEnd_L4, if_neg (nI_ge (by omega) (by omega)), if_neg (by rw [t_le, t_5, t_nI (by omega)]; omega), x_gi (by omega) (by omega), x_gi (by omega) (by omega), cl_nI (by omega), e3, e4, nI_1]
    rw [f9_sitOut_L15, gi_ok (i := 0) (by decide) (by decide), n_0, hm0, if_neg (nI_ge (by omega) (by omega)), x_gi (by omega) (by omega), x_gi (by omega) (by omega), x_gi (by omega) (by omega), gi_ok (i := 0) (by decide) (by decide), cl_nI (by omega), e1, e2, l_60, nI_add, pk_mul, pk_mul, h0, nI_1]
    by_cases c : nI (60 * f) < nI d
    · rw [if_pos c, if_pos c]
      exact ih (j + 1) n x (by omega) (by omega) hx
    · have c' : d ≤ 60 * f := by
        rw [nI_ltI (by omega) (by omega)] at c
        omega
      rw [if_neg c, if_neg c]
      by_cases q : x < nI (60 * (f + g))
      · rw [if_pos q, if_neg (fun h => by rw [t_lt] at q; rw [t_le] at h; omega)]
        exact ih (j + 1) n _ (by omega) (by omega) (Or.inr ⟨_, rfl, by omega, by omega⟩)
      · rw [if_neg q, if_pos (by rw [t_lt] at q; rw [t_le]; omega)]
        exact ih (j + 1) n x (by omega) (by omega) hx
theorem q_sitOut (N : Nat) (hN : 200000 ≤ N) (p1 : Int32) {P : Nat} {dp : Int32} {dr dn mp mr mw : Nat → Int32} (hc : RC P dp dr dn mp mr mw) {dm : Int32} {mm : Nat → Int32} (hm : dm = mm 0) {W : Nat} {dw : Int32} {ws we mwi wf wl : Nat → Int32} (hw : RWi W dw ws we mwi wf wl) {Q : Nat} {dt : Int32} {ag ri ou now : Nat → Int32} (hf : RFo Q dt ag ri ou 0 now) (l m : Nat → Nat → Int32) (L M : Nat → Int32) :
    ∃ r l' m' L' M', f8_sitOut N p1 dp dm dw dr dn ws we dt l m = some (r, l', m') ∧ f9_sitOut N p1 mp mr mw mm mwi wf wl now L M = some (r, L', M') := by
  obtain ⟨d, hd, rfl⟩ := nI_nat2 (M := 9999999) hf.2.1 hf.2.2.1
  have hr := hc.h
  have hP := hc.1
  obtain rfl := hc.2.1
  have hm0 := hc.2.2.1
  have h0 : now 0 = nI d := hf.1.symm
  subst hm
  unfold f8_sitOut f9_sitOut f0_lastWinterEnd
  rw [x_hasMouth N p1 P hP, m_isMouth N p1 P hP mp mm hm0]
  simp only [ob1_k, b_z, ite_not]
  by_cases h1 : (0 ≤ p1.toInt ∧ p1.toInt < (P : Int)) ∧ bW (mm 0) p1
  · rw [if_pos h1, if_pos h1]
    obtain ⟨a, ha, rfl⟩ := nI_nat h1.1.1 h1.1.2
    obtain ⟨x, e1, e2, e3⟩ := wi_loop N hw hd h0 W 0 N (-1) (by omega) (by have := hw.1; omega) (Or.inl rfl)
    rw [nI_0] at e1 e2
    rw [e1, e2]
    simp only [ob1_k]
    rcases e3 with rfl | ⟨e, rfl, e4, e5⟩
    · rw [if_pos rfl, if_pos rfl]
      exact ⟨_, l, m, L, M, rfl, rfl⟩
    · rw [if_neg (nI_nm1 (by omega)), if_neg (nI_nm1 (by omega))]
      obtain ⟨r, l', m', g1, g2, -⟩ := sp_reach N (by omega) hc ha ha (nI e - nI d) l m
      obtain ⟨L', M', k1, k2⟩ := fs_all N (by omega) hr hm0 ha L M
      rw [g1, k1]
      simp only [ob3_k, ob2_k]
      have pos : (0 : Int32) < nI e - nI d := by
        rw [pk_sub (by omega), t_lt, t_0, t_nI (by omega)]
        omega
      have T0 : mx0 (nI e - nI d) = nI e - nI d := if_pos pos
      rw [T0] at g2
      have H : ∀ (k e' n : Nat), e' + k = 41 → 1 ≤ e' → k < n → (∀ d', 1 ≤ d' → d' < e' → (spR P mr mw a d' a).2 < nI e - nI d) →
          ∃ s, f9_sitOut_L94 N (nI a) now (nI e) L' M' n (nI e') = some (s, L', M') ∧ rcR (fun d' => ¬ (spR P mr mw a d' a).2 < nI e - nI d) s := by
        intro k
        induction k with
        | zero =>
          intro e' n he h1 hn hno
          obtain ⟨n, rfl⟩ : ∃ n', n = n' + 1 := ⟨n - 1, by omega⟩
          exact ⟨-1, by rw [f9_sitOut_L94, if_pos (by rw [t_lt, t_40, t_nI (by omega)]; omega)], Or.inr ⟨rfl, fun d' h2 h3 h4 => h4 (hno d' h2 (by omega))⟩⟩
        | succ k ih =>
          intro e' n he h1 hn hno
          obtain ⟨n, rfl⟩ : ∃ n', n = n' + 1 := ⟨n - 1, by omega⟩
          have w : M' (7 * e' + a) = (spR P mr mw a e' a).2 := congrArg Prod.snd (k2 e' a h1 (by omega) ha)
          rw [f9_sitOut_L94, if_neg (by rw [t_lt, t_40, t_nI (by omega)]; omega), sp_ix N (by omega) (by omega), ob1_k, x_gi (by omega) (by omega), gi_ok (i := 0) (by decide) (by decide), n_0, cl_nI (by omega), h0, w, nI_1]
          by_cases c : (spR P mr mw a e' a).2 < nI e - nI d
          · rw [if_pos c]
            refine ih (e' + 1) n (by omega) (by omega) (by omega) (fun d' h2 h3 => ?_)
            by_cases g : d' = e'
            · rw [g]; exact c
            · exact hno d' h2 (by omega)
          · rw [if_neg c]
            exact ⟨nI e', rfl, Or.inl ⟨e', h1, by omega, rfl, c, fun d' h2 h3 h4 => h4 (hno d' h2 h3)⟩⟩
      obtain ⟨s, s1, s2⟩ := H 40 1 N (by omega) (by omega) (by omega) (fun d' h2 h3 => by omega)
      have es := rcR_eq (fun _ _ _ => Iff.rfl) g2 s2
      exact ⟨r, l', m', L', M', rfl, by rw [l_1, s1, es]⟩
  · rw [if_neg h1, if_neg h1]
    exact ⟨_, l, m, L, M, rfl, rfl⟩
