/-- what the first loop of the reference's search leaves -/
def l11R (F : Nat → Prop) (r is : Int32) : Prop := (is = 0 ∧ ∀ d, 1 ≤ d → d ≤ 40 → ¬ F d) ∨ (is = 1 ∧ ∃ d : Nat, 1 ≤ d ∧ d ≤ 40 ∧ r = nI d ∧ F d ∧ ∀ e, 1 ≤ e → e < d → ¬ F e)
theorem fs_11r (N : Nat) {P a : Nat} (ha : a < P) (hP : P ≤ 7) {mp mr mw : Nat → Int32} (T p2 p4 : Int32) (hp4 : p4 ≠ 0) (L M : Nat → Int32) (cn : Nat → Int64) {R : Nat → Nat → Int32 × Int32} (hR : ∀ d q, d ≤ 40 → q < P → (R d q).2 = -1 ∨ 0 ≤ (R d q).2.toInt) (hM : fsA 40 P R L M) : ∀ (k e n : Nat), e + k = 40 → k + 2 < n → (∀ d, 1 ≤ d → d ≤ e → ¬ rG R d a T.toInt) →
    ∃ r is, f9_findStay_L11 N (nI a) p2 T p4 mp mr mw M n (nI e) 0 cn = some (r, is, cn) ∧ l11R (fun d => rG R d a T.toInt) r is := by
  intro k
  induction k with
  | zero =>
    intro e n he hn hno
    obtain ⟨n, rfl⟩ : ∃ n', n = n' + 1 := ⟨n - 1, by omega⟩
    exact ⟨nI e, 0, by rw [f9_findStay_L11, if_pos rfl, if_pos (by rw [t_le, t_40, t_nI (by omega)]; omega)], Or.inl ⟨rfl, fun d h1 h2 => hno d h1 (by omega)⟩⟩
  | succ k ih =>
    intro e n he hn hno
    obtain ⟨n, rfl⟩ : ∃ n', n = n' + 1 := ⟨n - 1, by omega⟩
    have w : M (7 * (e + 1) + a) = (R (e + 1) a).2 := congrArg Prod.snd (hM (e + 1) a (by omega) (by omega) ha)
    rw [f9_findStay_L11, if_pos rfl, if_neg (by rw [t_le, t_40, t_nI (by omega)]; omega), if_neg hp4, nI_1, sp_ix N (by omega) (by omega)]
    simp only [ob1_k]
    rw [x_gi (by omega) (by omega), x_gi (by omega) (by omega), cl_nI (by omega), w]
    have next : ¬ rG R (e + 1) a T.toInt → ∀ d, 1 ≤ d → d ≤ e + 1 → ¬ rG R d a T.toInt := fun h d h1 h2 => by
      by_cases z : d = e + 1
      · rw [z]; exact h
      · exact hno d h1 (by omega)
    by_cases c : (R (e + 1) a).2 = -1
    · rw [if_pos c]
      refine ih (e + 1) n (by omega) (by omega) (next (fun h => ?_))
      have := h.1
      rw [c, t_m1] at this
      omega
    · rw [if_neg c]
      by_cases g : (R (e + 1) a).2 < T
      · rw [if_pos g]
        refine ih (e + 1) n (by omega) (by omega) (next (fun h => ?_))
        have := h.2
        rw [t_lt] at g
        omega
      · rw [if_neg g]
        obtain ⟨n, rfl⟩ : ∃ n', n = n' + 1 := ⟨n - 1, by omega⟩
        refine ⟨nI (e + 1), 1, by rw [f9_findStay_L11, if_neg (by decide)], Or.inr ⟨rfl, e + 1, by omega, by omega, rfl, ⟨(hR (e + 1) a (by omega) ha).resolve_left c, ?_⟩, fun d h1 h2 => hno d h1 (by omega)⟩⟩
        rw [t_lt] at g
        omega
theorem fs_11e (N : Nat) (hN : 200 ≤ N) {P a to : Nat} (ha : a < P) {mp mr mw : Nat → Int32} (hr : spH P mr) (hm : mp 0 = nI P) (hto : to < P) {T : Int32} (hT : T.toInt ≤ 6000) (M : Nat → Int32) : ∀ (k e n : Nat) (cn : Nat → Int64), e + k = 40 → k + 2 < n → cA e P (exT P (rhoN mr) mw to) cn → (∀ d, 1 ≤ d → d ≤ e → ¬ eG (exT P (rhoN mr) mw to) d a T.toInt) →
    ∃ r is cn', f9_findStay_L11 N (nI a) (nI to) T 0 mp mr mw M n (nI e) 0 cn = some (r, is, cn') ∧ l11R (fun d => eG (exT P (rhoN mr) mw to) d a T.toInt) r is ∧ ∀ d : Nat, d ≤ 40 → r = nI d → cA d P (exT P (rhoN mr) mw to) cn' := by
  have hP := hr.1
  intro k
  induction k with
  | zero =>
    intro e n cn he hn hA hno
    obtain ⟨n, rfl⟩ : ∃ n', n = n' + 1 := ⟨n - 1, by omega⟩
    refine ⟨nI e, 0, cn, by rw [f9_findStay_L11, if_pos rfl, if_pos (by rw [t_le, t_40, t_nI (by omega)]; omega)], Or.inl ⟨rfl, fun d h1 h2 => hno d h1 (by omega)⟩, fun d h1 h2 => ?_⟩
    rw [(nI_eq (by omega) (by omega)).mp h2] at hA
    exact hA
  | succ k ih =>
    intro e n cn he hn hA hno
    obtain ⟨n, rfl⟩ : ∃ n', n = n' + 1 := ⟨n - 1, by omega⟩
    obtain ⟨cn1, e1, e2⟩ := ft_day N hN (show 1 ≤ e + 1 by omega) (show e + 1 ≤ 40 by omega) hr hm hto cn (mw := mw) (by rw [show e + 1 - 1 = e by omega]; exact hA)
    rw [f9_findStay_L11, if_pos rfl, if_neg (by rw [t_le, t_40, t_nI (by omega)]; omega), if_pos rfl, nI_1, e1, ob1_k]
    rcases ft_able N (show 1 ≤ e + 1 by omega) (show e + 1 ≤ 40 by omega) (Nat.le_refl _) ha hP e2 hT with ⟨g, cm⟩ | ⟨g, cm⟩
    · rw [cm, ob1_k]
      obtain ⟨n, rfl⟩ : ∃ n', n = n' + 1 := ⟨n - 1, by omega⟩
      refine ⟨nI (e + 1), 1, cn1, by rw [f9_findStay_L11, if_neg (by decide)], Or.inr ⟨rfl, e + 1, by omega, by omega, rfl, g, fun d h1 h2 => hno d h1 (by omega)⟩, fun d h1 h2 => ?_⟩
      rw [(nI_eq (by omega) (by omega)).mp h2] at e2
      exact e2
    · rw [cm, ob1_k]
      refine ih (e + 1) n cn1 (by omega) (by omega) e2 (fun d h1 h2 => ?_)
      by_cases z : d = e + 1
      · rw [z]; exact g
      · exact hno d h1 (by omega)
theorem l11_rc {F : Nat → Prop} {r is : Int32} (h : l11R F r is) : rcR F (if is = 0 then -1 else r) := by
  rcases h with ⟨rfl, h⟩ | ⟨rfl, d, h⟩
  · exact Or.inr ⟨if_pos rfl, h⟩
  · exact Or.inl ⟨d, h.1, h.2.1, by rw [if_neg (by decide)]; exact h.2.2.1, h.2.2.2⟩
theorem fs_reach (N : Nat) (hN : 200 ≤ N) {P a to : Nat} (ha : a < P) {mp mr mw : Nat → Int32} (hr : spH P mr) (hm : mp 0 = nI P) (hto : to < P) {T p4 : Int32} (hp4 : p4 ≠ 0) (hT0 : 0 ≤ T.toInt) (hT : T.toInt ≤ 6000) (L M : Nat → Int32) (cn : Nat → Int64) (fd : Nat → Int32) :
    ∃ r L' M' cn' fd', f9_findStay N (nI a) (nI to) T p4 mp mr mw L M cn fd = some (r, L', M', cn', fd') ∧ rcR (fun d => rG (spR P mr mw to) d a T.toInt) r ∧ ∀ D : Nat, 1 ≤ D → D ≤ 40 → r = nI D → ∀ j, j < D → ∃ (p : Nat) (y : Int), fd' j = nI p ∧ chP (rG (spR P mr mw to)) (stM mw) P (fun p => (mr p).toInt) D a T.toInt j p y := by
  have hP := hr.1
  obtain ⟨L', M', e1, e2⟩ := fs_all N (by omega) hr hm hto L M
  have hR : ∀ d q, d ≤ 40 → q < P → (spR P mr mw to d q).2 = -1 ∨ 0 ≤ (spR P mr mw to d q).2.toInt := fun d q h1 h2 => by
    rcases spR_ok (w := mw) (to := to) hr d q h1 h2 with z | ⟨x, y, z1, z2, z3, z⟩
    · exact Or.inl (congrArg Prod.snd z)
    · refine Or.inr ?_
      rw [z, t_nI (by omega)]
      omega
  obtain ⟨r, is, g1, g2⟩ := fs_11r N ha hP (mp := mp) (mr := mr) (mw := mw) T (nI to) p4 hp4 L' M' cn hR e2 40 0 N (by omega) (by omega) (fun d h1 h2 => by omega)
  rw [nI_0] at g1
  unfold f9_findStay
  rw [e1, ob2_k, g1, ob3_k]
  rcases g2 with ⟨rfl, h⟩ | ⟨rfl, D, d1, d2, rfl, d3, d4⟩
  · rw [if_pos rfl]
    exact ⟨-1, L', M', cn, fd, rfl, Or.inr ⟨rfl, h⟩, fun D h1 h2 h3 => absurd h3.symm (nI_nm1 (by omega))⟩
  · obtain ⟨fd', k1, k2⟩ := m_path0 N (by omega) p4 M' cn (G := rG (spR P mr mw to)) (St := stM mw) (ρ := fun p => (mr p).toInt) (D := D) (p0 := a) (X0 := T) hr (fun _ _ => rfl) (rG_next hr) d1 d2 ha d3 hT0 hT (fun k p q X fd rec h1 hk hp hq _ hs hg hno => sp_122 N (by omega) hP p4 hp4 L' M' cn hR e2 d2 k p q X fd rec h1 hk hp hq hs hg hno) fd
    rw [if_neg (by decide), k1, ob1_k]
    refine ⟨nI D, L', M', cn, fd', rfl, Or.inl ⟨D, d1, d2, rfl, d3, d4⟩, fun D' h1 h2 h3 => ?_⟩
    rw [← (nI_eq (a := D) (b := D') (by omega) (by omega)).mp h3]
    exact k2
theorem fs_exact (N : Nat) (hN : 200 ≤ N) {P a to : Nat} (ha : a < P) {mp mr mw : Nat → Int32} (hr : spH P mr) (hm : mp 0 = nI P) (hto : to < P) {T : Int32} (hT0 : 0 ≤ T.toInt) (hT : T.toInt ≤ 6000) (L M : Nat → Int32) (cn : Nat → Int64) (fd : Nat → Int32) :
    ∃ r L' M' cn' fd', f9_findStay N (nI a) (nI to) T 0 mp mr mw L M cn fd = some (r, L', M', cn', fd') ∧ rcR (fun d => eG (exT P (rhoN mr) mw to) d a T.toInt) r ∧ ∀ D : Nat, 1 ≤ D → D ≤ 40 → r = nI D → ∀ j, j < D → ∃ (p : Nat) (y : Int), fd' j = nI p ∧ chP (eG (exT P (rhoN mr) mw to)) (stM mw) P (fun p => (mr p).toInt) D a T.toInt j p y := by
  have hP := hr.1
  obtain ⟨L', M', e1, e2⟩ := fs_all N (by omega) (mw := mw) hr hm hto L M
  obtain ⟨r, is, cn', g1, g2, g3⟩ := fs_11e N hN ha (mp := mp) (mw := mw) hr hm hto hT M' 40 0 N cn (by omega) (by omega) (fun d p t a1 a2 a3 a4 => by omega) (fun d h1 h2 => by omega)
  rw [nI_0] at g1
  unfold f9_findStay
  rw [e1, ob2_k, g1, ob3_k]
  rcases g2 with ⟨rfl, h⟩ | ⟨rfl, D, d1, d2, rfl, d3, d4⟩
  · rw [if_pos rfl]
    exact ⟨-1, L', M', cn', fd, rfl, Or.inr ⟨rfl, h⟩, fun D h1 h2 h3 => absurd h3.symm (nI_nm1 (by omega))⟩
  · have hA := g3 D d2 rfl
    obtain ⟨fd', k1, k2⟩ := m_path0 N (by omega) 0 M' cn' (G := eG (exT P (rhoN mr) mw to)) (St := stM mw) (ρ := fun p => (mr p).toInt) (D := D) (p0 := a) (X0 := T) hr (fun _ _ => rfl) (eG_next hr) d1 d2 ha d3 hT0 hT (fun k p q X fd rec h1 hk hp hq hX hs hg hno => ft_122 N (by omega) hP M' d2 hA k p q X fd rec h1 hk hp hq hX hs hg hno) fd
    rw [if_neg (by decide), k1, ob1_k]
    refine ⟨nI D, L', M', cn', fd', rfl, Or.inl ⟨D, d1, d2, rfl, d3, d4⟩, fun D' h1 h2 h3 => ?_⟩
    rw [← (nI_eq (a := D) (b := D') (by omega) (by omega)).mp h3]
    exact k2
/-- the end of just on both sides -/
theorem just_fin (N : Nat) (p1 p3 p4 p5 r dp : Int32) (dr dn : Nat → Int32) (l m : Nat → Nat → Int32) (tm : Nat → Nat → Int64) (rs : Nat → Int64) (L M : Nat → Int32) (cn : Nat → Int64) (fd : Nat → Int32) (F : Nat → Prop) (hr : rcR F r)
    (h : ∀ D i : Nat, 1 ≤ D → D ≤ 40 → r = nI D → i < D → F D → p5 = nI i → (if p4 = 0 then f1_partOfDay N p1 p3 (nI D) (nI i) tm dp dr dn else f5_partOfDay N p1 p3 (nI D) (nI i) l m dp dr dn) = some (fd i)) :
    ∃ v, f8_just_J75 N p1 p3 p4 p5 dp dr dn l m tm rs r = some (v, l, m, tm, rs) ∧
      (if r = (-1 : Int32) then (some (r, L, M, cn, fd)) else (if p5 = (-1 : Int32) then (some (r, L, M, cn, fd)) else (ob1 (f9_in N p5 (0 : Int32) (r - (1 : Int32))) fun r68 => if r68 = (0 : Int32) then (some ((-1 : Int32), L, M, cn, fd)) else (gi p5 40 (some ((fd p5.toNatClampNeg), L, M, cn, fd)))))) = some (v, L, M, cn, fd) := by
  unfold f8_just_J75
  rcases hr with ⟨D, d1, d2, rfl, d3, d4⟩ | ⟨rfl, h1⟩
  · rw [if_neg (nI_nm1 (by omega)), if_neg (nI_nm1 (by omega))]
    by_cases c : p5 = -1
    · rw [if_pos c, if_pos c]
      exact ⟨_, rfl, rfl⟩
    · rw [if_neg c, if_neg c, m_in, ob1_k, nI_pr d1, t_0, t_nI (show D - 1 < 2147483648 by omega)]
      simp only [b_z, ite_not]
      by_cases g : 0 ≤ p5.toInt ∧ p5.toInt ≤ ((D - 1 : Nat) : Int)
      · obtain ⟨i, hi, rfl⟩ := nI_nat2 g.1 g.2
        have e := h D i d1 d2 rfl (by omega) d3 rfl
        rw [if_neg (by rw [t_lt, t_0]; omega), if_pos (nI_lt (by omega) (by omega)), if_pos g, x_gi (by omega) (by omega), cl_nI (by omega)]
        refine ⟨fd i, ?_, rfl⟩
        by_cases z : p4 = 0
        · rw [if_pos z] at e ⊢
          rw [e]
          rfl
        · rw [if_neg z] at e ⊢
          rw [e]
          rfl
      · rw [if_neg g]
        refine ⟨-1, ?_, rfl⟩
        by_cases z : p5 < 0
        · rw [if_pos z]
        · rw [if_neg z, if_neg (fun q => g ?_)]
          rw [t_lt, t_0] at z
          rw [t_lt, t_nI (by omega)] at q
          omega
  · rw [if_pos rfl, if_pos rfl]
    exact ⟨_, rfl, rfl⟩
theorem q_just (N : Nat) (hN : 200000 ≤ N) (p1 p2 p3 p4 p5 : Int32) {P : Nat} {dp : Int32} {dr dn mp mr mw : Nat → Int32} (hc : RC P dp dr dn mp mr mw) {dm : Int32} {mm : Nat → Int32} (hm : dm = mm 0) (l m : Nat → Nat → Int32) (tm : Nat → Nat → Int64) (rs : Nat → Int64) (L M : Nat → Int32) (cn : Nat → Int64) (fd : Nat → Int32) :
    ∃ r l' m' tm' rs' L' M' cn' fd', f8_just N p1 p2 p3 p4 p5 dp dm dr dn l m tm rs = some (r, l', m', tm', rs') ∧ f9_just N p1 p2 p3 p4 p5 mp mr mw mm L M cn fd = some (r, L', M', cn', fd') := by
  have hr := hc.h
  have hP := hc.1
  obtain rfl := hc.2.1
  have hm0 := hc.2.2.1
  have t6 : (6000 : Int32).toInt = 6000 := rfl
  subst hm
  unfold f8_just f9_just
  rw [x_hasMouth N p1 P hP, x_hasMouth N p2 P hP, m_isMouth N p1 P hP mp mm hm0, m_isMouth N p2 P hP mp mm hm0, m_in]
  simp only [ob1_k, b_z, ite_not, t_0, t6]
  by_cases h1 : (0 ≤ p1.toInt ∧ p1.toInt < (P : Int)) ∧ bW (mm 0) p1
  · rw [if_pos h1, if_pos h1]
    by_cases h2 : (0 ≤ p2.toInt ∧ p2.toInt < (P : Int)) ∧ bW (mm 0) p2
    · rw [if_pos h2, if_pos h2]
      by_cases h3 : 0 ≤ p3.toInt ∧ p3.toInt ≤ 6000
      · obtain ⟨a, ha, rfl⟩ := nI_nat h1.1.1 h1.1.2
        obtain ⟨to, hto, rfl⟩ := nI_nat h2.1.1 h2.1.2
        rw [if_neg (show ¬ p3 < 0 by rw [t_lt, t_0]; omega), if_pos (show p3 ≤ 6000 by rw [t_le, t6]; omega), if_pos h3]
        by_cases c : p4 = 0
        · subst c
          obtain ⟨T, hT, rfl⟩ := nI_nat2 (M := 6000) h3.1 h3.2
          rw [if_pos rfl]
          obtain ⟨r, tm', rs', e1, e2, e3⟩ := ex_days N (by omega) hT hc hto ha tm rs
          obtain ⟨r', L', M', cn', fd', g1, g2, g3⟩ := fs_exact N (by omega) ha (mp := mp) (mw := mw) hr hm0 hto (T := nI T) h3.1 h3.2 L M cn fd
          have eF : ∀ d, 1 ≤ d → d ≤ 40 → (exT P (rhoN mr) mw to d a T ↔ eG (exT P (rhoN mr) mw to) d a (nI T).toInt) := fun d _ _ => by
            unfold eG
            rw [t_nI (by omega)]
            exact ⟨fun h => ⟨by omega, h⟩, fun h => h.2⟩
          obtain rfl := rcR_eq eF e2 g2
          rw [e1, g1]
          simp only [ob3_k, ob5_k]
          obtain ⟨v, v1, v2⟩ := just_fin N (nI a) (nI T) 0 p5 r (nI P) dr dn l m tm' rs' L' M' cn' fd' _ g2 (fun D i d1 d2 d3 hi hF d4 => by
            rw [if_pos rfl]
            have hA := e3 D d2 d3
            obtain ⟨x, y, x1, x2⟩ := ex_pod N (by omega) hc (to := to) (p0 := a) (D := D) (i := i) (W := T / 64 + 1) d2 ha (X0 := nI T) h3.1 h3.2 (by rw [t_nI (by omega)]; omega) hF hA hi
            obtain ⟨x', y', z1, z2⟩ := g3 D d1 d2 d3 i hi
            rw [x1, z1, (chP_one i x y x' y' x2 z2).1])
          exact ⟨v, l, m, tm', rs', L', M', cn', fd', v1, v2⟩
        · rw [if_neg c]
          obtain ⟨r, l', m', e1, e2, e3⟩ := sp_reach N (by omega) hc hto ha p3 l m
          obtain ⟨r', L', M', cn', fd', g1, g2, g3⟩ := fs_reach N (by omega) ha (mp := mp) (mw := mw) hr hm0 hto (T := p3) (p4 := p4) c h3.1 h3.2 L M cn fd
          obtain rfl := rcR_eq (fun d _ _ => rG_mx) e2 g2
          rw [e1, g1]
          simp only [ob3_k, ob5_k]
          obtain ⟨v, v1, v2⟩ := just_fin N (nI a) p3 p4 p5 r (nI P) dr dn l' m' tm rs L' M' cn' fd' _ g2 (fun D i d1 d2 d3 hi hF d4 => by
            rw [if_neg c]
            have hA := e3 D d2 d3
            obtain ⟨x, y, x1, x2⟩ := sp_pod N (by omega) hc (to := to) (p0 := a) (D := D) (i := i) d2 ha (X0 := p3) h3.1 h3.2 hF hA hi
            obtain ⟨x', y', z1, z2⟩ := g3 D d1 d2 d3 i hi
            rw [x1, z1, (chP_one i x y x' y' x2 z2).1])
          exact ⟨v, l', m', tm, rs, L', M', cn', fd', v1, v2⟩
      · refine ⟨_, l, m, tm, rs, L, M, cn, fd, ?_, by rw [if_neg h3]⟩
        by_cases c : p3 < 0
        · rw [if_pos c]
        · rw [if_neg c, if_neg (fun h => h3 ⟨by rw [t_lt, t_0] at c; omega, by rw [t_le, t6] at h; exact h⟩)]
    · rw [if_neg h2, if_neg h2]
      exact ⟨_, l, m, tm, rs, L, M, cn, fd, rfl, rfl⟩
  · rw [if_neg h1, if_neg h1]
    exact ⟨_, l, m, tm, rs, L, M, cn, fd, rfl, rfl⟩
