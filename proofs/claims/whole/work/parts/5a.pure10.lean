theorem RFo.to {Q : Nat} (hQ : Q ≤ 6) {dt dt' : Int32} {ag ri ou ag' ri' ou' : Nat → Int32} {f t : Nat} {now now' : Nat → Int32} (h : RFo Q dt ag ri ou f now) (hd : dt' = dt) (hx : ∀ q, q < 6 → ag' q = ag q ∧ ri' q = ri q ∧ ou' q = ou q) (hn : ∀ k, k < 19 → now' (t + k) = now (f + k)) : RFo Q dt' ag' ri' ou' t now' := by
  subst hd
  obtain ⟨h0, h1, h2, hE⟩ := h
  refine ⟨by rw [h0]; exact (hn 0 (by omega)).symm, h1, h2, fun q hq => ?_⟩
  obtain ⟨e1, e2, e3, e4, e5, e6, e7⟩ := hE q hq
  obtain ⟨g1, g2, g3⟩ := hx q (by omega)
  have k0 : now' t = now f := hn 0 (by omega)
  have k1 : now' (t + 1 + q) = now (f + 1 + q) := by rw [Nat.add_assoc, Nat.add_assoc]; exact hn (1 + q) (by omega)
  have k7 : now' (t + 7 + q) = now (f + 7 + q) := by rw [Nat.add_assoc, Nat.add_assoc]; exact hn (7 + q) (by omega)
  have k13 : now' (t + 13 + q) = now (f + 13 + q) := by rw [Nat.add_assoc, Nat.add_assoc]; exact hn (13 + q) (by omega)
  rw [g1, g2, g3, k0, k1, k7, k13]
  exact ⟨e1, e2, e3, e4, e5, e6, e7⟩
def RIm (Q : Nat) (kp dt sd : Int32) (ag ri ou : Nat → Int32) (o i : Nat) (now isK : Nat → Int32) : Prop := (kp = 0 ∧ isK i = 0) ∨ (kp = 1 ∧ isK i = 1 ∧ RFo Q dt ag ri ou o now ∧ sd = now (o + 19) ∧ 0 ≤ sd.toInt)
theorem RIm.keep {Q : Nat} (hQ : Q ≤ 6) {kp dt sd : Int32} {ag ri ou : Nat → Int32} {o i : Nat} {now isK now' isK' : Nat → Int32} (h : RIm Q kp dt sd ag ri ou o i now isK) (hn : ∀ k, k < 20 → now' (o + k) = now (o + k)) (hk : isK' i = isK i) : RIm Q kp dt sd ag ri ou o i now' isK' := by
  rcases h with ⟨h1, h2⟩ | ⟨h1, h2, h3, h4, h5⟩
  · exact Or.inl ⟨h1, by rw [hk]; exact h2⟩
  · exact Or.inr ⟨h1, by rw [hk]; exact h2, h3.to hQ rfl (fun _ _ => ⟨rfl, rfl, rfl⟩) (fun k hk => hn k (by omega)), by rw [hn 19 (by omega)]; exact h4, h5⟩
theorem l_19 : (19 : Int32) = nI 19 := rfl
theorem q_keep (N : Nat) (hN : 200000 ≤ N) (p1 : Int32) {Q : Nat} (hQ : Q ≤ 6) {dt sd : Int32} {ag ri ou now isK : Nat → Int32} (hf : RFo Q dt ag ri ou 0 now) (hs : 0 ≤ sd.toInt)
    {k1 d1 s1 k2 d2 s2 : Int32} {a1 r1 o1 a2 r2 o2 : Nat → Int32} (hI1 : RIm Q k1 d1 s1 a1 r1 o1 20 0 now isK) (hI2 : RIm Q k2 d2 s2 a2 r2 o2 40 1 now isK) :
    ∃ (r k1' d1' s1' : Int32) (a1' r1' o1' : Nat → Int32) (k2' d2' s2' : Int32) (a2' r2' o2' now' isK' : Nat → Int32), f8_keep N p1 dt sd ag ri ou k1 d1 s1 a1 r1 o1 k2 d2 s2 a2 r2 o2 = some (r, k1', d1', s1', a1', r1', o1', k2', d2', s2', a2', r2', o2') ∧ f9_keep N p1 sd now isK = some (r, now', isK') ∧
      RFo Q dt ag ri ou 0 now' ∧ RIm Q k1' d1' s1' a1' r1' o1' 20 0 now' isK' ∧ RIm Q k2' d2' s2' a2' r2' o2' 40 1 now' isK' := by
  unfold f8_keep f9_keep
  rw [m_in, ob1_k]
  have go : ∀ (i o : Nat), (i = 0 ∧ o = 20) ∨ (i = 1 ∧ o = 40) → ∃ now', (gi (19 : Int32) 60 (ob1 (f9_copy N (0 : Int32) ((20 : Int32) * ((1 : Int32) + nI i)) (upd now (19 : Int32).toNatClampNeg sd)) fun v_now_31 => gi (nI i) 2 (some ((1 : Int32), v_now_31, (upd isK (nI i).toNatClampNeg (vp_nar .boolean (1 : Int32))))))) = some (1, now', upd isK i 1) ∧ (∀ k, k < 20 → now' (o + k) = upd now 19 sd (0 + k)) ∧ (∀ k, (k < o ∨ o + 20 ≤ k) → now' k = upd now 19 sd k) := by
    intro i o hio
    have e : (20 : Int32) * ((1 : Int32) + nI i) = nI o := by rcases hio with ⟨rfl, rfl⟩ | ⟨rfl, rfl⟩ <;> rfl
    obtain ⟨now', e1, e2, e3⟩ := m_copy N (by omega) (f := 0) (t := o) (by omega) (by omega) (by omega) (upd now 19 sd)
    refine ⟨now', ?_, e2, e3⟩
    rw [gi_ok (i := 19) (by decide) (by decide), e, show (19 : Int32).toNatClampNeg = 19 from rfl, l_0, e1, ob1_k, x_gi (by omega) (by omega), cl_nI (by omega)]
    rfl
  by_cases h1 : 0 ≤ p1.toInt ∧ p1.toInt ≤ 1
  · obtain ⟨i, hi, rfl⟩ := nI_nat2 (M := 1) h1.1 h1.2
    have c1 : ¬ nI i < (0 : Int32) := nI_pos (by omega)
    have c2 : nI i ≤ (1 : Int32) := by rw [t_le]; exact h1.2
    have c3 : (0 : Int32).toInt ≤ (nI i).toInt ∧ (nI i).toInt ≤ (1 : Int32).toInt := h1
    rw [if_neg c1, if_pos c2, if_pos c3, if_neg (show ¬ (1 : Int32) = 0 by decide)]
    rcases (show i = 0 ∨ i = 1 by omega) with rfl | rfl
    · obtain ⟨a', r', o', x1, x2⟩ := x_copyFrom N (by omega) d1 s1 a1 r1 o1 dt sd ag ri ou
      obtain ⟨now', y1, y2, y3⟩ := go 0 20 (Or.inl ⟨rfl, rfl⟩)
      refine ⟨1, 1, dt, sd, a', r', o', k2, d2, s2, a2, r2, o2, now', upd isK 0 1, ?_, y1, ?_, ?_, ?_⟩
      · rw [if_pos (show nI 0 = 0 from rfl), x1]; rfl
      · exact hf.to hQ rfl (fun _ _ => ⟨rfl, rfl, rfl⟩) (fun k hk => by rw [y3 (0 + k) (by omega), pk_un (by omega)])
      · exact Or.inr ⟨rfl, pk_us, hf.to hQ rfl x2 (fun k hk => by rw [y2 k (by omega), pk_un (by omega)]), by rw [y2 19 (by omega), pk_us], hs⟩
      · exact hI2.keep hQ (fun k hk => by rw [y3 (40 + k) (by omega), pk_un (by omega)]) (pk_un (by omega))
    · obtain ⟨a', r', o', x1, x2⟩ := x_copyFrom N (by omega) d2 s2 a2 r2 o2 dt sd ag ri ou
      obtain ⟨now', y1, y2, y3⟩ := go 1 40 (Or.inr ⟨rfl, rfl⟩)
      refine ⟨1, k1, d1, s1, a1, r1, o1, 1, dt, sd, a', r', o', now', upd isK 1 1, ?_, y1, ?_, ?_, ?_⟩
      · rw [if_neg (show ¬ nI 1 = 0 by decide), x1]; rfl
      · exact hf.to hQ rfl (fun _ _ => ⟨rfl, rfl, rfl⟩) (fun k hk => by rw [y3 (0 + k) (by omega), pk_un (by omega)])
      · exact hI1.keep hQ (fun k hk => by rw [y3 (20 + k) (by omega), pk_un (by omega)]) (pk_un (by omega))
      · exact Or.inr ⟨rfl, pk_us, hf.to hQ rfl x2 (fun k hk => by rw [y2 k (by omega), pk_un (by omega)]), by rw [y2 19 (by omega), pk_us], hs⟩
  · have c3 : ¬ ((0 : Int32).toInt ≤ p1.toInt ∧ p1.toInt ≤ (1 : Int32).toInt) := h1
    refine ⟨-1000000001, k1, d1, s1, a1, r1, o1, k2, d2, s2, a2, r2, o2, now, isK, ?_, by rw [if_neg c3, if_pos rfl], hf, hI1, hI2⟩
    by_cases h3 : p1 < (0 : Int32)
    · rw [if_pos h3]
    · rw [if_neg h3, if_neg (fun h => h1 ⟨by rw [t_lt, t_0] at h3; omega, by rw [t_le] at h; exact h⟩)]
theorem q_goBack (N : Nat) (hN : 200000 ≤ N) (p1 : Int32) {Q : Nat} (hQ : Q ≤ 6) {dt sd : Int32} {ag ri ou now isK : Nat → Int32} (hf : RFo Q dt ag ri ou 0 now) (hs : 0 ≤ sd.toInt)
    {k1 d1 s1 k2 d2 s2 : Int32} {a1 r1 o1 a2 r2 o2 : Nat → Int32} (hI1 : RIm Q k1 d1 s1 a1 r1 o1 20 0 now isK) (hI2 : RIm Q k2 d2 s2 a2 r2 o2 40 1 now isK) :
    ∃ (r dt' sd' : Int32) (ag' ri' ou' now' : Nat → Int32), f8_goBack N p1 dt sd ag ri ou k1 d1 s1 a1 r1 o1 k2 d2 s2 a2 r2 o2 = some (r, dt', sd', ag', ri', ou') ∧ f9_goBack N p1 sd now isK = some (r, sd', now') ∧
      RFo Q dt' ag' ri' ou' 0 now' ∧ 0 ≤ sd'.toInt ∧ RIm Q k1 d1 s1 a1 r1 o1 20 0 now' isK ∧ RIm Q k2 d2 s2 a2 r2 o2 40 1 now' isK := by
  unfold f8_goBack f9_goBack
  rw [m_in, ob1_k]
  have go : ∀ (i o : Nat), (i = 0 ∧ o = 20) ∨ (i = 1 ∧ o = 40) → ∃ now', (ob1 (f9_copy N ((20 : Int32) * ((1 : Int32) + nI i)) (0 : Int32) now) fun v_now_32 => gi (19 : Int32) 60 (some ((1 : Int32), (v_now_32 (19 : Int32).toNatClampNeg), v_now_32))) = some (1, now (o + 19), now') ∧ (∀ k, k < 20 → now' (0 + k) = now (o + k)) ∧ (∀ k, 20 ≤ k → now' k = now k) := by
    intro i o hio
    have e : (20 : Int32) * ((1 : Int32) + nI i) = nI o := by rcases hio with ⟨rfl, rfl⟩ | ⟨rfl, rfl⟩ <;> rfl
    obtain ⟨now', e1, e2, e3⟩ := m_copy N (by omega) (f := o) (t := 0) (by omega) (by omega) (by omega) now
    refine ⟨now', ?_, e2, fun k hk => e3 k (by omega)⟩
    rw [e, l_0, e1, ob1_k, gi_ok (i := 19) (by decide) (by decide), show (19 : Int32).toNatClampNeg = 19 from rfl]
    have h19 := e2 19 (by omega)
    rw [Nat.zero_add] at h19
    rw [h19]
  by_cases h1 : 0 ≤ p1.toInt ∧ p1.toInt ≤ 1
  · obtain ⟨i, hi, rfl⟩ := nI_nat2 (M := 1) h1.1 h1.2
    have c1 : ¬ nI i < (0 : Int32) := nI_pos (by omega)
    have c2 : nI i ≤ (1 : Int32) := by rw [t_le]; exact h1.2
    have c3 : (0 : Int32).toInt ≤ (nI i).toInt ∧ (nI i).toInt ≤ (1 : Int32).toInt := h1
    rw [if_neg c1, if_pos c2, if_pos c3, if_neg (show ¬ (1 : Int32) = 0 by decide), x_gi (by omega) (by omega), cl_nI (by omega)]
    rcases (show i = 0 ∨ i = 1 by omega) with rfl | rfl
    · rw [if_pos (show nI 0 = 0 from rfl)]
      rcases id hI1 with ⟨g1, g2⟩ | ⟨g1, g2, g3, g4, g5⟩
      · exact ⟨-1000000003, dt, sd, ag, ri, ou, now, by rw [if_pos g1], by rw [if_pos g2], hf, hs, hI1, hI2⟩
      · obtain ⟨a', r', o', x1, x2⟩ := x_copyFrom N (by omega) dt sd ag ri ou d1 s1 a1 r1 o1
        obtain ⟨now', y1, y2, y3⟩ := go 0 20 (Or.inl ⟨rfl, rfl⟩)
        refine ⟨1, d1, s1, a', r', o', now', ?_, ?_, g3.to hQ rfl x2 (fun k hk => y2 k (by omega)), g5, hI1.keep hQ (fun k _ => y3 _ (by omega)) rfl, hI2.keep hQ (fun k _ => y3 _ (by omega)) rfl⟩
        · rw [if_neg (by rw [g1]; decide), x1]; rfl
        · rw [if_neg (by rw [g2]; decide), y1, g4]
    · rw [if_neg (show ¬ nI 1 = 0 by decide)]
      rcases id hI2 with ⟨g1, g2⟩ | ⟨g1, g2, g3, g4, g5⟩
      · exact ⟨-1000000003, dt, sd, ag, ri, ou, now, by rw [if_pos g1], by rw [if_pos g2], hf, hs, hI1, hI2⟩
      · obtain ⟨a', r', o', x1, x2⟩ := x_copyFrom N (by omega) dt sd ag ri ou d2 s2 a2 r2 o2
        obtain ⟨now', y1, y2, y3⟩ := go 1 40 (Or.inr ⟨rfl, rfl⟩)
        refine ⟨1, d2, s2, a', r', o', now', ?_, ?_, g3.to hQ rfl x2 (fun k hk => y2 k (by omega)), g5, hI1.keep hQ (fun k _ => y3 _ (by omega)) rfl, hI2.keep hQ (fun k _ => y3 _ (by omega)) rfl⟩
        · rw [if_neg (by rw [g1]; decide), x1]; rfl
        · rw [if_neg (by rw [g2]; decide), y1, g4]
  · have c3 : ¬ ((0 : Int32).toInt ≤ p1.toInt ∧ p1.toInt ≤ (1 : Int32).toInt) := h1
    refine ⟨-1000000001, dt, sd, ag, ri, ou, now, ?_, by rw [if_neg c3, if_pos rfl], hf, hs, hI1, hI2⟩
    by_cases h3 : p1 < (0 : Int32)
    · rw [if_pos h3]
    · rw [if_neg h3, if_neg (fun h => h1 ⟨by rw [t_lt, t_0] at h3; omega, by rw [t_le] at h; exact h⟩)]
