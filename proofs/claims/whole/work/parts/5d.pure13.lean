/-! MEETING -/
theorem ag_eq {ag w m : Int32} (h0 : 0 ≤ m.toInt) (h1 : m.toInt ≤ w.toInt) (h2 : w.toInt ≤ 10100000) : ag + (if (0 : Int32) < (w - m) then (w - m) else (0 : Int32)) = (ag + w) - m := by
  have hs : (w - m).toInt = w.toInt - m.toInt := t_sub (by omega) (by omega)
  by_cases c : w.toInt = m.toInt
  · have e : w = m := (t_eq w m).mpr c
    subst e
    rw [if_neg (fun h => by rw [t_lt, t_0, hs] at h; omega), Int32.add_zero, Int32.add_sub_cancel]
  · rw [if_pos (by rw [t_lt, t_0, hs]; omega), Int32.sub_eq_add_neg, Int32.sub_eq_add_neg, Int32.add_assoc]
def outX (d o : Int32) : Int32 := if d < o then o else -1
def effO (d o : Int32) : Int32 := if d < o then o else d
theorem eff_x {d o : Int32} (hd : 0 ≤ d.toInt) : (if d < outX d o then outX d o else d) = effO d o := by
  unfold outX effO
  by_cases c : d < o
  · rw [if_pos c, if_pos c]
  · rw [if_neg c, if_neg c, if_neg (fun h => by rw [t_lt, t_m1] at h; omega)]
def meetW (d oa ob : Int32) : Int32 := if effO d oa < effO d ob then effO d ob else effO d oa
theorem meet_x {d oa ob : Int32} (hd : 0 ≤ d.toInt) : (if d < (if outX d oa < outX d ob then outX d ob else outX d oa) then (if outX d oa < outX d ob then outX d ob else outX d oa) else d) = meetW d oa ob := by
  unfold meetW outX effO
  by_cases c1 : d < oa
  · by_cases c2 : d < ob
    · simp only [if_pos c1, if_pos c2]
      by_cases c3 : oa < ob
      · rw [if_pos c3, if_pos c2]
      · rw [if_neg c3, if_pos c1]
    · have n1 : ¬ oa < (-1 : Int32) := fun h => by rw [t_lt] at h c1; rw [t_m1] at h; omega
      have n2 : ¬ oa < d := fun h => by rw [t_lt] at h c1; omega
      simp only [if_pos c1, if_neg c2, if_neg n1, if_neg n2]
  · by_cases c2 : d < ob
    · have n1 : (-1 : Int32) < ob := by rw [t_lt] at c2 ⊢; rw [t_m1]; omega
      simp only [if_neg c1, if_pos c2, if_pos n1]
    · have n1 : ¬ (-1 : Int32) < (-1 : Int32) := by decide
      have n2 : ¬ d < (-1 : Int32) := fun h => by rw [t_lt, t_m1] at h; omega
      have n3 : ¬ d < d := fun h => by rw [t_lt] at h; omega
      simp only [if_neg c1, if_neg c2, if_neg n1, if_neg n2, if_neg n3]
theorem x_isPlace (N : Nat) {q : Nat} (hq : q < 6) : f2_isPlace N (nI q) = some 1 := by
  unfold f2_isPlace
  rw [if_neg (show ¬ nI q < 0 from nI_pos (by omega)), if_neg (show ¬ (6 : Int32) ≤ nI q from fun h => by rw [t_le, t_6, t_nI (by omega)] at h; omega)]
theorem m_ageAt (N : Nat) {q : Nat} (hq : q < 6) (w : Int32) (now : Nat → Int32) : f9_ageAt N (nI q) w now = some ((now (1 + q) + w) - effO (now 0) (now (13 + q))) := by
  unfold f9_ageAt effO
  rw [m_isDown N hq, ob1_k, l_1, l_13, m_gi (by omega) (by omega), m_gi (by omega) (by omega), gi_ok (i := 0) (by decide) (by decide), m_gi (by omega) (by omega), m_cl (by omega), m_cl (by omega), n_0]
  by_cases c : now 0 < now (13 + q)
  · rw [if_pos c, if_pos c, if_neg (by decide)]
  · rw [if_neg c, if_neg c, if_pos rfl]
theorem q_meeting (N : Nat) (p1 p2 p3 : Int32) {Q : Nat} {dq : Int32} {per : Nat → Int32} (hp : RPe Q dq per) {dt : Int32} {ag ri ou now : Nat → Int32} (hf : RFo Q dt ag ri ou 0 now) :
    ∃ r, f8_meeting N p1 p2 p3 dq dt ag ou = some r ∧ f9_meeting N p1 p2 p3 per now = some r := by
  obtain ⟨hQ, rfl, hq0⟩ := hp
  obtain ⟨hd0, hd1, hd2, hE⟩ := hf
  unfold f8_meeting f9_meeting
  rw [x_hasPerson N p1 Q hQ, x_hasPerson N p2 Q hQ, m_isPerson N p1 per Q hQ hq0, m_isPerson N p2 per Q hQ hq0, m_in]
  simp only [ob1_k]
  by_cases h1 : 0 ≤ p1.toInt ∧ p1.toInt < Q
  · obtain ⟨a, ha, rfl⟩ := nI_nat h1.1 h1.2
    rw [if_pos h1, if_neg (show ¬ (1 : Int32) = 0 by decide), if_neg (show ¬ (1 : Int32) = 0 by decide)]
    by_cases h2 : 0 ≤ p2.toInt ∧ p2.toInt < Q
    · obtain ⟨b, hb, rfl⟩ := nI_nat h2.1 h2.2
      rw [if_pos h2, if_neg (show ¬ (1 : Int32) = 0 by decide), if_neg (show ¬ (1 : Int32) = 0 by decide)]
      by_cases h3 : nI a = nI b
      · exact ⟨-1000000001, by rw [if_pos h3], by rw [if_pos h3]⟩
      · rw [if_neg h3, if_neg h3]
        obtain ⟨a1, -, -, -, a5, a6, a7⟩ := hE a ha
        obtain ⟨b1, -, -, -, b5, b6, b7⟩ := hE b hb
        simp only [Nat.zero_add] at a1 a5 a6 a7 b1 b5 b6 b7
        subst hd0
        have oa : ou a = outX (now 0) (now (13 + a)) := a7
        have ob : ou b = outX (now 0) (now (13 + b)) := b7
        have hM : f2_meetingDate N (nI a) (nI b) (now 0) ou = some (meetW (now 0) (now (13 + a)) (now (13 + b))) := by
          unfold f2_meetingDate
          rw [x_isPlace N (by omega), x_isPlace N (by omega), ob1_k, if_neg (show ¬ (1 : Int32) = 0 by decide), ob1_k, if_neg (show ¬ (1 : Int32) = 0 by decide), x_gi (by omega) (by omega), x_gi (by omega) (by omega), cl_nI (by omega), cl_nI (by omega), oa, ob, meet_x hd1]
        have ea : (effO (now 0) (now (13 + a))).toInt ≤ 10100000 ∧ 0 ≤ (effO (now 0) (now (13 + a))).toInt := by unfold effO; split <;> omega
        have eb : (effO (now 0) (now (13 + b))).toInt ≤ 10100000 ∧ 0 ≤ (effO (now 0) (now (13 + b))).toInt := by unfold effO; split <;> omega
        have wa : (effO (now 0) (now (13 + a))).toInt ≤ (meetW (now 0) (now (13 + a)) (now (13 + b))).toInt := by
          unfold meetW; split
          · rename_i c; rw [t_lt] at c; omega
          · omega
        have wb : (effO (now 0) (now (13 + b))).toInt ≤ (meetW (now 0) (now (13 + a)) (now (13 + b))).toInt := by
          unfold meetW; split
          · omega
          · rename_i c; rw [t_lt] at c; omega
        have wm : (meetW (now 0) (now (13 + a)) (now (13 + b))).toInt ≤ 10100000 := by unfold meetW; split <;> omega
        have xa : f2_ageAt N (nI a) (meetW (now 0) (now (13 + a)) (now (13 + b))) (now 0) ag ou = f9_ageAt N (nI a) (meetW (now 0) (now (13 + a)) (now (13 + b))) now := by
          rw [x_ageAt N (by omega), m_ageAt N (by omega), oa, eff_x hd1, ag_eq ea.2 wa wm, a1]
        have xb : f2_ageAt N (nI b) (meetW (now 0) (now (13 + a)) (now (13 + b))) (now 0) ag ou = f9_ageAt N (nI b) (meetW (now 0) (now (13 + a)) (now (13 + b))) now := by
          rw [x_ageAt N (by omega), m_ageAt N (by omega), ob, eff_x hd1, ag_eq eb.2 wb wm, b1]
        have j118 : f9_meeting_J80 N (nI a) (nI b) p3 now (effO (now 0) (now (13 + a))) = f9_meeting_J118 N (nI a) (nI b) p3 now (meetW (now 0) (now (13 + a)) (now (13 + b))) := by
          unfold f9_meeting_J80
          rw [m_isDown N (by omega), ob1_k, l_13, m_gi (by omega) (by omega), m_gi (by omega) (by omega), m_cl (by omega)]
          by_cases c : now 0 < now (13 + b)
          · rw [if_pos c, if_neg (show ¬ (1 : Int32) = 0 by decide)]
            have e2 : effO (now 0) (now (13 + b)) = now (13 + b) := if_pos c
            unfold meetW
            rw [e2]
            by_cases c2 : effO (now 0) (now (13 + a)) < now (13 + b)
            · rw [if_pos c2, if_neg (fun h => by rw [t_lt] at c2; rw [t_le] at h; omega)]
            · rw [if_neg c2, if_pos (by rw [t_lt] at c2; rw [t_le]; omega)]
          · rw [if_neg c, if_pos rfl]
            have e2 : effO (now 0) (now (13 + b)) = now 0 := if_neg c
            unfold meetW
            rw [e2, if_neg (fun h => by
              unfold effO at h
              rw [t_lt] at h
              split at h
              · rename_i c3; rw [t_lt] at c3; omega
              · omega)]
        have j80 : (gi (0 : Int32) 60 (ob1 (f9_isDown N (nI a) now) fun r46 => if r46 = (0 : Int32) then (f9_meeting_J80 N (nI a) (nI b) p3 now (now (0 : Int32).toNatClampNeg)) else (gi ((13 : Int32) + nI a) 60 (if (now ((13 : Int32) + nI a).toNatClampNeg) ≤ (now (0 : Int32).toNatClampNeg) then (f9_meeting_J80 N (nI a) (nI b) p3 now (now (0 : Int32).toNatClampNeg)) else (gi ((13 : Int32) + nI a) 60 (f9_meeting_J80 N (nI a) (nI b) p3 now (now ((13 : Int32) + nI a).toNatClampNeg))))))) = f9_meeting_J118 N (nI a) (nI b) p3 now (meetW (now 0) (now (13 + a)) (now (13 + b))) := by
          rw [m_isDown N (show a < 6 by omega), ob1_k]
          rw [gi_ok (i := 0) (by decide) (by decide), l_13, m_gi (by omega) (by omega), m_gi (by omega) (by omega), m_cl (by omega), n_0, ← j118]
          by_cases c : now 0 < now (13 + a)
          · rw [if_pos c, if_neg (show ¬ (1 : Int32) = 0 by decide), if_neg (fun h => by rw [t_lt] at c; rw [t_le] at h; omega), show effO (now 0) (now (13 + a)) = now (13 + a) from if_pos c]
          · rw [if_neg c, if_pos rfl, show effO (now 0) (now (13 + a)) = now 0 from if_neg c]
        rw [hM, ob1_k, j80]
        unfold f9_meeting_J118
        by_cases g0 : p3 = 0
        · subst g0
          exact ⟨_, by rw [if_pos rfl], by rw [if_neg (by decide), if_pos rfl]⟩
        · by_cases g1 : p3 = 1
          · subst g1
            rw [xa, m_ageAt N (show a < 6 by omega)]
            exact ⟨_, by rw [if_neg (by decide), if_pos rfl, ob1_k], by rw [if_neg (by decide), if_neg (by decide), if_pos rfl, ob1_k]⟩
          · by_cases g2 : p3 = 2
            · subst g2
              rw [xb, m_ageAt N (show b < 6 by omega)]
              exact ⟨_, by rw [if_neg (by decide), if_neg (by decide), if_pos rfl, ob1_k], by rw [if_neg (by decide), if_neg (by decide), if_neg (by decide), ob1_k]⟩
            · refine ⟨-1000000002, by rw [if_neg g0, if_neg g1, if_neg g2], ?_⟩
              have hn : ¬ ((0 : Int32).toInt ≤ p3.toInt ∧ p3.toInt ≤ (2 : Int32).toInt) := fun h => by
                have h' : 0 ≤ p3.toInt ∧ p3.toInt ≤ 2 := h
                have n0 : p3.toInt ≠ 0 := fun e => g0 ((t_eq _ _).mpr e)
                have n1 : p3.toInt ≠ 1 := fun e => g1 ((t_eq _ _).mpr e)
                have n2 : p3.toInt ≠ 2 := fun e => g2 ((t_eq _ _).mpr e)
                omega
              rw [if_neg hn, if_pos rfl]
    · exact ⟨-1000000001, by rw [if_neg h2, if_pos rfl], by rw [if_neg h2, if_pos rfl]⟩
  · exact ⟨-1000000001, by rw [if_neg h1, if_pos rfl], by rw [if_neg h1, if_pos rfl]⟩
