theorem iW_part {n : Nat} {c : Nat → Nat} : isW w_part n c ↔ (n = 4 ∧ c 0 = 16 ∧ c 1 = 1 ∧ c 2 = 18 ∧ c 3 = 20) := by
  constructor
  · intro h
    exact ⟨h.1, h.2 0 (by decide), h.2 1 (by decide), h.2 2 (by decide), h.2 3 (by decide)⟩
  · rintro ⟨h, h0, h1, h2, h3⟩
    refine ⟨h, fun x hx => ?_⟩
    have hx' : x < 4 := hx
    rcases (show x = 0 ∨ x = 1 ∨ x = 2 ∨ x = 3 by omega) with rfl | rfl | rfl | rfl <;> assumption
theorem iW_mouth {n : Nat} {c : Nat → Nat} : isW w_mouth n c ↔ (n = 5 ∧ c 0 = 13 ∧ c 1 = 15 ∧ c 2 = 21 ∧ c 3 = 20 ∧ c 4 = 8) := by
  constructor
  · intro h
    exact ⟨h.1, h.2 0 (by decide), h.2 1 (by decide), h.2 2 (by decide), h.2 3 (by decide), h.2 4 (by decide)⟩
  · rintro ⟨h, h0, h1, h2, h3, h4⟩
    refine ⟨h, fun x hx => ?_⟩
    have hx' : x < 5 := hx
    rcases (show x = 0 ∨ x = 1 ∨ x = 2 ∨ x = 3 ∨ x = 4 by omega) with rfl | rfl | rfl | rfl | rfl <;> assumption
theorem iW_way {n : Nat} {c : Nat → Nat} : isW w_way n c ↔ (n = 3 ∧ c 0 = 23 ∧ c 1 = 1 ∧ c 2 = 25) := by
  constructor
  · intro h
    exact ⟨h.1, h.2 0 (by decide), h.2 1 (by decide), h.2 2 (by decide)⟩
  · rintro ⟨h, h0, h1, h2⟩
    refine ⟨h, fun x hx => ?_⟩
    have hx' : x < 3 := hx
    rcases (show x = 0 ∨ x = 1 ∨ x = 2 by omega) with rfl | rfl | rfl <;> assumption
theorem iW_person {n : Nat} {c : Nat → Nat} : isW w_person n c ↔ (n = 6 ∧ c 0 = 16 ∧ c 1 = 5 ∧ c 2 = 18 ∧ c 3 = 19 ∧ c 4 = 15 ∧ c 5 = 14) := by
  constructor
  · intro h
    exact ⟨h.1, h.2 0 (by decide), h.2 1 (by decide), h.2 2 (by decide), h.2 3 (by decide), h.2 4 (by decide), h.2 5 (by decide)⟩
  · rintro ⟨h, h0, h1, h2, h3, h4, h5⟩
    refine ⟨h, fun x hx => ?_⟩
    have hx' : x < 6 := hx
    rcases (show x = 0 ∨ x = 1 ∨ x = 2 ∨ x = 3 ∨ x = 4 ∨ x = 5 by omega) with rfl | rfl | rfl | rfl | rfl | rfl <;> assumption
theorem iW_winter {n : Nat} {c : Nat → Nat} : isW w_winter n c ↔ (n = 6 ∧ c 0 = 23 ∧ c 1 = 9 ∧ c 2 = 14 ∧ c 3 = 20 ∧ c 4 = 5 ∧ c 5 = 18) := by
  constructor
  · intro h
    exact ⟨h.1, h.2 0 (by decide), h.2 1 (by decide), h.2 2 (by decide), h.2 3 (by decide), h.2 4 (by decide), h.2 5 (by decide)⟩
  · rintro ⟨h, h0, h1, h2, h3, h4, h5⟩
    refine ⟨h, fun x hx => ?_⟩
    have hx' : x < 6 := hx
    rcases (show x = 0 ∨ x = 1 ∨ x = 2 ∨ x = 3 ∨ x = 4 ∨ x = 5 by omega) with rfl | rfl | rfl | rfl | rfl | rfl <;> assumption
theorem iW_interest {n : Nat} {c : Nat → Nat} : isW w_interest n c ↔ (n = 8 ∧ c 0 = 9 ∧ c 1 = 14 ∧ c 2 = 20 ∧ c 3 = 5 ∧ c 4 = 18 ∧ c 5 = 5 ∧ c 6 = 19 ∧ c 7 = 20) := by
  constructor
  · intro h
    exact ⟨h.1, h.2 0 (by decide), h.2 1 (by decide), h.2 2 (by decide), h.2 3 (by decide), h.2 4 (by decide), h.2 5 (by decide), h.2 6 (by decide), h.2 7 (by decide)⟩
  · rintro ⟨h, h0, h1, h2, h3, h4, h5, h6, h7⟩
    refine ⟨h, fun x hx => ?_⟩
    have hx' : x < 8 := hx
    rcases (show x = 0 ∨ x = 1 ∨ x = 2 ∨ x = 3 ∨ x = 4 ∨ x = 5 ∨ x = 6 ∨ x = 7 by omega) with rfl | rfl | rfl | rfl | rfl | rfl | rfl | rfl <;> assumption
theorem ne_lit {a b : Nat} {x : Int32} (hx : x = nI b) (ha : a < 2147483648) (hb : b < 2147483648) (h : ¬ a = b) : ¬ nI a = x := fun q => h ((nI_eq ha hb).mp (q.trans hx))
theorem m_mean0 (N : Nat) : f9_meaning N (nI 316163) (nI 0) = some 0 ∧ f9_meaning N (nI 7219835) (nI 0) = some 1 ∧ f9_meaning N (nI 16819) (nI 0) = some 2 ∧ f9_meaning N (nI 232608281) (nI 0) = some 3 ∧ f9_meaning N (nI 335098125) (nI 0) = some 5 ∧ f9_meaning N (nI 136978133) (nI 533) = some 4 := ⟨rfl, rfl, rfl, rfl, rfl, rfl⟩
theorem x_cls (N : Nat) (hN : 1000 ≤ N) {k : Nat} {ch : Nat → Nat} {tx mx : Nat → Int32} (hT : TX k ch tx mx) {s : Nat} (hs : s ≤ k) :
    ∃ w : Nat, w ≤ 6 ∧ f3_clauseOf N (nI s) (nI (adk ch isL k s)) tx = some (nI w) ∧ (adk ch isL k s = s → w = 0) ∧ (s < adk ch isL k s → f9_meaning N (nI (cdV (fun j => ch (s + j) - 96) (adk ch isL k s - s))) (nI (mrV (fun j => ch (s + j) - 96) (adk ch isL k s - s))) = some (if w = 0 then 9 else nI (w - 1))) := by
  have hk := hT.1
  obtain ⟨g1, g2, -⟩ := adk_ge ch isL k _ s rfl hs
  have hall := adk_all ch isL k _ s rfl hs
  generalize he : adk ch isL k s = e at *
  have hc : ∀ j, j < e - s → 1 ≤ ch (s + j) - 96 ∧ ch (s + j) - 96 ≤ 26 := fun j hj => by
    have := of_decide_eq_true (hall (s + j) (by omega) (by omega))
    omega
  obtain ⟨ma, mb, mc, md, me, mf⟩ := m_mean0 N
  have low : ∀ v, e - s ≤ 6 → hC (fun j => ch (s + j) - 96) (e - s) = v → f9_meaning N (nI (cdV (fun j => ch (s + j) - 96) (e - s))) (nI (mrV (fun j => ch (s + j) - 96) (e - s))) = f9_meaning N (nI v) (nI 0) := fun v h6 hv => by
    unfold cdV mrV
    rw [if_pos h6, if_pos h6, hv]
  unfold f3_clauseOf
  rcases x_spW N (by omega) hT (s := s) (e := e) (wi := 0) w_part rfl l_part (by decide) g1 g2 with ⟨h0, q0⟩ | ⟨h0, q0⟩
  · rw [q0, ob1_k, if_neg (by decide)]
    refine ⟨1, by omega, rfl, fun z => ?_, fun _ => ?_⟩
    · have := (iW_part.mp h0).1
      omega
    · have h := iW_part.mp h0
      rw [low 316163 (by omega) ((hC_eq (by omega) hc).2.2.1.mpr h), ma]
      rfl
  rw [iW_part] at h0
  rw [q0, ob1_k, if_pos rfl]
  rcases x_spW N (by omega) hT (s := s) (e := e) (wi := 1) w_mouth rfl l_mouth (by decide) g1 g2 with ⟨h1, q1⟩ | ⟨h1, q1⟩
  · rw [q1, ob1_k, if_neg (by decide)]
    refine ⟨2, by omega, rfl, fun z => ?_, fun _ => ?_⟩
    · have := (iW_mouth.mp h1).1
      omega
    · have h := iW_mouth.mp h1
      rw [low 7219835 (by omega) ((hC_eq (by omega) hc).2.2.2.1.mpr h), mb]
      rfl
  rw [iW_mouth] at h1
  rw [q1, ob1_k, if_pos rfl]
  rcases x_spW N (by omega) hT (s := s) (e := e) (wi := 2) w_way rfl l_way (by decide) g1 g2 with ⟨h2, q2⟩ | ⟨h2, q2⟩
  · rw [q2, ob1_k, if_neg (by decide)]
    refine ⟨3, by omega, rfl, fun z => ?_, fun _ => ?_⟩
    · have := (iW_way.mp h2).1
      omega
    · have h := iW_way.mp h2
      rw [low 16819 (by omega) ((hC_eq (by omega) hc).2.1.mpr h), mc]
      rfl
  rw [iW_way] at h2
  rw [q2, ob1_k, if_pos rfl]
  rcases x_spW N (by omega) hT (s := s) (e := e) (wi := 3) w_person rfl l_person (by decide) g1 g2 with ⟨h3, q3⟩ | ⟨h3, q3⟩
  · rw [q3, ob1_k, if_neg (by decide)]
    refine ⟨4, by omega, rfl, fun z => ?_, fun _ => ?_⟩
    · have := (iW_person.mp h3).1
      omega
    · have h := iW_person.mp h3
      rw [low 232608281 (by omega) ((hC_eq (by omega) hc).2.2.2.2.1.mpr h), md]
      rfl
  rw [iW_person] at h3
  rw [q3, ob1_k, if_pos rfl]
  rcases x_spW N (by omega) hT (s := s) (e := e) (wi := 4) w_interest rfl l_interest (by decide) g1 g2 with ⟨h4, q4⟩ | ⟨h4, q4⟩
  · rw [q4, ob1_k, if_neg (by decide)]
    refine ⟨5, by omega, rfl, fun z => ?_, fun _ => ?_⟩
    · have := (iW_interest.mp h4).1
      omega
    · have h := iW_interest.mp h4
      have hv := (hC_eq (c := fun j => ch (s + j) - 96) (m := 6) (Nat.le_refl _) (fun j hj => hc j (by omega))).2.2.2.2.2.2.mpr ⟨rfl, h.2.1, h.2.2.1, h.2.2.2.1, h.2.2.2.2.1, h.2.2.2.2.2.1, h.2.2.2.2.2.2.1⟩
      have e1 : cdV (fun j => ch (s + j) - 96) (e - s) = 136978133 := by
        unfold cdV
        rw [if_neg (by omega), hv]
      have e2 : mrV (fun j => ch (s + j) - 96) (e - s) = 533 := by
        have h6 := h.2.2.2.2.2.2.2.1
        have h7 := h.2.2.2.2.2.2.2.2
        unfold mrV
        rw [if_neg (by omega), if_neg (by omega), if_pos h.1]
        show 27 * (ch (s + 6) - 96) + (ch (s + 7) - 96) = 533
        omega
      rw [e1, e2, mf]
      rfl
  rw [iW_interest] at h4
  rw [q4, ob1_k, if_pos rfl]
  rcases x_spW N (by omega) hT (s := s) (e := e) (wi := 5) w_winter rfl l_winter (by decide) g1 g2 with ⟨h5, q5⟩ | ⟨h5, q5⟩
  · rw [q5, ob1_k, if_neg (by decide)]
    refine ⟨6, by omega, rfl, fun z => ?_, fun _ => ?_⟩
    · have := (iW_winter.mp h5).1
      omega
    · have h := iW_winter.mp h5
      rw [low 335098125 (by omega) ((hC_eq (by omega) hc).2.2.2.2.2.1.mpr h), me]
      rfl
  rw [iW_winter] at h5
  rw [q5, ob1_k, if_pos rfl]
  refine ⟨0, by omega, rfl, fun _ => rfl, fun hlt => ?_⟩
  rw [if_pos rfl]
  by_cases h6 : e - s ≤ 6
  · obtain ⟨b0, b1, b2, b3, b4, b5, b6⟩ := hC_eq h6 hc
    rw [low _ h6 rfl]
    unfold f9_meaning
    rw [if_pos (by decide), if_neg (ne_lit (x := 16819) (b := 16819) rfl (by omega) (by omega) (fun q => h2 (b1.mp q))), if_neg (ne_lit (x := 316163) (b := 316163) rfl (by omega) (by omega) (fun q => h0 (b2.mp q))), if_neg (ne_lit (x := 7219835) (b := 7219835) rfl (by omega) (by omega) (fun q => h1 (b3.mp q))), if_neg (ne_lit (x := 232608281) (b := 232608281) rfl (by omega) (by omega) (fun q => h3 (b4.mp q))), if_neg (ne_lit (x := 335098125) (b := 335098125) rfl (by omega) (by omega) (fun q => h5 (b5.mp q)))]
  · obtain ⟨b0, b1, b2, b3, b4, b5, b6⟩ := hC_eq (c := fun j => ch (s + j) - 96) (m := 6) (Nat.le_refl _) (fun j hj => hc j (by omega))
    have e1 : cdV (fun j => ch (s + j) - 96) (e - s) = hC (fun j => ch (s + j) - 96) 6 := by
      unfold cdV
      rw [if_neg h6]
    have c6 := hc 6 (by omega)
    have e2 : 0 < mrV (fun j => ch (s + j) - 96) (e - s) ∧ mrV (fun j => ch (s + j) - 96) (e - s) ≤ 999999 ∧ (mrV (fun j => ch (s + j) - 96) (e - s) = 533 → e - s = 8 ∧ ch (s + 6) - 96 = 19 ∧ ch (s + 7) - 96 = 20) := by
      unfold mrV
      rw [if_neg h6]
      by_cases z7 : e - s = 7
      · rw [if_pos z7]
        show 0 < ch (s + 6) - 96 ∧ ch (s + 6) - 96 ≤ 999999 ∧ (ch (s + 6) - 96 = 533 → _)
        omega
      · rw [if_neg z7]
        by_cases z8 : e - s = 8
        · have c7 := hc 7 (by omega)
          rw [if_pos z8]
          show 0 < 27 * (ch (s + 6) - 96) + (ch (s + 7) - 96) ∧ 27 * (ch (s + 6) - 96) + (ch (s + 7) - 96) ≤ 999999 ∧ (27 * (ch (s + 6) - 96) + (ch (s + 7) - 96) = 533 → _)
          omega
        · rw [if_neg z8]
          omega
    obtain ⟨e3, e4, e5⟩ := e2
    rw [e1]
    generalize mrV (fun j => ch (s + j) - 96) (e - s) = mv at *
    unfold f9_meaning
    rw [if_neg (nI_nle e3 (by omega))]
    by_cases z : hC (fun j => ch (s + j) - 96) 6 = 136978133
    · rw [if_pos (show nI (hC (fun j => ch (s + j) - 96) 6) = (136978133 : Int32) by rw [z]; rfl), if_neg (ne_lit (x := 533) (b := 533) rfl (by omega) (by omega) (fun q => ?_))]
      obtain ⟨y1, y2, y3⟩ := e5 q
      obtain ⟨-, x1, x2, x3, x4, x5, x6⟩ := b6.mp z
      exact h4 ⟨y1, x1, x2, x3, x4, x5, x6, y2, y3⟩
    · rw [if_neg (ne_lit (x := 136978133) (b := 136978133) rfl (by omega) (by omega) z)]
