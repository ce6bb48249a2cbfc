/-! told, and the calls that only count -/
def RWi (W : Nat) (dw : Int32) (ws we : Nat → Int32) (mwi wf wl : Nat → Int32) : Prop := W ≤ 5 ∧ dw = nI W ∧ mwi 0 = nI W ∧ ∀ w, w < W → ∃ f l : Nat, f ≤ 90 ∧ 1 ≤ l ∧ l ≤ 9 ∧ wf w = nI f ∧ wl w = nI l ∧ ws w = nI (60 * f) ∧ we w = nI (60 * (f + l))
theorem q_told (N : Nat) (hN : 200000 ≤ N) (p1 : Int32) {tl ty : Int32} (ht : tl = ty) {P : Nat} {dp : Int32} {dr dn mp mr mw : Nat → Int32} (hc : RC P dp dr dn mp mr mw) {dm : Int32} {mm : Nat → Int32} (hm : dm = mm 0) {Q : Nat} {dq : Int32} {per : Nat → Int32} (hp : RPe Q dq per) {i : Nat} {di : Int32} {it : Nat → Int32} (hi : RIn i di it)
    {W : Nat} {dw : Int32} {ws we mwi wf wl : Nat → Int32} (hw : RWi W dw ws we mwi wf wl) {c : Int32} {po : Nat → Int32} {sm : Int32} {st : Nat → Int32} (hs : RSt P c po sm st) {dt : Int32} {ag ri ou now : Nat → Int32} (hf : RFo Q dt ag ri ou 0 now)
    {tc : Int32} {td tt : Nat → Int32} {mt : Int32} {mtd mtt : Nat → Int32} (hy : RTry tc td tt mt mtd mtt) {rc : Int32} {rd ra : Nat → Int32} {ml : Int32} {mld mla : Nat → Int32} (hl : RLn rc rd ra ml mld mla) :
    ∃ r, f8_told N p1 tl dp dm dq di dw dr c po dt ou tc rc = some r ∧ f9_told N p1 ty sm mt ml mp mr mm per it mwi now st = some r := by
  obtain ⟨rd7, x7, y7⟩ := q_downSet N (by omega) hp hf
  obtain ⟨rt9, x9, y9, -⟩ := q_time N (by omega) hc hs
  obtain ⟨-, e0, e0', -⟩ := hc
  obtain ⟨-, e2, e2'⟩ := hp
  obtain ⟨-, e3, e3'⟩ := hi
  obtain ⟨-, e4, e4', -⟩ := hw
  obtain ⟨ks, -, e8, e8', -⟩ := hs
  obtain ⟨kt, -, e10, e10', -⟩ := hy
  obtain ⟨kl, -, e11, e11', -⟩ := hl
  have e6 := hf.1
  unfold f8_told f9_told
  rw [x7, y7, x9, y9]
  simp only [gi_ok (i := 0) (n := 2) (by decide) (by decide), gi_ok (i := 0) (n := 60) (by decide) (by decide), n_0, ob1_k]
  rw [e0', e2', e3', e4', ← e6, ← hm, e8', e10', e11', e0, e2, e3, e4, e8, e10, e11, ht]
  by_cases g0 : p1 = 0
  · exact ⟨_, by rw [if_pos g0], by rw [if_pos g0]⟩
  rw [if_neg g0]
  by_cases g1 : p1 = 1
  · exact ⟨_, by rw [if_pos g1], by rw [if_pos g1]⟩
  rw [if_neg g1]
  by_cases g2 : p1 = 2
  · exact ⟨_, by rw [if_pos g2], by rw [if_pos g2]⟩
  rw [if_neg g2]
  by_cases g3 : p1 = 3
  · exact ⟨_, by rw [if_pos g3], by rw [if_pos g3]⟩
  rw [if_neg g3]
  by_cases g4 : p1 = 4
  · exact ⟨_, by rw [if_pos g4], by rw [if_pos g4]⟩
  rw [if_neg g4]
  by_cases g5 : p1 = 5
  · exact ⟨_, by rw [if_pos g5], by rw [if_pos g5]⟩
  rw [if_neg g5]
  by_cases g6 : p1 = 6
  · exact ⟨_, by rw [if_pos g6], by rw [if_pos g6]⟩
  rw [if_neg g6]
  by_cases g7 : p1 = 7
  · exact ⟨_, by rw [if_pos g7], by rw [if_pos g7]⟩
  rw [if_neg g7]
  by_cases g8 : p1 = 8
  · exact ⟨_, by rw [if_pos g8], by rw [if_pos g8]⟩
  rw [if_neg g8]
  by_cases g9 : p1 = 9
  · exact ⟨_, by rw [if_pos g9], by rw [if_pos g9]⟩
  rw [if_neg g9]
  by_cases g10 : p1 = 10
  · exact ⟨_, by rw [if_pos g10], by rw [if_pos g10]⟩
  rw [if_neg g10]
  by_cases g11 : p1 = 11
  · exact ⟨_, by rw [if_pos g11], by rw [if_pos g11]⟩
  rw [if_neg g11]
  exact ⟨_, rfl, rfl⟩
theorem q_forget (N P : Nat) {c : Int32} {po : Nat → Int32} {sm : Int32} {st : Nat → Int32} (hs : RSt P c po sm st) : ∃ r c' sm', f8_forget N c = some (r, c') ∧ f9_forget N sm = some (r, sm') ∧ RSt P c' po sm' st := by
  obtain ⟨k, hk, rfl, rfl, -⟩ := hs
  exact ⟨nI k, 0, 0, rfl, rfl, 0, by omega, rfl, rfl, fun j hj => by omega⟩
theorem q_tear (N : Nat) {tc : Int32} {td tt : Nat → Int32} {mt : Int32} {mtd mtt : Nat → Int32} (hy : RTry tc td tt mt mtd mtt) {rc : Int32} {rd ra : Nat → Int32} {ml : Int32} {mld mla : Nat → Int32} (hl : RLn rc rd ra ml mld mla) :
    ∃ r tc' rc' mt' ml', f8_tear N tc rc = some (r, tc', rc') ∧ f9_tear N mt ml = some (r, mt', ml') ∧ RTry tc' td tt mt' mtd mtt ∧ RLn rc' rd ra ml' mld mla := by
  obtain ⟨k, hk, rfl, rfl, -⟩ := hy
  obtain ⟨k2, hk2, rfl, rfl, -⟩ := hl
  exact ⟨nI k + nI k2, 0, 0, 0, 0, rfl, rfl, ⟨0, by omega, rfl, rfl, fun j hj => by omega⟩, ⟨0, by omega, rfl, rfl, fun j hj => by omega⟩⟩
theorem q_seed (N : Nat) (p1 : Int32) {sd : Int32} (hs : 0 ≤ sd.toInt) : ∃ r sd', f8_seed N p1 sd = some (r, sd') ∧ f9_seed N p1 sd = some (r, sd') ∧ 0 ≤ sd'.toInt := by
  unfold f8_seed f9_seed
  by_cases h : (0 : Int32) ≤ p1
  · exact ⟨sd, p1, by rw [if_pos h], by rw [if_pos h], by rw [t_le, t_0] at h; exact h⟩
  · exact ⟨-1000000002, sd, by rw [if_neg h], by rw [if_neg h], hs⟩
