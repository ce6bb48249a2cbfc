theorem cgL_vi {p : Program} {l : Launch} {e : Env} {R : Room} {s : State} {m : MethodId} {args : Array Value} {below : List Frame} {meth : Method} {c : Code} {H : Heap} {locs : List Loc} {Q : State → Prop} {cc : ByteArray} {pc nL n index maxL : Nat} {ls : Array Slot} {rest st0 As : List Value} {D : va_G} {cy : Nat → ClassId} {cells slots : Nat} {A : Nat → Prop} {H0 : Heap} {Ts wsM : List Cond} {own C : String} {y : MethodName} {bytes : ByteArray} {rm : Room} {ws wc w1 wr ws2 : va_W} {r : Int32} {b q0 ci : Nat} {fs : List Value} {T : u_T} {NN : Nat} {rt : Option FieldType} (hx : p.tables.exec = Jvm.exec) (hb : c.code = cc) (hml : c.maxLocals = nL) (hown : s.vm.findClass own = some m.cls) (hts : ∀ w ∈ Ts, w.before args s = true) (hM : ∀ sz, CTi l y wsM rm (.ref b :: As) D cy sz wc w1 r) (cw : CallW R s args own C index y bytes maxL rt wsM rm 0 0 n) (hK : va_K D vwCl (tyA cy) s) (hP : va_P D vwCl ws H) (hD : va_D A ws) (hS : va_S A H0 H locs) (hA : ∀ q, H0.size ≤ q → A q) (hrc : ws[q0]? = some (b, .inr (ci, fs))) (hrk : vwCl[ci]? = some (C, T, NN)) (hp1 : ws.Perm (wr ++ wc)) (hp2 : (wr ++ w1).Perm ws2) (hlen : As.length = n) (hst : st0 = As.reverse ++ .ref b :: rest) (hsz : ls.size = nL) (hrs : (rest.map fun v => v.category).sum ≤ 8) (hdg : decode cc pc = .ok (.invokevirtual index, 3)) (hfr : cells + 0 ≤ R.cells ∧ slots + 0 ≤ R.slots)
    (kk : ∀ (H1 : Heap) (locs1 : List Loc), va_P D vwCl ws2 H1 → va_D A ws2 → va_S A H0 H1 locs1 → W p l e R s m args below meth c H1 locs1 cells slots Q (F0 m (pc + 3) ls (.int r :: rest))) : W p l e R s m args below meth c H locs cells slots Q (F0 m pc ls st0) := by
  subst hst
  have hPp := vq_P hp1 hP
  have hDp := vq_D hp1 hD
  have hPc : va_P D vwCl wc H := fun k q hk => hPp (wr.length + k) q (by rw [List.getElem?_append_right (by omega), show wr.length + k - wr.length = k by omega]; exact hk)
  have hDc : va_D (fun _ => True) wc := ⟨fun i j p q hi hj he => by
    have := hDp.1 (wr.length + i) (wr.length + j) p q (by rw [List.getElem?_append_right (by omega), show wr.length + i - wr.length = i by omega]; exact hi) (by rw [List.getElem?_append_right (by omega), show wr.length + j - wr.length = j by omega]; exact hj) he
    omega, fun _ _ _ => trivial⟩
  have hFc := vq_free hDp hS hA
  refine va_calli (va_runV ⟨hx, hb, hml, hown, hts⟩ (hM H.size) cw ⟨fun a U g mk q => by obtain ⟨q0, q1, qP, qK, qD⟩ := q; exact ⟨q0, q1, qP, va_K.moved (u := U) (U := U.calling g mk a) (Vm.Alike.refl U.vm) qK, qD⟩, va_recv hK hP hrk hrc, fun U hU hW => ⟨rfl, by rw [hU], by rw [hU]; exact hPc, va_K.moved hW.alike hK, hDc⟩⟩ rfl hlen hsz rfl (lv_room hrs) hdg hfr) hS (fun q _ h => hFc q h) hFc (fun r1 u t H1 locs1 ht hvm hw hB hz1 hk1 hS1 => ?_)
  obtain ⟨hP1, -, hD1⟩ := hB
  rw [ht] at hP1
  obtain ⟨hPj, hDj⟩ := vq_join hPp hDp hk1 hFc hP1 hD1
  subst hw
  exact kk H1 locs1 (vq_P hp2 hPj) (vq_D hp2 hDj) hS1
theorem csL_vi {p : Program} {l : Launch} {e : Env} {R : Room} {s : State} {m : MethodId} {args : Array Value} {below : List Frame} {meth : Method} {c : Code} {H : Heap} {locs : List Loc} {Q : State → Prop} {cc : ByteArray} {pc nL n index maxL : Nat} {ls : Array Slot} {rest st0 As : List Value} {D : va_G} {cy : Nat → ClassId} {cells slots : Nat} {A : Nat → Prop} {K V : Nat → Nat} {Ts wsM : List Cond} {own C : String} {y : MethodName} {bytes : ByteArray} {rm : Room} {ws wc w1 wr ws2 : va_W} {r : Int32} {b : Nat} {rt : Option FieldType} (hx : p.tables.exec = Jvm.exec) (hb : c.code = cc) (hml : c.maxLocals = nL) (hown : s.vm.findClass own = some m.cls) (hts : ∀ w ∈ Ts, w.before args s = true) (hM : ∀ sz, CSi l y wsM rm (.ref b :: As) D cy K V sz wc w1 r) (cw : CallW R s args own C index y bytes maxL rt wsM rm 0 0 n) (hSF : SF K V A s s.heap) (hK : va_K D vwCl (tyA cy) s) (hP : va_P D vwCl ws H) (hD : va_D A ws) (hS : va_S A s.heap H locs) (hA : ∀ q, s.heap.size ≤ q → A q) (hrv : ∃ cellB : Cell, H[b]? = some cellB ∧ cellB.vm.isStatics = false ∧ s.vm.findClass C = some cellB.cls) (hp1 : ws.Perm (wr ++ wc)) (hp2 : (wr ++ w1).Perm ws2) (hlen : As.length = n) (hst : st0 = As.reverse ++ .ref b :: rest) (hsz : ls.size = nL) (hrs : (rest.map fun v => v.category).sum ≤ 8) (hdg : decode cc pc = .ok (.invokevirtual index, 3)) (hfr : cells + 0 ≤ R.cells ∧ slots + 0 ≤ R.slots)
    (kk : ∀ (H1 : Heap) (locs1 : List Loc), va_P D vwCl ws2 H1 → va_D A ws2 → va_S A s.heap H1 locs1 → W p l e R s m args below meth c H1 locs1 cells slots Q (F0 m (pc + 3) ls (.int r :: rest))) : W p l e R s m args below meth c H locs cells slots Q (F0 m pc ls st0) := by
  subst hst
  have hPp := vq_P hp1 hP
  have hDp := vq_D hp1 hD
  have hPc : va_P D vwCl wc H := fun k q hk => hPp (wr.length + k) q (by rw [List.getElem?_append_right (by omega), show wr.length + k - wr.length = k by omega]; exact hk)
  have hDc : va_D (fun _ => True) wc := ⟨fun i j p q hi hj he => by
    have := hDp.1 (wr.length + i) (wr.length + j) p q (by rw [List.getElem?_append_right (by omega), show wr.length + i - wr.length = i by omega]; exact hi) (by rw [List.getElem?_append_right (by omega), show wr.length + j - wr.length = j by omega]; exact hj) he
    omega, fun _ _ _ => trivial⟩
  have hFc := vq_free hDp hS hA
  refine va_calli (va_runV ⟨hx, hb, hml, hown, hts⟩ (hM H.size) cw ⟨fun a U g mk q => by obtain ⟨q0, ⟨q1, qP, qK, qD⟩, qS⟩ := q; exact ⟨q0, ⟨q1, qP, va_K.moved (u := U) (U := U.calling g mk a) (Vm.Alike.refl U.vm) qK, qD⟩, SF.same (u := U) (U := U.calling g mk a) rfl qS⟩, hrv, fun U hU hW => ⟨rfl, ⟨by rw [hU], by rw [hU]; exact hPc, va_K.moved hW.alike hK, hDc⟩, by rw [hU]; exact ((hSF.kept hS.2.1).narrow (fun q h => hFc q h)).warm hW⟩⟩ rfl hlen hsz rfl (lv_room hrs) hdg hfr) hS (fun q _ h => hFc q h) hFc (fun r1 u t H1 locs1 ht hvm hw hB hz1 hk1 hS1 => ?_)
  obtain ⟨hP1, -, hD1⟩ := hB
  rw [ht] at hP1
  obtain ⟨hPj, hDj⟩ := vq_join hPp hDp hk1 hFc hP1 hD1
  subst hw
  exact kk H1 locs1 (vq_P hp2 hPj) (vq_D hp2 hDj) hS1
abbrev WXc (cy : Nat → ClassId) (a : Nat → Nat) (rr : Nat → Nat → Nat) (v_textLength v_faultAt : Int32) (v_text : Nat → Int32) (v_den_parts v_den_mouths v_den_ways v_den_persons v_den_interest v_den_interestTold v_den_winters : Int32) (v_den_rate v_den_near v_den_firstAge v_den_firstRiches v_den_winterStart v_den_winterEnd : Nat → Int32) (v_spareDen_parts v_spareDen_mouths v_spareDen_ways v_spareDen_persons v_spareDen_interest v_spareDen_interestTold v_spareDen_winters : Int32) (v_spareDen_rate v_spareDen_near v_spareDen_firstAge v_spareDen_firstRiches v_spareDen_winterStart v_spareDen_winterEnd : Nat → Int32) (v_reader_faultKind v_reader_faultAt v_reader_at v_reader_length v_reader_numberAt v_stay_count : Int32) (v_stay_partOf : Nat → Int32) (v_folk_kept v_folk_date v_folk_drawSeed : Int32) (v_folk_age v_folk_riches v_folk_out : Nat → Int32) (v_firstImage_kept v_firstImage_date v_firstImage_drawSeed : Int32) (v_firstImage_age v_firstImage_riches v_firstImage_out : Nat → Int32) (v_secondImage_kept v_secondImage_date v_secondImage_drawSeed : Int32) (v_secondImage_age v_secondImage_riches v_secondImage_out : Nat → Int32) (v_exactTimes_rest : Nat → Int64) (v_trials_count : Int32) (v_trials_days v_trials_ticks : Nat → Int32) (v_registers_count : Int32) (v_registers_man v_registers_date v_registers_age : Nat → Int32) : va_W :=
  [((a 0), .inr (8, [.ref (a 1), .int v_textLength, .int v_faultAt, .ref (a 2), .ref (a 9), .ref (a 16), .ref (a 17), .ref (a 19), .ref (a 23), .ref (a 27), .ref (a 31), .ref (a 34), .ref (a 37), .ref (a 40)])),
  ((a 1), .inl (cy 1, 500, .inl v_text)),
  ((a 2), .inr (0, [.int v_den_parts, .int v_den_mouths, .int v_den_ways, .int v_den_persons, .int v_den_interest, .int v_den_interestTold, .int v_den_winters, .ref (a 3), .ref (a 4), .ref (a 5), .ref (a 6), .ref (a 7), .ref (a 8)])),
  ((a 3), .inl (cy 2, 7, .inl v_den_rate)),
  ((a 4), .inl (cy 2, 7, .inl v_den_near)),
  ((a 5), .inl (cy 2, 6, .inl v_den_firstAge)),
  ((a 6), .inl (cy 2, 6, .inl v_den_firstRiches)),
  ((a 7), .inl (cy 2, 5, .inl v_den_winterStart)),
  ((a 8), .inl (cy 2, 5, .inl v_den_winterEnd)),
  ((a 9), .inr (0, [.int v_spareDen_parts, .int v_spareDen_mouths, .int v_spareDen_ways, .int v_spareDen_persons, .int v_spareDen_interest, .int v_spareDen_interestTold, .int v_spareDen_winters, .ref (a 10), .ref (a 11), .ref (a 12), .ref (a 13), .ref (a 14), .ref (a 15)])),
  ((a 10), .inl (cy 2, 7, .inl v_spareDen_rate)),
  ((a 11), .inl (cy 2, 7, .inl v_spareDen_near)),
  ((a 12), .inl (cy 2, 6, .inl v_spareDen_firstAge)),
  ((a 13), .inl (cy 2, 6, .inl v_spareDen_firstRiches)),
  ((a 14), .inl (cy 2, 5, .inl v_spareDen_winterStart)),
  ((a 15), .inl (cy 2, 5, .inl v_spareDen_winterEnd)),
  ((a 16), .inr (3, [.int v_reader_faultKind, .int v_reader_faultAt, .int v_reader_at, .int v_reader_length, .int v_reader_numberAt])),
  ((a 17), .inr (6, [.int v_stay_count, .ref (a 18)])),
  ((a 18), .inl (cy 2, 40, .inl v_stay_partOf)),
  ((a 19), .inr (2, [.int v_folk_kept, .int v_folk_date, .int v_folk_drawSeed, .ref (a 20), .ref (a 21), .ref (a 22)])),
  ((a 20), .inl (cy 2, 6, .inl v_folk_age)),
  ((a 21), .inl (cy 2, 6, .inl v_folk_riches)),
  ((a 22), .inl (cy 2, 6, .inl v_folk_out)),
  ((a 23), .inr (2, [.int v_firstImage_kept, .int v_firstImage_date, .int v_firstImage_drawSeed, .ref (a 24), .ref (a 25), .ref (a 26)])),
  ((a 24), .inl (cy 2, 6, .inl v_firstImage_age)),
  ((a 25), .inl (cy 2, 6, .inl v_firstImage_riches)),
  ((a 26), .inl (cy 2, 6, .inl v_firstImage_out)),
  ((a 27), .inr (2, [.int v_secondImage_kept, .int v_secondImage_date, .int v_secondImage_drawSeed, .ref (a 28), .ref (a 29), .ref (a 30)])),
  ((a 28), .inl (cy 2, 6, .inl v_secondImage_age)),
  ((a 29), .inl (cy 2, 6, .inl v_secondImage_riches)),
  ((a 30), .inl (cy 2, 6, .inl v_secondImage_out)),
  ((a 31), .inr (5, [.ref (a 32), .ref (a 33)])),
  ((a 32), .inl (cy 5, 41, gO 41 (rr 0))),
  ((a 33), .inl (cy 5, 41, gO 41 (rr 1))),
  ((a 34), .inr (1, [.ref (a 35), .ref (a 36)])),
  ((a 35), .inl (cy 6, 287, gO 287 (rr 2))),
  ((a 36), .inl (cy 3, 94, .inr (.inl v_exactTimes_rest))),
  ((a 37), .inr (7, [.int v_trials_count, .ref (a 38), .ref (a 39)])),
  ((a 38), .inl (cy 2, 10, .inl v_trials_days)),
  ((a 39), .inl (cy 2, 10, .inl v_trials_ticks)),
  ((a 40), .inr (4, [.int v_registers_count, .ref (a 41), .ref (a 42), .ref (a 43)])),
  ((a 41), .inl (cy 2, 8, .inl v_registers_man)),
  ((a 42), .inl (cy 2, 8, .inl v_registers_date)),
  ((a 43), .inl (cy 2, 8, .inl v_registers_age))]
abbrev WXg (cy : Nat → ClassId) (rr : Nat → Nat → Nat) (v_spans_least v_spans_most : Nat → Nat → Int32) (v_exactTimes_times : Nat → Nat → Int64) : va_W := ((gW (rr 0) 41 7 (cy 2) v_spans_least ++ gW (rr 1) 41 7 (cy 2) v_spans_most) ++ gWL (rr 2) 287 94 (cy 3) v_exactTimes_times)
abbrev WMc (cy : Nat → ClassId) (mb : Nat → Nat) (w_seed w_typed w_at w_start w_sort w_value w_fault w_faultAt w_hasInterest w_stayMany w_tries w_lines : Int32) (w_text w_parts w_rates w_ways w_wayMany w_mouths w_persons w_ages w_sums w_interest w_winters w_winterFrom w_winterLong w_now w_isKept w_stay w_leastTime w_mostTime : Nat → Int32) (w_can : Nat → Int64) (w_found w_tryDays w_tryTicks w_lineDate w_lineAge w_man w_bestMan : Nat → Int32) : va_W :=
  [((mb 0), .inr (9, [.int w_seed, .ref (mb 1), .int w_typed, .ref (mb 2), .ref (mb 3), .ref (mb 4), .ref (mb 5), .ref (mb 6), .ref (mb 7), .ref (mb 8), .ref (mb 9), .ref (mb 10), .ref (mb 11), .ref (mb 12), .ref (mb 13), .int w_at, .int w_start, .int w_sort, .int w_value, .int w_fault, .int w_faultAt, .int w_hasInterest, .ref (mb 14), .ref (mb 15), .ref (mb 16), .int w_stayMany, .ref (mb 17), .ref (mb 18), .ref (mb 19), .ref (mb 20), .ref (mb 21), .ref (mb 22), .int w_tries, .ref (mb 23), .ref (mb 24), .int w_lines, .ref (mb 25), .ref (mb 26)])),
  ((mb 1), .inl (cy 0, 500, .inl w_text)),
  ((mb 2), .inl (cy 2, 2, .inl w_parts)),
  ((mb 3), .inl (cy 2, 14, .inl w_rates)),
  ((mb 4), .inl (cy 2, 14, .inl w_ways)),
  ((mb 5), .inl (cy 2, 2, .inl w_wayMany)),
  ((mb 6), .inl (cy 2, 2, .inl w_mouths)),
  ((mb 7), .inl (cy 2, 2, .inl w_persons)),
  ((mb 8), .inl (cy 2, 12, .inl w_ages)),
  ((mb 9), .inl (cy 2, 12, .inl w_sums)),
  ((mb 10), .inl (cy 2, 2, .inl w_interest)),
  ((mb 11), .inl (cy 2, 2, .inl w_winters)),
  ((mb 12), .inl (cy 2, 10, .inl w_winterFrom)),
  ((mb 13), .inl (cy 2, 10, .inl w_winterLong)),
  ((mb 14), .inl (cy 2, 60, .inl w_now)),
  ((mb 15), .inl (cy 4, 2, .inl w_isKept)),
  ((mb 16), .inl (cy 2, 40, .inl w_stay)),
  ((mb 17), .inl (cy 2, 287, .inl w_leastTime)),
  ((mb 18), .inl (cy 2, 287, .inl w_mostTime)),
  ((mb 19), .inl (cy 3, 26978, .inr (.inl w_can))),
  ((mb 20), .inl (cy 2, 40, .inl w_found)),
  ((mb 21), .inl (cy 2, 10, .inl w_tryDays)),
  ((mb 22), .inl (cy 2, 10, .inl w_tryTicks)),
  ((mb 23), .inl (cy 2, 8, .inl w_lineDate)),
  ((mb 24), .inl (cy 2, 8, .inl w_lineAge)),
  ((mb 25), .inl (cy 2, 8, .inl w_man)),
  ((mb 26), .inl (cy 2, 8, .inl w_bestMan))]
/-- what both sides hold alike -/
def CPL (v_textLength v_faultAt : Int32) (v_text : Nat → Int32) (v_den_parts v_den_mouths v_den_persons v_den_interest v_den_winters : Int32) (v_den_rate v_den_near v_den_winterStart v_den_winterEnd : Nat → Int32) (v_stay_count : Int32) (v_stay_partOf : Nat → Int32) (v_folk_date v_folk_drawSeed : Int32) (v_folk_age v_folk_riches v_folk_out : Nat → Int32) (v_firstImage_kept v_firstImage_date v_firstImage_drawSeed : Int32) (v_firstImage_age v_firstImage_riches v_firstImage_out : Nat → Int32) (v_secondImage_kept v_secondImage_date v_secondImage_drawSeed : Int32) (v_secondImage_age v_secondImage_riches v_secondImage_out : Nat → Int32) (v_trials_count : Int32) (v_trials_days v_trials_ticks : Nat → Int32) (v_registers_count : Int32) (v_registers_date v_registers_age : Nat → Int32) (w_seed w_typed w_faultAt : Int32) (w_text w_parts w_rates w_ways w_mouths w_persons w_interest w_winters w_winterFrom w_winterLong w_now w_isKept : Nat → Int32) (w_stayMany : Int32) (w_stay : Nat → Int32) (w_tries : Int32) (w_tryDays w_tryTicks : Nat → Int32) (w_lines : Int32) (w_lineDate w_lineAge : Nat → Int32) : Prop :=
  ∃ P Qn In Wn k : Nat, (k ≤ 500 ∧ v_textLength = nI k ∧ w_typed = nI k ∧ ∀ j, j < k → v_text j = w_text j &&& 255) ∧ v_faultAt = w_faultAt ∧
    CAV P Qn In Wn v_den_parts v_den_mouths v_den_persons v_den_interest v_den_winters v_den_rate v_den_near v_den_winterStart v_den_winterEnd v_folk_date v_folk_age v_folk_riches v_folk_out w_parts w_rates w_ways w_mouths w_persons w_interest w_winters w_winterFrom w_winterLong w_now ∧
    RSt P v_stay_count v_stay_partOf w_stayMany w_stay ∧ RTry v_trials_count v_trials_days v_trials_ticks w_tries w_tryDays w_tryTicks ∧ RLn v_registers_count v_registers_date v_registers_age w_lines w_lineDate w_lineAge ∧
    (v_folk_drawSeed = w_seed ∧ 0 ≤ w_seed.toInt) ∧
    RIm Qn v_firstImage_kept v_firstImage_date v_firstImage_drawSeed v_firstImage_age v_firstImage_riches v_firstImage_out 20 0 w_now w_isKept ∧
    RIm Qn v_secondImage_kept v_secondImage_date v_secondImage_drawSeed v_secondImage_age v_secondImage_riches v_secondImage_out 40 1 w_now w_isKept
def LST (A : Nat → Prop) (D : va_G) (cy : Nat → ClassId) (x0 m0 : Nat) (H : Heap) : Prop :=
  ∀ C : Prop, (∀ (a mb : Nat → Nat) (rr : Nat → Nat → Nat) (v_textLength v_faultAt : Int32) (v_text : Nat → Int32) (v_den_parts v_den_mouths v_den_ways v_den_persons v_den_interest v_den_interestTold v_den_winters : Int32) (v_den_rate v_den_near v_den_firstAge v_den_firstRiches v_den_winterStart v_den_winterEnd : Nat → Int32) (v_spareDen_parts v_spareDen_mouths v_spareDen_ways v_spareDen_persons v_spareDen_interest v_spareDen_interestTold v_spareDen_winters : Int32) (v_spareDen_rate v_spareDen_near v_spareDen_firstAge v_spareDen_firstRiches v_spareDen_winterStart v_spareDen_winterEnd : Nat → Int32) (v_reader_faultKind v_reader_faultAt v_reader_at v_reader_length v_reader_numberAt v_stay_count : Int32) (v_stay_partOf : Nat → Int32) (v_folk_kept v_folk_date v_folk_drawSeed : Int32) (v_folk_age v_folk_riches v_folk_out : Nat → Int32) (v_firstImage_kept v_firstImage_date v_firstImage_drawSeed : Int32) (v_firstImage_age v_firstImage_riches v_firstImage_out : Nat → Int32) (v_secondImage_kept v_secondImage_date v_secondImage_drawSeed : Int32) (v_secondImage_age v_secondImage_riches v_secondImage_out : Nat → Int32) (v_spans_least v_spans_most : Nat → Nat → Int32) (v_exactTimes_times : Nat → Nat → Int64) (v_exactTimes_rest : Nat → Int64) (v_trials_count : Int32) (v_trials_days v_trials_ticks : Nat → Int32) (v_registers_count : Int32) (v_registers_man v_registers_date v_registers_age : Nat → Int32) (w_seed w_typed w_at w_start w_sort w_value w_fault w_faultAt w_hasInterest w_stayMany w_tries w_lines : Int32) (w_text w_parts w_rates w_ways w_wayMany w_mouths w_persons w_ages w_sums w_interest w_winters w_winterFrom w_winterLong w_now w_isKept w_stay w_leastTime w_mostTime : Nat → Int32) (w_can : Nat → Int64) (w_found w_tryDays w_tryTicks w_lineDate w_lineAge w_man w_bestMan : Nat → Int32), a 0 = x0 → mb 0 = m0 → CPL v_textLength v_faultAt v_text v_den_parts v_den_mouths v_den_persons v_den_interest v_den_winters v_den_rate v_den_near v_den_winterStart v_den_winterEnd v_stay_count v_stay_partOf v_folk_date v_folk_drawSeed v_folk_age v_folk_riches v_folk_out v_firstImage_kept v_firstImage_date v_firstImage_drawSeed v_firstImage_age v_firstImage_riches v_firstImage_out v_secondImage_kept v_secondImage_date v_secondImage_drawSeed v_secondImage_age v_secondImage_riches v_secondImage_out v_trials_count v_trials_days v_trials_ticks v_registers_count v_registers_date v_registers_age w_seed w_typed w_faultAt w_text w_parts w_rates w_ways w_mouths w_persons w_interest w_winters w_winterFrom w_winterLong w_now w_isKept w_stayMany w_stay w_tries w_tryDays w_tryTicks w_lines w_lineDate w_lineAge → va_P D vwCl (WMc cy mb w_seed w_typed w_at w_start w_sort w_value w_fault w_faultAt w_hasInterest w_stayMany w_tries w_lines w_text w_parts w_rates w_ways w_wayMany w_mouths w_persons w_ages w_sums w_interest w_winters w_winterFrom w_winterLong w_now w_isKept w_stay w_leastTime w_mostTime w_can w_found w_tryDays w_tryTicks w_lineDate w_lineAge w_man w_bestMan ++ (WXc cy a rr v_textLength v_faultAt v_text v_den_parts v_den_mouths v_den_ways v_den_persons v_den_interest v_den_interestTold v_den_winters v_den_rate v_den_near v_den_firstAge v_den_firstRiches v_den_winterStart v_den_winterEnd v_spareDen_parts v_spareDen_mouths v_spareDen_ways v_spareDen_persons v_spareDen_interest v_spareDen_interestTold v_spareDen_winters v_spareDen_rate v_spareDen_near v_spareDen_firstAge v_spareDen_firstRiches v_spareDen_winterStart v_spareDen_winterEnd v_reader_faultKind v_reader_faultAt v_reader_at v_reader_length v_reader_numberAt v_stay_count v_stay_partOf v_folk_kept v_folk_date v_folk_drawSeed v_folk_age v_folk_riches v_folk_out v_firstImage_kept v_firstImage_date v_firstImage_drawSeed v_firstImage_age v_firstImage_riches v_firstImage_out v_secondImage_kept v_secondImage_date v_secondImage_drawSeed v_secondImage_age v_secondImage_riches v_secondImage_out v_exactTimes_rest v_trials_count v_trials_days v_trials_ticks v_registers_count v_registers_man v_registers_date v_registers_age ++ WXg cy rr v_spans_least v_spans_most v_exactTimes_times)) H → va_D A (WMc cy mb w_seed w_typed w_at w_start w_sort w_value w_fault w_faultAt w_hasInterest w_stayMany w_tries w_lines w_text w_parts w_rates w_ways w_wayMany w_mouths w_persons w_ages w_sums w_interest w_winters w_winterFrom w_winterLong w_now w_isKept w_stay w_leastTime w_mostTime w_can w_found w_tryDays w_tryTicks w_lineDate w_lineAge w_man w_bestMan ++ (WXc cy a rr v_textLength v_faultAt v_text v_den_parts v_den_mouths v_den_ways v_den_persons v_den_interest v_den_interestTold v_den_winters v_den_rate v_den_near v_den_firstAge v_den_firstRiches v_den_winterStart v_den_winterEnd v_spareDen_parts v_spareDen_mouths v_spareDen_ways v_spareDen_persons v_spareDen_interest v_spareDen_interestTold v_spareDen_winters v_spareDen_rate v_spareDen_near v_spareDen_firstAge v_spareDen_firstRiches v_spareDen_winterStart v_spareDen_winterEnd v_reader_faultKind v_reader_faultAt v_reader_at v_reader_length v_reader_numberAt v_stay_count v_stay_partOf v_folk_kept v_folk_date v_folk_drawSeed v_folk_age v_folk_riches v_folk_out v_firstImage_kept v_firstImage_date v_firstImage_drawSeed v_firstImage_age v_firstImage_riches v_firstImage_out v_secondImage_kept v_secondImage_date v_secondImage_drawSeed v_secondImage_age v_secondImage_riches v_secondImage_out v_exactTimes_rest v_trials_count v_trials_days v_trials_ticks v_registers_count v_registers_man v_registers_date v_registers_age ++ WXg cy rr v_spans_least v_spans_most v_exactTimes_times)) → C) → C
theorem lx1 {X r c M : va_W} (h : X.Perm (r ++ c)) : (M ++ X).Perm ((M ++ r) ++ c) := by
  rw [List.append_assoc]
  exact List.Perm.append_left M h
theorem lx2 {X r c M : va_W} (h : X.Perm (r ++ c)) : ((M ++ r) ++ c).Perm (M ++ X) := (lx1 h).symm
theorem lm1 {X r c M : va_W} (h : M.Perm (r ++ c)) : (M ++ X).Perm ((X ++ r) ++ c) := by
  rw [List.append_assoc]
  exact List.perm_append_comm.trans (List.Perm.append_left X h)
theorem lm2 {X r c M : va_W} (h : M.Perm (r ++ c)) : ((X ++ r) ++ c).Perm (M ++ X) := (lm1 h).symm
theorem lw_in {i j L : Nat} {x : Int32} (hx : x = nI j) (h : i + j < L) (hL : L ≤ 384) : vp_in (nI i + x) L := by
  rw [hx, nI_add]
  exact vp_in_nI h (by omega)
