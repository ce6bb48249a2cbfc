-- ===== X9_findSpans findSpans (I)V =====
abbrev r9_findSpans : Room := { frames := 1, cells := 0, slots := 0, locals := 22 }
def f9_findSpans_J121 (N : Nat) (v_mostTime_10 : Nat → Int32) (x5_44 : Int32) (x6_44 : Int32) (r65 : Int32) (rec44 : Int32 → Int32 → Int32 → Option (Int32 × Int32)) (s0_121 : Int32) : Option (Int32 × Int32) :=
  gi r65 287 (if (v_mostTime_10 r65.toNatClampNeg) ≤ x5_44 then (rec44 s0_121 x5_44 (x6_44 + (1 : Int32))) else (gi r65 287 (rec44 s0_121 (v_mostTime_10 r65.toNatClampNeg) (x6_44 + (1 : Int32)))))
def f9_findSpans_L44 (N : Nat) (v_parts : Nat → Int32) (v_ways : Nat → Int32) (x2_2 : Int32) (x3_10 : Int32) (v_leastTime_10 : Nat → Int32) (v_mostTime_10 : Nat → Int32) : Nat → Int32 → Int32 → Int32 → Option (Int32 × Int32)
  | 0, _, _, _ => none
  | n + 1, x4_44, x5_44, x6_44 => gi (0 : Int32) 2 (if (v_parts (0 : Int32).toNatClampNeg) ≤ x6_44 then (some (x4_44, x5_44)) else (if x2_2 ≤ (1 : Int32) then (some (x4_44, x5_44)) else (ob1 (f9_index N (x2_2 - (1 : Int32)) x6_44) fun r65 => ob1 (f9_isStep N x3_10 x6_44 v_ways) fun r74 => if r74 = (0 : Int32) then ((f9_findSpans_L44 N v_parts v_ways x2_2 x3_10 v_leastTime_10 v_mostTime_10 n) x4_44 x5_44 (x6_44 + (1 : Int32))) else (gi r65 287 (if (v_mostTime_10 r65.toNatClampNeg) = (-1 : Int32) then ((f9_findSpans_L44 N v_parts v_ways x2_2 x3_10 v_leastTime_10 v_mostTime_10 n) x4_44 x5_44 (x6_44 + (1 : Int32))) else (if x4_44 = (-1 : Int32) then (gi r65 287 (f9_findSpans_J121 N v_mostTime_10 x5_44 x6_44 r65 (f9_findSpans_L44 N v_parts v_ways x2_2 x3_10 v_leastTime_10 v_mostTime_10 n) (v_leastTime_10 r65.toNatClampNeg))) else (gi r65 287 (if x4_44 ≤ (v_leastTime_10 r65.toNatClampNeg) then (f9_findSpans_J121 N v_mostTime_10 x5_44 x6_44 r65 (f9_findSpans_L44 N v_parts v_ways x2_2 x3_10 v_leastTime_10 v_mostTime_10 n) x4_44) else (gi r65 287 (f9_findSpans_J121 N v_mostTime_10 x5_44 x6_44 r65 (f9_findSpans_L44 N v_parts v_ways x2_2 x3_10 v_leastTime_10 v_mostTime_10 n) (v_leastTime_10 r65.toNatClampNeg)))))))))))
def f9_findSpans_J183 (N : Nat) (v_rates : Nat → Int32) (x2_2 : Int32) (x3_10 : Int32) (v_leastTime_10 : Nat → Int32) (v_mostTime_10 : Nat → Int32) (e5_44 : Int32) (rec10 : Int32 → (Nat → Int32) → (Nat → Int32) → Option ((Nat → Int32) × (Nat → Int32))) (s0_183 : Int32) (s1_183 : Int32) : Option ((Nat → Int32) × (Nat → Int32)) :=
  gi s1_183 287 (ob1 (f9_index N x2_2 x3_10) fun r190 => if e5_44 = (-1 : Int32) then (gi r190 287 (rec10 (x3_10 + (1 : Int32)) (upd v_leastTime_10 s1_183.toNatClampNeg s0_183) (upd v_mostTime_10 r190.toNatClampNeg (-1 : Int32)))) else (gi x3_10 14 (gi r190 287 (rec10 (x3_10 + (1 : Int32)) (upd v_leastTime_10 s1_183.toNatClampNeg s0_183) (upd v_mostTime_10 r190.toNatClampNeg (e5_44 + (v_rates x3_10.toNatClampNeg)))))))
def f9_findSpans_J35 (N : Nat) (v_parts : Nat → Int32) (v_rates : Nat → Int32) (v_ways : Nat → Int32) (x2_2 : Int32) (x3_10 : Int32) (v_leastTime_10 : Nat → Int32) (v_mostTime_10 : Nat → Int32) (rec10 : Int32 → (Nat → Int32) → (Nat → Int32) → Option ((Nat → Int32) × (Nat → Int32))) (s0_35 : Int32) : Option ((Nat → Int32) × (Nat → Int32)) :=
  ob2 (f9_findSpans_L44 N v_parts v_ways x2_2 x3_10 v_leastTime_10 v_mostTime_10 N s0_35 s0_35 (0 : Int32)) fun e4_44 e5_44 => ob1 (f9_index N x2_2 x3_10) fun r161 => if e5_44 = (-1 : Int32) then (f9_findSpans_J183 N v_rates x2_2 x3_10 v_leastTime_10 v_mostTime_10 e5_44 rec10 (-1 : Int32) r161) else (gi x3_10 14 (f9_findSpans_J183 N v_rates x2_2 x3_10 v_leastTime_10 v_mostTime_10 e5_44 rec10 (e4_44 + (v_rates x3_10.toNatClampNeg)) r161))
def f9_findSpans_L10 (N : Nat) (p1 : Int32) (v_parts : Nat → Int32) (v_rates : Nat → Int32) (v_ways : Nat → Int32) (x2_2 : Int32) : Nat → Int32 → (Nat → Int32) → (Nat → Int32) → Option ((Nat → Int32) × (Nat → Int32))
  | 0, _, _, _ => none
  | n + 1, x3_10, v_leastTime_10, v_mostTime_10 => gi (0 : Int32) 2 (if (v_parts (0 : Int32).toNatClampNeg) ≤ x3_10 then (some (v_leastTime_10, v_mostTime_10)) else (if x2_2 = (1 : Int32) then (if x3_10 = p1 then (f9_findSpans_J35 N v_parts v_rates v_ways x2_2 x3_10 v_leastTime_10 v_mostTime_10 (f9_findSpans_L10 N p1 v_parts v_rates v_ways x2_2 n) (0 : Int32)) else (f9_findSpans_J35 N v_parts v_rates v_ways x2_2 x3_10 v_leastTime_10 v_mostTime_10 (f9_findSpans_L10 N p1 v_parts v_rates v_ways x2_2 n) (-1 : Int32))) else (f9_findSpans_J35 N v_parts v_rates v_ways x2_2 x3_10 v_leastTime_10 v_mostTime_10 (f9_findSpans_L10 N p1 v_parts v_rates v_ways x2_2 n) (-1 : Int32))))
def f9_findSpans_L2 (N : Nat) (p1 : Int32) (v_parts : Nat → Int32) (v_rates : Nat → Int32) (v_ways : Nat → Int32) : Nat → Int32 → (Nat → Int32) → (Nat → Int32) → Option ((Nat → Int32) × (Nat → Int32))
  | 0, _, _, _ => none
  | n + 1, x2_2, v_leastTime_2, v_mostTime_2 => if (40 : Int32) < x2_2 then (some (v_leastTime_2, v_mostTime_2)) else (ob2 (f9_findSpans_L10 N p1 v_parts v_rates v_ways x2_2 N (0 : Int32) v_leastTime_2 v_mostTime_2) fun v_leastTime_e10 v_mostTime_e10 => (f9_findSpans_L2 N p1 v_parts v_rates v_ways n) (x2_2 + (1 : Int32)) v_leastTime_e10 v_mostTime_e10)
def f9_findSpans (N : Nat) (p1 : Int32) (v_parts : Nat → Int32) (v_rates : Nat → Int32) (v_ways : Nat → Int32) (v_leastTime : Nat → Int32) (v_mostTime : Nat → Int32) : Option ((Nat → Int32) × (Nat → Int32)) :=
  ob2 (f9_findSpans_L2 N p1 v_parts v_rates v_ways N (1 : Int32) v_leastTime v_mostTime) fun v_leastTime_e2 v_mostTime_e2 => some (v_leastTime_e2, v_mostTime_e2)
set_option maxHeartbeats 4000000 in
set_option maxRecDepth 100000 in
theorem c9_findSpans (l : Launch) (D : va_G) (cy : Nat → ClassId) (N : Nat) (h0 h0_parts h0_rates h0_ways h0_leastTime h0_mostTime : Nat) (oh0_0 oh0_1 oh0_2 oh0_6 oh0_7 oh0_8 oh0_9 oh0_10 oh0_11 oh0_12 oh0_13 oh0_14 oh0_15 oh0_16 oh0_17 oh0_18 oh0_19 oh0_20 oh0_21 oh0_22 oh0_23 oh0_24 oh0_25 oh0_28 oh0_29 oh0_30 oh0_31 oh0_32 oh0_33 oh0_34 oh0_35 oh0_36 oh0_37 : Value) (p1 : Int32) (v_parts : Nat → Int32) (v_rates : Nat → Int32) (v_ways : Nat → Int32) (v_leastTime : Nat → Int32) (v_mostTime : Nat → Int32) (nv_leastTime : Nat → Int32) (nv_mostTime : Nat → Int32) (hM : f9_findSpans N p1 v_parts v_rates v_ways v_leastTime v_mostTime = some (nv_leastTime, nv_mostTime)) (sz : Nat) : CTv l yX9_findSpans wsX9_findSpans r9_findSpans [.ref h0, .int p1] D cy sz [(h0, .inr (9, [oh0_0, oh0_1, oh0_2, .ref h0_parts, .ref h0_rates, .ref h0_ways, oh0_6, oh0_7, oh0_8, oh0_9, oh0_10, oh0_11, oh0_12, oh0_13, oh0_14, oh0_15, oh0_16, oh0_17, oh0_18, oh0_19, oh0_20, oh0_21, oh0_22, oh0_23, oh0_24, oh0_25, .ref h0_leastTime, .ref h0_mostTime, oh0_28, oh0_29, oh0_30, oh0_31, oh0_32, oh0_33, oh0_34, oh0_35, oh0_36, oh0_37])), (h0_parts, .inl (cy 2, 2, .inl v_parts)), (h0_rates, .inl (cy 2, 14, .inl v_rates)), (h0_ways, .inl (cy 2, 14, .inl v_ways)), (h0_leastTime, .inl (cy 2, 287, .inl v_leastTime)), (h0_mostTime, .inl (cy 2, 287, .inl v_mostTime))] [(h0, .inr (9, [oh0_0, oh0_1, oh0_2, .ref h0_parts, .ref h0_rates, .ref h0_ways, oh0_6, oh0_7, oh0_8, oh0_9, oh0_10, oh0_11, oh0_12, oh0_13, oh0_14, oh0_15, oh0_16, oh0_17, oh0_18, oh0_19, oh0_20, oh0_21, oh0_22, oh0_23, oh0_24, oh0_25, .ref h0_leastTime, .ref h0_mostTime, oh0_28, oh0_29, oh0_30, oh0_31, oh0_32, oh0_33, oh0_34, oh0_35, oh0_36, oh0_37])), (h0_parts, .inl (cy 2, 2, .inl v_parts)), (h0_rates, .inl (cy 2, 14, .inl v_rates)), (h0_ways, .inl (cy 2, 14, .inl v_ways)), (h0_leastTime, .inl (cy 2, 287, .inl nv_leastTime)), (h0_mostTime, .inl (cy 2, 287, .inl nv_mostTime))] := by
  unfold f9_findSpans at hM
  refine ct_ov (cc := cX9_findSpans) (maxL := 8)  (by decide +kernel) rfl (Nat.le_of_ble_eq_true rfl) (lv0 := [(0, .ref h0), (1, .int p1)]) rfl ?_
  intro p e s m args below meth c A Q ls hx hb hts hown hml hK hP hD hS hA hret hl
  have hown : s.vm.findClass RX9 = some m.cls := hown
  have k13 := hts (.fieldLink RX9 13 "CaveYearsModel" "parts" "[I") (List.mem_of_getElem? (i := 1) rfl)
  have iX9 := (fun w h => (List.mem_cons_of_mem _ (List.mem_append_right _ h)) : ∀ w ∈ wsX90, w ∈ wsX9_findSpans)
  have k63 := hts (.fieldLink RX9 63 "CaveYearsModel" "mostTime" "[I") (List.mem_of_getElem? (i := 2) rfl)
  have k60 := hts (.fieldLink RX9 60 "CaveYearsModel" "leastTime" "[I") (List.mem_of_getElem? (i := 3) rfl)
  have k17 := hts (.fieldLink RX9 17 "CaveYearsModel" "rates" "[I") (List.mem_of_getElem? (i := 4) rfl)
  refine lv_iconst (v := 1) hx hb dX9_findSpans_0 (by decide) ?_
  refine lv_istore_n (lv' := [(2, .int (1 : Int32)), (0, .ref h0), (1, .int p1)]) hx hb dX9_findSpans_1 rfl hl (by decide) rfl (fun ls hl => ?_)
  have L2 : ∀ (n : Nat) (x2_2 : Int32) (v_leastTime_2 : Nat → Int32) (v_mostTime_2 : Nat → Int32) (v_leastTime_e2 : Nat → Int32) (v_mostTime_e2 : Nat → Int32) (H : Heap) (locs : List Loc) (ls : Array Slot), f9_findSpans_L2 N p1 v_parts v_rates v_ways n x2_2 v_leastTime_2 v_mostTime_2 = some (v_leastTime_e2, v_mostTime_e2) → va_P D vwCl [(h0, .inr (9, [oh0_0, oh0_1, oh0_2, .ref h0_parts, .ref h0_rates, .ref h0_ways, oh0_6, oh0_7, oh0_8, oh0_9, oh0_10, oh0_11, oh0_12, oh0_13, oh0_14, oh0_15, oh0_16, oh0_17, oh0_18, oh0_19, oh0_20, oh0_21, oh0_22, oh0_23, oh0_24, oh0_25, .ref h0_leastTime, .ref h0_mostTime, oh0_28, oh0_29, oh0_30, oh0_31, oh0_32, oh0_33, oh0_34, oh0_35, oh0_36, oh0_37])), (h0_parts, .inl (cy 2, 2, .inl v_parts)), (h0_rates, .inl (cy 2, 14, .inl v_rates)), (h0_ways, .inl (cy 2, 14, .inl v_ways)), (h0_leastTime, .inl (cy 2, 287, .inl v_leastTime_2)), (h0_mostTime, .inl (cy 2, 287, .inl v_mostTime_2))] H → va_D A [(h0, .inr (9, [oh0_0, oh0_1, oh0_2, .ref h0_parts, .ref h0_rates, .ref h0_ways, oh0_6, oh0_7, oh0_8, oh0_9, oh0_10, oh0_11, oh0_12, oh0_13, oh0_14, oh0_15, oh0_16, oh0_17, oh0_18, oh0_19, oh0_20, oh0_21, oh0_22, oh0_23, oh0_24, oh0_25, .ref h0_leastTime, .ref h0_mostTime, oh0_28, oh0_29, oh0_30, oh0_31, oh0_32, oh0_33, oh0_34, oh0_35, oh0_36, oh0_37])), (h0_parts, .inl (cy 2, 2, .inl v_parts)), (h0_rates, .inl (cy 2, 14, .inl v_rates)), (h0_ways, .inl (cy 2, 14, .inl v_ways)), (h0_leastTime, .inl (cy 2, 287, .inl v_leastTime_2)), (h0_mostTime, .inl (cy 2, 287, .inl v_mostTime_2))] → va_S A s.heap H locs → lv_has ls 8 [(0, .ref h0), (1, .int p1), (2, .int x2_2)] → (∀ (H : Heap) (locs : List Loc) (ls : Array Slot), va_P D vwCl [(h0, .inr (9, [oh0_0, oh0_1, oh0_2, .ref h0_parts, .ref h0_rates, .ref h0_ways, oh0_6, oh0_7, oh0_8, oh0_9, oh0_10, oh0_11, oh0_12, oh0_13, oh0_14, oh0_15, oh0_16, oh0_17, oh0_18, oh0_19, oh0_20, oh0_21, oh0_22, oh0_23, oh0_24, oh0_25, .ref h0_leastTime, .ref h0_mostTime, oh0_28, oh0_29, oh0_30, oh0_31, oh0_32, oh0_33, oh0_34, oh0_35, oh0_36, oh0_37])), (h0_parts, .inl (cy 2, 2, .inl v_parts)), (h0_rates, .inl (cy 2, 14, .inl v_rates)), (h0_ways, .inl (cy 2, 14, .inl v_ways)), (h0_leastTime, .inl (cy 2, 287, .inl v_leastTime_e2)), (h0_mostTime, .inl (cy 2, 287, .inl v_mostTime_e2))] H → va_D A [(h0, .inr (9, [oh0_0, oh0_1, oh0_2, .ref h0_parts, .ref h0_rates, .ref h0_ways, oh0_6, oh0_7, oh0_8, oh0_9, oh0_10, oh0_11, oh0_12, oh0_13, oh0_14, oh0_15, oh0_16, oh0_17, oh0_18, oh0_19, oh0_20, oh0_21, oh0_22, oh0_23, oh0_24, oh0_25, .ref h0_leastTime, .ref h0_mostTime, oh0_28, oh0_29, oh0_30, oh0_31, oh0_32, oh0_33, oh0_34, oh0_35, oh0_36, oh0_37])), (h0_parts, .inl (cy 2, 2, .inl v_parts)), (h0_rates, .inl (cy 2, 14, .inl v_rates)), (h0_ways, .inl (cy 2, 14, .inl v_ways)), (h0_leastTime, .inl (cy 2, 287, .inl v_leastTime_e2)), (h0_mostTime, .inl (cy 2, 287, .inl v_mostTime_e2))] → va_S A s.heap H locs → lv_has ls 8 [] → W p l e r9_findSpans s m args below meth c H locs 0 0 Q (F0 m 225 ls [])) → W p l e r9_findSpans s m args below meth c H locs 0 0 Q (F0 m 2 ls []) := by
    intro n
    induction n with
    | zero =>
      intro x2_2 v_leastTime_2 v_mostTime_2 v_leastTime_e2 v_mostTime_e2 H locs ls hM
      exact absurd hM (by simp [f9_findSpans_L2])
    | succ n ih =>
      intro x2_2 v_leastTime_2 v_mostTime_2 v_leastTime_e2 v_mostTime_e2 H locs ls hM hP hD hS hl K
      rw [f9_findSpans_L2] at hM
      refine lv_iload_n hx hb dX9_findSpans_2 rfl (lv_at hl 2 rfl) ?_
      refine lv_bipush (v := 40) hx hb dX9_findSpans_3 (by decide) ?_
      refine lv_icmp_gt (tgt := 225) hx hb dX9_findSpans_5 (by decide) (fun c5 => ?_) (fun c5 => ?_)
      · have hM := g_pos c5 hM
        obtain ⟨rfl, rfl⟩ := si2 hM
        exact K _ _ _ hP hD hS (lv_sub hl [] rfl)
      · have hM := g_neg c5 hM
        refine lv_iconst (v := 0) hx hb dX9_findSpans_8 (by decide) ?_
        refine lv_istore_n (lv' := [(3, .int (0 : Int32)), (0, .ref h0), (1, .int p1), (2, .int x2_2)]) hx hb dX9_findSpans_9 rfl hl (by decide) rfl (fun ls hl => ?_)
        have L10 : ∀ (n : Nat) (x3_10 : Int32) (v_leastTime_10 : Nat → Int32) (v_mostTime_10 : Nat → Int32) (v_leastTime_e10 : Nat → Int32) (v_mostTime_e10 : Nat → Int32) (H : Heap) (locs : List Loc) (ls : Array Slot), f9_findSpans_L10 N p1 v_parts v_rates v_ways x2_2 n x3_10 v_leastTime_10 v_mostTime_10 = some (v_leastTime_e10, v_mostTime_e10) → va_P D vwCl [(h0, .inr (9, [oh0_0, oh0_1, oh0_2, .ref h0_parts, .ref h0_rates, .ref h0_ways, oh0_6, oh0_7, oh0_8, oh0_9, oh0_10, oh0_11, oh0_12, oh0_13, oh0_14, oh0_15, oh0_16, oh0_17, oh0_18, oh0_19, oh0_20, oh0_21, oh0_22, oh0_23, oh0_24, oh0_25, .ref h0_leastTime, .ref h0_mostTime, oh0_28, oh0_29, oh0_30, oh0_31, oh0_32, oh0_33, oh0_34, oh0_35, oh0_36, oh0_37])), (h0_parts, .inl (cy 2, 2, .inl v_parts)), (h0_rates, .inl (cy 2, 14, .inl v_rates)), (h0_ways, .inl (cy 2, 14, .inl v_ways)), (h0_leastTime, .inl (cy 2, 287, .inl v_leastTime_10)), (h0_mostTime, .inl (cy 2, 287, .inl v_mostTime_10))] H → va_D A [(h0, .inr (9, [oh0_0, oh0_1, oh0_2, .ref h0_parts, .ref h0_rates, .ref h0_ways, oh0_6, oh0_7, oh0_8, oh0_9, oh0_10, oh0_11, oh0_12, oh0_13, oh0_14, oh0_15, oh0_16, oh0_17, oh0_18, oh0_19, oh0_20, oh0_21, oh0_22, oh0_23, oh0_24, oh0_25, .ref h0_leastTime, .ref h0_mostTime, oh0_28, oh0_29, oh0_30, oh0_31, oh0_32, oh0_33, oh0_34, oh0_35, oh0_36, oh0_37])), (h0_parts, .inl (cy 2, 2, .inl v_parts)), (h0_rates, .inl (cy 2, 14, .inl v_rates)), (h0_ways, .inl (cy 2, 14, .inl v_ways)), (h0_leastTime, .inl (cy 2, 287, .inl v_leastTime_10)), (h0_mostTime, .inl (cy 2, 287, .inl v_mostTime_10))] → va_S A s.heap H locs → lv_has ls 8 [(0, .ref h0), (1, .int p1), (2, .int x2_2), (3, .int x3_10)] → (∀ (H : Heap) (locs : List Loc) (ls : Array Slot), va_P D vwCl [(h0, .inr (9, [oh0_0, oh0_1, oh0_2, .ref h0_parts, .ref h0_rates, .ref h0_ways, oh0_6, oh0_7, oh0_8, oh0_9, oh0_10, oh0_11, oh0_12, oh0_13, oh0_14, oh0_15, oh0_16, oh0_17, oh0_18, oh0_19, oh0_20, oh0_21, oh0_22, oh0_23, oh0_24, oh0_25, .ref h0_leastTime, .ref h0_mostTime, oh0_28, oh0_29, oh0_30, oh0_31, oh0_32, oh0_33, oh0_34, oh0_35, oh0_36, oh0_37])), (h0_parts, .inl (cy 2, 2, .inl v_parts)), (h0_rates, .inl (cy 2, 14, .inl v_rates)), (h0_ways, .inl (cy 2, 14, .inl v_ways)), (h0_leastTime, .inl (cy 2, 287, .inl v_leastTime_e10)), (h0_mostTime, .inl (cy 2, 287, .inl v_mostTime_e10))] H → va_D A [(h0, .inr (9, [oh0_0, oh0_1, oh0_2, .ref h0_parts, .ref h0_rates, .ref h0_ways, oh0_6, oh0_7, oh0_8, oh0_9, oh0_10, oh0_11, oh0_12, oh0_13, oh0_14, oh0_15, oh0_16, oh0_17, oh0_18, oh0_19, oh0_20, oh0_21, oh0_22, oh0_23, oh0_24, oh0_25, .ref h0_leastTime, .ref h0_mostTime, oh0_28, oh0_29, oh0_30, oh0_31, oh0_32, oh0_33, oh0_34, oh0_35, oh0_36, oh0_37])), (h0_parts, .inl (cy 2, 2, .inl v_parts)), (h0_rates, .inl (cy 2, 14, .inl v_rates)), (h0_ways, .inl (cy 2, 14, .inl v_ways)), (h0_leastTime, .inl (cy 2, 287, .inl v_leastTime_e10)), (h0_mostTime, .inl (cy 2, 287, .inl v_mostTime_e10))] → va_S A s.heap H locs → lv_has ls 8 [(0, .ref h0), (1, .int p1), (2, .int x2_2)] → W p l e r9_findSpans s m args below meth c H locs 0 0 Q (F0 m 219 ls [])) → W p l e r9_findSpans s m args below meth c H locs 0 0 Q (F0 m 10 ls []) := by
          intro n
          induction n with
          | zero =>
            intro x3_10 v_leastTime_10 v_mostTime_10 v_leastTime_e10 v_mostTime_e10 H locs ls hM
            exact absurd hM (by simp [f9_findSpans_L10])
          | succ n ih =>
            intro x3_10 v_leastTime_10 v_mostTime_10 v_leastTime_e10 v_mostTime_e10 H locs ls hM hP hD hS hl K
            rw [f9_findSpans_L10] at hM
            refine lv_iload_n hx hb dX9_findSpans_10 rfl (lv_at hl 3 rfl) ?_
            refine lv_aload_n hx hb dX9_findSpans_11 rfl (lv_at hl 0 rfl) ?_
            refine va_get (D := D) (ci := 9) (v := .ref h0_parts) (C := RX9) (T := TX9) (N := 38) hx hb hts iX9 hown hK hP 0 rfl rfl 3 (by decide) k13 (fun _ h9 => h9) rfl dX9_findSpans_12 ?_
            refine lv_iconst (v := 0) hx hb dX9_findSpans_15 (by decide) ?_
            obtain ⟨h16, hM⟩ := gi_some hM
            refine va_iald hx hb hK hP 1 2 rfl rfl h16 dX9_findSpans_16 ?_
            refine lv_icmp_ge (tgt := 219) hx hb dX9_findSpans_17 (by decide) (fun c17 => ?_) (fun c17 => ?_)
            · have hM := g_pos c17 hM
              obtain ⟨rfl, rfl⟩ := si2 hM
              exact K _ _ _ hP hD hS (lv_sub hl [0, 1, 2] rfl)
            · have hM := g_neg c17 hM
              refine lv_iload_n hx hb dX9_findSpans_20 rfl (lv_at hl 2 rfl) ?_
              refine lv_iconst (v := 1) hx hb dX9_findSpans_21 (by decide) ?_
              have K35 : ∀ (s0_35 : Int32) (H : Heap) (locs : List Loc) (ls : Array Slot), f9_findSpans_J35 N v_parts v_rates v_ways x2_2 x3_10 v_leastTime_10 v_mostTime_10 (f9_findSpans_L10 N p1 v_parts v_rates v_ways x2_2 n) s0_35 = some (v_leastTime_e10, v_mostTime_e10) → va_P D vwCl [(h0, .inr (9, [oh0_0, oh0_1, oh0_2, .ref h0_parts, .ref h0_rates, .ref h0_ways, oh0_6, oh0_7, oh0_8, oh0_9, oh0_10, oh0_11, oh0_12, oh0_13, oh0_14, oh0_15, oh0_16, oh0_17, oh0_18, oh0_19, oh0_20, oh0_21, oh0_22, oh0_23, oh0_24, oh0_25, .ref h0_leastTime, .ref h0_mostTime, oh0_28, oh0_29, oh0_30, oh0_31, oh0_32, oh0_33, oh0_34, oh0_35, oh0_36, oh0_37])), (h0_parts, .inl (cy 2, 2, .inl v_parts)), (h0_rates, .inl (cy 2, 14, .inl v_rates)), (h0_ways, .inl (cy 2, 14, .inl v_ways)), (h0_leastTime, .inl (cy 2, 287, .inl v_leastTime_10)), (h0_mostTime, .inl (cy 2, 287, .inl v_mostTime_10))] H → va_D A [(h0, .inr (9, [oh0_0, oh0_1, oh0_2, .ref h0_parts, .ref h0_rates, .ref h0_ways, oh0_6, oh0_7, oh0_8, oh0_9, oh0_10, oh0_11, oh0_12, oh0_13, oh0_14, oh0_15, oh0_16, oh0_17, oh0_18, oh0_19, oh0_20, oh0_21, oh0_22, oh0_23, oh0_24, oh0_25, .ref h0_leastTime, .ref h0_mostTime, oh0_28, oh0_29, oh0_30, oh0_31, oh0_32, oh0_33, oh0_34, oh0_35, oh0_36, oh0_37])), (h0_parts, .inl (cy 2, 2, .inl v_parts)), (h0_rates, .inl (cy 2, 14, .inl v_rates)), (h0_ways, .inl (cy 2, 14, .inl v_ways)), (h0_leastTime, .inl (cy 2, 287, .inl v_leastTime_10)), (h0_mostTime, .inl (cy 2, 287, .inl v_mostTime_10))] → va_S A s.heap H locs → lv_has ls 8 [(0, .ref h0), (1, .int p1), (2, .int x2_2), (3, .int x3_10)] → W p l e r9_findSpans s m args below meth c H locs 0 0 Q (F0 m 35 ls [.int s0_35]) := by
                intro s0_35 H locs ls hM hP hD hS hl
                unfold f9_findSpans_J35 at hM
                refine lv_istore (lv' := [(4, .int s0_35), (0, .ref h0), (1, .int p1), (2, .int x2_2), (3, .int x3_10)]) hx hb dX9_findSpans_35 hl (by decide) rfl (fun ls hl => ?_)
                refine lv_iload hx hb dX9_findSpans_37 (lv_at hl 0 rfl) ?_
                refine lv_istore (lv' := [(5, .int s0_35), (4, .int s0_35), (0, .ref h0), (1, .int p1), (2, .int x2_2), (3, .int x3_10)]) hx hb dX9_findSpans_39 hl (by decide) rfl (fun ls hl => ?_)
                refine lv_iconst (v := 0) hx hb dX9_findSpans_41 (by decide) ?_
                refine lv_istore (lv' := [(6, .int (0 : Int32)), (5, .int s0_35), (4, .int s0_35), (0, .ref h0), (1, .int p1), (2, .int x2_2), (3, .int x3_10)]) hx hb dX9_findSpans_42 hl (by decide) rfl (fun ls hl => ?_)
                have L44 : ∀ (n : Nat) (x4_44 : Int32) (x5_44 : Int32) (x6_44 : Int32) (e4_44 : Int32) (e5_44 : Int32) (H : Heap) (locs : List Loc) (ls : Array Slot), f9_findSpans_L44 N v_parts v_ways x2_2 x3_10 v_leastTime_10 v_mostTime_10 n x4_44 x5_44 x6_44 = some (e4_44, e5_44) → va_P D vwCl [(h0, .inr (9, [oh0_0, oh0_1, oh0_2, .ref h0_parts, .ref h0_rates, .ref h0_ways, oh0_6, oh0_7, oh0_8, oh0_9, oh0_10, oh0_11, oh0_12, oh0_13, oh0_14, oh0_15, oh0_16, oh0_17, oh0_18, oh0_19, oh0_20, oh0_21, oh0_22, oh0_23, oh0_24, oh0_25, .ref h0_leastTime, .ref h0_mostTime, oh0_28, oh0_29, oh0_30, oh0_31, oh0_32, oh0_33, oh0_34, oh0_35, oh0_36, oh0_37])), (h0_parts, .inl (cy 2, 2, .inl v_parts)), (h0_rates, .inl (cy 2, 14, .inl v_rates)), (h0_ways, .inl (cy 2, 14, .inl v_ways)), (h0_leastTime, .inl (cy 2, 287, .inl v_leastTime_10)), (h0_mostTime, .inl (cy 2, 287, .inl v_mostTime_10))] H → va_D A [(h0, .inr (9, [oh0_0, oh0_1, oh0_2, .ref h0_parts, .ref h0_rates, .ref h0_ways, oh0_6, oh0_7, oh0_8, oh0_9, oh0_10, oh0_11, oh0_12, oh0_13, oh0_14, oh0_15, oh0_16, oh0_17, oh0_18, oh0_19, oh0_20, oh0_21, oh0_22, oh0_23, oh0_24, oh0_25, .ref h0_leastTime, .ref h0_mostTime, oh0_28, oh0_29, oh0_30, oh0_31, oh0_32, oh0_33, oh0_34, oh0_35, oh0_36, oh0_37])), (h0_parts, .inl (cy 2, 2, .inl v_parts)), (h0_rates, .inl (cy 2, 14, .inl v_rates)), (h0_ways, .inl (cy 2, 14, .inl v_ways)), (h0_leastTime, .inl (cy 2, 287, .inl v_leastTime_10)), (h0_mostTime, .inl (cy 2, 287, .inl v_mostTime_10))] → va_S A s.heap H locs → lv_has ls 8 [(0, .ref h0), (1, .int p1), (2, .int x2_2), (3, .int x3_10), (4, .int x4_44), (5, .int x5_44), (6, .int x6_44)] → (∀ (H : Heap) (locs : List Loc) (ls : Array Slot), va_P D vwCl [(h0, .inr (9, [oh0_0, oh0_1, oh0_2, .ref h0_parts, .ref h0_rates, .ref h0_ways, oh0_6, oh0_7, oh0_8, oh0_9, oh0_10, oh0_11, oh0_12, oh0_13, oh0_14, oh0_15, oh0_16, oh0_17, oh0_18, oh0_19, oh0_20, oh0_21, oh0_22, oh0_23, oh0_24, oh0_25, .ref h0_leastTime, .ref h0_mostTime, oh0_28, oh0_29, oh0_30, oh0_31, oh0_32, oh0_33, oh0_34, oh0_35, oh0_36, oh0_37])), (h0_parts, .inl (cy 2, 2, .inl v_parts)), (h0_rates, .inl (cy 2, 14, .inl v_rates)), (h0_ways, .inl (cy 2, 14, .inl v_ways)), (h0_leastTime, .inl (cy 2, 287, .inl v_leastTime_10)), (h0_mostTime, .inl (cy 2, 287, .inl v_mostTime_10))] H → va_D A [(h0, .inr (9, [oh0_0, oh0_1, oh0_2, .ref h0_parts, .ref h0_rates, .ref h0_ways, oh0_6, oh0_7, oh0_8, oh0_9, oh0_10, oh0_11, oh0_12, oh0_13, oh0_14, oh0_15, oh0_16, oh0_17, oh0_18, oh0_19, oh0_20, oh0_21, oh0_22, oh0_23, oh0_24, oh0_25, .ref h0_leastTime, .ref h0_mostTime, oh0_28, oh0_29, oh0_30, oh0_31, oh0_32, oh0_33, oh0_34, oh0_35, oh0_36, oh0_37])), (h0_parts, .inl (cy 2, 2, .inl v_parts)), (h0_rates, .inl (cy 2, 14, .inl v_rates)), (h0_ways, .inl (cy 2, 14, .inl v_ways)), (h0_leastTime, .inl (cy 2, 287, .inl v_leastTime_10)), (h0_mostTime, .inl (cy 2, 287, .inl v_mostTime_10))] → va_S A s.heap H locs → lv_has ls 8 [(0, .ref h0), (1, .int p1), (2, .int x2_2), (3, .int x3_10), (4, .int e4_44), (5, .int e5_44)] → W p l e r9_findSpans s m args below meth c H locs 0 0 Q (F0 m 155 ls [])) → W p l e r9_findSpans s m args below meth c H locs 0 0 Q (F0 m 44 ls []) := by
                  intro n
                  induction n with
                  | zero =>
                    intro x4_44 x5_44 x6_44 e4_44 e5_44 H locs ls hM
                    exact absurd hM (by simp [f9_findSpans_L44])
                  | succ n ih =>
                    intro x4_44 x5_44 x6_44 e4_44 e5_44 H locs ls hM hP hD hS hl K
                    rw [f9_findSpans_L44] at hM
                    refine lv_iload hx hb dX9_findSpans_44 (lv_at hl 6 rfl) ?_
                    refine lv_aload_n hx hb dX9_findSpans_46 rfl (lv_at hl 0 rfl) ?_
                    refine va_get (D := D) (ci := 9) (v := .ref h0_parts) (C := RX9) (T := TX9) (N := 38) hx hb hts iX9 hown hK hP 0 rfl rfl 3 (by decide) k13 (fun _ h9 => h9) rfl dX9_findSpans_47 ?_
                    refine lv_iconst (v := 0) hx hb dX9_findSpans_50 (by decide) ?_
                    obtain ⟨h51, hM⟩ := gi_some hM
                    refine va_iald hx hb hK hP 1 2 rfl rfl h51 dX9_findSpans_51 ?_
                    refine lv_icmp_ge (tgt := 155) hx hb dX9_findSpans_52 (by decide) (fun c52 => ?_) (fun c52 => ?_)
                    · have hM := g_pos c52 hM
                      obtain ⟨rfl, rfl⟩ := si2 hM
                      exact K _ _ _ hP hD hS (lv_sub hl [0, 1, 2, 3, 4, 5] rfl)
                    · have hM := g_neg c52 hM
                      refine lv_iload_n hx hb dX9_findSpans_55 rfl (lv_at hl 2 rfl) ?_
                      refine lv_iconst (v := 1) hx hb dX9_findSpans_56 (by decide) ?_
                      refine lv_icmp_le (tgt := 155) hx hb dX9_findSpans_57 (by decide) (fun c57 => ?_) (fun c57 => ?_)
                      · have hM := g_pos c57 hM
                        obtain ⟨rfl, rfl⟩ := si2 hM
                        exact K _ _ _ hP hD hS (lv_sub hl [0, 1, 2, 3, 4, 5] rfl)
                      · have hM := g_neg c57 hM
                        refine lv_iload_n hx hb dX9_findSpans_60 rfl (lv_at hl 2 rfl) ?_
                        refine lv_iconst (v := 1) hx hb dX9_findSpans_61 (by decide) ?_
                        refine lv_isub hx hb dX9_findSpans_62 ?_
                        refine lv_iload hx hb dX9_findSpans_63 (lv_at hl 6 rfl) ?_
                        obtain ⟨r65, hc65, hM⟩ := ob1_some hM
                        refine cl_si (As := [.int (x2_2 - (1 : Int32)), .int x6_44]) (rest := []) (wr := [(h0, .inr (9, [oh0_0, oh0_1, oh0_2, .ref h0_parts, .ref h0_rates, .ref h0_ways, oh0_6, oh0_7, oh0_8, oh0_9, oh0_10, oh0_11, oh0_12, oh0_13, oh0_14, oh0_15, oh0_16, oh0_17, oh0_18, oh0_19, oh0_20, oh0_21, oh0_22, oh0_23, oh0_24, oh0_25, .ref h0_leastTime, .ref h0_mostTime, oh0_28, oh0_29, oh0_30, oh0_31, oh0_32, oh0_33, oh0_34, oh0_35, oh0_36, oh0_37])), (h0_parts, .inl (cy 2, 2, .inl v_parts)), (h0_rates, .inl (cy 2, 14, .inl v_rates)), (h0_ways, .inl (cy 2, 14, .inl v_ways)), (h0_leastTime, .inl (cy 2, 287, .inl v_leastTime_10)), (h0_mostTime, .inl (cy 2, 287, .inl v_mostTime_10))]) (ws2 := [(h0, .inr (9, [oh0_0, oh0_1, oh0_2, .ref h0_parts, .ref h0_rates, .ref h0_ways, oh0_6, oh0_7, oh0_8, oh0_9, oh0_10, oh0_11, oh0_12, oh0_13, oh0_14, oh0_15, oh0_16, oh0_17, oh0_18, oh0_19, oh0_20, oh0_21, oh0_22, oh0_23, oh0_24, oh0_25, .ref h0_leastTime, .ref h0_mostTime, oh0_28, oh0_29, oh0_30, oh0_31, oh0_32, oh0_33, oh0_34, oh0_35, oh0_36, oh0_37])), (h0_parts, .inl (cy 2, 2, .inl v_parts)), (h0_rates, .inl (cy 2, 14, .inl v_rates)), (h0_ways, .inl (cy 2, 14, .inl v_ways)), (h0_leastTime, .inl (cy 2, 287, .inl v_leastTime_10)), (h0_mostTime, .inl (cy 2, 287, .inl v_mostTime_10))]) (isC := []) (isR := [0, 1, 2, 3, 4, 5]) (pm := [0, 1, 2, 3, 4, 5]) hx hb hml hown hts (c9_index l D cy N (x2_2 - (1 : Int32)) x6_44 r65 hc65) (va_cwS 2 hts gX9_findSpans_X9_index rfl rfl rfl (by decide +kernel) ⟨Nat.le_of_ble_eq_true rfl, Nat.le_of_ble_eq_true rfl⟩) hK hP hD hS hA rfl rfl rfl (by decide) rfl rfl rfl hl.1 (Nat.le_of_ble_eq_true rfl) dX9_findSpans_65 ⟨Nat.zero_le _, Nat.zero_le _⟩ rfl rfl (fun H locs hP hD hS => ?_)
                        refine lv_istore (lv' := [(7, .int r65), (0, .ref h0), (1, .int p1), (2, .int x2_2), (3, .int x3_10), (4, .int x4_44), (5, .int x5_44), (6, .int x6_44)]) hx hb dX9_findSpans_68 hl (by decide) rfl (fun ls hl => ?_)
                        refine lv_aload_n hx hb dX9_findSpans_70 rfl (lv_at hl 1 rfl) ?_
                        refine lv_iload_n hx hb dX9_findSpans_71 rfl (lv_at hl 4 rfl) ?_
                        refine lv_iload hx hb dX9_findSpans_72 (lv_at hl 7 rfl) ?_
                        obtain ⟨r74, hc74, hM⟩ := ob1_some hM
                        refine cl_vi (As := [.int x3_10, .int x6_44]) (rest := []) (ci := 9) (q0 := 0) (wr := [(h0_parts, .inl (cy 2, 2, .inl v_parts)), (h0_rates, .inl (cy 2, 14, .inl v_rates)), (h0_leastTime, .inl (cy 2, 287, .inl v_leastTime_10)), (h0_mostTime, .inl (cy 2, 287, .inl v_mostTime_10))]) (ws2 := [(h0, .inr (9, [oh0_0, oh0_1, oh0_2, .ref h0_parts, .ref h0_rates, .ref h0_ways, oh0_6, oh0_7, oh0_8, oh0_9, oh0_10, oh0_11, oh0_12, oh0_13, oh0_14, oh0_15, oh0_16, oh0_17, oh0_18, oh0_19, oh0_20, oh0_21, oh0_22, oh0_23, oh0_24, oh0_25, .ref h0_leastTime, .ref h0_mostTime, oh0_28, oh0_29, oh0_30, oh0_31, oh0_32, oh0_33, oh0_34, oh0_35, oh0_36, oh0_37])), (h0_parts, .inl (cy 2, 2, .inl v_parts)), (h0_rates, .inl (cy 2, 14, .inl v_rates)), (h0_ways, .inl (cy 2, 14, .inl v_ways)), (h0_leastTime, .inl (cy 2, 287, .inl v_leastTime_10)), (h0_mostTime, .inl (cy 2, 287, .inl v_mostTime_10))]) (isC := [0, 3]) (isR := [1, 2, 4, 5]) (pm := [4, 0, 1, 5, 2, 3]) hx hb hml hown hts (c9_isStep l D cy N h0 h0_ways oh0_0 oh0_1 oh0_2 (.ref h0_parts) (.ref h0_rates) oh0_6 oh0_7 oh0_8 oh0_9 oh0_10 oh0_11 oh0_12 oh0_13 oh0_14 oh0_15 oh0_16 oh0_17 oh0_18 oh0_19 oh0_20 oh0_21 oh0_22 oh0_23 oh0_24 oh0_25 (.ref h0_leastTime) (.ref h0_mostTime) oh0_28 oh0_29 oh0_30 oh0_31 oh0_32 oh0_33 oh0_34 oh0_35 oh0_36 oh0_37 x3_10 x6_44 v_ways r74 hc74) (cwV 2 hts gX9_findSpans_X9_isStep rfl rfl rfl (by decide +kernel) ⟨Nat.le_of_ble_eq_true rfl, Nat.le_of_ble_eq_true rfl⟩) hK hP hD hS hA rfl rfl rfl rfl rfl (by decide) rfl rfl rfl hl.1 (Nat.le_of_ble_eq_true rfl) dX9_findSpans_74 ⟨Nat.zero_le _, Nat.zero_le _⟩ rfl rfl (fun H locs hP hD hS => ?_)
                        refine lv_if_eq (tgt := 149) hx hb dX9_findSpans_77 (by decide) (fun c77 => ?_) (fun c77 => ?_)
                        · have hM := g_pos c77 hM
                          refine lv_iinc (v := x6_44 + (1 : Int32)) (lv' := [(6, .int (x6_44 + (1 : Int32))), (7, .int r65), (0, .ref h0), (1, .int p1), (2, .int x2_2), (3, .int x3_10), (4, .int x4_44), (5, .int x5_44)]) hx hb dX9_findSpans_149 hl (k := 7) rfl rfl (by decide) rfl (fun ls hl => ?_)
                          refine lv_goto (tgt := 44) hx hb dX9_findSpans_152 (by decide) ?_
                          exact ih x4_44 x5_44 (x6_44 + (1 : Int32)) e4_44 e5_44 _ _ _ hM hP hD hS (lv_sub hl [2, 3, 4, 5, 6, 7, 0] rfl) K
                        · have hM := g_neg c77 hM
                          refine lv_aload_n hx hb dX9_findSpans_80 rfl (lv_at hl 1 rfl) ?_
                          refine va_get (D := D) (ci := 9) (v := .ref h0_mostTime) (C := RX9) (T := TX9) (N := 38) hx hb hts iX9 hown hK hP 0 rfl rfl 27 (by decide) k63 (fun _ h9 => h9) rfl dX9_findSpans_81 ?_
                          refine lv_iload hx hb dX9_findSpans_84 (lv_at hl 0 rfl) ?_
                          obtain ⟨h86, hM⟩ := gi_some hM
                          refine va_iald hx hb hK hP 5 2 rfl rfl h86 dX9_findSpans_86 ?_
                          refine lv_iconst (v := -1) hx hb dX9_findSpans_87 (by decide) ?_
                          refine lv_icmp_eq (tgt := 149) hx hb dX9_findSpans_88 (by decide) (fun c88 => ?_) (fun c88 => ?_)
                          · have hM := g_pos c88 hM
                            refine lv_iinc (v := x6_44 + (1 : Int32)) (lv' := [(6, .int (x6_44 + (1 : Int32))), (7, .int r65), (0, .ref h0), (1, .int p1), (2, .int x2_2), (3, .int x3_10), (4, .int x4_44), (5, .int x5_44)]) hx hb dX9_findSpans_149 hl (k := 7) rfl rfl (by decide) rfl (fun ls hl => ?_)
                            refine lv_goto (tgt := 44) hx hb dX9_findSpans_152 (by decide) ?_
                            exact ih x4_44 x5_44 (x6_44 + (1 : Int32)) e4_44 e5_44 _ _ _ hM hP hD hS (lv_sub hl [2, 3, 4, 5, 6, 7, 0] rfl) K
                          · have hM := g_neg c88 hM
                            refine lv_iload hx hb dX9_findSpans_91 (lv_at hl 5 rfl) ?_
                            refine lv_iconst (v := -1) hx hb dX9_findSpans_93 (by decide) ?_
                            have K121 : ∀ (s0_121 : Int32) (H : Heap) (locs : List Loc) (ls : Array Slot), f9_findSpans_J121 N v_mostTime_10 x5_44 x6_44 r65 (f9_findSpans_L44 N v_parts v_ways x2_2 x3_10 v_leastTime_10 v_mostTime_10 n) s0_121 = some (e4_44, e5_44) → va_P D vwCl [(h0, .inr (9, [oh0_0, oh0_1, oh0_2, .ref h0_parts, .ref h0_rates, .ref h0_ways, oh0_6, oh0_7, oh0_8, oh0_9, oh0_10, oh0_11, oh0_12, oh0_13, oh0_14, oh0_15, oh0_16, oh0_17, oh0_18, oh0_19, oh0_20, oh0_21, oh0_22, oh0_23, oh0_24, oh0_25, .ref h0_leastTime, .ref h0_mostTime, oh0_28, oh0_29, oh0_30, oh0_31, oh0_32, oh0_33, oh0_34, oh0_35, oh0_36, oh0_37])), (h0_parts, .inl (cy 2, 2, .inl v_parts)), (h0_rates, .inl (cy 2, 14, .inl v_rates)), (h0_ways, .inl (cy 2, 14, .inl v_ways)), (h0_leastTime, .inl (cy 2, 287, .inl v_leastTime_10)), (h0_mostTime, .inl (cy 2, 287, .inl v_mostTime_10))] H → va_D A [(h0, .inr (9, [oh0_0, oh0_1, oh0_2, .ref h0_parts, .ref h0_rates, .ref h0_ways, oh0_6, oh0_7, oh0_8, oh0_9, oh0_10, oh0_11, oh0_12, oh0_13, oh0_14, oh0_15, oh0_16, oh0_17, oh0_18, oh0_19, oh0_20, oh0_21, oh0_22, oh0_23, oh0_24, oh0_25, .ref h0_leastTime, .ref h0_mostTime, oh0_28, oh0_29, oh0_30, oh0_31, oh0_32, oh0_33, oh0_34, oh0_35, oh0_36, oh0_37])), (h0_parts, .inl (cy 2, 2, .inl v_parts)), (h0_rates, .inl (cy 2, 14, .inl v_rates)), (h0_ways, .inl (cy 2, 14, .inl v_ways)), (h0_leastTime, .inl (cy 2, 287, .inl v_leastTime_10)), (h0_mostTime, .inl (cy 2, 287, .inl v_mostTime_10))] → va_S A s.heap H locs → lv_has ls 8 [(0, .ref h0), (1, .int p1), (2, .int x2_2), (3, .int x3_10), (5, .int x5_44), (6, .int x6_44), (7, .int r65)] → W p l e r9_findSpans s m args below meth c H locs 0 0 Q (F0 m 121 ls [.int s0_121]) := by
                              intro s0_121 H locs ls hM hP hD hS hl
                              unfold f9_findSpans_J121 at hM
                              refine lv_istore (lv' := [(4, .int s0_121), (0, .ref h0), (1, .int p1), (2, .int x2_2), (3, .int x3_10), (5, .int x5_44), (6, .int x6_44), (7, .int r65)]) hx hb dX9_findSpans_121 hl (by decide) rfl (fun ls hl => ?_)
                              refine lv_aload_n hx hb dX9_findSpans_123 rfl (lv_at hl 1 rfl) ?_
                              refine va_get (D := D) (ci := 9) (v := .ref h0_mostTime) (C := RX9) (T := TX9) (N := 38) hx hb hts iX9 hown hK hP 0 rfl rfl 27 (by decide) k63 (fun _ h9 => h9) rfl dX9_findSpans_124 ?_
                              refine lv_iload hx hb dX9_findSpans_127 (lv_at hl 7 rfl) ?_
                              obtain ⟨h129, hM⟩ := gi_some hM
                              refine va_iald hx hb hK hP 5 2 rfl rfl h129 dX9_findSpans_129 ?_
                              refine lv_iload hx hb dX9_findSpans_130 (lv_at hl 5 rfl) ?_
                              refine lv_icmp_le (tgt := 145) hx hb dX9_findSpans_132 (by decide) (fun c132 => ?_) (fun c132 => ?_)
                              · have hM := g_pos c132 hM
                                refine lv_iload hx hb dX9_findSpans_145 (lv_at hl 5 rfl) ?_
                                refine lv_istore (lv' := [(5, .int x5_44), (4, .int s0_121), (0, .ref h0), (1, .int p1), (2, .int x2_2), (3, .int x3_10), (6, .int x6_44), (7, .int r65)]) hx hb dX9_findSpans_147 hl (by decide) rfl (fun ls hl => ?_)
                                refine lv_iinc (v := x6_44 + (1 : Int32)) (lv' := [(6, .int (x6_44 + (1 : Int32))), (5, .int x5_44), (4, .int s0_121), (0, .ref h0), (1, .int p1), (2, .int x2_2), (3, .int x3_10), (7, .int r65)]) hx hb dX9_findSpans_149 hl (k := 6) rfl rfl (by decide) rfl (fun ls hl => ?_)
                                refine lv_goto (tgt := 44) hx hb dX9_findSpans_152 (by decide) ?_
                                exact ih s0_121 x5_44 (x6_44 + (1 : Int32)) e4_44 e5_44 _ _ _ hM hP hD hS (lv_sub hl [3, 4, 5, 6, 2, 1, 0] rfl) K
                              · have hM := g_neg c132 hM
                                refine lv_aload_n hx hb dX9_findSpans_135 rfl (lv_at hl 1 rfl) ?_
                                refine va_get (D := D) (ci := 9) (v := .ref h0_mostTime) (C := RX9) (T := TX9) (N := 38) hx hb hts iX9 hown hK hP 0 rfl rfl 27 (by decide) k63 (fun _ h9 => h9) rfl dX9_findSpans_136 ?_
                                refine lv_iload hx hb dX9_findSpans_139 (lv_at hl 7 rfl) ?_
                                obtain ⟨h141, hM⟩ := gi_some hM
                                refine va_iald hx hb hK hP 5 2 rfl rfl h141 dX9_findSpans_141 ?_
                                refine lv_goto (tgt := 147) hx hb dX9_findSpans_142 (by decide) ?_
                                refine lv_istore (lv' := [(5, .int (v_mostTime_10 r65.toNatClampNeg)), (4, .int s0_121), (0, .ref h0), (1, .int p1), (2, .int x2_2), (3, .int x3_10), (6, .int x6_44), (7, .int r65)]) hx hb dX9_findSpans_147 hl (by decide) rfl (fun ls hl => ?_)
                                refine lv_iinc (v := x6_44 + (1 : Int32)) (lv' := [(6, .int (x6_44 + (1 : Int32))), (5, .int (v_mostTime_10 r65.toNatClampNeg)), (4, .int s0_121), (0, .ref h0), (1, .int p1), (2, .int x2_2), (3, .int x3_10), (7, .int r65)]) hx hb dX9_findSpans_149 hl (k := 6) rfl rfl (by decide) rfl (fun ls hl => ?_)
                                refine lv_goto (tgt := 44) hx hb dX9_findSpans_152 (by decide) ?_
                                exact ih s0_121 (v_mostTime_10 r65.toNatClampNeg) (x6_44 + (1 : Int32)) e4_44 e5_44 _ _ _ hM hP hD hS (lv_sub hl [3, 4, 5, 6, 2, 1, 0] rfl) K
                            refine lv_icmp_eq (tgt := 109) hx hb dX9_findSpans_94 (by decide) (fun c94 => ?_) (fun c94 => ?_)
                            · have hM := g_pos c94 hM
                              refine lv_aload_n hx hb dX9_findSpans_109 rfl (lv_at hl 1 rfl) ?_
                              refine va_get (D := D) (ci := 9) (v := .ref h0_leastTime) (C := RX9) (T := TX9) (N := 38) hx hb hts iX9 hown hK hP 0 rfl rfl 26 (by decide) k60 (fun _ h9 => h9) rfl dX9_findSpans_110 ?_
                              refine lv_iload hx hb dX9_findSpans_113 (lv_at hl 0 rfl) ?_
                              obtain ⟨h115, hM⟩ := gi_some hM
                              refine va_iald hx hb hK hP 4 2 rfl rfl h115 dX9_findSpans_115 ?_
                              refine lv_goto (tgt := 121) hx hb dX9_findSpans_116 (by decide) ?_
                              exact K121 (v_leastTime_10 r65.toNatClampNeg) _ _ _ hM hP hD hS (lv_sub hl [1, 2, 3, 4, 6, 7, 0] rfl)
                            · have hM := g_neg c94 hM
                              refine lv_aload_n hx hb dX9_findSpans_97 rfl (lv_at hl 1 rfl) ?_
                              refine va_get (D := D) (ci := 9) (v := .ref h0_leastTime) (C := RX9) (T := TX9) (N := 38) hx hb hts iX9 hown hK hP 0 rfl rfl 26 (by decide) k60 (fun _ h9 => h9) rfl dX9_findSpans_98 ?_
                              refine lv_iload hx hb dX9_findSpans_101 (lv_at hl 0 rfl) ?_
                              obtain ⟨h103, hM⟩ := gi_some hM
                              refine va_iald hx hb hK hP 4 2 rfl rfl h103 dX9_findSpans_103 ?_
                              refine lv_iload hx hb dX9_findSpans_104 (lv_at hl 5 rfl) ?_
                              refine lv_icmp_ge (tgt := 119) hx hb dX9_findSpans_106 (by decide) (fun c106 => ?_) (fun c106 => ?_)
                              · have hM := g_pos c106 hM
                                refine lv_iload hx hb dX9_findSpans_119 (lv_at hl 5 rfl) ?_
                                exact K121 x4_44 _ _ _ hM hP hD hS (lv_sub hl [1, 2, 3, 4, 6, 7, 0] rfl)
                              · have hM := g_neg c106 hM
                                refine lv_aload_n hx hb dX9_findSpans_109 rfl (lv_at hl 1 rfl) ?_
                                refine va_get (D := D) (ci := 9) (v := .ref h0_leastTime) (C := RX9) (T := TX9) (N := 38) hx hb hts iX9 hown hK hP 0 rfl rfl 26 (by decide) k60 (fun _ h9 => h9) rfl dX9_findSpans_110 ?_
                                refine lv_iload hx hb dX9_findSpans_113 (lv_at hl 0 rfl) ?_
                                obtain ⟨h115, hM⟩ := gi_some hM
                                refine va_iald hx hb hK hP 4 2 rfl rfl h115 dX9_findSpans_115 ?_
                                refine lv_goto (tgt := 121) hx hb dX9_findSpans_116 (by decide) ?_
                                exact K121 (v_leastTime_10 r65.toNatClampNeg) _ _ _ hM hP hD hS (lv_sub hl [1, 2, 3, 4, 6, 7, 0] rfl)
                obtain ⟨e4_44, e5_44, hL44, hM⟩ := ob2_some hM
                refine L44 N s0_35 s0_35 (0 : Int32) e4_44 e5_44 _ _ _ hL44 hP hD hS (lv_sub hl [3, 4, 5, 6, 2, 1, 0] rfl) ?_
                intro H locs ls hP hD hS hl
                refine lv_aload_n hx hb dX9_findSpans_155 rfl (lv_at hl 0 rfl) ?_
                refine va_get (D := D) (ci := 9) (v := .ref h0_leastTime) (C := RX9) (T := TX9) (N := 38) hx hb hts iX9 hown hK hP 0 rfl rfl 26 (by decide) k60 (fun _ h9 => h9) rfl dX9_findSpans_156 ?_
                refine lv_iload_n hx hb dX9_findSpans_159 rfl (lv_at hl 2 rfl) ?_
                refine lv_iload_n hx hb dX9_findSpans_160 rfl (lv_at hl 3 rfl) ?_
                obtain ⟨r161, hc161, hM⟩ := ob1_some hM
                refine cl_si (As := [.int x2_2, .int x3_10]) (rest := [.ref h0_leastTime]) (wr := [(h0, .inr (9, [oh0_0, oh0_1, oh0_2, .ref h0_parts, .ref h0_rates, .ref h0_ways, oh0_6, oh0_7, oh0_8, oh0_9, oh0_10, oh0_11, oh0_12, oh0_13, oh0_14, oh0_15, oh0_16, oh0_17, oh0_18, oh0_19, oh0_20, oh0_21, oh0_22, oh0_23, oh0_24, oh0_25, .ref h0_leastTime, .ref h0_mostTime, oh0_28, oh0_29, oh0_30, oh0_31, oh0_32, oh0_33, oh0_34, oh0_35, oh0_36, oh0_37])), (h0_parts, .inl (cy 2, 2, .inl v_parts)), (h0_rates, .inl (cy 2, 14, .inl v_rates)), (h0_ways, .inl (cy 2, 14, .inl v_ways)), (h0_leastTime, .inl (cy 2, 287, .inl v_leastTime_10)), (h0_mostTime, .inl (cy 2, 287, .inl v_mostTime_10))]) (ws2 := [(h0, .inr (9, [oh0_0, oh0_1, oh0_2, .ref h0_parts, .ref h0_rates, .ref h0_ways, oh0_6, oh0_7, oh0_8, oh0_9, oh0_10, oh0_11, oh0_12, oh0_13, oh0_14, oh0_15, oh0_16, oh0_17, oh0_18, oh0_19, oh0_20, oh0_21, oh0_22, oh0_23, oh0_24, oh0_25, .ref h0_leastTime, .ref h0_mostTime, oh0_28, oh0_29, oh0_30, oh0_31, oh0_32, oh0_33, oh0_34, oh0_35, oh0_36, oh0_37])), (h0_parts, .inl (cy 2, 2, .inl v_parts)), (h0_rates, .inl (cy 2, 14, .inl v_rates)), (h0_ways, .inl (cy 2, 14, .inl v_ways)), (h0_leastTime, .inl (cy 2, 287, .inl v_leastTime_10)), (h0_mostTime, .inl (cy 2, 287, .inl v_mostTime_10))]) (isC := []) (isR := [0, 1, 2, 3, 4, 5]) (pm := [0, 1, 2, 3, 4, 5]) hx hb hml hown hts (c9_index l D cy N x2_2 x3_10 r161 hc161) (va_cwS 2 hts gX9_findSpans_X9_index rfl rfl rfl (by decide +kernel) ⟨Nat.le_of_ble_eq_true rfl, Nat.le_of_ble_eq_true rfl⟩) hK hP hD hS hA rfl rfl rfl (by decide) rfl rfl rfl hl.1 (Nat.le_of_ble_eq_true rfl) dX9_findSpans_161 ⟨Nat.zero_le _, Nat.zero_le _⟩ rfl rfl (fun H locs hP hD hS => ?_)
                refine lv_iload hx hb dX9_findSpans_164 (lv_at hl 5 rfl) ?_
                refine lv_iconst (v := -1) hx hb dX9_findSpans_166 (by decide) ?_
                have K183 : ∀ (s0_183 : Int32) (s1_183 : Int32) (H : Heap) (locs : List Loc) (ls : Array Slot), f9_findSpans_J183 N v_rates x2_2 x3_10 v_leastTime_10 v_mostTime_10 e5_44 (f9_findSpans_L10 N p1 v_parts v_rates v_ways x2_2 n) s0_183 s1_183 = some (v_leastTime_e10, v_mostTime_e10) → va_P D vwCl [(h0, .inr (9, [oh0_0, oh0_1, oh0_2, .ref h0_parts, .ref h0_rates, .ref h0_ways, oh0_6, oh0_7, oh0_8, oh0_9, oh0_10, oh0_11, oh0_12, oh0_13, oh0_14, oh0_15, oh0_16, oh0_17, oh0_18, oh0_19, oh0_20, oh0_21, oh0_22, oh0_23, oh0_24, oh0_25, .ref h0_leastTime, .ref h0_mostTime, oh0_28, oh0_29, oh0_30, oh0_31, oh0_32, oh0_33, oh0_34, oh0_35, oh0_36, oh0_37])), (h0_parts, .inl (cy 2, 2, .inl v_parts)), (h0_rates, .inl (cy 2, 14, .inl v_rates)), (h0_ways, .inl (cy 2, 14, .inl v_ways)), (h0_leastTime, .inl (cy 2, 287, .inl v_leastTime_10)), (h0_mostTime, .inl (cy 2, 287, .inl v_mostTime_10))] H → va_D A [(h0, .inr (9, [oh0_0, oh0_1, oh0_2, .ref h0_parts, .ref h0_rates, .ref h0_ways, oh0_6, oh0_7, oh0_8, oh0_9, oh0_10, oh0_11, oh0_12, oh0_13, oh0_14, oh0_15, oh0_16, oh0_17, oh0_18, oh0_19, oh0_20, oh0_21, oh0_22, oh0_23, oh0_24, oh0_25, .ref h0_leastTime, .ref h0_mostTime, oh0_28, oh0_29, oh0_30, oh0_31, oh0_32, oh0_33, oh0_34, oh0_35, oh0_36, oh0_37])), (h0_parts, .inl (cy 2, 2, .inl v_parts)), (h0_rates, .inl (cy 2, 14, .inl v_rates)), (h0_ways, .inl (cy 2, 14, .inl v_ways)), (h0_leastTime, .inl (cy 2, 287, .inl v_leastTime_10)), (h0_mostTime, .inl (cy 2, 287, .inl v_mostTime_10))] → va_S A s.heap H locs → lv_has ls 8 [(0, .ref h0), (1, .int p1), (2, .int x2_2), (3, .int x3_10), (5, .int e5_44)] → W p l e r9_findSpans s m args below meth c H locs 0 0 Q (F0 m 183 ls [.int s0_183, .int s1_183, .ref h0_leastTime]) := by
                  intro s0_183 s1_183 H locs ls hM hP hD hS hl
                  unfold f9_findSpans_J183 at hM
                  obtain ⟨h183, hM⟩ := gi_some hM
                  refine va_iast hx hb hK hP hD hS 4 2 rfl rfl h183 dX9_findSpans_183 (fun H locs hP hD hS => ?_)
                  have hP : va_P D vwCl [(h0, .inr (9, [oh0_0, oh0_1, oh0_2, .ref h0_parts, .ref h0_rates, .ref h0_ways, oh0_6, oh0_7, oh0_8, oh0_9, oh0_10, oh0_11, oh0_12, oh0_13, oh0_14, oh0_15, oh0_16, oh0_17, oh0_18, oh0_19, oh0_20, oh0_21, oh0_22, oh0_23, oh0_24, oh0_25, .ref h0_leastTime, .ref h0_mostTime, oh0_28, oh0_29, oh0_30, oh0_31, oh0_32, oh0_33, oh0_34, oh0_35, oh0_36, oh0_37])), (h0_parts, .inl (cy 2, 2, .inl v_parts)), (h0_rates, .inl (cy 2, 14, .inl v_rates)), (h0_ways, .inl (cy 2, 14, .inl v_ways)), (h0_leastTime, .inl (cy 2, 287, .inl (upd v_leastTime_10 s1_183.toNatClampNeg s0_183))), (h0_mostTime, .inl (cy 2, 287, .inl v_mostTime_10))] H := hP
                  have hD : va_D A [(h0, .inr (9, [oh0_0, oh0_1, oh0_2, .ref h0_parts, .ref h0_rates, .ref h0_ways, oh0_6, oh0_7, oh0_8, oh0_9, oh0_10, oh0_11, oh0_12, oh0_13, oh0_14, oh0_15, oh0_16, oh0_17, oh0_18, oh0_19, oh0_20, oh0_21, oh0_22, oh0_23, oh0_24, oh0_25, .ref h0_leastTime, .ref h0_mostTime, oh0_28, oh0_29, oh0_30, oh0_31, oh0_32, oh0_33, oh0_34, oh0_35, oh0_36, oh0_37])), (h0_parts, .inl (cy 2, 2, .inl v_parts)), (h0_rates, .inl (cy 2, 14, .inl v_rates)), (h0_ways, .inl (cy 2, 14, .inl v_ways)), (h0_leastTime, .inl (cy 2, 287, .inl (upd v_leastTime_10 s1_183.toNatClampNeg s0_183))), (h0_mostTime, .inl (cy 2, 287, .inl v_mostTime_10))] := hD
                  refine lv_aload_n hx hb dX9_findSpans_184 rfl (lv_at hl 0 rfl) ?_
                  refine va_get (D := D) (ci := 9) (v := .ref h0_mostTime) (C := RX9) (T := TX9) (N := 38) hx hb hts iX9 hown hK hP 0 rfl rfl 27 (by decide) k63 (fun _ h9 => h9) rfl dX9_findSpans_185 ?_
                  refine lv_iload_n hx hb dX9_findSpans_188 rfl (lv_at hl 2 rfl) ?_
                  refine lv_iload_n hx hb dX9_findSpans_189 rfl (lv_at hl 3 rfl) ?_
                  obtain ⟨r190, hc190, hM⟩ := ob1_some hM
                  refine cl_si (As := [.int x2_2, .int x3_10]) (rest := [.ref h0_mostTime]) (wr := [(h0, .inr (9, [oh0_0, oh0_1, oh0_2, .ref h0_parts, .ref h0_rates, .ref h0_ways, oh0_6, oh0_7, oh0_8, oh0_9, oh0_10, oh0_11, oh0_12, oh0_13, oh0_14, oh0_15, oh0_16, oh0_17, oh0_18, oh0_19, oh0_20, oh0_21, oh0_22, oh0_23, oh0_24, oh0_25, .ref h0_leastTime, .ref h0_mostTime, oh0_28, oh0_29, oh0_30, oh0_31, oh0_32, oh0_33, oh0_34, oh0_35, oh0_36, oh0_37])), (h0_parts, .inl (cy 2, 2, .inl v_parts)), (h0_rates, .inl (cy 2, 14, .inl v_rates)), (h0_ways, .inl (cy 2, 14, .inl v_ways)), (h0_leastTime, .inl (cy 2, 287, .inl (upd v_leastTime_10 s1_183.toNatClampNeg s0_183))), (h0_mostTime, .inl (cy 2, 287, .inl v_mostTime_10))]) (ws2 := [(h0, .inr (9, [oh0_0, oh0_1, oh0_2, .ref h0_parts, .ref h0_rates, .ref h0_ways, oh0_6, oh0_7, oh0_8, oh0_9, oh0_10, oh0_11, oh0_12, oh0_13, oh0_14, oh0_15, oh0_16, oh0_17, oh0_18, oh0_19, oh0_20, oh0_21, oh0_22, oh0_23, oh0_24, oh0_25, .ref h0_leastTime, .ref h0_mostTime, oh0_28, oh0_29, oh0_30, oh0_31, oh0_32, oh0_33, oh0_34, oh0_35, oh0_36, oh0_37])), (h0_parts, .inl (cy 2, 2, .inl v_parts)), (h0_rates, .inl (cy 2, 14, .inl v_rates)), (h0_ways, .inl (cy 2, 14, .inl v_ways)), (h0_leastTime, .inl (cy 2, 287, .inl (upd v_leastTime_10 s1_183.toNatClampNeg s0_183))), (h0_mostTime, .inl (cy 2, 287, .inl v_mostTime_10))]) (isC := []) (isR := [0, 1, 2, 3, 4, 5]) (pm := [0, 1, 2, 3, 4, 5]) hx hb hml hown hts (c9_index l D cy N x2_2 x3_10 r190 hc190) (va_cwS 2 hts gX9_findSpans_X9_index rfl rfl rfl (by decide +kernel) ⟨Nat.le_of_ble_eq_true rfl, Nat.le_of_ble_eq_true rfl⟩) hK hP hD hS hA rfl rfl rfl (by decide) rfl rfl rfl hl.1 (Nat.le_of_ble_eq_true rfl) dX9_findSpans_190 ⟨Nat.zero_le _, Nat.zero_le _⟩ rfl rfl (fun H locs hP hD hS => ?_)
                  refine lv_iload hx hb dX9_findSpans_193 (lv_at hl 4 rfl) ?_
                  refine lv_iconst (v := -1) hx hb dX9_findSpans_195 (by decide) ?_
                  refine lv_icmp_ne (tgt := 203) hx hb dX9_findSpans_196 (by decide) (fun c196 => ?_) (fun c196 => ?_)
                  · have hM := g_neg c196 hM
                    refine lv_iload hx hb dX9_findSpans_203 (lv_at hl 4 rfl) ?_
                    refine lv_aload_n hx hb dX9_findSpans_205 rfl (lv_at hl 0 rfl) ?_
                    refine va_get (D := D) (ci := 9) (v := .ref h0_rates) (C := RX9) (T := TX9) (N := 38) hx hb hts iX9 hown hK hP 0 rfl rfl 4 (by decide) k17 (fun _ h9 => h9) rfl dX9_findSpans_206 ?_
                    refine lv_iload_n hx hb dX9_findSpans_209 rfl (lv_at hl 3 rfl) ?_
                    obtain ⟨h210, hM⟩ := gi_some hM
                    refine va_iald hx hb hK hP 2 2 rfl rfl h210 dX9_findSpans_210 ?_
                    refine lv_iadd hx hb dX9_findSpans_211 ?_
                    obtain ⟨h212, hM⟩ := gi_some hM
                    refine va_iast hx hb hK hP hD hS 5 2 rfl rfl h212 dX9_findSpans_212 (fun H locs hP hD hS => ?_)
                    have hP : va_P D vwCl [(h0, .inr (9, [oh0_0, oh0_1, oh0_2, .ref h0_parts, .ref h0_rates, .ref h0_ways, oh0_6, oh0_7, oh0_8, oh0_9, oh0_10, oh0_11, oh0_12, oh0_13, oh0_14, oh0_15, oh0_16, oh0_17, oh0_18, oh0_19, oh0_20, oh0_21, oh0_22, oh0_23, oh0_24, oh0_25, .ref h0_leastTime, .ref h0_mostTime, oh0_28, oh0_29, oh0_30, oh0_31, oh0_32, oh0_33, oh0_34, oh0_35, oh0_36, oh0_37])), (h0_parts, .inl (cy 2, 2, .inl v_parts)), (h0_rates, .inl (cy 2, 14, .inl v_rates)), (h0_ways, .inl (cy 2, 14, .inl v_ways)), (h0_leastTime, .inl (cy 2, 287, .inl (upd v_leastTime_10 s1_183.toNatClampNeg s0_183))), (h0_mostTime, .inl (cy 2, 287, .inl (upd v_mostTime_10 r190.toNatClampNeg (e5_44 + (v_rates x3_10.toNatClampNeg)))))] H := hP
                    have hD : va_D A [(h0, .inr (9, [oh0_0, oh0_1, oh0_2, .ref h0_parts, .ref h0_rates, .ref h0_ways, oh0_6, oh0_7, oh0_8, oh0_9, oh0_10, oh0_11, oh0_12, oh0_13, oh0_14, oh0_15, oh0_16, oh0_17, oh0_18, oh0_19, oh0_20, oh0_21, oh0_22, oh0_23, oh0_24, oh0_25, .ref h0_leastTime, .ref h0_mostTime, oh0_28, oh0_29, oh0_30, oh0_31, oh0_32, oh0_33, oh0_34, oh0_35, oh0_36, oh0_37])), (h0_parts, .inl (cy 2, 2, .inl v_parts)), (h0_rates, .inl (cy 2, 14, .inl v_rates)), (h0_ways, .inl (cy 2, 14, .inl v_ways)), (h0_leastTime, .inl (cy 2, 287, .inl (upd v_leastTime_10 s1_183.toNatClampNeg s0_183))), (h0_mostTime, .inl (cy 2, 287, .inl (upd v_mostTime_10 r190.toNatClampNeg (e5_44 + (v_rates x3_10.toNatClampNeg)))))] := hD
                    refine lv_iinc (v := x3_10 + (1 : Int32)) (lv' := [(3, .int (x3_10 + (1 : Int32))), (0, .ref h0), (1, .int p1), (2, .int x2_2), (5, .int e5_44)]) hx hb dX9_findSpans_213 hl (k := 3) rfl rfl (by decide) rfl (fun ls hl => ?_)
                    refine lv_goto (tgt := 10) hx hb dX9_findSpans_216 (by decide) ?_
                    exact ih (x3_10 + (1 : Int32)) (upd v_leastTime_10 s1_183.toNatClampNeg s0_183) (upd v_mostTime_10 r190.toNatClampNeg (e5_44 + (v_rates x3_10.toNatClampNeg))) v_leastTime_e10 v_mostTime_e10 _ _ _ hM hP hD hS (lv_sub hl [1, 2, 3, 0] rfl) K
                  · have hM := g_pos c196 hM
                    refine lv_iconst (v := -1) hx hb dX9_findSpans_199 (by decide) ?_
                    refine lv_goto (tgt := 212) hx hb dX9_findSpans_200 (by decide) ?_
                    obtain ⟨h212, hM⟩ := gi_some hM
                    refine va_iast hx hb hK hP hD hS 5 2 rfl rfl h212 dX9_findSpans_212 (fun H locs hP hD hS => ?_)
                    have hP : va_P D vwCl [(h0, .inr (9, [oh0_0, oh0_1, oh0_2, .ref h0_parts, .ref h0_rates, .ref h0_ways, oh0_6, oh0_7, oh0_8, oh0_9, oh0_10, oh0_11, oh0_12, oh0_13, oh0_14, oh0_15, oh0_16, oh0_17, oh0_18, oh0_19, oh0_20, oh0_21, oh0_22, oh0_23, oh0_24, oh0_25, .ref h0_leastTime, .ref h0_mostTime, oh0_28, oh0_29, oh0_30, oh0_31, oh0_32, oh0_33, oh0_34, oh0_35, oh0_36, oh0_37])), (h0_parts, .inl (cy 2, 2, .inl v_parts)), (h0_rates, .inl (cy 2, 14, .inl v_rates)), (h0_ways, .inl (cy 2, 14, .inl v_ways)), (h0_leastTime, .inl (cy 2, 287, .inl (upd v_leastTime_10 s1_183.toNatClampNeg s0_183))), (h0_mostTime, .inl (cy 2, 287, .inl (upd v_mostTime_10 r190.toNatClampNeg (-1 : Int32))))] H := hP
                    have hD : va_D A [(h0, .inr (9, [oh0_0, oh0_1, oh0_2, .ref h0_parts, .ref h0_rates, .ref h0_ways, oh0_6, oh0_7, oh0_8, oh0_9, oh0_10, oh0_11, oh0_12, oh0_13, oh0_14, oh0_15, oh0_16, oh0_17, oh0_18, oh0_19, oh0_20, oh0_21, oh0_22, oh0_23, oh0_24, oh0_25, .ref h0_leastTime, .ref h0_mostTime, oh0_28, oh0_29, oh0_30, oh0_31, oh0_32, oh0_33, oh0_34, oh0_35, oh0_36, oh0_37])), (h0_parts, .inl (cy 2, 2, .inl v_parts)), (h0_rates, .inl (cy 2, 14, .inl v_rates)), (h0_ways, .inl (cy 2, 14, .inl v_ways)), (h0_leastTime, .inl (cy 2, 287, .inl (upd v_leastTime_10 s1_183.toNatClampNeg s0_183))), (h0_mostTime, .inl (cy 2, 287, .inl (upd v_mostTime_10 r190.toNatClampNeg (-1 : Int32))))] := hD
                    refine lv_iinc (v := x3_10 + (1 : Int32)) (lv' := [(3, .int (x3_10 + (1 : Int32))), (0, .ref h0), (1, .int p1), (2, .int x2_2), (5, .int e5_44)]) hx hb dX9_findSpans_213 hl (k := 3) rfl rfl (by decide) rfl (fun ls hl => ?_)
                    refine lv_goto (tgt := 10) hx hb dX9_findSpans_216 (by decide) ?_
                    exact ih (x3_10 + (1 : Int32)) (upd v_leastTime_10 s1_183.toNatClampNeg s0_183) (upd v_mostTime_10 r190.toNatClampNeg (-1 : Int32)) v_leastTime_e10 v_mostTime_e10 _ _ _ hM hP hD hS (lv_sub hl [1, 2, 3, 0] rfl) K
                refine lv_icmp_ne (tgt := 174) hx hb dX9_findSpans_167 (by decide) (fun c167 => ?_) (fun c167 => ?_)
                · have hM := g_neg c167 hM
                  refine lv_iload hx hb dX9_findSpans_174 (lv_at hl 4 rfl) ?_
                  refine lv_aload_n hx hb dX9_findSpans_176 rfl (lv_at hl 0 rfl) ?_
                  refine va_get (D := D) (ci := 9) (v := .ref h0_rates) (C := RX9) (T := TX9) (N := 38) hx hb hts iX9 hown hK hP 0 rfl rfl 4 (by decide) k17 (fun _ h9 => h9) rfl dX9_findSpans_177 ?_
                  refine lv_iload_n hx hb dX9_findSpans_180 rfl (lv_at hl 3 rfl) ?_
                  obtain ⟨h181, hM⟩ := gi_some hM
                  refine va_iald hx hb hK hP 2 2 rfl rfl h181 dX9_findSpans_181 ?_
                  refine lv_iadd hx hb dX9_findSpans_182 ?_
                  exact K183 (e4_44 + (v_rates x3_10.toNatClampNeg)) r161 _ _ _ hM hP hD hS (lv_sub hl [0, 1, 2, 3, 5] rfl)
                · have hM := g_pos c167 hM
                  refine lv_iconst (v := -1) hx hb dX9_findSpans_170 (by decide) ?_
                  refine lv_goto (tgt := 183) hx hb dX9_findSpans_171 (by decide) ?_
                  exact K183 (-1 : Int32) r161 _ _ _ hM hP hD hS (lv_sub hl [0, 1, 2, 3, 5] rfl)
              refine lv_icmp_ne (tgt := 34) hx hb dX9_findSpans_22 (by decide) (fun c22 => ?_) (fun c22 => ?_)
              · have hM := g_neg c22 hM
                refine lv_iconst (v := -1) hx hb dX9_findSpans_34 (by decide) ?_
                exact K35 (-1 : Int32) _ _ _ hM hP hD hS (lv_sub hl [0, 1, 2, 3] rfl)
              · have hM := g_pos c22 hM
                refine lv_iload_n hx hb dX9_findSpans_25 rfl (lv_at hl 3 rfl) ?_
                refine lv_iload_n hx hb dX9_findSpans_26 rfl (lv_at hl 1 rfl) ?_
                refine lv_icmp_ne (tgt := 34) hx hb dX9_findSpans_27 (by decide) (fun c27 => ?_) (fun c27 => ?_)
                · have hM := g_neg c27 hM
                  refine lv_iconst (v := -1) hx hb dX9_findSpans_34 (by decide) ?_
                  exact K35 (-1 : Int32) _ _ _ hM hP hD hS (lv_sub hl [0, 1, 2, 3] rfl)
                · have hM := g_pos c27 hM
                  refine lv_iconst (v := 0) hx hb dX9_findSpans_30 (by decide) ?_
                  refine lv_goto (tgt := 35) hx hb dX9_findSpans_31 (by decide) ?_
                  exact K35 (0 : Int32) _ _ _ hM hP hD hS (lv_sub hl [0, 1, 2, 3] rfl)
        obtain ⟨v_leastTime_e10, v_mostTime_e10, hL10, hM⟩ := ob2_some hM
        refine L10 N (0 : Int32) v_leastTime_2 v_mostTime_2 v_leastTime_e10 v_mostTime_e10 _ _ _ hL10 hP hD hS (lv_sub hl [1, 2, 3, 0] rfl) ?_
        intro H locs ls hP hD hS hl
        refine lv_iinc (v := x2_2 + (1 : Int32)) (lv' := [(2, .int (x2_2 + (1 : Int32))), (0, .ref h0), (1, .int p1)]) hx hb dX9_findSpans_219 hl (k := 2) rfl rfl (by decide) rfl (fun ls hl => ?_)
        refine lv_goto (tgt := 2) hx hb dX9_findSpans_222 (by decide) ?_
        exact ih (x2_2 + (1 : Int32)) v_leastTime_e10 v_mostTime_e10 v_leastTime_e2 v_mostTime_e2 _ _ _ hM hP hD hS (lv_sub hl [1, 2, 0] rfl) K
  obtain ⟨v_leastTime_e2, v_mostTime_e2, hL2, hM⟩ := ob2_some hM
  refine L2 N (1 : Int32) v_leastTime v_mostTime v_leastTime_e2 v_mostTime_e2 _ _ _ hL2 hP hD hS (lv_sub hl [1, 2, 0] rfl) ?_
  intro H locs ls hP hD hS hl
  obtain ⟨rfl, rfl⟩ := si2 hM
  exact hret _ _ _ _ dX9_findSpans_225 hP hD hS

-- ===== X9_isAble isAble (III)Z =====
abbrev r9_isAble : Room := { frames := 1, cells := 0, slots := 0, locals := 22 }
def f9_isAble (N : Nat) (p1 : Int32) (p2 : Int32) (p3 : Int32) (v_can : Nat → Int64) : Option Int32 :=
  ob1 (f9_in N p3 (0 : Int32) (6000 : Int32)) fun r5 => if r5 = (0 : Int32) then (some (0 : Int32)) else (ob1 (f9_index N p1 p2) fun r19 => gi (((94 : Int32) * r19) + (p3 / (64 : Int32))) 26978 (if (lg_cmp (((v_can (((94 : Int32) * r19) + (p3 / (64 : Int32))).toNatClampNeg) >>> ((p3 - p3 / (64 : Int32) * (64 : Int32)).toInt64 &&& 63)) &&& (1 : Int64)) (1 : Int64)) = (0 : Int32) then (some (1 : Int32)) else (some (0 : Int32))))
set_option maxHeartbeats 4000000 in
set_option maxRecDepth 100000 in
theorem c9_isAble (l : Launch) (D : va_G) (cy : Nat → ClassId) (N : Nat) (h0 h0_can : Nat) (oh0_0 oh0_1 oh0_2 oh0_3 oh0_4 oh0_5 oh0_6 oh0_7 oh0_8 oh0_9 oh0_10 oh0_11 oh0_12 oh0_13 oh0_14 oh0_15 oh0_16 oh0_17 oh0_18 oh0_19 oh0_20 oh0_21 oh0_22 oh0_23 oh0_24 oh0_25 oh0_26 oh0_27 oh0_29 oh0_30 oh0_31 oh0_32 oh0_33 oh0_34 oh0_35 oh0_36 oh0_37 : Value) (p1 : Int32) (p2 : Int32) (p3 : Int32) (v_can : Nat → Int64) (r : Int32) (hM : f9_isAble N p1 p2 p3 v_can = some r) (sz : Nat) : CTi l yX9_isAble wsX9_isAble r9_isAble [.ref h0, .int p1, .int p2, .int p3] D cy sz [(h0, .inr (9, [oh0_0, oh0_1, oh0_2, oh0_3, oh0_4, oh0_5, oh0_6, oh0_7, oh0_8, oh0_9, oh0_10, oh0_11, oh0_12, oh0_13, oh0_14, oh0_15, oh0_16, oh0_17, oh0_18, oh0_19, oh0_20, oh0_21, oh0_22, oh0_23, oh0_24, oh0_25, oh0_26, oh0_27, .ref h0_can, oh0_29, oh0_30, oh0_31, oh0_32, oh0_33, oh0_34, oh0_35, oh0_36, oh0_37])), (h0_can, .inl (cy 3, 26978, .inr (.inl v_can)))] [(h0, .inr (9, [oh0_0, oh0_1, oh0_2, oh0_3, oh0_4, oh0_5, oh0_6, oh0_7, oh0_8, oh0_9, oh0_10, oh0_11, oh0_12, oh0_13, oh0_14, oh0_15, oh0_16, oh0_17, oh0_18, oh0_19, oh0_20, oh0_21, oh0_22, oh0_23, oh0_24, oh0_25, oh0_26, oh0_27, .ref h0_can, oh0_29, oh0_30, oh0_31, oh0_32, oh0_33, oh0_34, oh0_35, oh0_36, oh0_37])), (h0_can, .inl (cy 3, 26978, .inr (.inl v_can)))] r := by
  unfold f9_isAble at hM
  refine ct_oi (cc := cX9_isAble) (maxL := 4) (ty := .boolean) (by decide +kernel) rfl (Nat.le_of_ble_eq_true rfl) (lv0 := [(0, .ref h0), (1, .int p1), (2, .int p2), (3, .int p3)]) rfl ?_
  intro p e s m args below meth c A Q ls hx hb hts hown hml hK hP hD hS hA hret hl
  have hown : s.vm.findClass RX9 = some m.cls := hown
  have k66 := hts (.fieldLink RX9 66 "CaveYearsModel" "can" "[J") (List.mem_of_getElem? (i := 1) rfl)
  have iX9 := (fun w h => (List.mem_cons_of_mem _ (List.mem_append_right _ h)) : ∀ w ∈ wsX90, w ∈ wsX9_isAble)
  refine lv_iload_n hx hb dX9_isAble_0 rfl (lv_at hl 3 rfl) ?_
  refine lv_iconst (v := 0) hx hb dX9_isAble_1 (by decide) ?_
  refine lv_sipush (v := 6000) hx hb dX9_isAble_2 (by decide) ?_
  obtain ⟨r5, hc5, hM⟩ := ob1_some hM
  refine cl_si (As := [.int p3, .int (0 : Int32), .int (6000 : Int32)]) (rest := []) (wr := [(h0, .inr (9, [oh0_0, oh0_1, oh0_2, oh0_3, oh0_4, oh0_5, oh0_6, oh0_7, oh0_8, oh0_9, oh0_10, oh0_11, oh0_12, oh0_13, oh0_14, oh0_15, oh0_16, oh0_17, oh0_18, oh0_19, oh0_20, oh0_21, oh0_22, oh0_23, oh0_24, oh0_25, oh0_26, oh0_27, .ref h0_can, oh0_29, oh0_30, oh0_31, oh0_32, oh0_33, oh0_34, oh0_35, oh0_36, oh0_37])), (h0_can, .inl (cy 3, 26978, .inr (.inl v_can)))]) (ws2 := [(h0, .inr (9, [oh0_0, oh0_1, oh0_2, oh0_3, oh0_4, oh0_5, oh0_6, oh0_7, oh0_8, oh0_9, oh0_10, oh0_11, oh0_12, oh0_13, oh0_14, oh0_15, oh0_16, oh0_17, oh0_18, oh0_19, oh0_20, oh0_21, oh0_22, oh0_23, oh0_24, oh0_25, oh0_26, oh0_27, .ref h0_can, oh0_29, oh0_30, oh0_31, oh0_32, oh0_33, oh0_34, oh0_35, oh0_36, oh0_37])), (h0_can, .inl (cy 3, 26978, .inr (.inl v_can)))]) (isC := []) (isR := [0, 1]) (pm := [0, 1]) hx hb hml hown hts (c9_in l D cy N p3 (0 : Int32) (6000 : Int32) r5 hc5) (va_cwS 3 hts gX9_isAble_X9_in rfl rfl rfl (by decide +kernel) ⟨Nat.le_of_ble_eq_true rfl, Nat.le_of_ble_eq_true rfl⟩) hK hP hD hS hA rfl rfl rfl (by decide) rfl rfl rfl hl.1 (Nat.le_of_ble_eq_true rfl) dX9_isAble_5 ⟨Nat.zero_le _, Nat.zero_le _⟩ rfl rfl (fun H locs hP hD hS => ?_)
  refine lv_if_eq (tgt := 45) hx hb dX9_isAble_8 (by decide) (fun c8 => ?_) (fun c8 => ?_)
  · have hM := g_pos c8 hM
    refine lv_iconst (v := 0) hx hb dX9_isAble_45 (by decide) ?_
    obtain rfl := si1 hM
    exact hret _ _ _ _ _ dX9_isAble_46 rfl rfl hP hD hS
  · have hM := g_neg c8 hM
    refine lv_aload_n hx hb dX9_isAble_11 rfl (lv_at hl 0 rfl) ?_
    refine va_get (D := D) (ci := 9) (v := .ref h0_can) (C := RX9) (T := TX9) (N := 38) hx hb hts iX9 hown hK hP 0 rfl rfl 28 (by decide) k66 (fun _ h9 => h9) rfl dX9_isAble_12 ?_
    refine lv_bipush (v := 94) hx hb dX9_isAble_15 (by decide) ?_
    refine lv_iload_n hx hb dX9_isAble_17 rfl (lv_at hl 1 rfl) ?_
    refine lv_iload_n hx hb dX9_isAble_18 rfl (lv_at hl 2 rfl) ?_
    obtain ⟨r19, hc19, hM⟩ := ob1_some hM
    refine cl_si (As := [.int p1, .int p2]) (rest := [.int (94 : Int32), .ref h0_can]) (wr := [(h0, .inr (9, [oh0_0, oh0_1, oh0_2, oh0_3, oh0_4, oh0_5, oh0_6, oh0_7, oh0_8, oh0_9, oh0_10, oh0_11, oh0_12, oh0_13, oh0_14, oh0_15, oh0_16, oh0_17, oh0_18, oh0_19, oh0_20, oh0_21, oh0_22, oh0_23, oh0_24, oh0_25, oh0_26, oh0_27, .ref h0_can, oh0_29, oh0_30, oh0_31, oh0_32, oh0_33, oh0_34, oh0_35, oh0_36, oh0_37])), (h0_can, .inl (cy 3, 26978, .inr (.inl v_can)))]) (ws2 := [(h0, .inr (9, [oh0_0, oh0_1, oh0_2, oh0_3, oh0_4, oh0_5, oh0_6, oh0_7, oh0_8, oh0_9, oh0_10, oh0_11, oh0_12, oh0_13, oh0_14, oh0_15, oh0_16, oh0_17, oh0_18, oh0_19, oh0_20, oh0_21, oh0_22, oh0_23, oh0_24, oh0_25, oh0_26, oh0_27, .ref h0_can, oh0_29, oh0_30, oh0_31, oh0_32, oh0_33, oh0_34, oh0_35, oh0_36, oh0_37])), (h0_can, .inl (cy 3, 26978, .inr (.inl v_can)))]) (isC := []) (isR := [0, 1]) (pm := [0, 1]) hx hb hml hown hts (c9_index l D cy N p1 p2 r19 hc19) (va_cwS 2 hts gX9_isAble_X9_index rfl rfl rfl (by decide +kernel) ⟨Nat.le_of_ble_eq_true rfl, Nat.le_of_ble_eq_true rfl⟩) hK hP hD hS hA rfl rfl rfl (by decide) rfl rfl rfl hl.1 (Nat.le_of_ble_eq_true rfl) dX9_isAble_19 ⟨Nat.zero_le _, Nat.zero_le _⟩ rfl rfl (fun H locs hP hD hS => ?_)
    refine lv_imul hx hb dX9_isAble_22 ?_
    refine lv_iload_n hx hb dX9_isAble_23 rfl (lv_at hl 3 rfl) ?_
    refine lv_bipush (v := 64) hx hb dX9_isAble_24 (by decide) ?_
    refine lv_idiv hx hb dX9_isAble_26 (by decide) ?_
    refine lv_iadd hx hb dX9_isAble_27 ?_
    obtain ⟨h28, hM⟩ := gi_some hM
    refine va_lald hx hb hK hP 1 3 rfl rfl h28 dX9_isAble_28 ?_
    refine lv_iload_n hx hb dX9_isAble_29 rfl (lv_at hl 3 rfl) ?_
    refine lv_bipush (v := 64) hx hb dX9_isAble_30 (by decide) ?_
    refine lv_irem hx hb dX9_isAble_32 (by decide) ?_
    refine lv_lshr (v := ((v_can (((94 : Int32) * r19) + (p3 / (64 : Int32))).toNatClampNeg) >>> ((p3 - p3 / (64 : Int32) * (64 : Int32)).toInt64 &&& 63))) hx hb dX9_isAble_33 rfl ?_
    refine lv_lconst (v := 1) hx hb dX9_isAble_34 (by decide) ?_
    refine lv_land hx hb dX9_isAble_35 ?_
    refine lv_lconst (v := 1) hx hb dX9_isAble_36 (by decide) ?_
    refine W.lcmp hx hb dX9_isAble_37 ?_
    refine lv_if_ne (tgt := 45) hx hb dX9_isAble_38 (by decide) (fun c38 => ?_) (fun c38 => ?_)
    · have hM := g_neg c38 hM
      refine lv_iconst (v := 0) hx hb dX9_isAble_45 (by decide) ?_
      obtain rfl := si1 hM
      exact hret _ _ _ _ _ dX9_isAble_46 rfl rfl hP hD hS
    · have hM := g_pos c38 hM
      refine lv_iconst (v := 1) hx hb dX9_isAble_41 (by decide) ?_
      refine lv_goto (tgt := 46) hx hb dX9_isAble_42 (by decide) ?_
      obtain rfl := si1 hM
      exact hret _ _ _ _ _ dX9_isAble_46 rfl rfl hP hD hS

-- ===== X9_addShifted addShifted (III)V =====
abbrev r9_addShifted : Room := { frames := 0, cells := 0, slots := 0, locals := 0 }
def f9_addShifted_L16 (N : Nat) (p1 : Int32) (p2 : Int32) (p3 : Int32) : Nat → Int32 → (Nat → Int64) → Option (Nat → Int64)
  | 0, _, _ => none
  | n + 1, x6_16, v_can_16 => if x6_16 < (p3 / (64 : Int32)) then (some v_can_16) else (gi ((p2 + x6_16) - (p3 / (64 : Int32))) 26978 (if (p3 - p3 / (64 : Int32) * (64 : Int32)) ≤ (0 : Int32) then (gi (p1 + x6_16) 26978 (gi (p1 + x6_16) 26978 ((f9_addShifted_L16 N p1 p2 p3 n) (x6_16 + (-1 : Int32)) (vp_updL v_can_16 (p1 + x6_16).toNatClampNeg ((v_can_16 (p1 + x6_16).toNatClampNeg) ||| ((v_can_16 ((p2 + x6_16) - (p3 / (64 : Int32))).toNatClampNeg) <<< ((p3 - p3 / (64 : Int32) * (64 : Int32)).toInt64 &&& 63))))))) else (if x6_16 ≤ (p3 / (64 : Int32)) then (gi (p1 + x6_16) 26978 (gi (p1 + x6_16) 26978 ((f9_addShifted_L16 N p1 p2 p3 n) (x6_16 + (-1 : Int32)) (vp_updL v_can_16 (p1 + x6_16).toNatClampNeg ((v_can_16 (p1 + x6_16).toNatClampNeg) ||| ((v_can_16 ((p2 + x6_16) - (p3 / (64 : Int32))).toNatClampNeg) <<< ((p3 - p3 / (64 : Int32) * (64 : Int32)).toInt64 &&& 63))))))) else (gi (((p2 + x6_16) - (p3 / (64 : Int32))) - (1 : Int32)) 26978 (gi (p1 + x6_16) 26978 (gi (p1 + x6_16) 26978 ((f9_addShifted_L16 N p1 p2 p3 n) (x6_16 + (-1 : Int32)) (vp_updL v_can_16 (p1 + x6_16).toNatClampNeg ((v_can_16 (p1 + x6_16).toNatClampNeg) ||| (((v_can_16 ((p2 + x6_16) - (p3 / (64 : Int32))).toNatClampNeg) <<< ((p3 - p3 / (64 : Int32) * (64 : Int32)).toInt64 &&& 63)) ||| (((v_can_16 (((p2 + x6_16) - (p3 / (64 : Int32))) - (1 : Int32)).toNatClampNeg).toUInt64 >>> (((64 : Int32) - (p3 - p3 / (64 : Int32) * (64 : Int32))).toInt64.toUInt64 &&& Int64.toUInt64 63)).toInt64)))))))))))
def f9_addShifted (N : Nat) (p1 : Int32) (p2 : Int32) (p3 : Int32) (v_can : Nat → Int64) : Option (Nat → Int64) :=
  ob1 (f9_addShifted_L16 N p1 p2 p3 N (93 : Int32) v_can) fun v_can_e16 => some v_can_e16
set_option maxHeartbeats 4000000 in
set_option maxRecDepth 100000 in
theorem c9_addShifted (l : Launch) (D : va_G) (cy : Nat → ClassId) (N : Nat) (h0 h0_can : Nat) (oh0_0 oh0_1 oh0_2 oh0_3 oh0_4 oh0_5 oh0_6 oh0_7 oh0_8 oh0_9 oh0_10 oh0_11 oh0_12 oh0_13 oh0_14 oh0_15 oh0_16 oh0_17 oh0_18 oh0_19 oh0_20 oh0_21 oh0_22 oh0_23 oh0_24 oh0_25 oh0_26 oh0_27 oh0_29 oh0_30 oh0_31 oh0_32 oh0_33 oh0_34 oh0_35 oh0_36 oh0_37 : Value) (p1 : Int32) (p2 : Int32) (p3 : Int32) (v_can : Nat → Int64) (nv_can : Nat → Int64) (hM : f9_addShifted N p1 p2 p3 v_can = some nv_can) (sz : Nat) : CTv l yX9_addShifted wsX9_addShifted r9_addShifted [.ref h0, .int p1, .int p2, .int p3] D cy sz [(h0, .inr (9, [oh0_0, oh0_1, oh0_2, oh0_3, oh0_4, oh0_5, oh0_6, oh0_7, oh0_8, oh0_9, oh0_10, oh0_11, oh0_12, oh0_13, oh0_14, oh0_15, oh0_16, oh0_17, oh0_18, oh0_19, oh0_20, oh0_21, oh0_22, oh0_23, oh0_24, oh0_25, oh0_26, oh0_27, .ref h0_can, oh0_29, oh0_30, oh0_31, oh0_32, oh0_33, oh0_34, oh0_35, oh0_36, oh0_37])), (h0_can, .inl (cy 3, 26978, .inr (.inl v_can)))] [(h0, .inr (9, [oh0_0, oh0_1, oh0_2, oh0_3, oh0_4, oh0_5, oh0_6, oh0_7, oh0_8, oh0_9, oh0_10, oh0_11, oh0_12, oh0_13, oh0_14, oh0_15, oh0_16, oh0_17, oh0_18, oh0_19, oh0_20, oh0_21, oh0_22, oh0_23, oh0_24, oh0_25, oh0_26, oh0_27, .ref h0_can, oh0_29, oh0_30, oh0_31, oh0_32, oh0_33, oh0_34, oh0_35, oh0_36, oh0_37])), (h0_can, .inl (cy 3, 26978, .inr (.inl nv_can)))] := by
  unfold f9_addShifted at hM
  refine ct_ov (cc := cX9_addShifted) (maxL := 9)  (by decide +kernel) rfl (Nat.le_of_ble_eq_true rfl) (lv0 := [(0, .ref h0), (1, .int p1), (2, .int p2), (3, .int p3)]) rfl ?_
  intro p e s m args below meth c A Q ls hx hb hts hown hml hK hP hD hS hA hret hl
  have hown : s.vm.findClass RX9 = some m.cls := hown
  have k66 := hts (.fieldLink RX9 66 "CaveYearsModel" "can" "[J") (List.mem_of_getElem? (i := 1) rfl)
  have iX9 := (fun w h => (List.mem_cons_of_mem _ (List.mem_append_right _ h)) : ∀ w ∈ wsX90, w ∈ wsX9_addShifted)
  refine lv_iload_n hx hb dX9_addShifted_0 rfl (lv_at hl 3 rfl) ?_
  refine lv_bipush (v := 64) hx hb dX9_addShifted_1 (by decide) ?_
  refine lv_idiv hx hb dX9_addShifted_3 (by decide) ?_
  refine lv_istore (lv' := [(4, .int (p3 / (64 : Int32))), (0, .ref h0), (1, .int p1), (2, .int p2), (3, .int p3)]) hx hb dX9_addShifted_4 hl (by decide) rfl (fun ls hl => ?_)
  refine lv_iload_n hx hb dX9_addShifted_6 rfl (lv_at hl 4 rfl) ?_
  refine lv_bipush (v := 64) hx hb dX9_addShifted_7 (by decide) ?_
  refine lv_irem hx hb dX9_addShifted_9 (by decide) ?_
  refine lv_istore (lv' := [(5, .int (p3 - p3 / (64 : Int32) * (64 : Int32))), (4, .int (p3 / (64 : Int32))), (0, .ref h0), (1, .int p1), (2, .int p2), (3, .int p3)]) hx hb dX9_addShifted_10 hl (by decide) rfl (fun ls hl => ?_)
  refine lv_bipush (v := 93) hx hb dX9_addShifted_12 (by decide) ?_
  refine lv_istore (lv' := [(6, .int (93 : Int32)), (5, .int (p3 - p3 / (64 : Int32) * (64 : Int32))), (4, .int (p3 / (64 : Int32))), (0, .ref h0), (1, .int p1), (2, .int p2), (3, .int p3)]) hx hb dX9_addShifted_14 hl (by decide) rfl (fun ls hl => ?_)
  have L16 : ∀ (n : Nat) (x6_16 : Int32) (v_can_16 : Nat → Int64) (v_can_e16 : Nat → Int64) (H : Heap) (locs : List Loc) (ls : Array Slot), f9_addShifted_L16 N p1 p2 p3 n x6_16 v_can_16 = some v_can_e16 → va_P D vwCl [(h0, .inr (9, [oh0_0, oh0_1, oh0_2, oh0_3, oh0_4, oh0_5, oh0_6, oh0_7, oh0_8, oh0_9, oh0_10, oh0_11, oh0_12, oh0_13, oh0_14, oh0_15, oh0_16, oh0_17, oh0_18, oh0_19, oh0_20, oh0_21, oh0_22, oh0_23, oh0_24, oh0_25, oh0_26, oh0_27, .ref h0_can, oh0_29, oh0_30, oh0_31, oh0_32, oh0_33, oh0_34, oh0_35, oh0_36, oh0_37])), (h0_can, .inl (cy 3, 26978, .inr (.inl v_can_16)))] H → va_D A [(h0, .inr (9, [oh0_0, oh0_1, oh0_2, oh0_3, oh0_4, oh0_5, oh0_6, oh0_7, oh0_8, oh0_9, oh0_10, oh0_11, oh0_12, oh0_13, oh0_14, oh0_15, oh0_16, oh0_17, oh0_18, oh0_19, oh0_20, oh0_21, oh0_22, oh0_23, oh0_24, oh0_25, oh0_26, oh0_27, .ref h0_can, oh0_29, oh0_30, oh0_31, oh0_32, oh0_33, oh0_34, oh0_35, oh0_36, oh0_37])), (h0_can, .inl (cy 3, 26978, .inr (.inl v_can_16)))] → va_S A s.heap H locs → lv_has ls 9 [(0, .ref h0), (1, .int p1), (2, .int p2), (4, .int (p3 / (64 : Int32))), (5, .int (p3 - p3 / (64 : Int32) * (64 : Int32))), (6, .int x6_16)] → (∀ (H : Heap) (locs : List Loc) (ls : Array Slot), va_P D vwCl [(h0, .inr (9, [oh0_0, oh0_1, oh0_2, oh0_3, oh0_4, oh0_5, oh0_6, oh0_7, oh0_8, oh0_9, oh0_10, oh0_11, oh0_12, oh0_13, oh0_14, oh0_15, oh0_16, oh0_17, oh0_18, oh0_19, oh0_20, oh0_21, oh0_22, oh0_23, oh0_24, oh0_25, oh0_26, oh0_27, .ref h0_can, oh0_29, oh0_30, oh0_31, oh0_32, oh0_33, oh0_34, oh0_35, oh0_36, oh0_37])), (h0_can, .inl (cy 3, 26978, .inr (.inl v_can_e16)))] H → va_D A [(h0, .inr (9, [oh0_0, oh0_1, oh0_2, oh0_3, oh0_4, oh0_5, oh0_6, oh0_7, oh0_8, oh0_9, oh0_10, oh0_11, oh0_12, oh0_13, oh0_14, oh0_15, oh0_16, oh0_17, oh0_18, oh0_19, oh0_20, oh0_21, oh0_22, oh0_23, oh0_24, oh0_25, oh0_26, oh0_27, .ref h0_can, oh0_29, oh0_30, oh0_31, oh0_32, oh0_33, oh0_34, oh0_35, oh0_36, oh0_37])), (h0_can, .inl (cy 3, 26978, .inr (.inl v_can_e16)))] → va_S A s.heap H locs → lv_has ls 9 [] → W p l e r9_addShifted s m args below meth c H locs 0 0 Q (F0 m 97 ls [])) → W p l e r9_addShifted s m args below meth c H locs 0 0 Q (F0 m 16 ls []) := by
    intro n
    induction n with
    | zero =>
      intro x6_16 v_can_16 v_can_e16 H locs ls hM
      exact absurd hM (by simp [f9_addShifted_L16])
    | succ n ih =>
      intro x6_16 v_can_16 v_can_e16 H locs ls hM hP hD hS hl K
      rw [f9_addShifted_L16] at hM
      refine lv_iload hx hb dX9_addShifted_16 (lv_at hl 5 rfl) ?_
      refine lv_iload hx hb dX9_addShifted_18 (lv_at hl 3 rfl) ?_
      refine lv_icmp_lt (tgt := 97) hx hb dX9_addShifted_20 (by decide) (fun c20 => ?_) (fun c20 => ?_)
      · have hM := g_pos c20 hM
        obtain rfl := si1 hM
        exact K _ _ _ hP hD hS (lv_sub hl [] rfl)
      · have hM := g_neg c20 hM
        refine lv_aload_n hx hb dX9_addShifted_23 rfl (lv_at hl 0 rfl) ?_
        refine va_get (D := D) (ci := 9) (v := .ref h0_can) (C := RX9) (T := TX9) (N := 38) hx hb hts iX9 hown hK hP 0 rfl rfl 28 (by decide) k66 (fun _ h9 => h9) rfl dX9_addShifted_24 ?_
        refine lv_iload_n hx hb dX9_addShifted_27 rfl (lv_at hl 2 rfl) ?_
        refine lv_iload hx hb dX9_addShifted_28 (lv_at hl 5 rfl) ?_
        refine lv_iadd hx hb dX9_addShifted_30 ?_
        refine lv_iload hx hb dX9_addShifted_31 (lv_at hl 3 rfl) ?_
        refine lv_isub hx hb dX9_addShifted_33 ?_
        obtain ⟨h34, hM⟩ := gi_some hM
        refine va_lald hx hb hK hP 1 3 rfl rfl h34 dX9_addShifted_34 ?_
        refine lv_iload hx hb dX9_addShifted_35 (lv_at hl 4 rfl) ?_
        refine lv_lshl (v := ((v_can_16 ((p2 + x6_16) - (p3 / (64 : Int32))).toNatClampNeg) <<< ((p3 - p3 / (64 : Int32) * (64 : Int32)).toInt64 &&& 63))) hx hb dX9_addShifted_37 rfl ?_
        refine lv_lstore (lv' := [(7, .long ((v_can_16 ((p2 + x6_16) - (p3 / (64 : Int32))).toNatClampNeg) <<< ((p3 - p3 / (64 : Int32) * (64 : Int32)).toInt64 &&& 63))), (0, .ref h0), (1, .int p1), (2, .int p2), (4, .int (p3 / (64 : Int32))), (5, .int (p3 - p3 / (64 : Int32) * (64 : Int32))), (6, .int x6_16)]) hx hb dX9_addShifted_38 hl (by decide) rfl (fun ls hl => ?_)
        refine lv_iload hx hb dX9_addShifted_40 (lv_at hl 5 rfl) ?_
        refine lv_if_le (tgt := 77) hx hb dX9_addShifted_42 (by decide) (fun c42 => ?_) (fun c42 => ?_)
        · have hM := g_pos c42 hM
          refine lv_aload_n hx hb dX9_addShifted_77 rfl (lv_at hl 1 rfl) ?_
          refine va_get (D := D) (ci := 9) (v := .ref h0_can) (C := RX9) (T := TX9) (N := 38) hx hb hts iX9 hown hK hP 0 rfl rfl 28 (by decide) k66 (fun _ h9 => h9) rfl dX9_addShifted_78 ?_
          refine lv_iload_n hx hb dX9_addShifted_81 rfl (lv_at hl 2 rfl) ?_
          refine lv_iload hx hb dX9_addShifted_82 (lv_at hl 6 rfl) ?_
          refine lv_iadd hx hb dX9_addShifted_84 ?_
          refine lv_dup2_11 hx hb dX9_addShifted_85 rfl rfl ?_
          obtain ⟨h86, hM⟩ := gi_some hM
          refine va_lald hx hb hK hP 1 3 rfl rfl h86 dX9_addShifted_86 ?_
          refine lv_lload hx hb dX9_addShifted_87 (lv_at hl 0 rfl) ?_
          refine lv_lor hx hb dX9_addShifted_89 ?_
          obtain ⟨h90, hM⟩ := gi_some hM
          refine va_last hx hb hK hP hD hS 1 3 rfl rfl h90 dX9_addShifted_90 (fun H locs hP hD hS => ?_)
          have hP : va_P D vwCl [(h0, .inr (9, [oh0_0, oh0_1, oh0_2, oh0_3, oh0_4, oh0_5, oh0_6, oh0_7, oh0_8, oh0_9, oh0_10, oh0_11, oh0_12, oh0_13, oh0_14, oh0_15, oh0_16, oh0_17, oh0_18, oh0_19, oh0_20, oh0_21, oh0_22, oh0_23, oh0_24, oh0_25, oh0_26, oh0_27, .ref h0_can, oh0_29, oh0_30, oh0_31, oh0_32, oh0_33, oh0_34, oh0_35, oh0_36, oh0_37])), (h0_can, .inl (cy 3, 26978, .inr (.inl (vp_updL v_can_16 (p1 + x6_16).toNatClampNeg ((v_can_16 (p1 + x6_16).toNatClampNeg) ||| ((v_can_16 ((p2 + x6_16) - (p3 / (64 : Int32))).toNatClampNeg) <<< ((p3 - p3 / (64 : Int32) * (64 : Int32)).toInt64 &&& 63)))))))] H := hP
          have hD : va_D A [(h0, .inr (9, [oh0_0, oh0_1, oh0_2, oh0_3, oh0_4, oh0_5, oh0_6, oh0_7, oh0_8, oh0_9, oh0_10, oh0_11, oh0_12, oh0_13, oh0_14, oh0_15, oh0_16, oh0_17, oh0_18, oh0_19, oh0_20, oh0_21, oh0_22, oh0_23, oh0_24, oh0_25, oh0_26, oh0_27, .ref h0_can, oh0_29, oh0_30, oh0_31, oh0_32, oh0_33, oh0_34, oh0_35, oh0_36, oh0_37])), (h0_can, .inl (cy 3, 26978, .inr (.inl (vp_updL v_can_16 (p1 + x6_16).toNatClampNeg ((v_can_16 (p1 + x6_16).toNatClampNeg) ||| ((v_can_16 ((p2 + x6_16) - (p3 / (64 : Int32))).toNatClampNeg) <<< ((p3 - p3 / (64 : Int32) * (64 : Int32)).toInt64 &&& 63)))))))] := hD
          refine lv_iinc (v := x6_16 + (-1 : Int32)) (lv' := [(6, .int (x6_16 + (-1 : Int32))), (7, .long ((v_can_16 ((p2 + x6_16) - (p3 / (64 : Int32))).toNatClampNeg) <<< ((p3 - p3 / (64 : Int32) * (64 : Int32)).toInt64 &&& 63))), (0, .ref h0), (1, .int p1), (2, .int p2), (4, .int (p3 / (64 : Int32))), (5, .int (p3 - p3 / (64 : Int32) * (64 : Int32)))]) hx hb dX9_addShifted_91 hl (k := 6) rfl rfl (by decide) rfl (fun ls hl => ?_)
          refine lv_goto (tgt := 16) hx hb dX9_addShifted_94 (by decide) ?_
          exact ih (x6_16 + (-1 : Int32)) (vp_updL v_can_16 (p1 + x6_16).toNatClampNeg ((v_can_16 (p1 + x6_16).toNatClampNeg) ||| ((v_can_16 ((p2 + x6_16) - (p3 / (64 : Int32))).toNatClampNeg) <<< ((p3 - p3 / (64 : Int32) * (64 : Int32)).toInt64 &&& 63)))) v_can_e16 _ _ _ hM hP hD hS (lv_sub hl [2, 3, 4, 5, 6, 0] rfl) K
        · have hM := g_neg c42 hM
          refine lv_iload hx hb dX9_addShifted_45 (lv_at hl 6 rfl) ?_
          refine lv_iload hx hb dX9_addShifted_47 (lv_at hl 4 rfl) ?_
          refine lv_icmp_le (tgt := 77) hx hb dX9_addShifted_49 (by decide) (fun c49 => ?_) (fun c49 => ?_)
          · have hM := g_pos c49 hM
            refine lv_aload_n hx hb dX9_addShifted_77 rfl (lv_at hl 1 rfl) ?_
            refine va_get (D := D) (ci := 9) (v := .ref h0_can) (C := RX9) (T := TX9) (N := 38) hx hb hts iX9 hown hK hP 0 rfl rfl 28 (by decide) k66 (fun _ h9 => h9) rfl dX9_addShifted_78 ?_
            refine lv_iload_n hx hb dX9_addShifted_81 rfl (lv_at hl 2 rfl) ?_
            refine lv_iload hx hb dX9_addShifted_82 (lv_at hl 6 rfl) ?_
            refine lv_iadd hx hb dX9_addShifted_84 ?_
            refine lv_dup2_11 hx hb dX9_addShifted_85 rfl rfl ?_
            obtain ⟨h86, hM⟩ := gi_some hM
            refine va_lald hx hb hK hP 1 3 rfl rfl h86 dX9_addShifted_86 ?_
            refine lv_lload hx hb dX9_addShifted_87 (lv_at hl 0 rfl) ?_
            refine lv_lor hx hb dX9_addShifted_89 ?_
            obtain ⟨h90, hM⟩ := gi_some hM
            refine va_last hx hb hK hP hD hS 1 3 rfl rfl h90 dX9_addShifted_90 (fun H locs hP hD hS => ?_)
            have hP : va_P D vwCl [(h0, .inr (9, [oh0_0, oh0_1, oh0_2, oh0_3, oh0_4, oh0_5, oh0_6, oh0_7, oh0_8, oh0_9, oh0_10, oh0_11, oh0_12, oh0_13, oh0_14, oh0_15, oh0_16, oh0_17, oh0_18, oh0_19, oh0_20, oh0_21, oh0_22, oh0_23, oh0_24, oh0_25, oh0_26, oh0_27, .ref h0_can, oh0_29, oh0_30, oh0_31, oh0_32, oh0_33, oh0_34, oh0_35, oh0_36, oh0_37])), (h0_can, .inl (cy 3, 26978, .inr (.inl (vp_updL v_can_16 (p1 + x6_16).toNatClampNeg ((v_can_16 (p1 + x6_16).toNatClampNeg) ||| ((v_can_16 ((p2 + x6_16) - (p3 / (64 : Int32))).toNatClampNeg) <<< ((p3 - p3 / (64 : Int32) * (64 : Int32)).toInt64 &&& 63)))))))] H := hP
            have hD : va_D A [(h0, .inr (9, [oh0_0, oh0_1, oh0_2, oh0_3, oh0_4, oh0_5, oh0_6, oh0_7, oh0_8, oh0_9, oh0_10, oh0_11, oh0_12, oh0_13, oh0_14, oh0_15, oh0_16, oh0_17, oh0_18, oh0_19, oh0_20, oh0_21, oh0_22, oh0_23, oh0_24, oh0_25, oh0_26, oh0_27, .ref h0_can, oh0_29, oh0_30, oh0_31, oh0_32, oh0_33, oh0_34, oh0_35, oh0_36, oh0_37])), (h0_can, .inl (cy 3, 26978, .inr (.inl (vp_updL v_can_16 (p1 + x6_16).toNatClampNeg ((v_can_16 (p1 + x6_16).toNatClampNeg) ||| ((v_can_16 ((p2 + x6_16) - (p3 / (64 : Int32))).toNatClampNeg) <<< ((p3 - p3 / (64 : Int32) * (64 : Int32)).toInt64 &&& 63)))))))] := hD
            refine lv_iinc (v := x6_16 + (-1 : Int32)) (lv' := [(6, .int (x6_16 + (-1 : Int32))), (7, .long ((v_can_16 ((p2 + x6_16) - (p3 / (64 : Int32))).toNatClampNeg) <<< ((p3 - p3 / (64 : Int32) * (64 : Int32)).toInt64 &&& 63))), (0, .ref h0), (1, .int p1), (2, .int p2), (4, .int (p3 / (64 : Int32))), (5, .int (p3 - p3 / (64 : Int32) * (64 : Int32)))]) hx hb dX9_addShifted_91 hl (k := 6) rfl rfl (by decide) rfl (fun ls hl => ?_)
            refine lv_goto (tgt := 16) hx hb dX9_addShifted_94 (by decide) ?_
            exact ih (x6_16 + (-1 : Int32)) (vp_updL v_can_16 (p1 + x6_16).toNatClampNeg ((v_can_16 (p1 + x6_16).toNatClampNeg) ||| ((v_can_16 ((p2 + x6_16) - (p3 / (64 : Int32))).toNatClampNeg) <<< ((p3 - p3 / (64 : Int32) * (64 : Int32)).toInt64 &&& 63)))) v_can_e16 _ _ _ hM hP hD hS (lv_sub hl [2, 3, 4, 5, 6, 0] rfl) K
          · have hM := g_neg c49 hM
            refine lv_lload hx hb dX9_addShifted_52 (lv_at hl 0 rfl) ?_
            refine lv_aload_n hx hb dX9_addShifted_54 rfl (lv_at hl 1 rfl) ?_
            refine va_get (D := D) (ci := 9) (v := .ref h0_can) (C := RX9) (T := TX9) (N := 38) hx hb hts iX9 hown hK hP 0 rfl rfl 28 (by decide) k66 (fun _ h9 => h9) rfl dX9_addShifted_55 ?_
            refine lv_iload_n hx hb dX9_addShifted_58 rfl (lv_at hl 3 rfl) ?_
            refine lv_iload hx hb dX9_addShifted_59 (lv_at hl 6 rfl) ?_
            refine lv_iadd hx hb dX9_addShifted_61 ?_
            refine lv_iload hx hb dX9_addShifted_62 (lv_at hl 4 rfl) ?_
            refine lv_isub hx hb dX9_addShifted_64 ?_
            refine lv_iconst (v := 1) hx hb dX9_addShifted_65 (by decide) ?_
            refine lv_isub hx hb dX9_addShifted_66 ?_
            obtain ⟨h67, hM⟩ := gi_some hM
            refine va_lald hx hb hK hP 1 3 rfl rfl h67 dX9_addShifted_67 ?_
            refine lv_bipush (v := 64) hx hb dX9_addShifted_68 (by decide) ?_
            refine lv_iload hx hb dX9_addShifted_70 (lv_at hl 5 rfl) ?_
            refine lv_isub hx hb dX9_addShifted_72 ?_
            refine lv_lushr (v := ((v_can_16 (((p2 + x6_16) - (p3 / (64 : Int32))) - (1 : Int32)).toNatClampNeg).toUInt64 >>> (((64 : Int32) - (p3 - p3 / (64 : Int32) * (64 : Int32))).toInt64.toUInt64 &&& Int64.toUInt64 63)).toInt64) hx hb dX9_addShifted_73 rfl ?_
            refine lv_lor hx hb dX9_addShifted_74 ?_
            refine lv_lstore (lv' := [(7, .long (((v_can_16 ((p2 + x6_16) - (p3 / (64 : Int32))).toNatClampNeg) <<< ((p3 - p3 / (64 : Int32) * (64 : Int32)).toInt64 &&& 63)) ||| (((v_can_16 (((p2 + x6_16) - (p3 / (64 : Int32))) - (1 : Int32)).toNatClampNeg).toUInt64 >>> (((64 : Int32) - (p3 - p3 / (64 : Int32) * (64 : Int32))).toInt64.toUInt64 &&& Int64.toUInt64 63)).toInt64))), (0, .ref h0), (1, .int p1), (2, .int p2), (4, .int (p3 / (64 : Int32))), (5, .int (p3 - p3 / (64 : Int32) * (64 : Int32))), (6, .int x6_16)]) hx hb dX9_addShifted_75 hl (by decide) rfl (fun ls hl => ?_)
            refine lv_aload_n hx hb dX9_addShifted_77 rfl (lv_at hl 1 rfl) ?_
            refine va_get (D := D) (ci := 9) (v := .ref h0_can) (C := RX9) (T := TX9) (N := 38) hx hb hts iX9 hown hK hP 0 rfl rfl 28 (by decide) k66 (fun _ h9 => h9) rfl dX9_addShifted_78 ?_
            refine lv_iload_n hx hb dX9_addShifted_81 rfl (lv_at hl 2 rfl) ?_
            refine lv_iload hx hb dX9_addShifted_82 (lv_at hl 6 rfl) ?_
            refine lv_iadd hx hb dX9_addShifted_84 ?_
            refine lv_dup2_11 hx hb dX9_addShifted_85 rfl rfl ?_
            obtain ⟨h86, hM⟩ := gi_some hM
            refine va_lald hx hb hK hP 1 3 rfl rfl h86 dX9_addShifted_86 ?_
            refine lv_lload hx hb dX9_addShifted_87 (lv_at hl 0 rfl) ?_
            refine lv_lor hx hb dX9_addShifted_89 ?_
            obtain ⟨h90, hM⟩ := gi_some hM
            refine va_last hx hb hK hP hD hS 1 3 rfl rfl h90 dX9_addShifted_90 (fun H locs hP hD hS => ?_)
            have hP : va_P D vwCl [(h0, .inr (9, [oh0_0, oh0_1, oh0_2, oh0_3, oh0_4, oh0_5, oh0_6, oh0_7, oh0_8, oh0_9, oh0_10, oh0_11, oh0_12, oh0_13, oh0_14, oh0_15, oh0_16, oh0_17, oh0_18, oh0_19, oh0_20, oh0_21, oh0_22, oh0_23, oh0_24, oh0_25, oh0_26, oh0_27, .ref h0_can, oh0_29, oh0_30, oh0_31, oh0_32, oh0_33, oh0_34, oh0_35, oh0_36, oh0_37])), (h0_can, .inl (cy 3, 26978, .inr (.inl (vp_updL v_can_16 (p1 + x6_16).toNatClampNeg ((v_can_16 (p1 + x6_16).toNatClampNeg) ||| (((v_can_16 ((p2 + x6_16) - (p3 / (64 : Int32))).toNatClampNeg) <<< ((p3 - p3 / (64 : Int32) * (64 : Int32)).toInt64 &&& 63)) ||| (((v_can_16 (((p2 + x6_16) - (p3 / (64 : Int32))) - (1 : Int32)).toNatClampNeg).toUInt64 >>> (((64 : Int32) - (p3 - p3 / (64 : Int32) * (64 : Int32))).toInt64.toUInt64 &&& Int64.toUInt64 63)).toInt64)))))))] H := hP
            have hD : va_D A [(h0, .inr (9, [oh0_0, oh0_1, oh0_2, oh0_3, oh0_4, oh0_5, oh0_6, oh0_7, oh0_8, oh0_9, oh0_10, oh0_11, oh0_12, oh0_13, oh0_14, oh0_15, oh0_16, oh0_17, oh0_18, oh0_19, oh0_20, oh0_21, oh0_22, oh0_23, oh0_24, oh0_25, oh0_26, oh0_27, .ref h0_can, oh0_29, oh0_30, oh0_31, oh0_32, oh0_33, oh0_34, oh0_35, oh0_36, oh0_37])), (h0_can, .inl (cy 3, 26978, .inr (.inl (vp_updL v_can_16 (p1 + x6_16).toNatClampNeg ((v_can_16 (p1 + x6_16).toNatClampNeg) ||| (((v_can_16 ((p2 + x6_16) - (p3 / (64 : Int32))).toNatClampNeg) <<< ((p3 - p3 / (64 : Int32) * (64 : Int32)).toInt64 &&& 63)) ||| (((v_can_16 (((p2 + x6_16) - (p3 / (64 : Int32))) - (1 : Int32)).toNatClampNeg).toUInt64 >>> (((64 : Int32) - (p3 - p3 / (64 : Int32) * (64 : Int32))).toInt64.toUInt64 &&& Int64.toUInt64 63)).toInt64)))))))] := hD
            refine lv_iinc (v := x6_16 + (-1 : Int32)) (lv' := [(6, .int (x6_16 + (-1 : Int32))), (7, .long (((v_can_16 ((p2 + x6_16) - (p3 / (64 : Int32))).toNatClampNeg) <<< ((p3 - p3 / (64 : Int32) * (64 : Int32)).toInt64 &&& 63)) ||| (((v_can_16 (((p2 + x6_16) - (p3 / (64 : Int32))) - (1 : Int32)).toNatClampNeg).toUInt64 >>> (((64 : Int32) - (p3 - p3 / (64 : Int32) * (64 : Int32))).toInt64.toUInt64 &&& Int64.toUInt64 63)).toInt64))), (0, .ref h0), (1, .int p1), (2, .int p2), (4, .int (p3 / (64 : Int32))), (5, .int (p3 - p3 / (64 : Int32) * (64 : Int32)))]) hx hb dX9_addShifted_91 hl (k := 6) rfl rfl (by decide) rfl (fun ls hl => ?_)
            refine lv_goto (tgt := 16) hx hb dX9_addShifted_94 (by decide) ?_
            exact ih (x6_16 + (-1 : Int32)) (vp_updL v_can_16 (p1 + x6_16).toNatClampNeg ((v_can_16 (p1 + x6_16).toNatClampNeg) ||| (((v_can_16 ((p2 + x6_16) - (p3 / (64 : Int32))).toNatClampNeg) <<< ((p3 - p3 / (64 : Int32) * (64 : Int32)).toInt64 &&& 63)) ||| (((v_can_16 (((p2 + x6_16) - (p3 / (64 : Int32))) - (1 : Int32)).toNatClampNeg).toUInt64 >>> (((64 : Int32) - (p3 - p3 / (64 : Int32) * (64 : Int32))).toInt64.toUInt64 &&& Int64.toUInt64 63)).toInt64)))) v_can_e16 _ _ _ hM hP hD hS (lv_sub hl [2, 3, 4, 5, 6, 0] rfl) K
  obtain ⟨v_can_e16, hL16, hM⟩ := ob1_some hM
  refine L16 N (93 : Int32) v_can v_can_e16 _ _ _ hL16 hP hD hS (lv_sub hl [3, 4, 5, 2, 1, 0] rfl) ?_
  intro H locs ls hP hD hS hl
  obtain rfl := si1 hM
  exact hret _ _ _ _ dX9_addShifted_97 hP hD hS

-- ===== X9_findTimes findTimes (II)V =====
abbrev r9_findTimes : Room := { frames := 1, cells := 0, slots := 0, locals := 28 }
def f9_findTimes_L25 (N : Nat) (r16 : Int32) : Nat → Int32 → (Nat → Int64) → Option (Nat → Int64)
  | 0, _, _ => none
  | n + 1, x5_25, v_can_25 => if (94 : Int32) ≤ x5_25 then (some v_can_25) else (gi (((94 : Int32) * r16) + x5_25) 26978 ((f9_findTimes_L25 N r16 n) (x5_25 + (1 : Int32)) (vp_updL v_can_25 (((94 : Int32) * r16) + x5_25).toNatClampNeg (0 : Int64))))
def f9_findTimes_L96 (N : Nat) (p1 : Int32) (v_parts : Nat → Int32) (v_rates : Nat → Int32) (v_ways : Nat → Int32) (x3_2 : Int32) (r16 : Int32) : Nat → Int32 → (Nat → Int64) → Option (Nat → Int64)
  | 0, _, _ => none
  | n + 1, x5_96, v_can_96 => gi (0 : Int32) 2 (if (v_parts (0 : Int32).toNatClampNeg) ≤ x5_96 then (some v_can_96) else (ob1 (f9_isStep N x3_2 x5_96 v_ways) fun r111 => if r111 = (0 : Int32) then ((f9_findTimes_L96 N p1 v_parts v_rates v_ways x3_2 r16 n) (x5_96 + (1 : Int32)) v_can_96) else (ob1 (f9_index N (p1 - (1 : Int32)) x5_96) fun r127 => gi x3_2 14 (ob1 (f9_addShifted N ((94 : Int32) * r16) ((94 : Int32) * r127) (v_rates x3_2.toNatClampNeg) v_can_96) fun v_can_137 => (f9_findTimes_L96 N p1 v_parts v_rates v_ways x3_2 r16 n) (x5_96 + (1 : Int32)) v_can_137))))
def f9_findTimes_L2 (N : Nat) (p1 : Int32) (p2 : Int32) (v_parts : Nat → Int32) (v_rates : Nat → Int32) (v_ways : Nat → Int32) : Nat → Int32 → (Nat → Int64) → Option (Nat → Int64)
  | 0, _, _ => none
  | n + 1, x3_2, v_can_2 => gi (0 : Int32) 2 (if (v_parts (0 : Int32).toNatClampNeg) ≤ x3_2 then (some v_can_2) else (ob1 (f9_index N p1 x3_2) fun r16 => ob1 (f9_findTimes_L25 N r16 N (0 : Int32) v_can_2) fun v_can_e25 => if p1 = (1 : Int32) then (if x3_2 = p2 then (gi x3_2 14 (gi (((94 : Int32) * r16) + ((v_rates x3_2.toNatClampNeg) / (64 : Int32))) 26978 (gi x3_2 14 (gi (((94 : Int32) * r16) + ((v_rates x3_2.toNatClampNeg) / (64 : Int32))) 26978 ((f9_findTimes_L2 N p1 p2 v_parts v_rates v_ways n) (x3_2 + (1 : Int32)) (vp_updL v_can_e25 (((94 : Int32) * r16) + ((v_rates x3_2.toNatClampNeg) / (64 : Int32))).toNatClampNeg ((v_can_e25 (((94 : Int32) * r16) + ((v_rates x3_2.toNatClampNeg) / (64 : Int32))).toNatClampNeg) ||| ((1 : Int64) <<< (((v_rates x3_2.toNatClampNeg) - (v_rates x3_2.toNatClampNeg) / (64 : Int32) * (64 : Int32)).toInt64 &&& 63))))))))) else ((f9_findTimes_L2 N p1 p2 v_parts v_rates v_ways n) (x3_2 + (1 : Int32)) v_can_e25)) else (ob1 (f9_findTimes_L96 N p1 v_parts v_rates v_ways x3_2 r16 N (0 : Int32) v_can_e25) fun v_can_e96 => (f9_findTimes_L2 N p1 p2 v_parts v_rates v_ways n) (x3_2 + (1 : Int32)) v_can_e96)))
def f9_findTimes (N : Nat) (p1 : Int32) (p2 : Int32) (v_parts : Nat → Int32) (v_rates : Nat → Int32) (v_ways : Nat → Int32) (v_can : Nat → Int64) : Option (Nat → Int64) :=
  ob1 (f9_findTimes_L2 N p1 p2 v_parts v_rates v_ways N (0 : Int32) v_can) fun v_can_e2 => some v_can_e2
set_option maxHeartbeats 4000000 in
set_option maxRecDepth 100000 in
theorem c9_findTimes (l : Launch) (D : va_G) (cy : Nat → ClassId) (N : Nat) (h0 h0_parts h0_rates h0_ways h0_can : Nat) (oh0_0 oh0_1 oh0_2 oh0_6 oh0_7 oh0_8 oh0_9 oh0_10 oh0_11 oh0_12 oh0_13 oh0_14 oh0_15 oh0_16 oh0_17 oh0_18 oh0_19 oh0_20 oh0_21 oh0_22 oh0_23 oh0_24 oh0_25 oh0_26 oh0_27 oh0_29 oh0_30 oh0_31 oh0_32 oh0_33 oh0_34 oh0_35 oh0_36 oh0_37 : Value) (p1 : Int32) (p2 : Int32) (v_parts : Nat → Int32) (v_rates : Nat → Int32) (v_ways : Nat → Int32) (v_can : Nat → Int64) (nv_can : Nat → Int64) (hM : f9_findTimes N p1 p2 v_parts v_rates v_ways v_can = some nv_can) (sz : Nat) : CTv l yX9_findTimes wsX9_findTimes r9_findTimes [.ref h0, .int p1, .int p2] D cy sz [(h0, .inr (9, [oh0_0, oh0_1, oh0_2, .ref h0_parts, .ref h0_rates, .ref h0_ways, oh0_6, oh0_7, oh0_8, oh0_9, oh0_10, oh0_11, oh0_12, oh0_13, oh0_14, oh0_15, oh0_16, oh0_17, oh0_18, oh0_19, oh0_20, oh0_21, oh0_22, oh0_23, oh0_24, oh0_25, oh0_26, oh0_27, .ref h0_can, oh0_29, oh0_30, oh0_31, oh0_32, oh0_33, oh0_34, oh0_35, oh0_36, oh0_37])), (h0_parts, .inl (cy 2, 2, .inl v_parts)), (h0_rates, .inl (cy 2, 14, .inl v_rates)), (h0_ways, .inl (cy 2, 14, .inl v_ways)), (h0_can, .inl (cy 3, 26978, .inr (.inl v_can)))] [(h0, .inr (9, [oh0_0, oh0_1, oh0_2, .ref h0_parts, .ref h0_rates, .ref h0_ways, oh0_6, oh0_7, oh0_8, oh0_9, oh0_10, oh0_11, oh0_12, oh0_13, oh0_14, oh0_15, oh0_16, oh0_17, oh0_18, oh0_19, oh0_20, oh0_21, oh0_22, oh0_23, oh0_24, oh0_25, oh0_26, oh0_27, .ref h0_can, oh0_29, oh0_30, oh0_31, oh0_32, oh0_33, oh0_34, oh0_35, oh0_36, oh0_37])), (h0_parts, .inl (cy 2, 2, .inl v_parts)), (h0_rates, .inl (cy 2, 14, .inl v_rates)), (h0_ways, .inl (cy 2, 14, .inl v_ways)), (h0_can, .inl (cy 3, 26978, .inr (.inl nv_can)))] := by
  unfold f9_findTimes at hM
  refine ct_ov (cc := cX9_findTimes) (maxL := 6)  (by decide +kernel) rfl (Nat.le_of_ble_eq_true rfl) (lv0 := [(0, .ref h0), (1, .int p1), (2, .int p2)]) rfl ?_
  intro p e s m args below meth c A Q ls hx hb hts hown hml hK hP hD hS hA hret hl
  have hown : s.vm.findClass RX9 = some m.cls := hown
  have k13 := hts (.fieldLink RX9 13 "CaveYearsModel" "parts" "[I") (List.mem_of_getElem? (i := 1) rfl)
  have iX9 := (fun w h => (List.mem_cons_of_mem _ (List.mem_append_right _ h)) : ∀ w ∈ wsX90, w ∈ wsX9_findTimes)
  have k66 := hts (.fieldLink RX9 66 "CaveYearsModel" "can" "[J") (List.mem_of_getElem? (i := 2) rfl)
  have k17 := hts (.fieldLink RX9 17 "CaveYearsModel" "rates" "[I") (List.mem_of_getElem? (i := 3) rfl)
  refine lv_iconst (v := 0) hx hb dX9_findTimes_0 (by decide) ?_
  refine lv_istore_n (lv' := [(3, .int (0 : Int32)), (0, .ref h0), (1, .int p1), (2, .int p2)]) hx hb dX9_findTimes_1 rfl hl (by decide) rfl (fun ls hl => ?_)
  have L2 : ∀ (n : Nat) (x3_2 : Int32) (v_can_2 : Nat → Int64) (v_can_e2 : Nat → Int64) (H : Heap) (locs : List Loc) (ls : Array Slot), f9_findTimes_L2 N p1 p2 v_parts v_rates v_ways n x3_2 v_can_2 = some v_can_e2 → va_P D vwCl [(h0, .inr (9, [oh0_0, oh0_1, oh0_2, .ref h0_parts, .ref h0_rates, .ref h0_ways, oh0_6, oh0_7, oh0_8, oh0_9, oh0_10, oh0_11, oh0_12, oh0_13, oh0_14, oh0_15, oh0_16, oh0_17, oh0_18, oh0_19, oh0_20, oh0_21, oh0_22, oh0_23, oh0_24, oh0_25, oh0_26, oh0_27, .ref h0_can, oh0_29, oh0_30, oh0_31, oh0_32, oh0_33, oh0_34, oh0_35, oh0_36, oh0_37])), (h0_parts, .inl (cy 2, 2, .inl v_parts)), (h0_rates, .inl (cy 2, 14, .inl v_rates)), (h0_ways, .inl (cy 2, 14, .inl v_ways)), (h0_can, .inl (cy 3, 26978, .inr (.inl v_can_2)))] H → va_D A [(h0, .inr (9, [oh0_0, oh0_1, oh0_2, .ref h0_parts, .ref h0_rates, .ref h0_ways, oh0_6, oh0_7, oh0_8, oh0_9, oh0_10, oh0_11, oh0_12, oh0_13, oh0_14, oh0_15, oh0_16, oh0_17, oh0_18, oh0_19, oh0_20, oh0_21, oh0_22, oh0_23, oh0_24, oh0_25, oh0_26, oh0_27, .ref h0_can, oh0_29, oh0_30, oh0_31, oh0_32, oh0_33, oh0_34, oh0_35, oh0_36, oh0_37])), (h0_parts, .inl (cy 2, 2, .inl v_parts)), (h0_rates, .inl (cy 2, 14, .inl v_rates)), (h0_ways, .inl (cy 2, 14, .inl v_ways)), (h0_can, .inl (cy 3, 26978, .inr (.inl v_can_2)))] → va_S A s.heap H locs → lv_has ls 6 [(0, .ref h0), (1, .int p1), (2, .int p2), (3, .int x3_2)] → (∀ (H : Heap) (locs : List Loc) (ls : Array Slot), va_P D vwCl [(h0, .inr (9, [oh0_0, oh0_1, oh0_2, .ref h0_parts, .ref h0_rates, .ref h0_ways, oh0_6, oh0_7, oh0_8, oh0_9, oh0_10, oh0_11, oh0_12, oh0_13, oh0_14, oh0_15, oh0_16, oh0_17, oh0_18, oh0_19, oh0_20, oh0_21, oh0_22, oh0_23, oh0_24, oh0_25, oh0_26, oh0_27, .ref h0_can, oh0_29, oh0_30, oh0_31, oh0_32, oh0_33, oh0_34, oh0_35, oh0_36, oh0_37])), (h0_parts, .inl (cy 2, 2, .inl v_parts)), (h0_rates, .inl (cy 2, 14, .inl v_rates)), (h0_ways, .inl (cy 2, 14, .inl v_ways)), (h0_can, .inl (cy 3, 26978, .inr (.inl v_can_e2)))] H → va_D A [(h0, .inr (9, [oh0_0, oh0_1, oh0_2, .ref h0_parts, .ref h0_rates, .ref h0_ways, oh0_6, oh0_7, oh0_8, oh0_9, oh0_10, oh0_11, oh0_12, oh0_13, oh0_14, oh0_15, oh0_16, oh0_17, oh0_18, oh0_19, oh0_20, oh0_21, oh0_22, oh0_23, oh0_24, oh0_25, oh0_26, oh0_27, .ref h0_can, oh0_29, oh0_30, oh0_31, oh0_32, oh0_33, oh0_34, oh0_35, oh0_36, oh0_37])), (h0_parts, .inl (cy 2, 2, .inl v_parts)), (h0_rates, .inl (cy 2, 14, .inl v_rates)), (h0_ways, .inl (cy 2, 14, .inl v_ways)), (h0_can, .inl (cy 3, 26978, .inr (.inl v_can_e2)))] → va_S A s.heap H locs → lv_has ls 6 [] → W p l e r9_findTimes s m args below meth c H locs 0 0 Q (F0 m 152 ls [])) → W p l e r9_findTimes s m args below meth c H locs 0 0 Q (F0 m 2 ls []) := by
    intro n
    induction n with
    | zero =>
      intro x3_2 v_can_2 v_can_e2 H locs ls hM
      exact absurd hM (by simp [f9_findTimes_L2])
    | succ n ih =>
      intro x3_2 v_can_2 v_can_e2 H locs ls hM hP hD hS hl K
      rw [f9_findTimes_L2] at hM
      refine lv_iload_n hx hb dX9_findTimes_2 rfl (lv_at hl 3 rfl) ?_
      refine lv_aload_n hx hb dX9_findTimes_3 rfl (lv_at hl 0 rfl) ?_
      refine va_get (D := D) (ci := 9) (v := .ref h0_parts) (C := RX9) (T := TX9) (N := 38) hx hb hts iX9 hown hK hP 0 rfl rfl 3 (by decide) k13 (fun _ h9 => h9) rfl dX9_findTimes_4 ?_
      refine lv_iconst (v := 0) hx hb dX9_findTimes_7 (by decide) ?_
      obtain ⟨h8, hM⟩ := gi_some hM
      refine va_iald hx hb hK hP 1 2 rfl rfl h8 dX9_findTimes_8 ?_
      refine lv_icmp_ge (tgt := 152) hx hb dX9_findTimes_9 (by decide) (fun c9 => ?_) (fun c9 => ?_)
      · have hM := g_pos c9 hM
        obtain rfl := si1 hM
        exact K _ _ _ hP hD hS (lv_sub hl [] rfl)
      · have hM := g_neg c9 hM
        refine lv_bipush (v := 94) hx hb dX9_findTimes_12 (by decide) ?_
        refine lv_iload_n hx hb dX9_findTimes_14 rfl (lv_at hl 1 rfl) ?_
        refine lv_iload_n hx hb dX9_findTimes_15 rfl (lv_at hl 3 rfl) ?_
        obtain ⟨r16, hc16, hM⟩ := ob1_some hM
        refine cl_si (As := [.int p1, .int x3_2]) (rest := [.int (94 : Int32)]) (wr := [(h0, .inr (9, [oh0_0, oh0_1, oh0_2, .ref h0_parts, .ref h0_rates, .ref h0_ways, oh0_6, oh0_7, oh0_8, oh0_9, oh0_10, oh0_11, oh0_12, oh0_13, oh0_14, oh0_15, oh0_16, oh0_17, oh0_18, oh0_19, oh0_20, oh0_21, oh0_22, oh0_23, oh0_24, oh0_25, oh0_26, oh0_27, .ref h0_can, oh0_29, oh0_30, oh0_31, oh0_32, oh0_33, oh0_34, oh0_35, oh0_36, oh0_37])), (h0_parts, .inl (cy 2, 2, .inl v_parts)), (h0_rates, .inl (cy 2, 14, .inl v_rates)), (h0_ways, .inl (cy 2, 14, .inl v_ways)), (h0_can, .inl (cy 3, 26978, .inr (.inl v_can_2)))]) (ws2 := [(h0, .inr (9, [oh0_0, oh0_1, oh0_2, .ref h0_parts, .ref h0_rates, .ref h0_ways, oh0_6, oh0_7, oh0_8, oh0_9, oh0_10, oh0_11, oh0_12, oh0_13, oh0_14, oh0_15, oh0_16, oh0_17, oh0_18, oh0_19, oh0_20, oh0_21, oh0_22, oh0_23, oh0_24, oh0_25, oh0_26, oh0_27, .ref h0_can, oh0_29, oh0_30, oh0_31, oh0_32, oh0_33, oh0_34, oh0_35, oh0_36, oh0_37])), (h0_parts, .inl (cy 2, 2, .inl v_parts)), (h0_rates, .inl (cy 2, 14, .inl v_rates)), (h0_ways, .inl (cy 2, 14, .inl v_ways)), (h0_can, .inl (cy 3, 26978, .inr (.inl v_can_2)))]) (isC := []) (isR := [0, 1, 2, 3, 4]) (pm := [0, 1, 2, 3, 4]) hx hb hml hown hts (c9_index l D cy N p1 x3_2 r16 hc16) (va_cwS 2 hts gX9_findTimes_X9_index rfl rfl rfl (by decide +kernel) ⟨Nat.le_of_ble_eq_true rfl, Nat.le_of_ble_eq_true rfl⟩) hK hP hD hS hA rfl rfl rfl (by decide) rfl rfl rfl hl.1 (Nat.le_of_ble_eq_true rfl) dX9_findTimes_16 ⟨Nat.zero_le _, Nat.zero_le _⟩ rfl rfl (fun H locs hP hD hS => ?_)
        refine lv_imul hx hb dX9_findTimes_19 ?_
        refine lv_istore (lv' := [(4, .int ((94 : Int32) * r16)), (0, .ref h0), (1, .int p1), (2, .int p2), (3, .int x3_2)]) hx hb dX9_findTimes_20 hl (by decide) rfl (fun ls hl => ?_)
        refine lv_iconst (v := 0) hx hb dX9_findTimes_22 (by decide) ?_
        refine lv_istore (lv' := [(5, .int (0 : Int32)), (4, .int ((94 : Int32) * r16)), (0, .ref h0), (1, .int p1), (2, .int p2), (3, .int x3_2)]) hx hb dX9_findTimes_23 hl (by decide) rfl (fun ls hl => ?_)
        have L25 : ∀ (n : Nat) (x5_25 : Int32) (v_can_25 : Nat → Int64) (v_can_e25 : Nat → Int64) (H : Heap) (locs : List Loc) (ls : Array Slot), f9_findTimes_L25 N r16 n x5_25 v_can_25 = some v_can_e25 → va_P D vwCl [(h0, .inr (9, [oh0_0, oh0_1, oh0_2, .ref h0_parts, .ref h0_rates, .ref h0_ways, oh0_6, oh0_7, oh0_8, oh0_9, oh0_10, oh0_11, oh0_12, oh0_13, oh0_14, oh0_15, oh0_16, oh0_17, oh0_18, oh0_19, oh0_20, oh0_21, oh0_22, oh0_23, oh0_24, oh0_25, oh0_26, oh0_27, .ref h0_can, oh0_29, oh0_30, oh0_31, oh0_32, oh0_33, oh0_34, oh0_35, oh0_36, oh0_37])), (h0_parts, .inl (cy 2, 2, .inl v_parts)), (h0_rates, .inl (cy 2, 14, .inl v_rates)), (h0_ways, .inl (cy 2, 14, .inl v_ways)), (h0_can, .inl (cy 3, 26978, .inr (.inl v_can_25)))] H → va_D A [(h0, .inr (9, [oh0_0, oh0_1, oh0_2, .ref h0_parts, .ref h0_rates, .ref h0_ways, oh0_6, oh0_7, oh0_8, oh0_9, oh0_10, oh0_11, oh0_12, oh0_13, oh0_14, oh0_15, oh0_16, oh0_17, oh0_18, oh0_19, oh0_20, oh0_21, oh0_22, oh0_23, oh0_24, oh0_25, oh0_26, oh0_27, .ref h0_can, oh0_29, oh0_30, oh0_31, oh0_32, oh0_33, oh0_34, oh0_35, oh0_36, oh0_37])), (h0_parts, .inl (cy 2, 2, .inl v_parts)), (h0_rates, .inl (cy 2, 14, .inl v_rates)), (h0_ways, .inl (cy 2, 14, .inl v_ways)), (h0_can, .inl (cy 3, 26978, .inr (.inl v_can_25)))] → va_S A s.heap H locs → lv_has ls 6 [(0, .ref h0), (1, .int p1), (2, .int p2), (3, .int x3_2), (4, .int ((94 : Int32) * r16)), (5, .int x5_25)] → (∀ (H : Heap) (locs : List Loc) (ls : Array Slot), va_P D vwCl [(h0, .inr (9, [oh0_0, oh0_1, oh0_2, .ref h0_parts, .ref h0_rates, .ref h0_ways, oh0_6, oh0_7, oh0_8, oh0_9, oh0_10, oh0_11, oh0_12, oh0_13, oh0_14, oh0_15, oh0_16, oh0_17, oh0_18, oh0_19, oh0_20, oh0_21, oh0_22, oh0_23, oh0_24, oh0_25, oh0_26, oh0_27, .ref h0_can, oh0_29, oh0_30, oh0_31, oh0_32, oh0_33, oh0_34, oh0_35, oh0_36, oh0_37])), (h0_parts, .inl (cy 2, 2, .inl v_parts)), (h0_rates, .inl (cy 2, 14, .inl v_rates)), (h0_ways, .inl (cy 2, 14, .inl v_ways)), (h0_can, .inl (cy 3, 26978, .inr (.inl v_can_e25)))] H → va_D A [(h0, .inr (9, [oh0_0, oh0_1, oh0_2, .ref h0_parts, .ref h0_rates, .ref h0_ways, oh0_6, oh0_7, oh0_8, oh0_9, oh0_10, oh0_11, oh0_12, oh0_13, oh0_14, oh0_15, oh0_16, oh0_17, oh0_18, oh0_19, oh0_20, oh0_21, oh0_22, oh0_23, oh0_24, oh0_25, oh0_26, oh0_27, .ref h0_can, oh0_29, oh0_30, oh0_31, oh0_32, oh0_33, oh0_34, oh0_35, oh0_36, oh0_37])), (h0_parts, .inl (cy 2, 2, .inl v_parts)), (h0_rates, .inl (cy 2, 14, .inl v_rates)), (h0_ways, .inl (cy 2, 14, .inl v_ways)), (h0_can, .inl (cy 3, 26978, .inr (.inl v_can_e25)))] → va_S A s.heap H locs → lv_has ls 6 [(0, .ref h0), (1, .int p1), (2, .int p2), (3, .int x3_2), (4, .int ((94 : Int32) * r16))] → W p l e r9_findTimes s m args below meth c H locs 0 0 Q (F0 m 49 ls [])) → W p l e r9_findTimes s m args below meth c H locs 0 0 Q (F0 m 25 ls []) := by
          intro n
          induction n with
          | zero =>
            intro x5_25 v_can_25 v_can_e25 H locs ls hM
            exact absurd hM (by simp [f9_findTimes_L25])
          | succ n ih =>
            intro x5_25 v_can_25 v_can_e25 H locs ls hM hP hD hS hl K
            rw [f9_findTimes_L25] at hM
            refine lv_iload hx hb dX9_findTimes_25 (lv_at hl 5 rfl) ?_
            refine lv_bipush (v := 94) hx hb dX9_findTimes_27 (by decide) ?_
            refine lv_icmp_ge (tgt := 49) hx hb dX9_findTimes_29 (by decide) (fun c29 => ?_) (fun c29 => ?_)
            · have hM := g_pos c29 hM
              obtain rfl := si1 hM
              exact K _ _ _ hP hD hS (lv_sub hl [0, 1, 2, 3, 4] rfl)
            · have hM := g_neg c29 hM
              refine lv_aload_n hx hb dX9_findTimes_32 rfl (lv_at hl 0 rfl) ?_
              refine va_get (D := D) (ci := 9) (v := .ref h0_can) (C := RX9) (T := TX9) (N := 38) hx hb hts iX9 hown hK hP 0 rfl rfl 28 (by decide) k66 (fun _ h9 => h9) rfl dX9_findTimes_33 ?_
              refine lv_iload hx hb dX9_findTimes_36 (lv_at hl 4 rfl) ?_
              refine lv_iload hx hb dX9_findTimes_38 (lv_at hl 5 rfl) ?_
              refine lv_iadd hx hb dX9_findTimes_40 ?_
              refine lv_lconst (v := 0) hx hb dX9_findTimes_41 (by decide) ?_
              obtain ⟨h42, hM⟩ := gi_some hM
              refine va_last hx hb hK hP hD hS 4 3 rfl rfl h42 dX9_findTimes_42 (fun H locs hP hD hS => ?_)
              have hP : va_P D vwCl [(h0, .inr (9, [oh0_0, oh0_1, oh0_2, .ref h0_parts, .ref h0_rates, .ref h0_ways, oh0_6, oh0_7, oh0_8, oh0_9, oh0_10, oh0_11, oh0_12, oh0_13, oh0_14, oh0_15, oh0_16, oh0_17, oh0_18, oh0_19, oh0_20, oh0_21, oh0_22, oh0_23, oh0_24, oh0_25, oh0_26, oh0_27, .ref h0_can, oh0_29, oh0_30, oh0_31, oh0_32, oh0_33, oh0_34, oh0_35, oh0_36, oh0_37])), (h0_parts, .inl (cy 2, 2, .inl v_parts)), (h0_rates, .inl (cy 2, 14, .inl v_rates)), (h0_ways, .inl (cy 2, 14, .inl v_ways)), (h0_can, .inl (cy 3, 26978, .inr (.inl (vp_updL v_can_25 (((94 : Int32) * r16) + x5_25).toNatClampNeg (0 : Int64)))))] H := hP
              have hD : va_D A [(h0, .inr (9, [oh0_0, oh0_1, oh0_2, .ref h0_parts, .ref h0_rates, .ref h0_ways, oh0_6, oh0_7, oh0_8, oh0_9, oh0_10, oh0_11, oh0_12, oh0_13, oh0_14, oh0_15, oh0_16, oh0_17, oh0_18, oh0_19, oh0_20, oh0_21, oh0_22, oh0_23, oh0_24, oh0_25, oh0_26, oh0_27, .ref h0_can, oh0_29, oh0_30, oh0_31, oh0_32, oh0_33, oh0_34, oh0_35, oh0_36, oh0_37])), (h0_parts, .inl (cy 2, 2, .inl v_parts)), (h0_rates, .inl (cy 2, 14, .inl v_rates)), (h0_ways, .inl (cy 2, 14, .inl v_ways)), (h0_can, .inl (cy 3, 26978, .inr (.inl (vp_updL v_can_25 (((94 : Int32) * r16) + x5_25).toNatClampNeg (0 : Int64)))))] := hD
              refine lv_iinc (v := x5_25 + (1 : Int32)) (lv' := [(5, .int (x5_25 + (1 : Int32))), (0, .ref h0), (1, .int p1), (2, .int p2), (3, .int x3_2), (4, .int ((94 : Int32) * r16))]) hx hb dX9_findTimes_43 hl (k := 5) rfl rfl (by decide) rfl (fun ls hl => ?_)
              refine lv_goto (tgt := 25) hx hb dX9_findTimes_46 (by decide) ?_
              exact ih (x5_25 + (1 : Int32)) (vp_updL v_can_25 (((94 : Int32) * r16) + x5_25).toNatClampNeg (0 : Int64)) v_can_e25 _ _ _ hM hP hD hS (lv_sub hl [1, 2, 3, 4, 5, 0] rfl) K
        obtain ⟨v_can_e25, hL25, hM⟩ := ob1_some hM
        refine L25 N (0 : Int32) v_can_2 v_can_e25 _ _ _ hL25 hP hD hS (lv_sub hl [2, 3, 4, 5, 1, 0] rfl) ?_
        intro H locs ls hP hD hS hl
        refine lv_iload_n hx hb dX9_findTimes_49 rfl (lv_at hl 1 rfl) ?_
        refine lv_iconst (v := 1) hx hb dX9_findTimes_50 (by decide) ?_
        refine lv_icmp_ne (tgt := 93) hx hb dX9_findTimes_51 (by decide) (fun c51 => ?_) (fun c51 => ?_)
        · have hM := g_neg c51 hM
          refine lv_iconst (v := 0) hx hb dX9_findTimes_93 (by decide) ?_
          refine lv_istore (lv' := [(5, .int (0 : Int32)), (0, .ref h0), (1, .int p1), (2, .int p2), (3, .int x3_2), (4, .int ((94 : Int32) * r16))]) hx hb dX9_findTimes_94 hl (by decide) rfl (fun ls hl => ?_)
          have L96 : ∀ (n : Nat) (x5_96 : Int32) (v_can_96 : Nat → Int64) (v_can_e96 : Nat → Int64) (H : Heap) (locs : List Loc) (ls : Array Slot), f9_findTimes_L96 N p1 v_parts v_rates v_ways x3_2 r16 n x5_96 v_can_96 = some v_can_e96 → va_P D vwCl [(h0, .inr (9, [oh0_0, oh0_1, oh0_2, .ref h0_parts, .ref h0_rates, .ref h0_ways, oh0_6, oh0_7, oh0_8, oh0_9, oh0_10, oh0_11, oh0_12, oh0_13, oh0_14, oh0_15, oh0_16, oh0_17, oh0_18, oh0_19, oh0_20, oh0_21, oh0_22, oh0_23, oh0_24, oh0_25, oh0_26, oh0_27, .ref h0_can, oh0_29, oh0_30, oh0_31, oh0_32, oh0_33, oh0_34, oh0_35, oh0_36, oh0_37])), (h0_parts, .inl (cy 2, 2, .inl v_parts)), (h0_rates, .inl (cy 2, 14, .inl v_rates)), (h0_ways, .inl (cy 2, 14, .inl v_ways)), (h0_can, .inl (cy 3, 26978, .inr (.inl v_can_96)))] H → va_D A [(h0, .inr (9, [oh0_0, oh0_1, oh0_2, .ref h0_parts, .ref h0_rates, .ref h0_ways, oh0_6, oh0_7, oh0_8, oh0_9, oh0_10, oh0_11, oh0_12, oh0_13, oh0_14, oh0_15, oh0_16, oh0_17, oh0_18, oh0_19, oh0_20, oh0_21, oh0_22, oh0_23, oh0_24, oh0_25, oh0_26, oh0_27, .ref h0_can, oh0_29, oh0_30, oh0_31, oh0_32, oh0_33, oh0_34, oh0_35, oh0_36, oh0_37])), (h0_parts, .inl (cy 2, 2, .inl v_parts)), (h0_rates, .inl (cy 2, 14, .inl v_rates)), (h0_ways, .inl (cy 2, 14, .inl v_ways)), (h0_can, .inl (cy 3, 26978, .inr (.inl v_can_96)))] → va_S A s.heap H locs → lv_has ls 6 [(0, .ref h0), (1, .int p1), (2, .int p2), (3, .int x3_2), (4, .int ((94 : Int32) * r16)), (5, .int x5_96)] → (∀ (H : Heap) (locs : List Loc) (ls : Array Slot), va_P D vwCl [(h0, .inr (9, [oh0_0, oh0_1, oh0_2, .ref h0_parts, .ref h0_rates, .ref h0_ways, oh0_6, oh0_7, oh0_8, oh0_9, oh0_10, oh0_11, oh0_12, oh0_13, oh0_14, oh0_15, oh0_16, oh0_17, oh0_18, oh0_19, oh0_20, oh0_21, oh0_22, oh0_23, oh0_24, oh0_25, oh0_26, oh0_27, .ref h0_can, oh0_29, oh0_30, oh0_31, oh0_32, oh0_33, oh0_34, oh0_35, oh0_36, oh0_37])), (h0_parts, .inl (cy 2, 2, .inl v_parts)), (h0_rates, .inl (cy 2, 14, .inl v_rates)), (h0_ways, .inl (cy 2, 14, .inl v_ways)), (h0_can, .inl (cy 3, 26978, .inr (.inl v_can_e96)))] H → va_D A [(h0, .inr (9, [oh0_0, oh0_1, oh0_2, .ref h0_parts, .ref h0_rates, .ref h0_ways, oh0_6, oh0_7, oh0_8, oh0_9, oh0_10, oh0_11, oh0_12, oh0_13, oh0_14, oh0_15, oh0_16, oh0_17, oh0_18, oh0_19, oh0_20, oh0_21, oh0_22, oh0_23, oh0_24, oh0_25, oh0_26, oh0_27, .ref h0_can, oh0_29, oh0_30, oh0_31, oh0_32, oh0_33, oh0_34, oh0_35, oh0_36, oh0_37])), (h0_parts, .inl (cy 2, 2, .inl v_parts)), (h0_rates, .inl (cy 2, 14, .inl v_rates)), (h0_ways, .inl (cy 2, 14, .inl v_ways)), (h0_can, .inl (cy 3, 26978, .inr (.inl v_can_e96)))] → va_S A s.heap H locs → lv_has ls 6 [(0, .ref h0), (1, .int p1), (2, .int p2), (3, .int x3_2)] → W p l e r9_findTimes s m args below meth c H locs 0 0 Q (F0 m 146 ls [])) → W p l e r9_findTimes s m args below meth c H locs 0 0 Q (F0 m 96 ls []) := by
            intro n
            induction n with
            | zero =>
              intro x5_96 v_can_96 v_can_e96 H locs ls hM
              exact absurd hM (by simp [f9_findTimes_L96])
            | succ n ih =>
              intro x5_96 v_can_96 v_can_e96 H locs ls hM hP hD hS hl K
              rw [f9_findTimes_L96] at hM
              refine lv_iload hx hb dX9_findTimes_96 (lv_at hl 5 rfl) ?_
              refine lv_aload_n hx hb dX9_findTimes_98 rfl (lv_at hl 0 rfl) ?_
              refine va_get (D := D) (ci := 9) (v := .ref h0_parts) (C := RX9) (T := TX9) (N := 38) hx hb hts iX9 hown hK hP 0 rfl rfl 3 (by decide) k13 (fun _ h9 => h9) rfl dX9_findTimes_99 ?_
              refine lv_iconst (v := 0) hx hb dX9_findTimes_102 (by decide) ?_
              obtain ⟨h103, hM⟩ := gi_some hM
              refine va_iald hx hb hK hP 1 2 rfl rfl h103 dX9_findTimes_103 ?_
              refine lv_icmp_ge (tgt := 146) hx hb dX9_findTimes_104 (by decide) (fun c104 => ?_) (fun c104 => ?_)
              · have hM := g_pos c104 hM
                obtain rfl := si1 hM
                exact K _ _ _ hP hD hS (lv_sub hl [0, 1, 2, 3] rfl)
              · have hM := g_neg c104 hM
                refine lv_aload_n hx hb dX9_findTimes_107 rfl (lv_at hl 0 rfl) ?_
                refine lv_iload_n hx hb dX9_findTimes_108 rfl (lv_at hl 3 rfl) ?_
                refine lv_iload hx hb dX9_findTimes_109 (lv_at hl 5 rfl) ?_
                obtain ⟨r111, hc111, hM⟩ := ob1_some hM
                refine cl_vi (As := [.int x3_2, .int x5_96]) (rest := []) (ci := 9) (q0 := 0) (wr := [(h0_parts, .inl (cy 2, 2, .inl v_parts)), (h0_rates, .inl (cy 2, 14, .inl v_rates)), (h0_can, .inl (cy 3, 26978, .inr (.inl v_can_96)))]) (ws2 := [(h0, .inr (9, [oh0_0, oh0_1, oh0_2, .ref h0_parts, .ref h0_rates, .ref h0_ways, oh0_6, oh0_7, oh0_8, oh0_9, oh0_10, oh0_11, oh0_12, oh0_13, oh0_14, oh0_15, oh0_16, oh0_17, oh0_18, oh0_19, oh0_20, oh0_21, oh0_22, oh0_23, oh0_24, oh0_25, oh0_26, oh0_27, .ref h0_can, oh0_29, oh0_30, oh0_31, oh0_32, oh0_33, oh0_34, oh0_35, oh0_36, oh0_37])), (h0_parts, .inl (cy 2, 2, .inl v_parts)), (h0_rates, .inl (cy 2, 14, .inl v_rates)), (h0_ways, .inl (cy 2, 14, .inl v_ways)), (h0_can, .inl (cy 3, 26978, .inr (.inl v_can_96)))]) (isC := [0, 3]) (isR := [1, 2, 4]) (pm := [3, 0, 1, 4, 2]) hx hb hml hown hts (c9_isStep l D cy N h0 h0_ways oh0_0 oh0_1 oh0_2 (.ref h0_parts) (.ref h0_rates) oh0_6 oh0_7 oh0_8 oh0_9 oh0_10 oh0_11 oh0_12 oh0_13 oh0_14 oh0_15 oh0_16 oh0_17 oh0_18 oh0_19 oh0_20 oh0_21 oh0_22 oh0_23 oh0_24 oh0_25 oh0_26 oh0_27 (.ref h0_can) oh0_29 oh0_30 oh0_31 oh0_32 oh0_33 oh0_34 oh0_35 oh0_36 oh0_37 x3_2 x5_96 v_ways r111 hc111) (cwV 2 hts gX9_findTimes_X9_isStep rfl rfl rfl (by decide +kernel) ⟨Nat.le_of_ble_eq_true rfl, Nat.le_of_ble_eq_true rfl⟩) hK hP hD hS hA rfl rfl rfl rfl rfl (by decide) rfl rfl rfl hl.1 (Nat.le_of_ble_eq_true rfl) dX9_findTimes_111 ⟨Nat.zero_le _, Nat.zero_le _⟩ rfl rfl (fun H locs hP hD hS => ?_)
                refine lv_if_eq (tgt := 140) hx hb dX9_findTimes_114 (by decide) (fun c114 => ?_) (fun c114 => ?_)
                · have hM := g_pos c114 hM
                  refine lv_iinc (v := x5_96 + (1 : Int32)) (lv' := [(5, .int (x5_96 + (1 : Int32))), (0, .ref h0), (1, .int p1), (2, .int p2), (3, .int x3_2), (4, .int ((94 : Int32) * r16))]) hx hb dX9_findTimes_140 hl (k := 5) rfl rfl (by decide) rfl (fun ls hl => ?_)
                  refine lv_goto (tgt := 96) hx hb dX9_findTimes_143 (by decide) ?_
                  exact ih (x5_96 + (1 : Int32)) v_can_96 v_can_e96 _ _ _ hM hP hD hS (lv_sub hl [1, 2, 3, 4, 5, 0] rfl) K
                · have hM := g_neg c114 hM
                  refine lv_aload_n hx hb dX9_findTimes_117 rfl (lv_at hl 0 rfl) ?_
                  refine lv_iload hx hb dX9_findTimes_118 (lv_at hl 4 rfl) ?_
                  refine lv_bipush (v := 94) hx hb dX9_findTimes_120 (by decide) ?_
                  refine lv_iload_n hx hb dX9_findTimes_122 rfl (lv_at hl 1 rfl) ?_
                  refine lv_iconst (v := 1) hx hb dX9_findTimes_123 (by decide) ?_
                  refine lv_isub hx hb dX9_findTimes_124 ?_
                  refine lv_iload hx hb dX9_findTimes_125 (lv_at hl 5 rfl) ?_
                  obtain ⟨r127, hc127, hM⟩ := ob1_some hM
                  refine cl_si (As := [.int (p1 - (1 : Int32)), .int x5_96]) (rest := [.int (94 : Int32), .int ((94 : Int32) * r16), .ref h0]) (wr := [(h0, .inr (9, [oh0_0, oh0_1, oh0_2, .ref h0_parts, .ref h0_rates, .ref h0_ways, oh0_6, oh0_7, oh0_8, oh0_9, oh0_10, oh0_11, oh0_12, oh0_13, oh0_14, oh0_15, oh0_16, oh0_17, oh0_18, oh0_19, oh0_20, oh0_21, oh0_22, oh0_23, oh0_24, oh0_25, oh0_26, oh0_27, .ref h0_can, oh0_29, oh0_30, oh0_31, oh0_32, oh0_33, oh0_34, oh0_35, oh0_36, oh0_37])), (h0_parts, .inl (cy 2, 2, .inl v_parts)), (h0_rates, .inl (cy 2, 14, .inl v_rates)), (h0_ways, .inl (cy 2, 14, .inl v_ways)), (h0_can, .inl (cy 3, 26978, .inr (.inl v_can_96)))]) (ws2 := [(h0, .inr (9, [oh0_0, oh0_1, oh0_2, .ref h0_parts, .ref h0_rates, .ref h0_ways, oh0_6, oh0_7, oh0_8, oh0_9, oh0_10, oh0_11, oh0_12, oh0_13, oh0_14, oh0_15, oh0_16, oh0_17, oh0_18, oh0_19, oh0_20, oh0_21, oh0_22, oh0_23, oh0_24, oh0_25, oh0_26, oh0_27, .ref h0_can, oh0_29, oh0_30, oh0_31, oh0_32, oh0_33, oh0_34, oh0_35, oh0_36, oh0_37])), (h0_parts, .inl (cy 2, 2, .inl v_parts)), (h0_rates, .inl (cy 2, 14, .inl v_rates)), (h0_ways, .inl (cy 2, 14, .inl v_ways)), (h0_can, .inl (cy 3, 26978, .inr (.inl v_can_96)))]) (isC := []) (isR := [0, 1, 2, 3, 4]) (pm := [0, 1, 2, 3, 4]) hx hb hml hown hts (c9_index l D cy N (p1 - (1 : Int32)) x5_96 r127 hc127) (va_cwS 2 hts gX9_findTimes_X9_index rfl rfl rfl (by decide +kernel) ⟨Nat.le_of_ble_eq_true rfl, Nat.le_of_ble_eq_true rfl⟩) hK hP hD hS hA rfl rfl rfl (by decide) rfl rfl rfl hl.1 (Nat.le_of_ble_eq_true rfl) dX9_findTimes_127 ⟨Nat.zero_le _, Nat.zero_le _⟩ rfl rfl (fun H locs hP hD hS => ?_)
                  refine lv_imul hx hb dX9_findTimes_130 ?_
                  refine lv_aload_n hx hb dX9_findTimes_131 rfl (lv_at hl 0 rfl) ?_
                  refine va_get (D := D) (ci := 9) (v := .ref h0_rates) (C := RX9) (T := TX9) (N := 38) hx hb hts iX9 hown hK hP 0 rfl rfl 4 (by decide) k17 (fun _ h9 => h9) rfl dX9_findTimes_132 ?_
                  refine lv_iload_n hx hb dX9_findTimes_135 rfl (lv_at hl 3 rfl) ?_
                  obtain ⟨h136, hM⟩ := gi_some hM
                  refine va_iald hx hb hK hP 2 2 rfl rfl h136 dX9_findTimes_136 ?_
                  obtain ⟨v_can_137, hc137, hM⟩ := ob1_some hM
                  refine cl_vv (As := [.int ((94 : Int32) * r16), .int ((94 : Int32) * r127), .int (v_rates x3_2.toNatClampNeg)]) (rest := []) (ci := 9) (q0 := 0) (wr := [(h0_parts, .inl (cy 2, 2, .inl v_parts)), (h0_rates, .inl (cy 2, 14, .inl v_rates)), (h0_ways, .inl (cy 2, 14, .inl v_ways))]) (ws2 := [(h0, .inr (9, [oh0_0, oh0_1, oh0_2, .ref h0_parts, .ref h0_rates, .ref h0_ways, oh0_6, oh0_7, oh0_8, oh0_9, oh0_10, oh0_11, oh0_12, oh0_13, oh0_14, oh0_15, oh0_16, oh0_17, oh0_18, oh0_19, oh0_20, oh0_21, oh0_22, oh0_23, oh0_24, oh0_25, oh0_26, oh0_27, .ref h0_can, oh0_29, oh0_30, oh0_31, oh0_32, oh0_33, oh0_34, oh0_35, oh0_36, oh0_37])), (h0_parts, .inl (cy 2, 2, .inl v_parts)), (h0_rates, .inl (cy 2, 14, .inl v_rates)), (h0_ways, .inl (cy 2, 14, .inl v_ways)), (h0_can, .inl (cy 3, 26978, .inr (.inl v_can_137)))]) (isC := [0, 4]) (isR := [1, 2, 3]) (pm := [3, 0, 1, 2, 4]) hx hb hml hown hts (c9_addShifted l D cy N h0 h0_can oh0_0 oh0_1 oh0_2 (.ref h0_parts) (.ref h0_rates) (.ref h0_ways) oh0_6 oh0_7 oh0_8 oh0_9 oh0_10 oh0_11 oh0_12 oh0_13 oh0_14 oh0_15 oh0_16 oh0_17 oh0_18 oh0_19 oh0_20 oh0_21 oh0_22 oh0_23 oh0_24 oh0_25 oh0_26 oh0_27 oh0_29 oh0_30 oh0_31 oh0_32 oh0_33 oh0_34 oh0_35 oh0_36 oh0_37 ((94 : Int32) * r16) ((94 : Int32) * r127) (v_rates x3_2.toNatClampNeg) v_can_96 v_can_137 hc137) (cwV 3 hts gX9_findTimes_X9_addShifted rfl rfl rfl (by decide +kernel) ⟨Nat.le_of_ble_eq_true rfl, Nat.le_of_ble_eq_true rfl⟩) hK hP hD hS hA rfl rfl rfl rfl rfl (by decide) rfl rfl rfl hl.1 (Nat.le_of_ble_eq_true rfl) dX9_findTimes_137 ⟨Nat.zero_le _, Nat.zero_le _⟩ rfl rfl (fun H locs hP hD hS => ?_)
                  refine lv_iinc (v := x5_96 + (1 : Int32)) (lv' := [(5, .int (x5_96 + (1 : Int32))), (0, .ref h0), (1, .int p1), (2, .int p2), (3, .int x3_2), (4, .int ((94 : Int32) * r16))]) hx hb dX9_findTimes_140 hl (k := 5) rfl rfl (by decide) rfl (fun ls hl => ?_)
                  refine lv_goto (tgt := 96) hx hb dX9_findTimes_143 (by decide) ?_
                  exact ih (x5_96 + (1 : Int32)) v_can_137 v_can_e96 _ _ _ hM hP hD hS (lv_sub hl [1, 2, 3, 4, 5, 0] rfl) K
          obtain ⟨v_can_e96, hL96, hM⟩ := ob1_some hM
          refine L96 N (0 : Int32) v_can_e25 v_can_e96 _ _ _ hL96 hP hD hS (lv_sub hl [1, 2, 3, 4, 5, 0] rfl) ?_
          intro H locs ls hP hD hS hl
          refine lv_iinc (v := x3_2 + (1 : Int32)) (lv' := [(3, .int (x3_2 + (1 : Int32))), (0, .ref h0), (1, .int p1), (2, .int p2)]) hx hb dX9_findTimes_146 hl (k := 3) rfl rfl (by decide) rfl (fun ls hl => ?_)
          refine lv_goto (tgt := 2) hx hb dX9_findTimes_149 (by decide) ?_
          exact ih (x3_2 + (1 : Int32)) v_can_e96 v_can_e2 _ _ _ hM hP hD hS (lv_sub hl [1, 2, 3, 0] rfl) K
        · have hM := g_pos c51 hM
          refine lv_iload_n hx hb dX9_findTimes_54 rfl (lv_at hl 3 rfl) ?_
          refine lv_iload_n hx hb dX9_findTimes_55 rfl (lv_at hl 2 rfl) ?_
          refine lv_icmp_ne (tgt := 146) hx hb dX9_findTimes_56 (by decide) (fun c56 => ?_) (fun c56 => ?_)
          · have hM := g_neg c56 hM
            refine lv_iinc (v := x3_2 + (1 : Int32)) (lv' := [(3, .int (x3_2 + (1 : Int32))), (0, .ref h0), (1, .int p1), (2, .int p2), (4, .int ((94 : Int32) * r16))]) hx hb dX9_findTimes_146 hl (k := 3) rfl rfl (by decide) rfl (fun ls hl => ?_)
            refine lv_goto (tgt := 2) hx hb dX9_findTimes_149 (by decide) ?_
            exact ih (x3_2 + (1 : Int32)) v_can_e25 v_can_e2 _ _ _ hM hP hD hS (lv_sub hl [1, 2, 3, 0] rfl) K
          · have hM := g_pos c56 hM
            refine lv_aload_n hx hb dX9_findTimes_59 rfl (lv_at hl 0 rfl) ?_
            refine va_get (D := D) (ci := 9) (v := .ref h0_can) (C := RX9) (T := TX9) (N := 38) hx hb hts iX9 hown hK hP 0 rfl rfl 28 (by decide) k66 (fun _ h9 => h9) rfl dX9_findTimes_60 ?_
            refine lv_iload hx hb dX9_findTimes_63 (lv_at hl 4 rfl) ?_
            refine lv_aload_n hx hb dX9_findTimes_65 rfl (lv_at hl 0 rfl) ?_
            refine va_get (D := D) (ci := 9) (v := .ref h0_rates) (C := RX9) (T := TX9) (N := 38) hx hb hts iX9 hown hK hP 0 rfl rfl 4 (by decide) k17 (fun _ h9 => h9) rfl dX9_findTimes_66 ?_
            refine lv_iload_n hx hb dX9_findTimes_69 rfl (lv_at hl 3 rfl) ?_
            obtain ⟨h70, hM⟩ := gi_some hM
            refine va_iald hx hb hK hP 2 2 rfl rfl h70 dX9_findTimes_70 ?_
            refine lv_bipush (v := 64) hx hb dX9_findTimes_71 (by decide) ?_
            refine lv_idiv hx hb dX9_findTimes_73 (by decide) ?_
            refine lv_iadd hx hb dX9_findTimes_74 ?_
            refine lv_dup2_11 hx hb dX9_findTimes_75 rfl rfl ?_
            obtain ⟨h76, hM⟩ := gi_some hM
            refine va_lald hx hb hK hP 4 3 rfl rfl h76 dX9_findTimes_76 ?_
            refine lv_lconst (v := 1) hx hb dX9_findTimes_77 (by decide) ?_
            refine lv_aload_n hx hb dX9_findTimes_78 rfl (lv_at hl 0 rfl) ?_
            refine va_get (D := D) (ci := 9) (v := .ref h0_rates) (C := RX9) (T := TX9) (N := 38) hx hb hts iX9 hown hK hP 0 rfl rfl 4 (by decide) k17 (fun _ h9 => h9) rfl dX9_findTimes_79 ?_
            refine lv_iload_n hx hb dX9_findTimes_82 rfl (lv_at hl 3 rfl) ?_
            obtain ⟨h83, hM⟩ := gi_some hM
            refine va_iald hx hb hK hP 2 2 rfl rfl h83 dX9_findTimes_83 ?_
            refine lv_bipush (v := 64) hx hb dX9_findTimes_84 (by decide) ?_
            refine lv_irem hx hb dX9_findTimes_86 (by decide) ?_
            refine lv_lshl (v := ((1 : Int64) <<< (((v_rates x3_2.toNatClampNeg) - (v_rates x3_2.toNatClampNeg) / (64 : Int32) * (64 : Int32)).toInt64 &&& 63))) hx hb dX9_findTimes_87 rfl ?_
            refine lv_lor hx hb dX9_findTimes_88 ?_
            obtain ⟨h89, hM⟩ := gi_some hM
            refine va_last hx hb hK hP hD hS 4 3 rfl rfl h89 dX9_findTimes_89 (fun H locs hP hD hS => ?_)
            have hP : va_P D vwCl [(h0, .inr (9, [oh0_0, oh0_1, oh0_2, .ref h0_parts, .ref h0_rates, .ref h0_ways, oh0_6, oh0_7, oh0_8, oh0_9, oh0_10, oh0_11, oh0_12, oh0_13, oh0_14, oh0_15, oh0_16, oh0_17, oh0_18, oh0_19, oh0_20, oh0_21, oh0_22, oh0_23, oh0_24, oh0_25, oh0_26, oh0_27, .ref h0_can, oh0_29, oh0_30, oh0_31, oh0_32, oh0_33, oh0_34, oh0_35, oh0_36, oh0_37])), (h0_parts, .inl (cy 2, 2, .inl v_parts)), (h0_rates, .inl (cy 2, 14, .inl v_rates)), (h0_ways, .inl (cy 2, 14, .inl v_ways)), (h0_can, .inl (cy 3, 26978, .inr (.inl (vp_updL v_can_e25 (((94 : Int32) * r16) + ((v_rates x3_2.toNatClampNeg) / (64 : Int32))).toNatClampNeg ((v_can_e25 (((94 : Int32) * r16) + ((v_rates x3_2.toNatClampNeg) / (64 : Int32))).toNatClampNeg) ||| ((1 : Int64) <<< (((v_rates x3_2.toNatClampNeg) - (v_rates x3_2.toNatClampNeg) / (64 : Int32) * (64 : Int32)).toInt64 &&& 63)))))))] H := hP
            have hD : va_D A [(h0, .inr (9, [oh0_0, oh0_1, oh0_2, .ref h0_parts, .ref h0_rates, .ref h0_ways, oh0_6, oh0_7, oh0_8, oh0_9, oh0_10, oh0_11, oh0_12, oh0_13, oh0_14, oh0_15, oh0_16, oh0_17, oh0_18, oh0_19, oh0_20, oh0_21, oh0_22, oh0_23, oh0_24, oh0_25, oh0_26, oh0_27, .ref h0_can, oh0_29, oh0_30, oh0_31, oh0_32, oh0_33, oh0_34, oh0_35, oh0_36, oh0_37])), (h0_parts, .inl (cy 2, 2, .inl v_parts)), (h0_rates, .inl (cy 2, 14, .inl v_rates)), (h0_ways, .inl (cy 2, 14, .inl v_ways)), (h0_can, .inl (cy 3, 26978, .inr (.inl (vp_updL v_can_e25 (((94 : Int32) * r16) + ((v_rates x3_2.toNatClampNeg) / (64 : Int32))).toNatClampNeg ((v_can_e25 (((94 : Int32) * r16) + ((v_rates x3_2.toNatClampNeg) / (64 : Int32))).toNatClampNeg) ||| ((1 : Int64) <<< (((v_rates x3_2.toNatClampNeg) - (v_rates x3_2.toNatClampNeg) / (64 : Int32) * (64 : Int32)).toInt64 &&& 63)))))))] := hD
            refine lv_goto (tgt := 146) hx hb dX9_findTimes_90 (by decide) ?_
            refine lv_iinc (v := x3_2 + (1 : Int32)) (lv' := [(3, .int (x3_2 + (1 : Int32))), (0, .ref h0), (1, .int p1), (2, .int p2), (4, .int ((94 : Int32) * r16))]) hx hb dX9_findTimes_146 hl (k := 3) rfl rfl (by decide) rfl (fun ls hl => ?_)
            refine lv_goto (tgt := 2) hx hb dX9_findTimes_149 (by decide) ?_
            exact ih (x3_2 + (1 : Int32)) (vp_updL v_can_e25 (((94 : Int32) * r16) + ((v_rates x3_2.toNatClampNeg) / (64 : Int32))).toNatClampNeg ((v_can_e25 (((94 : Int32) * r16) + ((v_rates x3_2.toNatClampNeg) / (64 : Int32))).toNatClampNeg) ||| ((1 : Int64) <<< (((v_rates x3_2.toNatClampNeg) - (v_rates x3_2.toNatClampNeg) / (64 : Int32) * (64 : Int32)).toInt64 &&& 63)))) v_can_e2 _ _ _ hM hP hD hS (lv_sub hl [1, 2, 3, 0] rfl) K
  obtain ⟨v_can_e2, hL2, hM⟩ := ob1_some hM
  refine L2 N (0 : Int32) v_can v_can_e2 _ _ _ hL2 hP hD hS (lv_sub hl [1, 2, 3, 0] rfl) ?_
  intro H locs ls hP hD hS hl
  obtain rfl := si1 hM
  exact hret _ _ _ _ dX9_findTimes_152 hP hD hS

-- ===== X9_findStay findStay (IIIZ)I =====
abbrev r9_findStay : Room := { frames := 2, cells := 0, slots := 0, locals := 53 }
def f9_findStay_L11 (N : Nat) (p1 : Int32) (p2 : Int32) (p3 : Int32) (p4 : Int32) (v_parts : Nat → Int32) (v_rates : Nat → Int32) (v_ways : Nat → Int32) (v_mostTime_2 : Nat → Int32) : Nat → Int32 → Int32 → (Nat → Int64) → Option (Int32 × Int32 × (Nat → Int64))
  | 0, _, _, _ => none
  | n + 1, x5_11, x6_11, v_can_11 => if x6_11 = (0 : Int32) then (if (40 : Int32) ≤ x5_11 then (some (x5_11, x6_11, v_can_11)) else (if p4 = (0 : Int32) then (ob1 (f9_findTimes N (x5_11 + (1 : Int32)) p2 v_parts v_rates v_ways v_can_11) fun v_can_75 => ob1 (f9_isAble N (x5_11 + (1 : Int32)) p1 p3 v_can_75) fun r83 => (f9_findStay_L11 N p1 p2 p3 p4 v_parts v_rates v_ways v_mostTime_2 n) (x5_11 + (1 : Int32)) r83 v_can_75) else (ob1 (f9_index N (x5_11 + (1 : Int32)) p1) fun r38 => gi r38 287 (if (v_mostTime_2 r38.toNatClampNeg) = (-1 : Int32) then ((f9_findStay_L11 N p1 p2 p3 p4 v_parts v_rates v_ways v_mostTime_2 n) (x5_11 + (1 : Int32)) (0 : Int32) v_can_11) else (ob1 (f9_index N (x5_11 + (1 : Int32)) p1) fun r53 => gi r53 287 (if (v_mostTime_2 r53.toNatClampNeg) < p3 then ((f9_findStay_L11 N p1 p2 p3 p4 v_parts v_rates v_ways v_mostTime_2 n) (x5_11 + (1 : Int32)) (0 : Int32) v_can_11) else ((f9_findStay_L11 N p1 p2 p3 p4 v_parts v_rates v_ways v_mostTime_2 n) (x5_11 + (1 : Int32)) (1 : Int32) v_can_11))))))) else (some (x5_11, x6_11, v_can_11))
def f9_findStay_L122 (N : Nat) (p4 : Int32) (v_ways : Nat → Int32) (v_mostTime_2 : Nat → Int32) (e5_11 : Int32) (v_can_e11 : Nat → Int64) (x7_107 : Int32) (x8_107 : Int32) (x9_107 : Int32) : Nat → Int32 → Option (Nat → Int32)
  | 0, _ => none
  | n + 1, x10_122 => ob1 (f9_isStep N x7_107 x10_122 v_ways) fun r127 => if r127 = (0 : Int32) then ((f9_findStay_L122 N p4 v_ways v_mostTime_2 e5_11 v_can_e11 x7_107 x8_107 x9_107 n) (x10_122 + (1 : Int32))) else (if p4 = (0 : Int32) then (ob1 (f9_isAble N (e5_11 - x9_107) x10_122 x8_107 v_can_e11) fun r190 => if r190 = (0 : Int32) then ((f9_findStay_L122 N p4 v_ways v_mostTime_2 e5_11 v_can_e11 x7_107 x8_107 x9_107 n) (x10_122 + (1 : Int32))) else (@J206@ x10_122)) else (ob1 (f9_index N (e5_11 - x9_107) x10_122) fun r149 => gi r149 287 (if (v_mostTime_2 r149.toNatClampNeg) = (-1 : Int32) then ((f9_findStay_L122 N p4 v_ways v_mostTime_2 e5_11 v_can_e11 x7_107 x8_107 x9_107 n) (x10_122 + (1 : Int32))) else (ob1 (f9_index N (e5_11 - x9_107) x10_122) fun r168 => gi r168 287 (if (v_mostTime_2 r168.toNatClampNeg) < x8_107 then ((f9_findStay_L122 N p4 v_ways v_mostTime_2 e5_11 v_can_e11 x7_107 x8_107 x9_107 n) (x10_122 + (1 : Int32))) else (@J206@ x10_122))))))
def f9_findStay_J206 (N : Nat) (v_rates : Nat → Int32) (x8_107 : Int32) (x9_107 : Int32) (v_found_107 : Nat → Int32) (rec107 : Int32 → Int32 → Int32 → (Nat → Int32) → Option (Nat → Int32)) (x7_206 : Int32) : Option (Nat → Int32) :=
  gi x9_107 40 (gi x7_206 14 (rec107 x7_206 (x8_107 - (v_rates x7_206.toNatClampNeg)) (x9_107 + (1 : Int32)) (upd v_found_107 x9_107.toNatClampNeg x7_206)))
def f9_findStay_L107 (N : Nat) (p4 : Int32) (v_rates : Nat → Int32) (v_ways : Nat → Int32) (v_mostTime_2 : Nat → Int32) (e5_11 : Int32) (v_can_e11 : Nat → Int64) : Nat → Int32 → Int32 → Int32 → (Nat → Int32) → Option (Nat → Int32)
  | 0, _, _, _, _ => none
  | n + 1, x7_107, x8_107, x9_107, v_found_107 => if e5_11 ≤ x9_107 then (some v_found_107) else (if x9_107 ≤ (0 : Int32) then (f9_findStay_J206 N v_rates x8_107 x9_107 v_found_107 (f9_findStay_L107 N p4 v_rates v_ways v_mostTime_2 e5_11 v_can_e11 n) x7_107) else (f9_findStay_L122 N p4 v_ways v_mostTime_2 e5_11 v_can_e11 x7_107 x8_107 x9_107 N (0 : Int32)))
def f9_findStay (N : Nat) (p1 : Int32) (p2 : Int32) (p3 : Int32) (p4 : Int32) (v_parts : Nat → Int32) (v_rates : Nat → Int32) (v_ways : Nat → Int32) (v_leastTime : Nat → Int32) (v_mostTime : Nat → Int32) (v_can : Nat → Int64) (v_found : Nat → Int32) : Option (Int32 × (Nat → Int32) × (Nat → Int32) × (Nat → Int64) × (Nat → Int32)) :=
  ob2 (f9_findSpans N p2 v_parts v_rates v_ways v_leastTime v_mostTime) fun v_leastTime_2 v_mostTime_2 => ob3 (f9_findStay_L11 N p1 p2 p3 p4 v_parts v_rates v_ways v_mostTime_2 N (0 : Int32) (0 : Int32) v_can) fun e5_11 e6_11 v_can_e11 => if e6_11 = (0 : Int32) then (some ((-1 : Int32), v_leastTime_2, v_mostTime_2, v_can_e11, v_found)) else (ob1 (f9_findStay_L107 N p4 v_rates v_ways v_mostTime_2 e5_11 v_can_e11 N p1 p3 (0 : Int32) v_found) fun v_found_e107 => some (e5_11, v_leastTime_2, v_mostTime_2, v_can_e11, v_found_e107))
set_option maxHeartbeats 4000000 in
set_option maxRecDepth 100000 in
theorem c9_findStay (l : Launch) (D : va_G) (cy : Nat → ClassId) (N : Nat) (h0 h0_parts h0_rates h0_ways h0_leastTime h0_mostTime h0_can h0_found : Nat) (oh0_0 oh0_1 oh0_2 oh0_6 oh0_7 oh0_8 oh0_9 oh0_10 oh0_11 oh0_12 oh0_13 oh0_14 oh0_15 oh0_16 oh0_17 oh0_18 oh0_19 oh0_20 oh0_21 oh0_22 oh0_23 oh0_24 oh0_25 oh0_30 oh0_31 oh0_32 oh0_33 oh0_34 oh0_35 oh0_36 oh0_37 : Value) (p1 : Int32) (p2 : Int32) (p3 : Int32) (p4 : Int32) (v_parts : Nat → Int32) (v_rates : Nat → Int32) (v_ways : Nat → Int32) (v_leastTime : Nat → Int32) (v_mostTime : Nat → Int32) (v_can : Nat → Int64) (v_found : Nat → Int32) (r : Int32) (nv_leastTime : Nat → Int32) (nv_mostTime : Nat → Int32) (nv_can : Nat → Int64) (nv_found : Nat → Int32) (hM : f9_findStay N p1 p2 p3 p4 v_parts v_rates v_ways v_leastTime v_mostTime v_can v_found = some (r, nv_leastTime, nv_mostTime, nv_can, nv_found)) (sz : Nat) : CTi l yX9_findStay wsX9_findStay r9_findStay [.ref h0, .int p1, .int p2, .int p3, .int p4] D cy sz [(h0, .inr (9, [oh0_0, oh0_1, oh0_2, .ref h0_parts, .ref h0_rates, .ref h0_ways, oh0_6, oh0_7, oh0_8, oh0_9, oh0_10, oh0_11, oh0_12, oh0_13, oh0_14, oh0_15, oh0_16, oh0_17, oh0_18, oh0_19, oh0_20, oh0_21, oh0_22, oh0_23, oh0_24, oh0_25, .ref h0_leastTime, .ref h0_mostTime, .ref h0_can, .ref h0_found, oh0_30, oh0_31, oh0_32, oh0_33, oh0_34, oh0_35, oh0_36, oh0_37])), (h0_parts, .inl (cy 2, 2, .inl v_parts)), (h0_rates, .inl (cy 2, 14, .inl v_rates)), (h0_ways, .inl (cy 2, 14, .inl v_ways)), (h0_leastTime, .inl (cy 2, 287, .inl v_leastTime)), (h0_mostTime, .inl (cy 2, 287, .inl v_mostTime)), (h0_can, .inl (cy 3, 26978, .inr (.inl v_can))), (h0_found, .inl (cy 2, 40, .inl v_found))] [(h0, .inr (9, [oh0_0, oh0_1, oh0_2, .ref h0_parts, .ref h0_rates, .ref h0_ways, oh0_6, oh0_7, oh0_8, oh0_9, oh0_10, oh0_11, oh0_12, oh0_13, oh0_14, oh0_15, oh0_16, oh0_17, oh0_18, oh0_19, oh0_20, oh0_21, oh0_22, oh0_23, oh0_24, oh0_25, .ref h0_leastTime, .ref h0_mostTime, .ref h0_can, .ref h0_found, oh0_30, oh0_31, oh0_32, oh0_33, oh0_34, oh0_35, oh0_36, oh0_37])), (h0_parts, .inl (cy 2, 2, .inl v_parts)), (h0_rates, .inl (cy 2, 14, .inl v_rates)), (h0_ways, .inl (cy 2, 14, .inl v_ways)), (h0_leastTime, .inl (cy 2, 287, .inl nv_leastTime)), (h0_mostTime, .inl (cy 2, 287, .inl nv_mostTime)), (h0_can, .inl (cy 3, 26978, .inr (.inl nv_can))), (h0_found, .inl (cy 2, 40, .inl nv_found))] r := by
  unfold f9_findStay at hM
  refine ct_oi (cc := cX9_findStay) (maxL := 11) (ty := .int) (by decide +kernel) rfl (Nat.le_of_ble_eq_true rfl) (lv0 := [(0, .ref h0), (1, .int p1), (2, .int p2), (3, .int p3), (4, .int p4)]) rfl ?_
  intro p e s m args below meth c A Q ls hx hb hts hown hml hK hP hD hS hA hret hl
  have hown : s.vm.findClass RX9 = some m.cls := hown
  have k63 := hts (.fieldLink RX9 63 "CaveYearsModel" "mostTime" "[I") (List.mem_of_getElem? (i := 1) rfl)
  have iX9 := (fun w h => (List.mem_cons_of_mem _ (List.mem_append_right _ h)) : ∀ w ∈ wsX90, w ∈ wsX9_findStay)
  have k70 := hts (.fieldLink RX9 70 "CaveYearsModel" "found" "[I") (List.mem_of_getElem? (i := 2) rfl)
  have k17 := hts (.fieldLink RX9 17 "CaveYearsModel" "rates" "[I") (List.mem_of_getElem? (i := 3) rfl)
  refine lv_aload_n hx hb dX9_findStay_0 rfl (lv_at hl 0 rfl) ?_
  refine lv_iload_n hx hb dX9_findStay_1 rfl (lv_at hl 2 rfl) ?_
  obtain ⟨v_leastTime_2, v_mostTime_2, hc2, hM⟩ := ob2_some hM
  refine cl_vv (As := [.int p2]) (rest := []) (ci := 9) (q0 := 0) (wr := [(h0_can, .inl (cy 3, 26978, .inr (.inl v_can))), (h0_found, .inl (cy 2, 40, .inl v_found))]) (ws2 := [(h0, .inr (9, [oh0_0, oh0_1, oh0_2, .ref h0_parts, .ref h0_rates, .ref h0_ways, oh0_6, oh0_7, oh0_8, oh0_9, oh0_10, oh0_11, oh0_12, oh0_13, oh0_14, oh0_15, oh0_16, oh0_17, oh0_18, oh0_19, oh0_20, oh0_21, oh0_22, oh0_23, oh0_24, oh0_25, .ref h0_leastTime, .ref h0_mostTime, .ref h0_can, .ref h0_found, oh0_30, oh0_31, oh0_32, oh0_33, oh0_34, oh0_35, oh0_36, oh0_37])), (h0_parts, .inl (cy 2, 2, .inl v_parts)), (h0_rates, .inl (cy 2, 14, .inl v_rates)), (h0_ways, .inl (cy 2, 14, .inl v_ways)), (h0_leastTime, .inl (cy 2, 287, .inl v_leastTime_2)), (h0_mostTime, .inl (cy 2, 287, .inl v_mostTime_2)), (h0_can, .inl (cy 3, 26978, .inr (.inl v_can))), (h0_found, .inl (cy 2, 40, .inl v_found))]) (isC := [0, 1, 2, 3, 4, 5]) (isR := [6, 7]) (pm := [2, 3, 4, 5, 6, 7, 0, 1]) hx hb hml hown hts (c9_findSpans l D cy N h0 h0_parts h0_rates h0_ways h0_leastTime h0_mostTime oh0_0 oh0_1 oh0_2 oh0_6 oh0_7 oh0_8 oh0_9 oh0_10 oh0_11 oh0_12 oh0_13 oh0_14 oh0_15 oh0_16 oh0_17 oh0_18 oh0_19 oh0_20 oh0_21 oh0_22 oh0_23 oh0_24 oh0_25 (.ref h0_can) (.ref h0_found) oh0_30 oh0_31 oh0_32 oh0_33 oh0_34 oh0_35 oh0_36 oh0_37 p2 v_parts v_rates v_ways v_leastTime v_mostTime v_leastTime_2 v_mostTime_2 hc2) (cwV 1 hts gX9_findStay_X9_findSpans rfl rfl rfl (by decide +kernel) ⟨Nat.le_of_ble_eq_true rfl, Nat.le_of_ble_eq_true rfl⟩) hK hP hD hS hA rfl rfl rfl rfl rfl (by decide) rfl rfl rfl hl.1 (Nat.le_of_ble_eq_true rfl) dX9_findStay_2 ⟨Nat.zero_le _, Nat.zero_le _⟩ rfl rfl (fun H locs hP hD hS => ?_)
  refine lv_iconst (v := 0) hx hb dX9_findStay_5 (by decide) ?_
  refine lv_istore (lv' := [(5, .int (0 : Int32)), (0, .ref h0), (1, .int p1), (2, .int p2), (3, .int p3), (4, .int p4)]) hx hb dX9_findStay_6 hl (by decide) rfl (fun ls hl => ?_)
  refine lv_iconst (v := 0) hx hb dX9_findStay_8 (by decide) ?_
  refine lv_istore (lv' := [(6, .int (0 : Int32)), (5, .int (0 : Int32)), (0, .ref h0), (1, .int p1), (2, .int p2), (3, .int p3), (4, .int p4)]) hx hb dX9_findStay_9 hl (by decide) rfl (fun ls hl => ?_)
  have L11 : ∀ (n : Nat) (x5_11 : Int32) (x6_11 : Int32) (v_can_11 : Nat → Int64) (e5_11 : Int32) (e6_11 : Int32) (v_can_e11 : Nat → Int64) (H : Heap) (locs : List Loc) (ls : Array Slot), f9_findStay_L11 N p1 p2 p3 p4 v_parts v_rates v_ways v_mostTime_2 n x5_11 x6_11 v_can_11 = some (e5_11, e6_11, v_can_e11) → va_P D vwCl [(h0, .inr (9, [oh0_0, oh0_1, oh0_2, .ref h0_parts, .ref h0_rates, .ref h0_ways, oh0_6, oh0_7, oh0_8, oh0_9, oh0_10, oh0_11, oh0_12, oh0_13, oh0_14, oh0_15, oh0_16, oh0_17, oh0_18, oh0_19, oh0_20, oh0_21, oh0_22, oh0_23, oh0_24, oh0_25, .ref h0_leastTime, .ref h0_mostTime, .ref h0_can, .ref h0_found, oh0_30, oh0_31, oh0_32, oh0_33, oh0_34, oh0_35, oh0_36, oh0_37])), (h0_parts, .inl (cy 2, 2, .inl v_parts)), (h0_rates, .inl (cy 2, 14, .inl v_rates)), (h0_ways, .inl (cy 2, 14, .inl v_ways)), (h0_leastTime, .inl (cy 2, 287, .inl v_leastTime_2)), (h0_mostTime, .inl (cy 2, 287, .inl v_mostTime_2)), (h0_can, .inl (cy 3, 26978, .inr (.inl v_can_11))), (h0_found, .inl (cy 2, 40, .inl v_found))] H → va_D A [(h0, .inr (9, [oh0_0, oh0_1, oh0_2, .ref h0_parts, .ref h0_rates, .ref h0_ways, oh0_6, oh0_7, oh0_8, oh0_9, oh0_10, oh0_11, oh0_12, oh0_13, oh0_14, oh0_15, oh0_16, oh0_17, oh0_18, oh0_19, oh0_20, oh0_21, oh0_22, oh0_23, oh0_24, oh0_25, .ref h0_leastTime, .ref h0_mostTime, .ref h0_can, .ref h0_found, oh0_30, oh0_31, oh0_32, oh0_33, oh0_34, oh0_35, oh0_36, oh0_37])), (h0_parts, .inl (cy 2, 2, .inl v_parts)), (h0_rates, .inl (cy 2, 14, .inl v_rates)), (h0_ways, .inl (cy 2, 14, .inl v_ways)), (h0_leastTime, .inl (cy 2, 287, .inl v_leastTime_2)), (h0_mostTime, .inl (cy 2, 287, .inl v_mostTime_2)), (h0_can, .inl (cy 3, 26978, .inr (.inl v_can_11))), (h0_found, .inl (cy 2, 40, .inl v_found))] → va_S A s.heap H locs → lv_has ls 11 [(0, .ref h0), (1, .int p1), (2, .int p2), (3, .int p3), (4, .int p4), (5, .int x5_11), (6, .int x6_11)] → (∀ (H : Heap) (locs : List Loc) (ls : Array Slot), va_P D vwCl [(h0, .inr (9, [oh0_0, oh0_1, oh0_2, .ref h0_parts, .ref h0_rates, .ref h0_ways, oh0_6, oh0_7, oh0_8, oh0_9, oh0_10, oh0_11, oh0_12, oh0_13, oh0_14, oh0_15, oh0_16, oh0_17, oh0_18, oh0_19, oh0_20, oh0_21, oh0_22, oh0_23, oh0_24, oh0_25, .ref h0_leastTime, .ref h0_mostTime, .ref h0_can, .ref h0_found, oh0_30, oh0_31, oh0_32, oh0_33, oh0_34, oh0_35, oh0_36, oh0_37])), (h0_parts, .inl (cy 2, 2, .inl v_parts)), (h0_rates, .inl (cy 2, 14, .inl v_rates)), (h0_ways, .inl (cy 2, 14, .inl v_ways)), (h0_leastTime, .inl (cy 2, 287, .inl v_leastTime_2)), (h0_mostTime, .inl (cy 2, 287, .inl v_mostTime_2)), (h0_can, .inl (cy 3, 26978, .inr (.inl v_can_e11))), (h0_found, .inl (cy 2, 40, .inl v_found))] H → va_D A [(h0, .inr (9, [oh0_0, oh0_1, oh0_2, .ref h0_parts, .ref h0_rates, .ref h0_ways, oh0_6, oh0_7, oh0_8, oh0_9, oh0_10, oh0_11, oh0_12, oh0_13, oh0_14, oh0_15, oh0_16, oh0_17, oh0_18, oh0_19, oh0_20, oh0_21, oh0_22, oh0_23, oh0_24, oh0_25, .ref h0_leastTime, .ref h0_mostTime, .ref h0_can, .ref h0_found, oh0_30, oh0_31, oh0_32, oh0_33, oh0_34, oh0_35, oh0_36, oh0_37])), (h0_parts, .inl (cy 2, 2, .inl v_parts)), (h0_rates, .inl (cy 2, 14, .inl v_rates)), (h0_ways, .inl (cy 2, 14, .inl v_ways)), (h0_leastTime, .inl (cy 2, 287, .inl v_leastTime_2)), (h0_mostTime, .inl (cy 2, 287, .inl v_mostTime_2)), (h0_can, .inl (cy 3, 26978, .inr (.inl v_can_e11))), (h0_found, .inl (cy 2, 40, .inl v_found))] → va_S A s.heap H locs → lv_has ls 11 [(0, .ref h0), (1, .int p1), (3, .int p3), (4, .int p4), (5, .int e5_11), (6, .int e6_11)] → W p l e r9_findStay s m args below meth c H locs 0 0 Q (F0 m 91 ls [])) → W p l e r9_findStay s m args below meth c H locs 0 0 Q (F0 m 11 ls []) := by
    intro n
    induction n with
    | zero =>
      intro x5_11 x6_11 v_can_11 e5_11 e6_11 v_can_e11 H locs ls hM
      exact absurd hM (by simp [f9_findStay_L11])
    | succ n ih =>
      intro x5_11 x6_11 v_can_11 e5_11 e6_11 v_can_e11 H locs ls hM hP hD hS hl K
      rw [f9_findStay_L11] at hM
      refine lv_iload hx hb dX9_findStay_11 (lv_at hl 6 rfl) ?_
      refine lv_if_ne (tgt := 91) hx hb dX9_findStay_13 (by decide) (fun c13 => ?_) (fun c13 => ?_)
      · have hM := g_neg c13 hM
        obtain ⟨rfl, rfl, rfl⟩ := si3 hM
        exact K _ _ _ hP hD hS (lv_sub hl [0, 1, 3, 4, 5, 6] rfl)
      · have hM := g_pos c13 hM
        refine lv_iload hx hb dX9_findStay_16 (lv_at hl 5 rfl) ?_
        refine lv_bipush (v := 40) hx hb dX9_findStay_18 (by decide) ?_
        refine lv_icmp_ge (tgt := 91) hx hb dX9_findStay_20 (by decide) (fun c20 => ?_) (fun c20 => ?_)
        · have hM := g_pos c20 hM
          obtain ⟨rfl, rfl, rfl⟩ := si3 hM
          exact K _ _ _ hP hD hS (lv_sub hl [0, 1, 3, 4, 5, 6] rfl)
        · have hM := g_neg c20 hM
          refine lv_iinc (v := x5_11 + (1 : Int32)) (lv' := [(5, .int (x5_11 + (1 : Int32))), (0, .ref h0), (1, .int p1), (2, .int p2), (3, .int p3), (4, .int p4), (6, .int x6_11)]) hx hb dX9_findStay_23 hl (k := 5) rfl rfl (by decide) rfl (fun ls hl => ?_)
          refine lv_iload hx hb dX9_findStay_26 (lv_at hl 5 rfl) ?_
          refine lv_if_eq (tgt := 71) hx hb dX9_findStay_28 (by decide) (fun c28 => ?_) (fun c28 => ?_)
          · have hM := g_pos c28 hM
            refine lv_aload_n hx hb dX9_findStay_71 rfl (lv_at hl 1 rfl) ?_
            refine lv_iload hx hb dX9_findStay_72 (lv_at hl 0 rfl) ?_
            refine lv_iload_n hx hb dX9_findStay_74 rfl (lv_at hl 3 rfl) ?_
            obtain ⟨v_can_75, hc75, hM⟩ := ob1_some hM
            refine cl_vv (As := [.int (x5_11 + (1 : Int32)), .int p2]) (rest := []) (ci := 9) (q0 := 0) (wr := [(h0_leastTime, .inl (cy 2, 287, .inl v_leastTime_2)), (h0_mostTime, .inl (cy 2, 287, .inl v_mostTime_2)), (h0_found, .inl (cy 2, 40, .inl v_found))]) (ws2 := [(h0, .inr (9, [oh0_0, oh0_1, oh0_2, .ref h0_parts, .ref h0_rates, .ref h0_ways, oh0_6, oh0_7, oh0_8, oh0_9, oh0_10, oh0_11, oh0_12, oh0_13, oh0_14, oh0_15, oh0_16, oh0_17, oh0_18, oh0_19, oh0_20, oh0_21, oh0_22, oh0_23, oh0_24, oh0_25, .ref h0_leastTime, .ref h0_mostTime, .ref h0_can, .ref h0_found, oh0_30, oh0_31, oh0_32, oh0_33, oh0_34, oh0_35, oh0_36, oh0_37])), (h0_parts, .inl (cy 2, 2, .inl v_parts)), (h0_rates, .inl (cy 2, 14, .inl v_rates)), (h0_ways, .inl (cy 2, 14, .inl v_ways)), (h0_leastTime, .inl (cy 2, 287, .inl v_leastTime_2)), (h0_mostTime, .inl (cy 2, 287, .inl v_mostTime_2)), (h0_can, .inl (cy 3, 26978, .inr (.inl v_can_75))), (h0_found, .inl (cy 2, 40, .inl v_found))]) (isC := [0, 1, 2, 3, 6]) (isR := [4, 5, 7]) (pm := [3, 4, 5, 6, 0, 1, 7, 2]) hx hb hml hown hts (c9_findTimes l D cy N h0 h0_parts h0_rates h0_ways h0_can oh0_0 oh0_1 oh0_2 oh0_6 oh0_7 oh0_8 oh0_9 oh0_10 oh0_11 oh0_12 oh0_13 oh0_14 oh0_15 oh0_16 oh0_17 oh0_18 oh0_19 oh0_20 oh0_21 oh0_22 oh0_23 oh0_24 oh0_25 (.ref h0_leastTime) (.ref h0_mostTime) (.ref h0_found) oh0_30 oh0_31 oh0_32 oh0_33 oh0_34 oh0_35 oh0_36 oh0_37 (x5_11 + (1 : Int32)) p2 v_parts v_rates v_ways v_can_11 v_can_75 hc75) (cwV 2 hts gX9_findStay_X9_findTimes rfl rfl rfl (by decide +kernel) ⟨Nat.le_of_ble_eq_true rfl, Nat.le_of_ble_eq_true rfl⟩) hK hP hD hS hA rfl rfl rfl rfl rfl (by decide) rfl rfl rfl hl.1 (Nat.le_of_ble_eq_true rfl) dX9_findStay_75 ⟨Nat.zero_le _, Nat.zero_le _⟩ rfl rfl (fun H locs hP hD hS => ?_)
            refine lv_aload_n hx hb dX9_findStay_78 rfl (lv_at hl 1 rfl) ?_
            refine lv_iload hx hb dX9_findStay_79 (lv_at hl 0 rfl) ?_
            refine lv_iload_n hx hb dX9_findStay_81 rfl (lv_at hl 2 rfl) ?_
            refine lv_iload_n hx hb dX9_findStay_82 rfl (lv_at hl 4 rfl) ?_
            obtain ⟨r83, hc83, hM⟩ := ob1_some hM
            refine cl_vi (As := [.int (x5_11 + (1 : Int32)), .int p1, .int p3]) (rest := []) (ci := 9) (q0 := 0) (wr := [(h0_parts, .inl (cy 2, 2, .inl v_parts)), (h0_rates, .inl (cy 2, 14, .inl v_rates)), (h0_ways, .inl (cy 2, 14, .inl v_ways)), (h0_leastTime, .inl (cy 2, 287, .inl v_leastTime_2)), (h0_mostTime, .inl (cy 2, 287, .inl v_mostTime_2)), (h0_found, .inl (cy 2, 40, .inl v_found))]) (ws2 := [(h0, .inr (9, [oh0_0, oh0_1, oh0_2, .ref h0_parts, .ref h0_rates, .ref h0_ways, oh0_6, oh0_7, oh0_8, oh0_9, oh0_10, oh0_11, oh0_12, oh0_13, oh0_14, oh0_15, oh0_16, oh0_17, oh0_18, oh0_19, oh0_20, oh0_21, oh0_22, oh0_23, oh0_24, oh0_25, .ref h0_leastTime, .ref h0_mostTime, .ref h0_can, .ref h0_found, oh0_30, oh0_31, oh0_32, oh0_33, oh0_34, oh0_35, oh0_36, oh0_37])), (h0_parts, .inl (cy 2, 2, .inl v_parts)), (h0_rates, .inl (cy 2, 14, .inl v_rates)), (h0_ways, .inl (cy 2, 14, .inl v_ways)), (h0_leastTime, .inl (cy 2, 287, .inl v_leastTime_2)), (h0_mostTime, .inl (cy 2, 287, .inl v_mostTime_2)), (h0_can, .inl (cy 3, 26978, .inr (.inl v_can_75))), (h0_found, .inl (cy 2, 40, .inl v_found))]) (isC := [0, 6]) (isR := [1, 2, 3, 4, 5, 7]) (pm := [6, 0, 1, 2, 3, 4, 7, 5]) hx hb hml hown hts (c9_isAble l D cy N h0 h0_can oh0_0 oh0_1 oh0_2 (.ref h0_parts) (.ref h0_rates) (.ref h0_ways) oh0_6 oh0_7 oh0_8 oh0_9 oh0_10 oh0_11 oh0_12 oh0_13 oh0_14 oh0_15 oh0_16 oh0_17 oh0_18 oh0_19 oh0_20 oh0_21 oh0_22 oh0_23 oh0_24 oh0_25 (.ref h0_leastTime) (.ref h0_mostTime) (.ref h0_found) oh0_30 oh0_31 oh0_32 oh0_33 oh0_34 oh0_35 oh0_36 oh0_37 (x5_11 + (1 : Int32)) p1 p3 v_can_75 r83 hc83) (cwV 3 hts gX9_findStay_X9_isAble rfl rfl rfl (by decide +kernel) ⟨Nat.le_of_ble_eq_true rfl, Nat.le_of_ble_eq_true rfl⟩) hK hP hD hS hA rfl rfl rfl rfl rfl (by decide) rfl rfl rfl hl.1 (Nat.le_of_ble_eq_true rfl) dX9_findStay_83 ⟨Nat.zero_le _, Nat.zero_le _⟩ rfl rfl (fun H locs hP hD hS => ?_)
            refine lv_istore (lv' := [(6, .int r83), (5, .int (x5_11 + (1 : Int32))), (0, .ref h0), (1, .int p1), (2, .int p2), (3, .int p3), (4, .int p4)]) hx hb dX9_findStay_86 hl (by decide) rfl (fun ls hl => ?_)
            refine lv_goto (tgt := 11) hx hb dX9_findStay_88 (by decide) ?_
            exact ih (x5_11 + (1 : Int32)) r83 v_can_75 e5_11 e6_11 v_can_e11 _ _ _ hM hP hD hS (lv_sub hl [2, 3, 4, 5, 6, 1, 0] rfl) K
          · have hM := g_neg c28 hM
            refine lv_aload_n hx hb dX9_findStay_31 rfl (lv_at hl 1 rfl) ?_
            refine va_get (D := D) (ci := 9) (v := .ref h0_mostTime) (C := RX9) (T := TX9) (N := 38) hx hb hts iX9 hown hK hP 0 rfl rfl 27 (by decide) k63 (fun _ h9 => h9) rfl dX9_findStay_32 ?_
            refine lv_iload hx hb dX9_findStay_35 (lv_at hl 0 rfl) ?_
            refine lv_iload_n hx hb dX9_findStay_37 rfl (lv_at hl 2 rfl) ?_
            obtain ⟨r38, hc38, hM⟩ := ob1_some hM
            refine cl_si (As := [.int (x5_11 + (1 : Int32)), .int p1]) (rest := [.ref h0_mostTime]) (wr := [(h0, .inr (9, [oh0_0, oh0_1, oh0_2, .ref h0_parts, .ref h0_rates, .ref h0_ways, oh0_6, oh0_7, oh0_8, oh0_9, oh0_10, oh0_11, oh0_12, oh0_13, oh0_14, oh0_15, oh0_16, oh0_17, oh0_18, oh0_19, oh0_20, oh0_21, oh0_22, oh0_23, oh0_24, oh0_25, .ref h0_leastTime, .ref h0_mostTime, .ref h0_can, .ref h0_found, oh0_30, oh0_31, oh0_32, oh0_33, oh0_34, oh0_35, oh0_36, oh0_37])), (h0_parts, .inl (cy 2, 2, .inl v_parts)), (h0_rates, .inl (cy 2, 14, .inl v_rates)), (h0_ways, .inl (cy 2, 14, .inl v_ways)), (h0_leastTime, .inl (cy 2, 287, .inl v_leastTime_2)), (h0_mostTime, .inl (cy 2, 287, .inl v_mostTime_2)), (h0_can, .inl (cy 3, 26978, .inr (.inl v_can_11))), (h0_found, .inl (cy 2, 40, .inl v_found))]) (ws2 := [(h0, .inr (9, [oh0_0, oh0_1, oh0_2, .ref h0_parts, .ref h0_rates, .ref h0_ways, oh0_6, oh0_7, oh0_8, oh0_9, oh0_10, oh0_11, oh0_12, oh0_13, oh0_14, oh0_15, oh0_16, oh0_17, oh0_18, oh0_19, oh0_20, oh0_21, oh0_22, oh0_23, oh0_24, oh0_25, .ref h0_leastTime, .ref h0_mostTime, .ref h0_can, .ref h0_found, oh0_30, oh0_31, oh0_32, oh0_33, oh0_34, oh0_35, oh0_36, oh0_37])), (h0_parts, .inl (cy 2, 2, .inl v_parts)), (h0_rates, .inl (cy 2, 14, .inl v_rates)), (h0_ways, .inl (cy 2, 14, .inl v_ways)), (h0_leastTime, .inl (cy 2, 287, .inl v_leastTime_2)), (h0_mostTime, .inl (cy 2, 287, .inl v_mostTime_2)), (h0_can, .inl (cy 3, 26978, .inr (.inl v_can_11))), (h0_found, .inl (cy 2, 40, .inl v_found))]) (isC := []) (isR := [0, 1, 2, 3, 4, 5, 6, 7]) (pm := [0, 1, 2, 3, 4, 5, 6, 7]) hx hb hml hown hts (c9_index l D cy N (x5_11 + (1 : Int32)) p1 r38 hc38) (va_cwS 2 hts gX9_findStay_X9_index rfl rfl rfl (by decide +kernel) ⟨Nat.le_of_ble_eq_true rfl, Nat.le_of_ble_eq_true rfl⟩) hK hP hD hS hA rfl rfl rfl (by decide) rfl rfl rfl hl.1 (Nat.le_of_ble_eq_true rfl) dX9_findStay_38 ⟨Nat.zero_le _, Nat.zero_le _⟩ rfl rfl (fun H locs hP hD hS => ?_)
            obtain ⟨h41, hM⟩ := gi_some hM
            refine va_iald hx hb hK hP 5 2 rfl rfl h41 dX9_findStay_41 ?_
            refine lv_iconst (v := -1) hx hb dX9_findStay_42 (by decide) ?_
            refine lv_icmp_eq (tgt := 65) hx hb dX9_findStay_43 (by decide) (fun c43 => ?_) (fun c43 => ?_)
            · have hM := g_pos c43 hM
              refine lv_iconst (v := 0) hx hb dX9_findStay_65 (by decide) ?_
              refine lv_istore (lv' := [(6, .int (0 : Int32)), (5, .int (x5_11 + (1 : Int32))), (0, .ref h0), (1, .int p1), (2, .int p2), (3, .int p3), (4, .int p4)]) hx hb dX9_findStay_66 hl (by decide) rfl (fun ls hl => ?_)
              refine lv_goto (tgt := 11) hx hb dX9_findStay_68 (by decide) ?_
              exact ih (x5_11 + (1 : Int32)) (0 : Int32) v_can_11 e5_11 e6_11 v_can_e11 _ _ _ hM hP hD hS (lv_sub hl [2, 3, 4, 5, 6, 1, 0] rfl) K
            · have hM := g_neg c43 hM
              refine lv_aload_n hx hb dX9_findStay_46 rfl (lv_at hl 1 rfl) ?_
              refine va_get (D := D) (ci := 9) (v := .ref h0_mostTime) (C := RX9) (T := TX9) (N := 38) hx hb hts iX9 hown hK hP 0 rfl rfl 27 (by decide) k63 (fun _ h9 => h9) rfl dX9_findStay_47 ?_
              refine lv_iload hx hb dX9_findStay_50 (lv_at hl 0 rfl) ?_
              refine lv_iload_n hx hb dX9_findStay_52 rfl (lv_at hl 2 rfl) ?_
              obtain ⟨r53, hc53, hM⟩ := ob1_some hM
              refine cl_si (As := [.int (x5_11 + (1 : Int32)), .int p1]) (rest := [.ref h0_mostTime]) (wr := [(h0, .inr (9, [oh0_0, oh0_1, oh0_2, .ref h0_parts, .ref h0_rates, .ref h0_ways, oh0_6, oh0_7, oh0_8, oh0_9, oh0_10, oh0_11, oh0_12, oh0_13, oh0_14, oh0_15, oh0_16, oh0_17, oh0_18, oh0_19, oh0_20, oh0_21, oh0_22, oh0_23, oh0_24, oh0_25, .ref h0_leastTime, .ref h0_mostTime, .ref h0_can, .ref h0_found, oh0_30, oh0_31, oh0_32, oh0_33, oh0_34, oh0_35, oh0_36, oh0_37])), (h0_parts, .inl (cy 2, 2, .inl v_parts)), (h0_rates, .inl (cy 2, 14, .inl v_rates)), (h0_ways, .inl (cy 2, 14, .inl v_ways)), (h0_leastTime, .inl (cy 2, 287, .inl v_leastTime_2)), (h0_mostTime, .inl (cy 2, 287, .inl v_mostTime_2)), (h0_can, .inl (cy 3, 26978, .inr (.inl v_can_11))), (h0_found, .inl (cy 2, 40, .inl v_found))]) (ws2 := [(h0, .inr (9, [oh0_0, oh0_1, oh0_2, .ref h0_parts, .ref h0_rates, .ref h0_ways, oh0_6, oh0_7, oh0_8, oh0_9, oh0_10, oh0_11, oh0_12, oh0_13, oh0_14, oh0_15, oh0_16, oh0_17, oh0_18, oh0_19, oh0_20, oh0_21, oh0_22, oh0_23, oh0_24, oh0_25, .ref h0_leastTime, .ref h0_mostTime, .ref h0_can, .ref h0_found, oh0_30, oh0_31, oh0_32, oh0_33, oh0_34, oh0_35, oh0_36, oh0_37])), (h0_parts, .inl (cy 2, 2, .inl v_parts)), (h0_rates, .inl (cy 2, 14, .inl v_rates)), (h0_ways, .inl (cy 2, 14, .inl v_ways)), (h0_leastTime, .inl (cy 2, 287, .inl v_leastTime_2)), (h0_mostTime, .inl (cy 2, 287, .inl v_mostTime_2)), (h0_can, .inl (cy 3, 26978, .inr (.inl v_can_11))), (h0_found, .inl (cy 2, 40, .inl v_found))]) (isC := []) (isR := [0, 1, 2, 3, 4, 5, 6, 7]) (pm := [0, 1, 2, 3, 4, 5, 6, 7]) hx hb hml hown hts (c9_index l D cy N (x5_11 + (1 : Int32)) p1 r53 hc53) (va_cwS 2 hts gX9_findStay_X9_index rfl rfl rfl (by decide +kernel) ⟨Nat.le_of_ble_eq_true rfl, Nat.le_of_ble_eq_true rfl⟩) hK hP hD hS hA rfl rfl rfl (by decide) rfl rfl rfl hl.1 (Nat.le_of_ble_eq_true rfl) dX9_findStay_53 ⟨Nat.zero_le _, Nat.zero_le _⟩ rfl rfl (fun H locs hP hD hS => ?_)
              obtain ⟨h56, hM⟩ := gi_some hM
              refine va_iald hx hb hK hP 5 2 rfl rfl h56 dX9_findStay_56 ?_
              refine lv_iload_n hx hb dX9_findStay_57 rfl (lv_at hl 4 rfl) ?_
              refine lv_icmp_lt (tgt := 65) hx hb dX9_findStay_58 (by decide) (fun c58 => ?_) (fun c58 => ?_)
              · have hM := g_pos c58 hM
                refine lv_iconst (v := 0) hx hb dX9_findStay_65 (by decide) ?_
                refine lv_istore (lv' := [(6, .int (0 : Int32)), (5, .int (x5_11 + (1 : Int32))), (0, .ref h0), (1, .int p1), (2, .int p2), (3, .int p3), (4, .int p4)]) hx hb dX9_findStay_66 hl (by decide) rfl (fun ls hl => ?_)
                refine lv_goto (tgt := 11) hx hb dX9_findStay_68 (by decide) ?_
                exact ih (x5_11 + (1 : Int32)) (0 : Int32) v_can_11 e5_11 e6_11 v_can_e11 _ _ _ hM hP hD hS (lv_sub hl [2, 3, 4, 5, 6, 1, 0] rfl) K
              · have hM := g_neg c58 hM
                refine lv_iconst (v := 1) hx hb dX9_findStay_61 (by decide) ?_
                refine lv_goto (tgt := 66) hx hb dX9_findStay_62 (by decide) ?_
                refine lv_istore (lv' := [(6, .int (1 : Int32)), (5, .int (x5_11 + (1 : Int32))), (0, .ref h0), (1, .int p1), (2, .int p2), (3, .int p3), (4, .int p4)]) hx hb dX9_findStay_66 hl (by decide) rfl (fun ls hl => ?_)
                refine lv_goto (tgt := 11) hx hb dX9_findStay_68 (by decide) ?_
                exact ih (x5_11 + (1 : Int32)) (1 : Int32) v_can_11 e5_11 e6_11 v_can_e11 _ _ _ hM hP hD hS (lv_sub hl [2, 3, 4, 5, 6, 1, 0] rfl) K
  obtain ⟨e5_11, e6_11, v_can_e11, hL11, hM⟩ := ob3_some hM
  refine L11 N (0 : Int32) (0 : Int32) v_can e5_11 e6_11 v_can_e11 _ _ _ hL11 hP hD hS (lv_sub hl [2, 3, 4, 5, 6, 1, 0] rfl) ?_
  intro H locs ls hP hD hS hl
  refine lv_iload hx hb dX9_findStay_91 (lv_at hl 5 rfl) ?_
  refine lv_if_ne (tgt := 98) hx hb dX9_findStay_93 (by decide) (fun c93 => ?_) (fun c93 => ?_)
  · have hM := g_neg c93 hM
    refine lv_iload_n hx hb dX9_findStay_98 rfl (lv_at hl 1 rfl) ?_
    refine lv_istore (lv' := [(7, .int p1), (0, .ref h0), (1, .int p1), (3, .int p3), (4, .int p4), (5, .int e5_11), (6, .int e6_11)]) hx hb dX9_findStay_99 hl (by decide) rfl (fun ls hl => ?_)
    refine lv_iload_n hx hb dX9_findStay_101 rfl (lv_at hl 3 rfl) ?_
    refine lv_istore (lv' := [(8, .int p3), (7, .int p1), (0, .ref h0), (1, .int p1), (3, .int p3), (4, .int p4), (5, .int e5_11), (6, .int e6_11)]) hx hb dX9_findStay_102 hl (by decide) rfl (fun ls hl => ?_)
    refine lv_iconst (v := 0) hx hb dX9_findStay_104 (by decide) ?_
    refine lv_istore (lv' := [(9, .int (0 : Int32)), (8, .int p3), (7, .int p1), (0, .ref h0), (1, .int p1), (3, .int p3), (4, .int p4), (5, .int e5_11), (6, .int e6_11)]) hx hb dX9_findStay_105 hl (by decide) rfl (fun ls hl => ?_)
    have L107 : ∀ (n : Nat) (x7_107 : Int32) (x8_107 : Int32) (x9_107 : Int32) (v_found_107 : Nat → Int32) (v_found_e107 : Nat → Int32) (H : Heap) (locs : List Loc) (ls : Array Slot), f9_findStay_L107 N p4 v_rates v_ways v_mostTime_2 e5_11 v_can_e11 n x7_107 x8_107 x9_107 v_found_107 = some v_found_e107 → va_P D vwCl [(h0, .inr (9, [oh0_0, oh0_1, oh0_2, .ref h0_parts, .ref h0_rates, .ref h0_ways, oh0_6, oh0_7, oh0_8, oh0_9, oh0_10, oh0_11, oh0_12, oh0_13, oh0_14, oh0_15, oh0_16, oh0_17, oh0_18, oh0_19, oh0_20, oh0_21, oh0_22, oh0_23, oh0_24, oh0_25, .ref h0_leastTime, .ref h0_mostTime, .ref h0_can, .ref h0_found, oh0_30, oh0_31, oh0_32, oh0_33, oh0_34, oh0_35, oh0_36, oh0_37])), (h0_parts, .inl (cy 2, 2, .inl v_parts)), (h0_rates, .inl (cy 2, 14, .inl v_rates)), (h0_ways, .inl (cy 2, 14, .inl v_ways)), (h0_leastTime, .inl (cy 2, 287, .inl v_leastTime_2)), (h0_mostTime, .inl (cy 2, 287, .inl v_mostTime_2)), (h0_can, .inl (cy 3, 26978, .inr (.inl v_can_e11))), (h0_found, .inl (cy 2, 40, .inl v_found_107))] H → va_D A [(h0, .inr (9, [oh0_0, oh0_1, oh0_2, .ref h0_parts, .ref h0_rates, .ref h0_ways, oh0_6, oh0_7, oh0_8, oh0_9, oh0_10, oh0_11, oh0_12, oh0_13, oh0_14, oh0_15, oh0_16, oh0_17, oh0_18, oh0_19, oh0_20, oh0_21, oh0_22, oh0_23, oh0_24, oh0_25, .ref h0_leastTime, .ref h0_mostTime, .ref h0_can, .ref h0_found, oh0_30, oh0_31, oh0_32, oh0_33, oh0_34, oh0_35, oh0_36, oh0_37])), (h0_parts, .inl (cy 2, 2, .inl v_parts)), (h0_rates, .inl (cy 2, 14, .inl v_rates)), (h0_ways, .inl (cy 2, 14, .inl v_ways)), (h0_leastTime, .inl (cy 2, 287, .inl v_leastTime_2)), (h0_mostTime, .inl (cy 2, 287, .inl v_mostTime_2)), (h0_can, .inl (cy 3, 26978, .inr (.inl v_can_e11))), (h0_found, .inl (cy 2, 40, .inl v_found_107))] → va_S A s.heap H locs → lv_has ls 11 [(0, .ref h0), (4, .int p4), (5, .int e5_11), (7, .int x7_107), (8, .int x8_107), (9, .int x9_107)] → (∀ (H : Heap) (locs : List Loc) (ls : Array Slot), va_P D vwCl [(h0, .inr (9, [oh0_0, oh0_1, oh0_2, .ref h0_parts, .ref h0_rates, .ref h0_ways, oh0_6, oh0_7, oh0_8, oh0_9, oh0_10, oh0_11, oh0_12, oh0_13, oh0_14, oh0_15, oh0_16, oh0_17, oh0_18, oh0_19, oh0_20, oh0_21, oh0_22, oh0_23, oh0_24, oh0_25, .ref h0_leastTime, .ref h0_mostTime, .ref h0_can, .ref h0_found, oh0_30, oh0_31, oh0_32, oh0_33, oh0_34, oh0_35, oh0_36, oh0_37])), (h0_parts, .inl (cy 2, 2, .inl v_parts)), (h0_rates, .inl (cy 2, 14, .inl v_rates)), (h0_ways, .inl (cy 2, 14, .inl v_ways)), (h0_leastTime, .inl (cy 2, 287, .inl v_leastTime_2)), (h0_mostTime, .inl (cy 2, 287, .inl v_mostTime_2)), (h0_can, .inl (cy 3, 26978, .inr (.inl v_can_e11))), (h0_found, .inl (cy 2, 40, .inl v_found_e107))] H → va_D A [(h0, .inr (9, [oh0_0, oh0_1, oh0_2, .ref h0_parts, .ref h0_rates, .ref h0_ways, oh0_6, oh0_7, oh0_8, oh0_9, oh0_10, oh0_11, oh0_12, oh0_13, oh0_14, oh0_15, oh0_16, oh0_17, oh0_18, oh0_19, oh0_20, oh0_21, oh0_22, oh0_23, oh0_24, oh0_25, .ref h0_leastTime, .ref h0_mostTime, .ref h0_can, .ref h0_found, oh0_30, oh0_31, oh0_32, oh0_33, oh0_34, oh0_35, oh0_36, oh0_37])), (h0_parts, .inl (cy 2, 2, .inl v_parts)), (h0_rates, .inl (cy 2, 14, .inl v_rates)), (h0_ways, .inl (cy 2, 14, .inl v_ways)), (h0_leastTime, .inl (cy 2, 287, .inl v_leastTime_2)), (h0_mostTime, .inl (cy 2, 287, .inl v_mostTime_2)), (h0_can, .inl (cy 3, 26978, .inr (.inl v_can_e11))), (h0_found, .inl (cy 2, 40, .inl v_found_e107))] → va_S A s.heap H locs → lv_has ls 11 [(5, .int e5_11)] → W p l e r9_findStay s m args below meth c H locs 0 0 Q (F0 m 233 ls [])) → W p l e r9_findStay s m args below meth c H locs 0 0 Q (F0 m 107 ls []) := by
      intro n
      induction n with
      | zero =>
        intro x7_107 x8_107 x9_107 v_found_107 v_found_e107 H locs ls hM
        exact absurd hM (by simp [f9_findStay_L107])
      | succ n ih =>
        intro x7_107 x8_107 x9_107 v_found_107 v_found_e107 H locs ls hM hP hD hS hl K
        rw [f9_findStay_L107] at hM
        refine lv_iload hx hb dX9_findStay_107 (lv_at hl 5 rfl) ?_
        refine lv_iload hx hb dX9_findStay_109 (lv_at hl 2 rfl) ?_
        refine lv_icmp_ge (tgt := 233) hx hb dX9_findStay_111 (by decide) (fun c111 => ?_) (fun c111 => ?_)
        · have hM := g_pos c111 hM
          obtain rfl := si1 hM
          exact K _ _ _ hP hD hS (lv_sub hl [2] rfl)
        · have hM := g_neg c111 hM
          refine lv_iload hx hb dX9_findStay_114 (lv_at hl 5 rfl) ?_
          have K206 : ∀ (x7_206 : Int32) (H : Heap) (locs : List Loc) (ls : Array Slot), f9_findStay_J206 N v_rates x8_107 x9_107 v_found_107 (f9_findStay_L107 N p4 v_rates v_ways v_mostTime_2 e5_11 v_can_e11 n) x7_206 = some v_found_e107 → va_P D vwCl [(h0, .inr (9, [oh0_0, oh0_1, oh0_2, .ref h0_parts, .ref h0_rates, .ref h0_ways, oh0_6, oh0_7, oh0_8, oh0_9, oh0_10, oh0_11, oh0_12, oh0_13, oh0_14, oh0_15, oh0_16, oh0_17, oh0_18, oh0_19, oh0_20, oh0_21, oh0_22, oh0_23, oh0_24, oh0_25, .ref h0_leastTime, .ref h0_mostTime, .ref h0_can, .ref h0_found, oh0_30, oh0_31, oh0_32, oh0_33, oh0_34, oh0_35, oh0_36, oh0_37])), (h0_parts, .inl (cy 2, 2, .inl v_parts)), (h0_rates, .inl (cy 2, 14, .inl v_rates)), (h0_ways, .inl (cy 2, 14, .inl v_ways)), (h0_leastTime, .inl (cy 2, 287, .inl v_leastTime_2)), (h0_mostTime, .inl (cy 2, 287, .inl v_mostTime_2)), (h0_can, .inl (cy 3, 26978, .inr (.inl v_can_e11))), (h0_found, .inl (cy 2, 40, .inl v_found_107))] H → va_D A [(h0, .inr (9, [oh0_0, oh0_1, oh0_2, .ref h0_parts, .ref h0_rates, .ref h0_ways, oh0_6, oh0_7, oh0_8, oh0_9, oh0_10, oh0_11, oh0_12, oh0_13, oh0_14, oh0_15, oh0_16, oh0_17, oh0_18, oh0_19, oh0_20, oh0_21, oh0_22, oh0_23, oh0_24, oh0_25, .ref h0_leastTime, .ref h0_mostTime, .ref h0_can, .ref h0_found, oh0_30, oh0_31, oh0_32, oh0_33, oh0_34, oh0_35, oh0_36, oh0_37])), (h0_parts, .inl (cy 2, 2, .inl v_parts)), (h0_rates, .inl (cy 2, 14, .inl v_rates)), (h0_ways, .inl (cy 2, 14, .inl v_ways)), (h0_leastTime, .inl (cy 2, 287, .inl v_leastTime_2)), (h0_mostTime, .inl (cy 2, 287, .inl v_mostTime_2)), (h0_can, .inl (cy 3, 26978, .inr (.inl v_can_e11))), (h0_found, .inl (cy 2, 40, .inl v_found_107))] → va_S A s.heap H locs → lv_has ls 11 [(0, .ref h0), (4, .int p4), (5, .int e5_11), (7, .int x7_206), (8, .int x8_107), (9, .int x9_107)] → W p l e r9_findStay s m args below meth c H locs 0 0 Q (F0 m 206 ls []) := by
            intro x7_206 H locs ls hM hP hD hS hl
            unfold f9_findStay_J206 at hM
            refine lv_aload_n hx hb dX9_findStay_206 rfl (lv_at hl 0 rfl) ?_
            refine va_get (D := D) (ci := 9) (v := .ref h0_found) (C := RX9) (T := TX9) (N := 38) hx hb hts iX9 hown hK hP 0 rfl rfl 29 (by decide) k70 (fun _ h9 => h9) rfl dX9_findStay_207 ?_
            refine lv_iload hx hb dX9_findStay_210 (lv_at hl 5 rfl) ?_
            refine lv_iload hx hb dX9_findStay_212 (lv_at hl 3 rfl) ?_
            obtain ⟨h214, hM⟩ := gi_some hM
            refine va_iast hx hb hK hP hD hS 7 2 rfl rfl h214 dX9_findStay_214 (fun H locs hP hD hS => ?_)
            have hP : va_P D vwCl [(h0, .inr (9, [oh0_0, oh0_1, oh0_2, .ref h0_parts, .ref h0_rates, .ref h0_ways, oh0_6, oh0_7, oh0_8, oh0_9, oh0_10, oh0_11, oh0_12, oh0_13, oh0_14, oh0_15, oh0_16, oh0_17, oh0_18, oh0_19, oh0_20, oh0_21, oh0_22, oh0_23, oh0_24, oh0_25, .ref h0_leastTime, .ref h0_mostTime, .ref h0_can, .ref h0_found, oh0_30, oh0_31, oh0_32, oh0_33, oh0_34, oh0_35, oh0_36, oh0_37])), (h0_parts, .inl (cy 2, 2, .inl v_parts)), (h0_rates, .inl (cy 2, 14, .inl v_rates)), (h0_ways, .inl (cy 2, 14, .inl v_ways)), (h0_leastTime, .inl (cy 2, 287, .inl v_leastTime_2)), (h0_mostTime, .inl (cy 2, 287, .inl v_mostTime_2)), (h0_can, .inl (cy 3, 26978, .inr (.inl v_can_e11))), (h0_found, .inl (cy 2, 40, .inl (upd v_found_107 x9_107.toNatClampNeg x7_206)))] H := hP
            have hD : va_D A [(h0, .inr (9, [oh0_0, oh0_1, oh0_2, .ref h0_parts, .ref h0_rates, .ref h0_ways, oh0_6, oh0_7, oh0_8, oh0_9, oh0_10, oh0_11, oh0_12, oh0_13, oh0_14, oh0_15, oh0_16, oh0_17, oh0_18, oh0_19, oh0_20, oh0_21, oh0_22, oh0_23, oh0_24, oh0_25, .ref h0_leastTime, .ref h0_mostTime, .ref h0_can, .ref h0_found, oh0_30, oh0_31, oh0_32, oh0_33, oh0_34, oh0_35, oh0_36, oh0_37])), (h0_parts, .inl (cy 2, 2, .inl v_parts)), (h0_rates, .inl (cy 2, 14, .inl v_rates)), (h0_ways, .inl (cy 2, 14, .inl v_ways)), (h0_leastTime, .inl (cy 2, 287, .inl v_leastTime_2)), (h0_mostTime, .inl (cy 2, 287, .inl v_mostTime_2)), (h0_can, .inl (cy 3, 26978, .inr (.inl v_can_e11))), (h0_found, .inl (cy 2, 40, .inl (upd v_found_107 x9_107.toNatClampNeg x7_206)))] := hD
            refine lv_iload hx hb dX9_findStay_215 (lv_at hl 4 rfl) ?_
            refine lv_aload_n hx hb dX9_findStay_217 rfl (lv_at hl 0 rfl) ?_
            refine va_get (D := D) (ci := 9) (v := .ref h0_rates) (C := RX9) (T := TX9) (N := 38) hx hb hts iX9 hown hK hP 0 rfl rfl 4 (by decide) k17 (fun _ h9 => h9) rfl dX9_findStay_218 ?_
            refine lv_iload hx hb dX9_findStay_221 (lv_at hl 3 rfl) ?_
            obtain ⟨h223, hM⟩ := gi_some hM
            refine va_iald hx hb hK hP 2 2 rfl rfl h223 dX9_findStay_223 ?_
            refine lv_isub hx hb dX9_findStay_224 ?_
            refine lv_istore (lv' := [(8, .int (x8_107 - (v_rates x7_206.toNatClampNeg))), (0, .ref h0), (4, .int p4), (5, .int e5_11), (7, .int x7_206), (9, .int x9_107)]) hx hb dX9_findStay_225 hl (by decide) rfl (fun ls hl => ?_)
            refine lv_iinc (v := x9_107 + (1 : Int32)) (lv' := [(9, .int (x9_107 + (1 : Int32))), (8, .int (x8_107 - (v_rates x7_206.toNatClampNeg))), (0, .ref h0), (4, .int p4), (5, .int e5_11), (7, .int x7_206)]) hx hb dX9_findStay_227 hl (k := 5) rfl rfl (by decide) rfl (fun ls hl => ?_)
            refine lv_goto (tgt := 107) hx hb dX9_findStay_230 (by decide) ?_
            exact ih x7_206 (x8_107 - (v_rates x7_206.toNatClampNeg)) (x9_107 + (1 : Int32)) (upd v_found_107 x9_107.toNatClampNeg x7_206) v_found_e107 _ _ _ hM hP hD hS (lv_sub hl [2, 3, 4, 5, 1, 0] rfl) K
          refine lv_if_le (tgt := 206) hx hb dX9_findStay_116 (by decide) (fun c116 => ?_) (fun c116 => ?_)
          · have hM := g_pos c116 hM
            exact K206 x7_107 _ _ _ hM hP hD hS (lv_sub hl [0, 1, 2, 3, 4, 5] rfl)
          · have hM := g_neg c116 hM
            refine lv_iconst (v := 0) hx hb dX9_findStay_119 (by decide) ?_
            refine lv_istore (lv' := [(10, .int (0 : Int32)), (0, .ref h0), (4, .int p4), (5, .int e5_11), (7, .int x7_107), (8, .int x8_107), (9, .int x9_107)]) hx hb dX9_findStay_120 hl (by decide) rfl (fun ls hl => ?_)
            have L122 : ∀ (n : Nat) (x10_122 : Int32) (H : Heap) (locs : List Loc) (ls : Array Slot), f9_findStay_L122 N p4 v_ways v_mostTime_2 e5_11 v_can_e11 x7_107 x8_107 x9_107 n x10_122 = some v_found_e107 → va_P D vwCl [(h0, .inr (9, [oh0_0, oh0_1, oh0_2, .ref h0_parts, .ref h0_rates, .ref h0_ways, oh0_6, oh0_7, oh0_8, oh0_9, oh0_10, oh0_11, oh0_12, oh0_13, oh0_14, oh0_15, oh0_16, oh0_17, oh0_18, oh0_19, oh0_20, oh0_21, oh0_22, oh0_23, oh0_24, oh0_25, .ref h0_leastTime, .ref h0_mostTime, .ref h0_can, .ref h0_found, oh0_30, oh0_31, oh0_32, oh0_33, oh0_34, oh0_35, oh0_36, oh0_37])), (h0_parts, .inl (cy 2, 2, .inl v_parts)), (h0_rates, .inl (cy 2, 14, .inl v_rates)), (h0_ways, .inl (cy 2, 14, .inl v_ways)), (h0_leastTime, .inl (cy 2, 287, .inl v_leastTime_2)), (h0_mostTime, .inl (cy 2, 287, .inl v_mostTime_2)), (h0_can, .inl (cy 3, 26978, .inr (.inl v_can_e11))), (h0_found, .inl (cy 2, 40, .inl v_found_107))] H → va_D A [(h0, .inr (9, [oh0_0, oh0_1, oh0_2, .ref h0_parts, .ref h0_rates, .ref h0_ways, oh0_6, oh0_7, oh0_8, oh0_9, oh0_10, oh0_11, oh0_12, oh0_13, oh0_14, oh0_15, oh0_16, oh0_17, oh0_18, oh0_19, oh0_20, oh0_21, oh0_22, oh0_23, oh0_24, oh0_25, .ref h0_leastTime, .ref h0_mostTime, .ref h0_can, .ref h0_found, oh0_30, oh0_31, oh0_32, oh0_33, oh0_34, oh0_35, oh0_36, oh0_37])), (h0_parts, .inl (cy 2, 2, .inl v_parts)), (h0_rates, .inl (cy 2, 14, .inl v_rates)), (h0_ways, .inl (cy 2, 14, .inl v_ways)), (h0_leastTime, .inl (cy 2, 287, .inl v_leastTime_2)), (h0_mostTime, .inl (cy 2, 287, .inl v_mostTime_2)), (h0_can, .inl (cy 3, 26978, .inr (.inl v_can_e11))), (h0_found, .inl (cy 2, 40, .inl v_found_107))] → va_S A s.heap H locs → lv_has ls 11 [(0, .ref h0), (4, .int p4), (5, .int e5_11), (7, .int x7_107), (8, .int x8_107), (9, .int x9_107), (10, .int x10_122)] → W p l e r9_findStay s m args below meth c H locs 0 0 Q (F0 m 122 ls []) := by
              intro n
              induction n with
              | zero =>
                intro x10_122 H locs ls hM
                exact absurd hM (by simp [f9_findStay_L122])
              | succ n ih =>
                intro x10_122 H locs ls hM hP hD hS hl
                rw [f9_findStay_L122] at hM
                refine lv_aload_n hx hb dX9_findStay_122 rfl (lv_at hl 0 rfl) ?_
                refine lv_iload hx hb dX9_findStay_123 (lv_at hl 3 rfl) ?_
                refine lv_iload hx hb dX9_findStay_125 (lv_at hl 6 rfl) ?_
                obtain ⟨r127, hc127, hM⟩ := ob1_some hM
                refine cl_vi (As := [.int x7_107, .int x10_122]) (rest := []) (ci := 9) (q0 := 0) (wr := [(h0_parts, .inl (cy 2, 2, .inl v_parts)), (h0_rates, .inl (cy 2, 14, .inl v_rates)), (h0_leastTime, .inl (cy 2, 287, .inl v_leastTime_2)), (h0_mostTime, .inl (cy 2, 287, .inl v_mostTime_2)), (h0_can, .inl (cy 3, 26978, .inr (.inl v_can_e11))), (h0_found, .inl (cy 2, 40, .inl v_found_107))]) (ws2 := [(h0, .inr (9, [oh0_0, oh0_1, oh0_2, .ref h0_parts, .ref h0_rates, .ref h0_ways, oh0_6, oh0_7, oh0_8, oh0_9, oh0_10, oh0_11, oh0_12, oh0_13, oh0_14, oh0_15, oh0_16, oh0_17, oh0_18, oh0_19, oh0_20, oh0_21, oh0_22, oh0_23, oh0_24, oh0_25, .ref h0_leastTime, .ref h0_mostTime, .ref h0_can, .ref h0_found, oh0_30, oh0_31, oh0_32, oh0_33, oh0_34, oh0_35, oh0_36, oh0_37])), (h0_parts, .inl (cy 2, 2, .inl v_parts)), (h0_rates, .inl (cy 2, 14, .inl v_rates)), (h0_ways, .inl (cy 2, 14, .inl v_ways)), (h0_leastTime, .inl (cy 2, 287, .inl v_leastTime_2)), (h0_mostTime, .inl (cy 2, 287, .inl v_mostTime_2)), (h0_can, .inl (cy 3, 26978, .inr (.inl v_can_e11))), (h0_found, .inl (cy 2, 40, .inl v_found_107))]) (isC := [0, 3]) (isR := [1, 2, 4, 5, 6, 7]) (pm := [6, 0, 1, 7, 2, 3, 4, 5]) hx hb hml hown hts (c9_isStep l D cy N h0 h0_ways oh0_0 oh0_1 oh0_2 (.ref h0_parts) (.ref h0_rates) oh0_6 oh0_7 oh0_8 oh0_9 oh0_10 oh0_11 oh0_12 oh0_13 oh0_14 oh0_15 oh0_16 oh0_17 oh0_18 oh0_19 oh0_20 oh0_21 oh0_22 oh0_23 oh0_24 oh0_25 (.ref h0_leastTime) (.ref h0_mostTime) (.ref h0_can) (.ref h0_found) oh0_30 oh0_31 oh0_32 oh0_33 oh0_34 oh0_35 oh0_36 oh0_37 x7_107 x10_122 v_ways r127 hc127) (cwV 2 hts gX9_findStay_X9_isStep rfl rfl rfl (by decide +kernel) ⟨Nat.le_of_ble_eq_true rfl, Nat.le_of_ble_eq_true rfl⟩) hK hP hD hS hA rfl rfl rfl rfl rfl (by decide) rfl rfl rfl hl.1 (Nat.le_of_ble_eq_true rfl) dX9_findStay_127 ⟨Nat.zero_le _, Nat.zero_le _⟩ rfl rfl (fun H locs hP hD hS => ?_)
                refine lv_if_eq (tgt := 196) hx hb dX9_findStay_130 (by decide) (fun c130 => ?_) (fun c130 => ?_)
                · have hM := g_pos c130 hM
                  refine lv_iinc (v := x10_122 + (1 : Int32)) (lv' := [(10, .int (x10_122 + (1 : Int32))), (0, .ref h0), (4, .int p4), (5, .int e5_11), (7, .int x7_107), (8, .int x8_107), (9, .int x9_107)]) hx hb dX9_findStay_196 hl (k := 6) rfl rfl (by decide) rfl (fun ls hl => ?_)
                  refine lv_goto (tgt := 122) hx hb dX9_findStay_199 (by decide) ?_
                  exact ih (x10_122 + (1 : Int32)) _ _ _ hM hP hD hS (lv_sub hl [1, 2, 3, 4, 5, 6, 0] rfl)
                · have hM := g_neg c130 hM
                  refine lv_iload hx hb dX9_findStay_133 (lv_at hl 1 rfl) ?_
                  refine lv_if_eq (tgt := 180) hx hb dX9_findStay_135 (by decide) (fun c135 => ?_) (fun c135 => ?_)
                  · have hM := g_pos c135 hM
                    refine lv_aload_n hx hb dX9_findStay_180 rfl (lv_at hl 0 rfl) ?_
                    refine lv_iload hx hb dX9_findStay_181 (lv_at hl 2 rfl) ?_
                    refine lv_iload hx hb dX9_findStay_183 (lv_at hl 5 rfl) ?_
                    refine lv_isub hx hb dX9_findStay_185 ?_
                    refine lv_iload hx hb dX9_findStay_186 (lv_at hl 6 rfl) ?_
                    refine lv_iload hx hb dX9_findStay_188 (lv_at hl 4 rfl) ?_
                    obtain ⟨r190, hc190, hM⟩ := ob1_some hM
                    refine cl_vi (As := [.int (e5_11 - x9_107), .int x10_122, .int x8_107]) (rest := []) (ci := 9) (q0 := 0) (wr := [(h0_parts, .inl (cy 2, 2, .inl v_parts)), (h0_rates, .inl (cy 2, 14, .inl v_rates)), (h0_ways, .inl (cy 2, 14, .inl v_ways)), (h0_leastTime, .inl (cy 2, 287, .inl v_leastTime_2)), (h0_mostTime, .inl (cy 2, 287, .inl v_mostTime_2)), (h0_found, .inl (cy 2, 40, .inl v_found_107))]) (ws2 := [(h0, .inr (9, [oh0_0, oh0_1, oh0_2, .ref h0_parts, .ref h0_rates, .ref h0_ways, oh0_6, oh0_7, oh0_8, oh0_9, oh0_10, oh0_11, oh0_12, oh0_13, oh0_14, oh0_15, oh0_16, oh0_17, oh0_18, oh0_19, oh0_20, oh0_21, oh0_22, oh0_23, oh0_24, oh0_25, .ref h0_leastTime, .ref h0_mostTime, .ref h0_can, .ref h0_found, oh0_30, oh0_31, oh0_32, oh0_33, oh0_34, oh0_35, oh0_36, oh0_37])), (h0_parts, .inl (cy 2, 2, .inl v_parts)), (h0_rates, .inl (cy 2, 14, .inl v_rates)), (h0_ways, .inl (cy 2, 14, .inl v_ways)), (h0_leastTime, .inl (cy 2, 287, .inl v_leastTime_2)), (h0_mostTime, .inl (cy 2, 287, .inl v_mostTime_2)), (h0_can, .inl (cy 3, 26978, .inr (.inl v_can_e11))), (h0_found, .inl (cy 2, 40, .inl v_found_107))]) (isC := [0, 6]) (isR := [1, 2, 3, 4, 5, 7]) (pm := [6, 0, 1, 2, 3, 4, 7, 5]) hx hb hml hown hts (c9_isAble l D cy N h0 h0_can oh0_0 oh0_1 oh0_2 (.ref h0_parts) (.ref h0_rates) (.ref h0_ways) oh0_6 oh0_7 oh0_8 oh0_9 oh0_10 oh0_11 oh0_12 oh0_13 oh0_14 oh0_15 oh0_16 oh0_17 oh0_18 oh0_19 oh0_20 oh0_21 oh0_22 oh0_23 oh0_24 oh0_25 (.ref h0_leastTime) (.ref h0_mostTime) (.ref h0_found) oh0_30 oh0_31 oh0_32 oh0_33 oh0_34 oh0_35 oh0_36 oh0_37 (e5_11 - x9_107) x10_122 x8_107 v_can_e11 r190 hc190) (cwV 3 hts gX9_findStay_X9_isAble rfl rfl rfl (by decide +kernel) ⟨Nat.le_of_ble_eq_true rfl, Nat.le_of_ble_eq_true rfl⟩) hK hP hD hS hA rfl rfl rfl rfl rfl (by decide) rfl rfl rfl hl.1 (Nat.le_of_ble_eq_true rfl) dX9_findStay_190 ⟨Nat.zero_le _, Nat.zero_le _⟩ rfl rfl (fun H locs hP hD hS => ?_)
                    refine lv_if_ne (tgt := 202) hx hb dX9_findStay_193 (by decide) (fun c193 => ?_) (fun c193 => ?_)
                    · have hM := g_neg c193 hM
                      refine lv_iload hx hb dX9_findStay_202 (lv_at hl 6 rfl) ?_
                      refine lv_istore (lv' := [(7, .int x10_122), (0, .ref h0), (4, .int p4), (5, .int e5_11), (8, .int x8_107), (9, .int x9_107), (10, .int x10_122)]) hx hb dX9_findStay_204 hl (by decide) rfl (fun ls hl => ?_)
                      exact K206 x10_122 _ _ _ hM hP hD hS (lv_sub hl [1, 2, 3, 0, 4, 5] rfl)
                    · have hM := g_pos c193 hM
                      refine lv_iinc (v := x10_122 + (1 : Int32)) (lv' := [(10, .int (x10_122 + (1 : Int32))), (0, .ref h0), (4, .int p4), (5, .int e5_11), (7, .int x7_107), (8, .int x8_107), (9, .int x9_107)]) hx hb dX9_findStay_196 hl (k := 6) rfl rfl (by decide) rfl (fun ls hl => ?_)
                      refine lv_goto (tgt := 122) hx hb dX9_findStay_199 (by decide) ?_
                      exact ih (x10_122 + (1 : Int32)) _ _ _ hM hP hD hS (lv_sub hl [1, 2, 3, 4, 5, 6, 0] rfl)
                  · have hM := g_neg c135 hM
                    refine lv_aload_n hx hb dX9_findStay_138 rfl (lv_at hl 0 rfl) ?_
                    refine va_get (D := D) (ci := 9) (v := .ref h0_mostTime) (C := RX9) (T := TX9) (N := 38) hx hb hts iX9 hown hK hP 0 rfl rfl 27 (by decide) k63 (fun _ h9 => h9) rfl dX9_findStay_139 ?_
                    refine lv_iload hx hb dX9_findStay_142 (lv_at hl 2 rfl) ?_
                    refine lv_iload hx hb dX9_findStay_144 (lv_at hl 5 rfl) ?_
                    refine lv_isub hx hb dX9_findStay_146 ?_
                    refine lv_iload hx hb dX9_findStay_147 (lv_at hl 6 rfl) ?_
                    obtain ⟨r149, hc149, hM⟩ := ob1_some hM
                    refine cl_si (As := [.int (e5_11 - x9_107), .int x10_122]) (rest := [.ref h0_mostTime]) (wr := [(h0, .inr (9, [oh0_0, oh0_1, oh0_2, .ref h0_parts, .ref h0_rates, .ref h0_ways, oh0_6, oh0_7, oh0_8, oh0_9, oh0_10, oh0_11, oh0_12, oh0_13, oh0_14, oh0_15, oh0_16, oh0_17, oh0_18, oh0_19, oh0_20, oh0_21, oh0_22, oh0_23, oh0_24, oh0_25, .ref h0_leastTime, .ref h0_mostTime, .ref h0_can, .ref h0_found, oh0_30, oh0_31, oh0_32, oh0_33, oh0_34, oh0_35, oh0_36, oh0_37])), (h0_parts, .inl (cy 2, 2, .inl v_parts)), (h0_rates, .inl (cy 2, 14, .inl v_rates)), (h0_ways, .inl (cy 2, 14, .inl v_ways)), (h0_leastTime, .inl (cy 2, 287, .inl v_leastTime_2)), (h0_mostTime, .inl (cy 2, 287, .inl v_mostTime_2)), (h0_can, .inl (cy 3, 26978, .inr (.inl v_can_e11))), (h0_found, .inl (cy 2, 40, .inl v_found_107))]) (ws2 := [(h0, .inr (9, [oh0_0, oh0_1, oh0_2, .ref h0_parts, .ref h0_rates, .ref h0_ways, oh0_6, oh0_7, oh0_8, oh0_9, oh0_10, oh0_11, oh0_12, oh0_13, oh0_14, oh0_15, oh0_16, oh0_17, oh0_18, oh0_19, oh0_20, oh0_21, oh0_22, oh0_23, oh0_24, oh0_25, .ref h0_leastTime, .ref h0_mostTime, .ref h0_can, .ref h0_found, oh0_30, oh0_31, oh0_32, oh0_33, oh0_34, oh0_35, oh0_36, oh0_37])), (h0_parts, .inl (cy 2, 2, .inl v_parts)), (h0_rates, .inl (cy 2, 14, .inl v_rates)), (h0_ways, .inl (cy 2, 14, .inl v_ways)), (h0_leastTime, .inl (cy 2, 287, .inl v_leastTime_2)), (h0_mostTime, .inl (cy 2, 287, .inl v_mostTime_2)), (h0_can, .inl (cy 3, 26978, .inr (.inl v_can_e11))), (h0_found, .inl (cy 2, 40, .inl v_found_107))]) (isC := []) (isR := [0, 1, 2, 3, 4, 5, 6, 7]) (pm := [0, 1, 2, 3, 4, 5, 6, 7]) hx hb hml hown hts (c9_index l D cy N (e5_11 - x9_107) x10_122 r149 hc149) (va_cwS 2 hts gX9_findStay_X9_index rfl rfl rfl (by decide +kernel) ⟨Nat.le_of_ble_eq_true rfl, Nat.le_of_ble_eq_true rfl⟩) hK hP hD hS hA rfl rfl rfl (by decide) rfl rfl rfl hl.1 (Nat.le_of_ble_eq_true rfl) dX9_findStay_149 ⟨Nat.zero_le _, Nat.zero_le _⟩ rfl rfl (fun H locs hP hD hS => ?_)
                    obtain ⟨h152, hM⟩ := gi_some hM
                    refine va_iald hx hb hK hP 5 2 rfl rfl h152 dX9_findStay_152 ?_
                    refine lv_iconst (v := -1) hx hb dX9_findStay_153 (by decide) ?_
                    refine lv_icmp_eq (tgt := 196) hx hb dX9_findStay_154 (by decide) (fun c154 => ?_) (fun c154 => ?_)
                    · have hM := g_pos c154 hM
                      refine lv_iinc (v := x10_122 + (1 : Int32)) (lv' := [(10, .int (x10_122 + (1 : Int32))), (0, .ref h0), (4, .int p4), (5, .int e5_11), (7, .int x7_107), (8, .int x8_107), (9, .int x9_107)]) hx hb dX9_findStay_196 hl (k := 6) rfl rfl (by decide) rfl (fun ls hl => ?_)
                      refine lv_goto (tgt := 122) hx hb dX9_findStay_199 (by decide) ?_
                      exact ih (x10_122 + (1 : Int32)) _ _ _ hM hP hD hS (lv_sub hl [1, 2, 3, 4, 5, 6, 0] rfl)
                    · have hM := g_neg c154 hM
                      refine lv_aload_n hx hb dX9_findStay_157 rfl (lv_at hl 0 rfl) ?_
                      refine va_get (D := D) (ci := 9) (v := .ref h0_mostTime) (C := RX9) (T := TX9) (N := 38) hx hb hts iX9 hown hK hP 0 rfl rfl 27 (by decide) k63 (fun _ h9 => h9) rfl dX9_findStay_158 ?_
                      refine lv_iload hx hb dX9_findStay_161 (lv_at hl 2 rfl) ?_
                      refine lv_iload hx hb dX9_findStay_163 (lv_at hl 5 rfl) ?_
                      refine lv_isub hx hb dX9_findStay_165 ?_
                      refine lv_iload hx hb dX9_findStay_166 (lv_at hl 6 rfl) ?_
                      obtain ⟨r168, hc168, hM⟩ := ob1_some hM
                      refine cl_si (As := [.int (e5_11 - x9_107), .int x10_122]) (rest := [.ref h0_mostTime]) (wr := [(h0, .inr (9, [oh0_0, oh0_1, oh0_2, .ref h0_parts, .ref h0_rates, .ref h0_ways, oh0_6, oh0_7, oh0_8, oh0_9, oh0_10, oh0_11, oh0_12, oh0_13, oh0_14, oh0_15, oh0_16, oh0_17, oh0_18, oh0_19, oh0_20, oh0_21, oh0_22, oh0_23, oh0_24, oh0_25, .ref h0_leastTime, .ref h0_mostTime, .ref h0_can, .ref h0_found, oh0_30, oh0_31, oh0_32, oh0_33, oh0_34, oh0_35, oh0_36, oh0_37])), (h0_parts, .inl (cy 2, 2, .inl v_parts)), (h0_rates, .inl (cy 2, 14, .inl v_rates)), (h0_ways, .inl (cy 2, 14, .inl v_ways)), (h0_leastTime, .inl (cy 2, 287, .inl v_leastTime_2)), (h0_mostTime, .inl (cy 2, 287, .inl v_mostTime_2)), (h0_can, .inl (cy 3, 26978, .inr (.inl v_can_e11))), (h0_found, .inl (cy 2, 40, .inl v_found_107))]) (ws2 := [(h0, .inr (9, [oh0_0, oh0_1, oh0_2, .ref h0_parts, .ref h0_rates, .ref h0_ways, oh0_6, oh0_7, oh0_8, oh0_9, oh0_10, oh0_11, oh0_12, oh0_13, oh0_14, oh0_15, oh0_16, oh0_17, oh0_18, oh0_19, oh0_20, oh0_21, oh0_22, oh0_23, oh0_24, oh0_25, .ref h0_leastTime, .ref h0_mostTime, .ref h0_can, .ref h0_found, oh0_30, oh0_31, oh0_32, oh0_33, oh0_34, oh0_35, oh0_36, oh0_37])), (h0_parts, .inl (cy 2, 2, .inl v_parts)), (h0_rates, .inl (cy 2, 14, .inl v_rates)), (h0_ways, .inl (cy 2, 14, .inl v_ways)), (h0_leastTime, .inl (cy 2, 287, .inl v_leastTime_2)), (h0_mostTime, .inl (cy 2, 287, .inl v_mostTime_2)), (h0_can, .inl (cy 3, 26978, .inr (.inl v_can_e11))), (h0_found, .inl (cy 2, 40, .inl v_found_107))]) (isC := []) (isR := [0, 1, 2, 3, 4, 5, 6, 7]) (pm := [0, 1, 2, 3, 4, 5, 6, 7]) hx hb hml hown hts (c9_index l D cy N (e5_11 - x9_107) x10_122 r168 hc168) (va_cwS 2 hts gX9_findStay_X9_index rfl rfl rfl (by decide +kernel) ⟨Nat.le_of_ble_eq_true rfl, Nat.le_of_ble_eq_true rfl⟩) hK hP hD hS hA rfl rfl rfl (by decide) rfl rfl rfl hl.1 (Nat.le_of_ble_eq_true rfl) dX9_findStay_168 ⟨Nat.zero_le _, Nat.zero_le _⟩ rfl rfl (fun H locs hP hD hS => ?_)
                      obtain ⟨h171, hM⟩ := gi_some hM
                      refine va_iald hx hb hK hP 5 2 rfl rfl h171 dX9_findStay_171 ?_
                      refine lv_iload hx hb dX9_findStay_172 (lv_at hl 4 rfl) ?_
                      refine lv_icmp_lt (tgt := 196) hx hb dX9_findStay_174 (by decide) (fun c174 => ?_) (fun c174 => ?_)
                      · have hM := g_pos c174 hM
                        refine lv_iinc (v := x10_122 + (1 : Int32)) (lv' := [(10, .int (x10_122 + (1 : Int32))), (0, .ref h0), (4, .int p4), (5, .int e5_11), (7, .int x7_107), (8, .int x8_107), (9, .int x9_107)]) hx hb dX9_findStay_196 hl (k := 6) rfl rfl (by decide) rfl (fun ls hl => ?_)
                        refine lv_goto (tgt := 122) hx hb dX9_findStay_199 (by decide) ?_
                        exact ih (x10_122 + (1 : Int32)) _ _ _ hM hP hD hS (lv_sub hl [1, 2, 3, 4, 5, 6, 0] rfl)
                      · have hM := g_neg c174 hM
                        refine lv_goto (tgt := 202) hx hb dX9_findStay_177 (by decide) ?_
                        refine lv_iload hx hb dX9_findStay_202 (lv_at hl 6 rfl) ?_
                        refine lv_istore (lv' := [(7, .int x10_122), (0, .ref h0), (4, .int p4), (5, .int e5_11), (8, .int x8_107), (9, .int x9_107), (10, .int x10_122)]) hx hb dX9_findStay_204 hl (by decide) rfl (fun ls hl => ?_)
                        exact K206 x10_122 _ _ _ hM hP hD hS (lv_sub hl [1, 2, 3, 0, 4, 5] rfl)
            exact L122 N (0 : Int32) _ _ _ hM hP hD hS (lv_sub hl [1, 2, 3, 4, 5, 6, 0] rfl)
    obtain ⟨v_found_e107, hL107, hM⟩ := ob1_some hM
    refine L107 N p1 p3 (0 : Int32) v_found v_found_e107 _ _ _ hL107 hP hD hS (lv_sub hl [3, 6, 7, 2, 1, 0] rfl) ?_
    intro H locs ls hP hD hS hl
    refine lv_iload hx hb dX9_findStay_233 (lv_at hl 0 rfl) ?_
    obtain ⟨rfl, rfl, rfl, rfl, rfl⟩ := si5 hM
    exact hret _ _ _ _ _ dX9_findStay_235 rfl rfl hP hD hS
  · have hM := g_pos c93 hM
    refine lv_iconst (v := -1) hx hb dX9_findStay_96 (by decide) ?_
    obtain ⟨rfl, rfl, rfl, rfl, rfl⟩ := si5 hM
    exact hret _ _ _ _ _ dX9_findStay_97 rfl rfl hP hD hS

-- ===== X9_just just (IIIZI)I =====
abbrev r9_just : Room := { frames := 3, cells := 0, slots := 0, locals := 83 }
def f9_just (N : Nat) (p1 : Int32) (p2 : Int32) (p3 : Int32) (p4 : Int32) (p5 : Int32) (v_parts : Nat → Int32) (v_rates : Nat → Int32) (v_ways : Nat → Int32) (v_mouths : Nat → Int32) (v_leastTime : Nat → Int32) (v_mostTime : Nat → Int32) (v_can : Nat → Int64) (v_found : Nat → Int32) : Option (Int32 × (Nat → Int32) × (Nat → Int32) × (Nat → Int64) × (Nat → Int32)) :=
  ob1 (f9_isMouth N p1 v_parts v_mouths) fun r2 => if r2 = (0 : Int32) then (some ((-1000000001 : Int32), v_leastTime, v_mostTime, v_can, v_found)) else (ob1 (f9_isMouth N p2 v_parts v_mouths) fun r10 => if r10 = (0 : Int32) then (some ((-1000000001 : Int32), v_leastTime, v_mostTime, v_can, v_found)) else (ob1 (f9_in N p3 (0 : Int32) (6000 : Int32)) fun r24 => if r24 = (0 : Int32) then (some ((-1000000002 : Int32), v_leastTime, v_mostTime, v_can, v_found)) else (ob5 (f9_findStay N p1 p2 p3 p4 v_parts v_rates v_ways v_leastTime v_mostTime v_can v_found) fun r39 v_leastTime_39 v_mostTime_39 v_can_39 v_found_39 => if r39 = (-1 : Int32) then (some (r39, v_leastTime_39, v_mostTime_39, v_can_39, v_found_39)) else (if p5 = (-1 : Int32) then (some (r39, v_leastTime_39, v_mostTime_39, v_can_39, v_found_39)) else (ob1 (f9_in N p5 (0 : Int32) (r39 - (1 : Int32))) fun r68 => if r68 = (0 : Int32) then (some ((-1 : Int32), v_leastTime_39, v_mostTime_39, v_can_39, v_found_39)) else (gi p5 40 (some ((v_found_39 p5.toNatClampNeg), v_leastTime_39, v_mostTime_39, v_can_39, v_found_39))))))))
set_option maxHeartbeats 4000000 in
set_option maxRecDepth 100000 in
theorem c9_just (l : Launch) (D : va_G) (cy : Nat → ClassId) (N : Nat) (h0 h0_parts h0_rates h0_ways h0_mouths h0_leastTime h0_mostTime h0_can h0_found : Nat) (oh0_0 oh0_1 oh0_2 oh0_6 oh0_8 oh0_9 oh0_10 oh0_11 oh0_12 oh0_13 oh0_14 oh0_15 oh0_16 oh0_17 oh0_18 oh0_19 oh0_20 oh0_21 oh0_22 oh0_23 oh0_24 oh0_25 oh0_30 oh0_31 oh0_32 oh0_33 oh0_34 oh0_35 oh0_36 oh0_37 : Value) (p1 : Int32) (p2 : Int32) (p3 : Int32) (p4 : Int32) (p5 : Int32) (v_parts : Nat → Int32) (v_rates : Nat → Int32) (v_ways : Nat → Int32) (v_mouths : Nat → Int32) (v_leastTime : Nat → Int32) (v_mostTime : Nat → Int32) (v_can : Nat → Int64) (v_found : Nat → Int32) (r : Int32) (nv_leastTime : Nat → Int32) (nv_mostTime : Nat → Int32) (nv_can : Nat → Int64) (nv_found : Nat → Int32) (hM : f9_just N p1 p2 p3 p4 p5 v_parts v_rates v_ways v_mouths v_leastTime v_mostTime v_can v_found = some (r, nv_leastTime, nv_mostTime, nv_can, nv_found)) (sz : Nat) : CTi l yX9_just wsX9_just r9_just [.ref h0, .int p1, .int p2, .int p3, .int p4, .int p5] D cy sz [(h0, .inr (9, [oh0_0, oh0_1, oh0_2, .ref h0_parts, .ref h0_rates, .ref h0_ways, oh0_6, .ref h0_mouths, oh0_8, oh0_9, oh0_10, oh0_11, oh0_12, oh0_13, oh0_14, oh0_15, oh0_16, oh0_17, oh0_18, oh0_19, oh0_20, oh0_21, oh0_22, oh0_23, oh0_24, oh0_25, .ref h0_leastTime, .ref h0_mostTime, .ref h0_can, .ref h0_found, oh0_30, oh0_31, oh0_32, oh0_33, oh0_34, oh0_35, oh0_36, oh0_37])), (h0_parts, .inl (cy 2, 2, .inl v_parts)), (h0_rates, .inl (cy 2, 14, .inl v_rates)), (h0_ways, .inl (cy 2, 14, .inl v_ways)), (h0_mouths, .inl (cy 2, 2, .inl v_mouths)), (h0_leastTime, .inl (cy 2, 287, .inl v_leastTime)), (h0_mostTime, .inl (cy 2, 287, .inl v_mostTime)), (h0_can, .inl (cy 3, 26978, .inr (.inl v_can))), (h0_found, .inl (cy 2, 40, .inl v_found))] [(h0, .inr (9, [oh0_0, oh0_1, oh0_2, .ref h0_parts, .ref h0_rates, .ref h0_ways, oh0_6, .ref h0_mouths, oh0_8, oh0_9, oh0_10, oh0_11, oh0_12, oh0_13, oh0_14, oh0_15, oh0_16, oh0_17, oh0_18, oh0_19, oh0_20, oh0_21, oh0_22, oh0_23, oh0_24, oh0_25, .ref h0_leastTime, .ref h0_mostTime, .ref h0_can, .ref h0_found, oh0_30, oh0_31, oh0_32, oh0_33, oh0_34, oh0_35, oh0_36, oh0_37])), (h0_parts, .inl (cy 2, 2, .inl v_parts)), (h0_rates, .inl (cy 2, 14, .inl v_rates)), (h0_ways, .inl (cy 2, 14, .inl v_ways)), (h0_mouths, .inl (cy 2, 2, .inl v_mouths)), (h0_leastTime, .inl (cy 2, 287, .inl nv_leastTime)), (h0_mostTime, .inl (cy 2, 287, .inl nv_mostTime)), (h0_can, .inl (cy 3, 26978, .inr (.inl nv_can))), (h0_found, .inl (cy 2, 40, .inl nv_found))] r := by
  unfold f9_just at hM
  refine ct_oi (cc := cX9_just) (maxL := 7) (ty := .int) (by decide +kernel) rfl (Nat.le_of_ble_eq_true rfl) (lv0 := [(0, .ref h0), (1, .int p1), (2, .int p2), (3, .int p3), (4, .int p4), (5, .int p5)]) rfl ?_
  intro p e s m args below meth c A Q ls hx hb hts hown hml hK hP hD hS hA hret hl
  have hown : s.vm.findClass RX9 = some m.cls := hown
  have k180 := hts (.constant RX9 180 (-1000000001)) (List.mem_of_getElem? (i := 1) rfl)
  have k70 := hts (.fieldLink RX9 70 "CaveYearsModel" "found" "[I") (List.mem_of_getElem? (i := 3) rfl)
  have iX9 := (fun w h => (List.mem_cons_of_mem _ (List.mem_append_right _ h)) : ∀ w ∈ wsX90, w ∈ wsX9_just)
  have k99 := hts (.constant RX9 99 (-1000000002)) (List.mem_of_getElem? (i := 2) rfl)
  refine lv_aload_n hx hb dX9_just_0 rfl (lv_at hl 0 rfl) ?_
  refine lv_iload_n hx hb dX9_just_1 rfl (lv_at hl 1 rfl) ?_
  obtain ⟨r2, hc2, hM⟩ := ob1_some hM
  refine cl_vi (As := [.int p1]) (rest := []) (ci := 9) (q0 := 0) (wr := [(h0_rates, .inl (cy 2, 14, .inl v_rates)), (h0_ways, .inl (cy 2, 14, .inl v_ways)), (h0_leastTime, .inl (cy 2, 287, .inl v_leastTime)), (h0_mostTime, .inl (cy 2, 287, .inl v_mostTime)), (h0_can, .inl (cy 3, 26978, .inr (.inl v_can))), (h0_found, .inl (cy 2, 40, .inl v_found))]) (ws2 := [(h0, .inr (9, [oh0_0, oh0_1, oh0_2, .ref h0_parts, .ref h0_rates, .ref h0_ways, oh0_6, .ref h0_mouths, oh0_8, oh0_9, oh0_10, oh0_11, oh0_12, oh0_13, oh0_14, oh0_15, oh0_16, oh0_17, oh0_18, oh0_19, oh0_20, oh0_21, oh0_22, oh0_23, oh0_24, oh0_25, .ref h0_leastTime, .ref h0_mostTime, .ref h0_can, .ref h0_found, oh0_30, oh0_31, oh0_32, oh0_33, oh0_34, oh0_35, oh0_36, oh0_37])), (h0_parts, .inl (cy 2, 2, .inl v_parts)), (h0_rates, .inl (cy 2, 14, .inl v_rates)), (h0_ways, .inl (cy 2, 14, .inl v_ways)), (h0_mouths, .inl (cy 2, 2, .inl v_mouths)), (h0_leastTime, .inl (cy 2, 287, .inl v_leastTime)), (h0_mostTime, .inl (cy 2, 287, .inl v_mostTime)), (h0_can, .inl (cy 3, 26978, .inr (.inl v_can))), (h0_found, .inl (cy 2, 40, .inl v_found))]) (isC := [0, 1, 4]) (isR := [2, 3, 5, 6, 7, 8]) (pm := [6, 7, 0, 1, 8, 2, 3, 4, 5]) hx hb hml hown hts (c9_isMouth l D cy N h0 h0_parts h0_mouths oh0_0 oh0_1 oh0_2 (.ref h0_rates) (.ref h0_ways) oh0_6 oh0_8 oh0_9 oh0_10 oh0_11 oh0_12 oh0_13 oh0_14 oh0_15 oh0_16 oh0_17 oh0_18 oh0_19 oh0_20 oh0_21 oh0_22 oh0_23 oh0_24 oh0_25 (.ref h0_leastTime) (.ref h0_mostTime) (.ref h0_can) (.ref h0_found) oh0_30 oh0_31 oh0_32 oh0_33 oh0_34 oh0_35 oh0_36 oh0_37 p1 v_parts v_mouths r2 hc2) (cwV 1 hts gX9_just_X9_isMouth rfl rfl rfl (by decide +kernel) ⟨Nat.le_of_ble_eq_true rfl, Nat.le_of_ble_eq_true rfl⟩) hK hP hD hS hA rfl rfl rfl rfl rfl (by decide) rfl rfl rfl hl.1 (Nat.le_of_ble_eq_true rfl) dX9_just_2 ⟨Nat.zero_le _, Nat.zero_le _⟩ rfl rfl (fun H locs hP hD hS => ?_)
  refine lv_if_eq (tgt := 16) hx hb dX9_just_5 (by decide) (fun c5 => ?_) (fun c5 => ?_)
  · have hM := g_pos c5 hM
    refine lv_ldc (v := -1000000001) hx hb hown k180 dX9_just_16 ?_
    obtain ⟨rfl, rfl, rfl, rfl, rfl⟩ := si5 hM
    exact hret _ _ _ _ _ dX9_just_18 rfl rfl hP hD hS
  · have hM := g_neg c5 hM
    refine lv_aload_n hx hb dX9_just_8 rfl (lv_at hl 0 rfl) ?_
    refine lv_iload_n hx hb dX9_just_9 rfl (lv_at hl 2 rfl) ?_
    obtain ⟨r10, hc10, hM⟩ := ob1_some hM
    refine cl_vi (As := [.int p2]) (rest := []) (ci := 9) (q0 := 0) (wr := [(h0_rates, .inl (cy 2, 14, .inl v_rates)), (h0_ways, .inl (cy 2, 14, .inl v_ways)), (h0_leastTime, .inl (cy 2, 287, .inl v_leastTime)), (h0_mostTime, .inl (cy 2, 287, .inl v_mostTime)), (h0_can, .inl (cy 3, 26978, .inr (.inl v_can))), (h0_found, .inl (cy 2, 40, .inl v_found))]) (ws2 := [(h0, .inr (9, [oh0_0, oh0_1, oh0_2, .ref h0_parts, .ref h0_rates, .ref h0_ways, oh0_6, .ref h0_mouths, oh0_8, oh0_9, oh0_10, oh0_11, oh0_12, oh0_13, oh0_14, oh0_15, oh0_16, oh0_17, oh0_18, oh0_19, oh0_20, oh0_21, oh0_22, oh0_23, oh0_24, oh0_25, .ref h0_leastTime, .ref h0_mostTime, .ref h0_can, .ref h0_found, oh0_30, oh0_31, oh0_32, oh0_33, oh0_34, oh0_35, oh0_36, oh0_37])), (h0_parts, .inl (cy 2, 2, .inl v_parts)), (h0_rates, .inl (cy 2, 14, .inl v_rates)), (h0_ways, .inl (cy 2, 14, .inl v_ways)), (h0_mouths, .inl (cy 2, 2, .inl v_mouths)), (h0_leastTime, .inl (cy 2, 287, .inl v_leastTime)), (h0_mostTime, .inl (cy 2, 287, .inl v_mostTime)), (h0_can, .inl (cy 3, 26978, .inr (.inl v_can))), (h0_found, .inl (cy 2, 40, .inl v_found))]) (isC := [0, 1, 4]) (isR := [2, 3, 5, 6, 7, 8]) (pm := [6, 7, 0, 1, 8, 2, 3, 4, 5]) hx hb hml hown hts (c9_isMouth l D cy N h0 h0_parts h0_mouths oh0_0 oh0_1 oh0_2 (.ref h0_rates) (.ref h0_ways) oh0_6 oh0_8 oh0_9 oh0_10 oh0_11 oh0_12 oh0_13 oh0_14 oh0_15 oh0_16 oh0_17 oh0_18 oh0_19 oh0_20 oh0_21 oh0_22 oh0_23 oh0_24 oh0_25 (.ref h0_leastTime) (.ref h0_mostTime) (.ref h0_can) (.ref h0_found) oh0_30 oh0_31 oh0_32 oh0_33 oh0_34 oh0_35 oh0_36 oh0_37 p2 v_parts v_mouths r10 hc10) (cwV 1 hts gX9_just_X9_isMouth rfl rfl rfl (by decide +kernel) ⟨Nat.le_of_ble_eq_true rfl, Nat.le_of_ble_eq_true rfl⟩) hK hP hD hS hA rfl rfl rfl rfl rfl (by decide) rfl rfl rfl hl.1 (Nat.le_of_ble_eq_true rfl) dX9_just_10 ⟨Nat.zero_le _, Nat.zero_le _⟩ rfl rfl (fun H locs hP hD hS => ?_)
    refine lv_if_ne (tgt := 19) hx hb dX9_just_13 (by decide) (fun c13 => ?_) (fun c13 => ?_)
    · have hM := g_neg c13 hM
      refine lv_iload_n hx hb dX9_just_19 rfl (lv_at hl 3 rfl) ?_
      refine lv_iconst (v := 0) hx hb dX9_just_20 (by decide) ?_
      refine lv_sipush (v := 6000) hx hb dX9_just_21 (by decide) ?_
      obtain ⟨r24, hc24, hM⟩ := ob1_some hM
      refine cl_si (As := [.int p3, .int (0 : Int32), .int (6000 : Int32)]) (rest := []) (wr := [(h0, .inr (9, [oh0_0, oh0_1, oh0_2, .ref h0_parts, .ref h0_rates, .ref h0_ways, oh0_6, .ref h0_mouths, oh0_8, oh0_9, oh0_10, oh0_11, oh0_12, oh0_13, oh0_14, oh0_15, oh0_16, oh0_17, oh0_18, oh0_19, oh0_20, oh0_21, oh0_22, oh0_23, oh0_24, oh0_25, .ref h0_leastTime, .ref h0_mostTime, .ref h0_can, .ref h0_found, oh0_30, oh0_31, oh0_32, oh0_33, oh0_34, oh0_35, oh0_36, oh0_37])), (h0_parts, .inl (cy 2, 2, .inl v_parts)), (h0_rates, .inl (cy 2, 14, .inl v_rates)), (h0_ways, .inl (cy 2, 14, .inl v_ways)), (h0_mouths, .inl (cy 2, 2, .inl v_mouths)), (h0_leastTime, .inl (cy 2, 287, .inl v_leastTime)), (h0_mostTime, .inl (cy 2, 287, .inl v_mostTime)), (h0_can, .inl (cy 3, 26978, .inr (.inl v_can))), (h0_found, .inl (cy 2, 40, .inl v_found))]) (ws2 := [(h0, .inr (9, [oh0_0, oh0_1, oh0_2, .ref h0_parts, .ref h0_rates, .ref h0_ways, oh0_6, .ref h0_mouths, oh0_8, oh0_9, oh0_10, oh0_11, oh0_12, oh0_13, oh0_14, oh0_15, oh0_16, oh0_17, oh0_18, oh0_19, oh0_20, oh0_21, oh0_22, oh0_23, oh0_24, oh0_25, .ref h0_leastTime, .ref h0_mostTime, .ref h0_can, .ref h0_found, oh0_30, oh0_31, oh0_32, oh0_33, oh0_34, oh0_35, oh0_36, oh0_37])), (h0_parts, .inl (cy 2, 2, .inl v_parts)), (h0_rates, .inl (cy 2, 14, .inl v_rates)), (h0_ways, .inl (cy 2, 14, .inl v_ways)), (h0_mouths, .inl (cy 2, 2, .inl v_mouths)), (h0_leastTime, .inl (cy 2, 287, .inl v_leastTime)), (h0_mostTime, .inl (cy 2, 287, .inl v_mostTime)), (h0_can, .inl (cy 3, 26978, .inr (.inl v_can))), (h0_found, .inl (cy 2, 40, .inl v_found))]) (isC := []) (isR := [0, 1, 2, 3, 4, 5, 6, 7, 8]) (pm := [0, 1, 2, 3, 4, 5, 6, 7, 8]) hx hb hml hown hts (c9_in l D cy N p3 (0 : Int32) (6000 : Int32) r24 hc24) (va_cwS 3 hts gX9_just_X9_in rfl rfl rfl (by decide +kernel) ⟨Nat.le_of_ble_eq_true rfl, Nat.le_of_ble_eq_true rfl⟩) hK hP hD hS hA rfl rfl rfl (by decide) rfl rfl rfl hl.1 (Nat.le_of_ble_eq_true rfl) dX9_just_24 ⟨Nat.zero_le _, Nat.zero_le _⟩ rfl rfl (fun H locs hP hD hS => ?_)
      refine lv_if_ne (tgt := 33) hx hb dX9_just_27 (by decide) (fun c27 => ?_) (fun c27 => ?_)
      · have hM := g_neg c27 hM
        refine lv_aload_n hx hb dX9_just_33 rfl (lv_at hl 0 rfl) ?_
        refine lv_iload_n hx hb dX9_just_34 rfl (lv_at hl 1 rfl) ?_
        refine lv_iload_n hx hb dX9_just_35 rfl (lv_at hl 2 rfl) ?_
        refine lv_iload_n hx hb dX9_just_36 rfl (lv_at hl 3 rfl) ?_
        refine lv_iload hx hb dX9_just_37 (lv_at hl 4 rfl) ?_
        obtain ⟨r39, v_leastTime_39, v_mostTime_39, v_can_39, v_found_39, hc39, hM⟩ := ob5_some hM
        refine cl_vi (As := [.int p1, .int p2, .int p3, .int p4]) (rest := []) (ci := 9) (q0 := 0) (wr := [(h0_mouths, .inl (cy 2, 2, .inl v_mouths))]) (ws2 := [(h0, .inr (9, [oh0_0, oh0_1, oh0_2, .ref h0_parts, .ref h0_rates, .ref h0_ways, oh0_6, .ref h0_mouths, oh0_8, oh0_9, oh0_10, oh0_11, oh0_12, oh0_13, oh0_14, oh0_15, oh0_16, oh0_17, oh0_18, oh0_19, oh0_20, oh0_21, oh0_22, oh0_23, oh0_24, oh0_25, .ref h0_leastTime, .ref h0_mostTime, .ref h0_can, .ref h0_found, oh0_30, oh0_31, oh0_32, oh0_33, oh0_34, oh0_35, oh0_36, oh0_37])), (h0_parts, .inl (cy 2, 2, .inl v_parts)), (h0_rates, .inl (cy 2, 14, .inl v_rates)), (h0_ways, .inl (cy 2, 14, .inl v_ways)), (h0_mouths, .inl (cy 2, 2, .inl v_mouths)), (h0_leastTime, .inl (cy 2, 287, .inl v_leastTime_39)), (h0_mostTime, .inl (cy 2, 287, .inl v_mostTime_39)), (h0_can, .inl (cy 3, 26978, .inr (.inl v_can_39))), (h0_found, .inl (cy 2, 40, .inl v_found_39))]) (isC := [0, 1, 2, 3, 5, 6, 7, 8]) (isR := [4]) (pm := [1, 2, 3, 4, 0, 5, 6, 7, 8]) hx hb hml hown hts (c9_findStay l D cy N h0 h0_parts h0_rates h0_ways h0_leastTime h0_mostTime h0_can h0_found oh0_0 oh0_1 oh0_2 oh0_6 (.ref h0_mouths) oh0_8 oh0_9 oh0_10 oh0_11 oh0_12 oh0_13 oh0_14 oh0_15 oh0_16 oh0_17 oh0_18 oh0_19 oh0_20 oh0_21 oh0_22 oh0_23 oh0_24 oh0_25 oh0_30 oh0_31 oh0_32 oh0_33 oh0_34 oh0_35 oh0_36 oh0_37 p1 p2 p3 p4 v_parts v_rates v_ways v_leastTime v_mostTime v_can v_found r39 v_leastTime_39 v_mostTime_39 v_can_39 v_found_39 hc39) (cwV 4 hts gX9_just_X9_findStay rfl rfl rfl (by decide +kernel) ⟨Nat.le_of_ble_eq_true rfl, Nat.le_of_ble_eq_true rfl⟩) hK hP hD hS hA rfl rfl rfl rfl rfl (by decide) rfl rfl rfl hl.1 (Nat.le_of_ble_eq_true rfl) dX9_just_39 ⟨Nat.zero_le _, Nat.zero_le _⟩ rfl rfl (fun H locs hP hD hS => ?_)
        refine lv_istore (lv' := [(6, .int r39), (0, .ref h0), (1, .int p1), (2, .int p2), (3, .int p3), (4, .int p4), (5, .int p5)]) hx hb dX9_just_42 hl (by decide) rfl (fun ls hl => ?_)
        refine lv_iload hx hb dX9_just_44 (lv_at hl 0 rfl) ?_
        refine lv_iconst (v := -1) hx hb dX9_just_46 (by decide) ?_
        refine lv_icmp_eq (tgt := 56) hx hb dX9_just_47 (by decide) (fun c47 => ?_) (fun c47 => ?_)
        · have hM := g_pos c47 hM
          refine lv_iload hx hb dX9_just_56 (lv_at hl 0 rfl) ?_
          refine lv_goto (tgt := 85) hx hb dX9_just_58 (by decide) ?_
          obtain ⟨rfl, rfl, rfl, rfl, rfl⟩ := si5 hM
          exact hret _ _ _ _ _ dX9_just_85 rfl rfl hP hD hS
        · have hM := g_neg c47 hM
          refine lv_iload hx hb dX9_just_50 (lv_at hl 6 rfl) ?_
          refine lv_iconst (v := -1) hx hb dX9_just_52 (by decide) ?_
          refine lv_icmp_ne (tgt := 61) hx hb dX9_just_53 (by decide) (fun c53 => ?_) (fun c53 => ?_)
          · have hM := g_neg c53 hM
            refine lv_iload hx hb dX9_just_61 (lv_at hl 6 rfl) ?_
            refine lv_iconst (v := 0) hx hb dX9_just_63 (by decide) ?_
            refine lv_iload hx hb dX9_just_64 (lv_at hl 0 rfl) ?_
            refine lv_iconst (v := 1) hx hb dX9_just_66 (by decide) ?_
            refine lv_isub hx hb dX9_just_67 ?_
            obtain ⟨r68, hc68, hM⟩ := ob1_some hM
            refine cl_si (As := [.int p5, .int (0 : Int32), .int (r39 - (1 : Int32))]) (rest := []) (wr := [(h0, .inr (9, [oh0_0, oh0_1, oh0_2, .ref h0_parts, .ref h0_rates, .ref h0_ways, oh0_6, .ref h0_mouths, oh0_8, oh0_9, oh0_10, oh0_11, oh0_12, oh0_13, oh0_14, oh0_15, oh0_16, oh0_17, oh0_18, oh0_19, oh0_20, oh0_21, oh0_22, oh0_23, oh0_24, oh0_25, .ref h0_leastTime, .ref h0_mostTime, .ref h0_can, .ref h0_found, oh0_30, oh0_31, oh0_32, oh0_33, oh0_34, oh0_35, oh0_36, oh0_37])), (h0_parts, .inl (cy 2, 2, .inl v_parts)), (h0_rates, .inl (cy 2, 14, .inl v_rates)), (h0_ways, .inl (cy 2, 14, .inl v_ways)), (h0_mouths, .inl (cy 2, 2, .inl v_mouths)), (h0_leastTime, .inl (cy 2, 287, .inl v_leastTime_39)), (h0_mostTime, .inl (cy 2, 287, .inl v_mostTime_39)), (h0_can, .inl (cy 3, 26978, .inr (.inl v_can_39))), (h0_found, .inl (cy 2, 40, .inl v_found_39))]) (ws2 := [(h0, .inr (9, [oh0_0, oh0_1, oh0_2, .ref h0_parts, .ref h0_rates, .ref h0_ways, oh0_6, .ref h0_mouths, oh0_8, oh0_9, oh0_10, oh0_11, oh0_12, oh0_13, oh0_14, oh0_15, oh0_16, oh0_17, oh0_18, oh0_19, oh0_20, oh0_21, oh0_22, oh0_23, oh0_24, oh0_25, .ref h0_leastTime, .ref h0_mostTime, .ref h0_can, .ref h0_found, oh0_30, oh0_31, oh0_32, oh0_33, oh0_34, oh0_35, oh0_36, oh0_37])), (h0_parts, .inl (cy 2, 2, .inl v_parts)), (h0_rates, .inl (cy 2, 14, .inl v_rates)), (h0_ways, .inl (cy 2, 14, .inl v_ways)), (h0_mouths, .inl (cy 2, 2, .inl v_mouths)), (h0_leastTime, .inl (cy 2, 287, .inl v_leastTime_39)), (h0_mostTime, .inl (cy 2, 287, .inl v_mostTime_39)), (h0_can, .inl (cy 3, 26978, .inr (.inl v_can_39))), (h0_found, .inl (cy 2, 40, .inl v_found_39))]) (isC := []) (isR := [0, 1, 2, 3, 4, 5, 6, 7, 8]) (pm := [0, 1, 2, 3, 4, 5, 6, 7, 8]) hx hb hml hown hts (c9_in l D cy N p5 (0 : Int32) (r39 - (1 : Int32)) r68 hc68) (va_cwS 3 hts gX9_just_X9_in rfl rfl rfl (by decide +kernel) ⟨Nat.le_of_ble_eq_true rfl, Nat.le_of_ble_eq_true rfl⟩) hK hP hD hS hA rfl rfl rfl (by decide) rfl rfl rfl hl.1 (Nat.le_of_ble_eq_true rfl) dX9_just_68 ⟨Nat.zero_le _, Nat.zero_le _⟩ rfl rfl (fun H locs hP hD hS => ?_)
            refine lv_if_eq (tgt := 84) hx hb dX9_just_71 (by decide) (fun c71 => ?_) (fun c71 => ?_)
            · have hM := g_pos c71 hM
              refine lv_iconst (v := -1) hx hb dX9_just_84 (by decide) ?_
              obtain ⟨rfl, rfl, rfl, rfl, rfl⟩ := si5 hM
              exact hret _ _ _ _ _ dX9_just_85 rfl rfl hP hD hS
            · have hM := g_neg c71 hM
              refine lv_aload_n hx hb dX9_just_74 rfl (lv_at hl 1 rfl) ?_
              refine va_get (D := D) (ci := 9) (v := .ref h0_found) (C := RX9) (T := TX9) (N := 38) hx hb hts iX9 hown hK hP 0 rfl rfl 29 (by decide) k70 (fun _ h9 => h9) rfl dX9_just_75 ?_
              refine lv_iload hx hb dX9_just_78 (lv_at hl 6 rfl) ?_
              obtain ⟨h80, hM⟩ := gi_some hM
              refine va_iald hx hb hK hP 8 2 rfl rfl h80 dX9_just_80 ?_
              refine lv_goto (tgt := 85) hx hb dX9_just_81 (by decide) ?_
              obtain ⟨rfl, rfl, rfl, rfl, rfl⟩ := si5 hM
              exact hret _ _ _ _ _ dX9_just_85 rfl rfl hP hD hS
          · have hM := g_pos c53 hM
            refine lv_iload hx hb dX9_just_56 (lv_at hl 0 rfl) ?_
            refine lv_goto (tgt := 85) hx hb dX9_just_58 (by decide) ?_
            obtain ⟨rfl, rfl, rfl, rfl, rfl⟩ := si5 hM
            exact hret _ _ _ _ _ dX9_just_85 rfl rfl hP hD hS
      · have hM := g_pos c27 hM
        refine lv_ldc (v := -1000000002) hx hb hown k99 dX9_just_30 ?_
        obtain ⟨rfl, rfl, rfl, rfl, rfl⟩ := si5 hM
        exact hret _ _ _ _ _ dX9_just_32 rfl rfl hP hD hS
    · have hM := g_pos c13 hM
      refine lv_ldc (v := -1000000001) hx hb hown k180 dX9_just_16 ?_
      obtain ⟨rfl, rfl, rfl, rfl, rfl⟩ := si5 hM
      exact hret _ _ _ _ _ dX9_just_18 rfl rfl hP hD hS

-- ===== X9_span span (IIII)I =====
abbrev r9_span : Room := { frames := 3, cells := 0, slots := 0, locals := 64 }
def f9_span (N : Nat) (p1 : Int32) (p2 : Int32) (p3 : Int32) (p4 : Int32) (v_parts : Nat → Int32) (v_rates : Nat → Int32) (v_ways : Nat → Int32) (v_mouths : Nat → Int32) (v_leastTime : Nat → Int32) (v_mostTime : Nat → Int32) : Option (Int32 × (Nat → Int32) × (Nat → Int32)) :=
  ob1 (f9_isMouth N p1 v_parts v_mouths) fun r2 => if r2 = (0 : Int32) then (some ((-1000000001 : Int32), v_leastTime, v_mostTime)) else (ob1 (f9_isMouth N p2 v_parts v_mouths) fun r10 => if r10 = (0 : Int32) then (some ((-1000000001 : Int32), v_leastTime, v_mostTime)) else (ob1 (f9_in N p3 (1 : Int32) (40 : Int32)) fun r23 => if r23 = (0 : Int32) then (some ((-1000000002 : Int32), v_leastTime, v_mostTime)) else (ob1 (f9_in N p4 (0 : Int32) (1 : Int32)) fun r33 => if r33 = (0 : Int32) then (some ((-1000000002 : Int32), v_leastTime, v_mostTime)) else (ob2 (f9_findSpans N p2 v_parts v_rates v_ways v_leastTime v_mostTime) fun v_leastTime_44 v_mostTime_44 => if p4 = (0 : Int32) then (ob1 (f9_index N p3 p1) fun r58 => gi r58 287 (if (v_leastTime_44 r58.toNatClampNeg) = (-1 : Int32) then (some ((-1 : Int32), v_leastTime_44, v_mostTime_44)) else (some ((v_leastTime_44 r58.toNatClampNeg), v_leastTime_44, v_mostTime_44)))) else (ob1 (f9_index N p3 p1) fun r71 => gi r71 287 (if (v_mostTime_44 r71.toNatClampNeg) = (-1 : Int32) then (some ((-1 : Int32), v_leastTime_44, v_mostTime_44)) else (some ((v_mostTime_44 r71.toNatClampNeg), v_leastTime_44, v_mostTime_44))))))))
set_option maxHeartbeats 4000000 in
set_option maxRecDepth 100000 in
theorem c9_span (l : Launch) (D : va_G) (cy : Nat → ClassId) (N : Nat) (h0 h0_parts h0_rates h0_ways h0_mouths h0_leastTime h0_mostTime : Nat) (oh0_0 oh0_1 oh0_2 oh0_6 oh0_8 oh0_9 oh0_10 oh0_11 oh0_12 oh0_13 oh0_14 oh0_15 oh0_16 oh0_17 oh0_18 oh0_19 oh0_20 oh0_21 oh0_22 oh0_23 oh0_24 oh0_25 oh0_28 oh0_29 oh0_30 oh0_31 oh0_32 oh0_33 oh0_34 oh0_35 oh0_36 oh0_37 : Value) (p1 : Int32) (p2 : Int32) (p3 : Int32) (p4 : Int32) (v_parts : Nat → Int32) (v_rates : Nat → Int32) (v_ways : Nat → Int32) (v_mouths : Nat → Int32) (v_leastTime : Nat → Int32) (v_mostTime : Nat → Int32) (r : Int32) (nv_leastTime : Nat → Int32) (nv_mostTime : Nat → Int32) (hM : f9_span N p1 p2 p3 p4 v_parts v_rates v_ways v_mouths v_leastTime v_mostTime = some (r, nv_leastTime, nv_mostTime)) (sz : Nat) : CTi l yX9_span wsX9_span r9_span [.ref h0, .int p1, .int p2, .int p3, .int p4] D cy sz [(h0, .inr (9, [oh0_0, oh0_1, oh0_2, .ref h0_parts, .ref h0_rates, .ref h0_ways, oh0_6, .ref h0_mouths, oh0_8, oh0_9, oh0_10, oh0_11, oh0_12, oh0_13, oh0_14, oh0_15, oh0_16, oh0_17, oh0_18, oh0_19, oh0_20, oh0_21, oh0_22, oh0_23, oh0_24, oh0_25, .ref h0_leastTime, .ref h0_mostTime, oh0_28, oh0_29, oh0_30, oh0_31, oh0_32, oh0_33, oh0_34, oh0_35, oh0_36, oh0_37])), (h0_parts, .inl (cy 2, 2, .inl v_parts)), (h0_rates, .inl (cy 2, 14, .inl v_rates)), (h0_ways, .inl (cy 2, 14, .inl v_ways)), (h0_mouths, .inl (cy 2, 2, .inl v_mouths)), (h0_leastTime, .inl (cy 2, 287, .inl v_leastTime)), (h0_mostTime, .inl (cy 2, 287, .inl v_mostTime))] [(h0, .inr (9, [oh0_0, oh0_1, oh0_2, .ref h0_parts, .ref h0_rates, .ref h0_ways, oh0_6, .ref h0_mouths, oh0_8, oh0_9, oh0_10, oh0_11, oh0_12, oh0_13, oh0_14, oh0_15, oh0_16, oh0_17, oh0_18, oh0_19, oh0_20, oh0_21, oh0_22, oh0_23, oh0_24, oh0_25, .ref h0_leastTime, .ref h0_mostTime, oh0_28, oh0_29, oh0_30, oh0_31, oh0_32, oh0_33, oh0_34, oh0_35, oh0_36, oh0_37])), (h0_parts, .inl (cy 2, 2, .inl v_parts)), (h0_rates, .inl (cy 2, 14, .inl v_rates)), (h0_ways, .inl (cy 2, 14, .inl v_ways)), (h0_mouths, .inl (cy 2, 2, .inl v_mouths)), (h0_leastTime, .inl (cy 2, 287, .inl nv_leastTime)), (h0_mostTime, .inl (cy 2, 287, .inl nv_mostTime))] r := by
  unfold f9_span at hM
  refine ct_oi (cc := cX9_span) (maxL := 6) (ty := .int) (by decide +kernel) rfl (Nat.le_of_ble_eq_true rfl) (lv0 := [(0, .ref h0), (1, .int p1), (2, .int p2), (3, .int p3), (4, .int p4)]) rfl ?_
  intro p e s m args below meth c A Q ls hx hb hts hown hml hK hP hD hS hA hret hl
  have hown : s.vm.findClass RX9 = some m.cls := hown
  have k180 := hts (.constant RX9 180 (-1000000001)) (List.mem_of_getElem? (i := 1) rfl)
  have k99 := hts (.constant RX9 99 (-1000000002)) (List.mem_of_getElem? (i := 2) rfl)
  have k63 := hts (.fieldLink RX9 63 "CaveYearsModel" "mostTime" "[I") (List.mem_of_getElem? (i := 4) rfl)
  have iX9 := (fun w h => (List.mem_cons_of_mem _ (List.mem_append_right _ h)) : ∀ w ∈ wsX90, w ∈ wsX9_span)
  have k60 := hts (.fieldLink RX9 60 "CaveYearsModel" "leastTime" "[I") (List.mem_of_getElem? (i := 3) rfl)
  refine lv_aload_n hx hb dX9_span_0 rfl (lv_at hl 0 rfl) ?_
  refine lv_iload_n hx hb dX9_span_1 rfl (lv_at hl 1 rfl) ?_
  obtain ⟨r2, hc2, hM⟩ := ob1_some hM
  refine cl_vi (As := [.int p1]) (rest := []) (ci := 9) (q0 := 0) (wr := [(h0_rates, .inl (cy 2, 14, .inl v_rates)), (h0_ways, .inl (cy 2, 14, .inl v_ways)), (h0_leastTime, .inl (cy 2, 287, .inl v_leastTime)), (h0_mostTime, .inl (cy 2, 287, .inl v_mostTime))]) (ws2 := [(h0, .inr (9, [oh0_0, oh0_1, oh0_2, .ref h0_parts, .ref h0_rates, .ref h0_ways, oh0_6, .ref h0_mouths, oh0_8, oh0_9, oh0_10, oh0_11, oh0_12, oh0_13, oh0_14, oh0_15, oh0_16, oh0_17, oh0_18, oh0_19, oh0_20, oh0_21, oh0_22, oh0_23, oh0_24, oh0_25, .ref h0_leastTime, .ref h0_mostTime, oh0_28, oh0_29, oh0_30, oh0_31, oh0_32, oh0_33, oh0_34, oh0_35, oh0_36, oh0_37])), (h0_parts, .inl (cy 2, 2, .inl v_parts)), (h0_rates, .inl (cy 2, 14, .inl v_rates)), (h0_ways, .inl (cy 2, 14, .inl v_ways)), (h0_mouths, .inl (cy 2, 2, .inl v_mouths)), (h0_leastTime, .inl (cy 2, 287, .inl v_leastTime)), (h0_mostTime, .inl (cy 2, 287, .inl v_mostTime))]) (isC := [0, 1, 4]) (isR := [2, 3, 5, 6]) (pm := [4, 5, 0, 1, 6, 2, 3]) hx hb hml hown hts (c9_isMouth l D cy N h0 h0_parts h0_mouths oh0_0 oh0_1 oh0_2 (.ref h0_rates) (.ref h0_ways) oh0_6 oh0_8 oh0_9 oh0_10 oh0_11 oh0_12 oh0_13 oh0_14 oh0_15 oh0_16 oh0_17 oh0_18 oh0_19 oh0_20 oh0_21 oh0_22 oh0_23 oh0_24 oh0_25 (.ref h0_leastTime) (.ref h0_mostTime) oh0_28 oh0_29 oh0_30 oh0_31 oh0_32 oh0_33 oh0_34 oh0_35 oh0_36 oh0_37 p1 v_parts v_mouths r2 hc2) (cwV 1 hts gX9_span_X9_isMouth rfl rfl rfl (by decide +kernel) ⟨Nat.le_of_ble_eq_true rfl, Nat.le_of_ble_eq_true rfl⟩) hK hP hD hS hA rfl rfl rfl rfl rfl (by decide) rfl rfl rfl hl.1 (Nat.le_of_ble_eq_true rfl) dX9_span_2 ⟨Nat.zero_le _, Nat.zero_le _⟩ rfl rfl (fun H locs hP hD hS => ?_)
  refine lv_if_eq (tgt := 16) hx hb dX9_span_5 (by decide) (fun c5 => ?_) (fun c5 => ?_)
  · have hM := g_pos c5 hM
    refine lv_ldc (v := -1000000001) hx hb hown k180 dX9_span_16 ?_
    obtain ⟨rfl, rfl, rfl⟩ := si3 hM
    exact hret _ _ _ _ _ dX9_span_18 rfl rfl hP hD hS
  · have hM := g_neg c5 hM
    refine lv_aload_n hx hb dX9_span_8 rfl (lv_at hl 0 rfl) ?_
    refine lv_iload_n hx hb dX9_span_9 rfl (lv_at hl 2 rfl) ?_
    obtain ⟨r10, hc10, hM⟩ := ob1_some hM
    refine cl_vi (As := [.int p2]) (rest := []) (ci := 9) (q0 := 0) (wr := [(h0_rates, .inl (cy 2, 14, .inl v_rates)), (h0_ways, .inl (cy 2, 14, .inl v_ways)), (h0_leastTime, .inl (cy 2, 287, .inl v_leastTime)), (h0_mostTime, .inl (cy 2, 287, .inl v_mostTime))]) (ws2 := [(h0, .inr (9, [oh0_0, oh0_1, oh0_2, .ref h0_parts, .ref h0_rates, .ref h0_ways, oh0_6, .ref h0_mouths, oh0_8, oh0_9, oh0_10, oh0_11, oh0_12, oh0_13, oh0_14, oh0_15, oh0_16, oh0_17, oh0_18, oh0_19, oh0_20, oh0_21, oh0_22, oh0_23, oh0_24, oh0_25, .ref h0_leastTime, .ref h0_mostTime, oh0_28, oh0_29, oh0_30, oh0_31, oh0_32, oh0_33, oh0_34, oh0_35, oh0_36, oh0_37])), (h0_parts, .inl (cy 2, 2, .inl v_parts)), (h0_rates, .inl (cy 2, 14, .inl v_rates)), (h0_ways, .inl (cy 2, 14, .inl v_ways)), (h0_mouths, .inl (cy 2, 2, .inl v_mouths)), (h0_leastTime, .inl (cy 2, 287, .inl v_leastTime)), (h0_mostTime, .inl (cy 2, 287, .inl v_mostTime))]) (isC := [0, 1, 4]) (isR := [2, 3, 5, 6]) (pm := [4, 5, 0, 1, 6, 2, 3]) hx hb hml hown hts (c9_isMouth l D cy N h0 h0_parts h0_mouths oh0_0 oh0_1 oh0_2 (.ref h0_rates) (.ref h0_ways) oh0_6 oh0_8 oh0_9 oh0_10 oh0_11 oh0_12 oh0_13 oh0_14 oh0_15 oh0_16 oh0_17 oh0_18 oh0_19 oh0_20 oh0_21 oh0_22 oh0_23 oh0_24 oh0_25 (.ref h0_leastTime) (.ref h0_mostTime) oh0_28 oh0_29 oh0_30 oh0_31 oh0_32 oh0_33 oh0_34 oh0_35 oh0_36 oh0_37 p2 v_parts v_mouths r10 hc10) (cwV 1 hts gX9_span_X9_isMouth rfl rfl rfl (by decide +kernel) ⟨Nat.le_of_ble_eq_true rfl, Nat.le_of_ble_eq_true rfl⟩) hK hP hD hS hA rfl rfl rfl rfl rfl (by decide) rfl rfl rfl hl.1 (Nat.le_of_ble_eq_true rfl) dX9_span_10 ⟨Nat.zero_le _, Nat.zero_le _⟩ rfl rfl (fun H locs hP hD hS => ?_)
    refine lv_if_ne (tgt := 19) hx hb dX9_span_13 (by decide) (fun c13 => ?_) (fun c13 => ?_)
    · have hM := g_neg c13 hM
      refine lv_iload_n hx hb dX9_span_19 rfl (lv_at hl 3 rfl) ?_
      refine lv_iconst (v := 1) hx hb dX9_span_20 (by decide) ?_
      refine lv_bipush (v := 40) hx hb dX9_span_21 (by decide) ?_
      obtain ⟨r23, hc23, hM⟩ := ob1_some hM
      refine cl_si (As := [.int p3, .int (1 : Int32), .int (40 : Int32)]) (rest := []) (wr := [(h0, .inr (9, [oh0_0, oh0_1, oh0_2, .ref h0_parts, .ref h0_rates, .ref h0_ways, oh0_6, .ref h0_mouths, oh0_8, oh0_9, oh0_10, oh0_11, oh0_12, oh0_13, oh0_14, oh0_15, oh0_16, oh0_17, oh0_18, oh0_19, oh0_20, oh0_21, oh0_22, oh0_23, oh0_24, oh0_25, .ref h0_leastTime, .ref h0_mostTime, oh0_28, oh0_29, oh0_30, oh0_31, oh0_32, oh0_33, oh0_34, oh0_35, oh0_36, oh0_37])), (h0_parts, .inl (cy 2, 2, .inl v_parts)), (h0_rates, .inl (cy 2, 14, .inl v_rates)), (h0_ways, .inl (cy 2, 14, .inl v_ways)), (h0_mouths, .inl (cy 2, 2, .inl v_mouths)), (h0_leastTime, .inl (cy 2, 287, .inl v_leastTime)), (h0_mostTime, .inl (cy 2, 287, .inl v_mostTime))]) (ws2 := [(h0, .inr (9, [oh0_0, oh0_1, oh0_2, .ref h0_parts, .ref h0_rates, .ref h0_ways, oh0_6, .ref h0_mouths, oh0_8, oh0_9, oh0_10, oh0_11, oh0_12, oh0_13, oh0_14, oh0_15, oh0_16, oh0_17, oh0_18, oh0_19, oh0_20, oh0_21, oh0_22, oh0_23, oh0_24, oh0_25, .ref h0_leastTime, .ref h0_mostTime, oh0_28, oh0_29, oh0_30, oh0_31, oh0_32, oh0_33, oh0_34, oh0_35, oh0_36, oh0_37])), (h0_parts, .inl (cy 2, 2, .inl v_parts)), (h0_rates, .inl (cy 2, 14, .inl v_rates)), (h0_ways, .inl (cy 2, 14, .inl v_ways)), (h0_mouths, .inl (cy 2, 2, .inl v_mouths)), (h0_leastTime, .inl (cy 2, 287, .inl v_leastTime)), (h0_mostTime, .inl (cy 2, 287, .inl v_mostTime))]) (isC := []) (isR := [0, 1, 2, 3, 4, 5, 6]) (pm := [0, 1, 2, 3, 4, 5, 6]) hx hb hml hown hts (c9_in l D cy N p3 (1 : Int32) (40 : Int32) r23 hc23) (va_cwS 3 hts gX9_span_X9_in rfl rfl rfl (by decide +kernel) ⟨Nat.le_of_ble_eq_true rfl, Nat.le_of_ble_eq_true rfl⟩) hK hP hD hS hA rfl rfl rfl (by decide) rfl rfl rfl hl.1 (Nat.le_of_ble_eq_true rfl) dX9_span_23 ⟨Nat.zero_le _, Nat.zero_le _⟩ rfl rfl (fun H locs hP hD hS => ?_)
      refine lv_if_eq (tgt := 39) hx hb dX9_span_26 (by decide) (fun c26 => ?_) (fun c26 => ?_)
      · have hM := g_pos c26 hM
        refine lv_ldc (v := -1000000002) hx hb hown k99 dX9_span_39 ?_
        obtain ⟨rfl, rfl, rfl⟩ := si3 hM
        exact hret _ _ _ _ _ dX9_span_41 rfl rfl hP hD hS
      · have hM := g_neg c26 hM
        refine lv_iload hx hb dX9_span_29 (lv_at hl 4 rfl) ?_
        refine lv_iconst (v := 0) hx hb dX9_span_31 (by decide) ?_
        refine lv_iconst (v := 1) hx hb dX9_span_32 (by decide) ?_
        obtain ⟨r33, hc33, hM⟩ := ob1_some hM
        refine cl_si (As := [.int p4, .int (0 : Int32), .int (1 : Int32)]) (rest := []) (wr := [(h0, .inr (9, [oh0_0, oh0_1, oh0_2, .ref h0_parts, .ref h0_rates, .ref h0_ways, oh0_6, .ref h0_mouths, oh0_8, oh0_9, oh0_10, oh0_11, oh0_12, oh0_13, oh0_14, oh0_15, oh0_16, oh0_17, oh0_18, oh0_19, oh0_20, oh0_21, oh0_22, oh0_23, oh0_24, oh0_25, .ref h0_leastTime, .ref h0_mostTime, oh0_28, oh0_29, oh0_30, oh0_31, oh0_32, oh0_33, oh0_34, oh0_35, oh0_36, oh0_37])), (h0_parts, .inl (cy 2, 2, .inl v_parts)), (h0_rates, .inl (cy 2, 14, .inl v_rates)), (h0_ways, .inl (cy 2, 14, .inl v_ways)), (h0_mouths, .inl (cy 2, 2, .inl v_mouths)), (h0_leastTime, .inl (cy 2, 287, .inl v_leastTime)), (h0_mostTime, .inl (cy 2, 287, .inl v_mostTime))]) (ws2 := [(h0, .inr (9, [oh0_0, oh0_1, oh0_2, .ref h0_parts, .ref h0_rates, .ref h0_ways, oh0_6, .ref h0_mouths, oh0_8, oh0_9, oh0_10, oh0_11, oh0_12, oh0_13, oh0_14, oh0_15, oh0_16, oh0_17, oh0_18, oh0_19, oh0_20, oh0_21, oh0_22, oh0_23, oh0_24, oh0_25, .ref h0_leastTime, .ref h0_mostTime, oh0_28, oh0_29, oh0_30, oh0_31, oh0_32, oh0_33, oh0_34, oh0_35, oh0_36, oh0_37])), (h0_parts, .inl (cy 2, 2, .inl v_parts)), (h0_rates, .inl (cy 2, 14, .inl v_rates)), (h0_ways, .inl (cy 2, 14, .inl v_ways)), (h0_mouths, .inl (cy 2, 2, .inl v_mouths)), (h0_leastTime, .inl (cy 2, 287, .inl v_leastTime)), (h0_mostTime, .inl (cy 2, 287, .inl v_mostTime))]) (isC := []) (isR := [0, 1, 2, 3, 4, 5, 6]) (pm := [0, 1, 2, 3, 4, 5, 6]) hx hb hml hown hts (c9_in l D cy N p4 (0 : Int32) (1 : Int32) r33 hc33) (va_cwS 3 hts gX9_span_X9_in rfl rfl rfl (by decide +kernel) ⟨Nat.le_of_ble_eq_true rfl, Nat.le_of_ble_eq_true rfl⟩) hK hP hD hS hA rfl rfl rfl (by decide) rfl rfl rfl hl.1 (Nat.le_of_ble_eq_true rfl) dX9_span_33 ⟨Nat.zero_le _, Nat.zero_le _⟩ rfl rfl (fun H locs hP hD hS => ?_)
        refine lv_if_ne (tgt := 42) hx hb dX9_span_36 (by decide) (fun c36 => ?_) (fun c36 => ?_)
        · have hM := g_neg c36 hM
          refine lv_aload_n hx hb dX9_span_42 rfl (lv_at hl 0 rfl) ?_
          refine lv_iload_n hx hb dX9_span_43 rfl (lv_at hl 2 rfl) ?_
          obtain ⟨v_leastTime_44, v_mostTime_44, hc44, hM⟩ := ob2_some hM
          refine cl_vv (As := [.int p2]) (rest := []) (ci := 9) (q0 := 0) (wr := [(h0_mouths, .inl (cy 2, 2, .inl v_mouths))]) (ws2 := [(h0, .inr (9, [oh0_0, oh0_1, oh0_2, .ref h0_parts, .ref h0_rates, .ref h0_ways, oh0_6, .ref h0_mouths, oh0_8, oh0_9, oh0_10, oh0_11, oh0_12, oh0_13, oh0_14, oh0_15, oh0_16, oh0_17, oh0_18, oh0_19, oh0_20, oh0_21, oh0_22, oh0_23, oh0_24, oh0_25, .ref h0_leastTime, .ref h0_mostTime, oh0_28, oh0_29, oh0_30, oh0_31, oh0_32, oh0_33, oh0_34, oh0_35, oh0_36, oh0_37])), (h0_parts, .inl (cy 2, 2, .inl v_parts)), (h0_rates, .inl (cy 2, 14, .inl v_rates)), (h0_ways, .inl (cy 2, 14, .inl v_ways)), (h0_mouths, .inl (cy 2, 2, .inl v_mouths)), (h0_leastTime, .inl (cy 2, 287, .inl v_leastTime_44)), (h0_mostTime, .inl (cy 2, 287, .inl v_mostTime_44))]) (isC := [0, 1, 2, 3, 5, 6]) (isR := [4]) (pm := [1, 2, 3, 4, 0, 5, 6]) hx hb hml hown hts (c9_findSpans l D cy N h0 h0_parts h0_rates h0_ways h0_leastTime h0_mostTime oh0_0 oh0_1 oh0_2 oh0_6 (.ref h0_mouths) oh0_8 oh0_9 oh0_10 oh0_11 oh0_12 oh0_13 oh0_14 oh0_15 oh0_16 oh0_17 oh0_18 oh0_19 oh0_20 oh0_21 oh0_22 oh0_23 oh0_24 oh0_25 oh0_28 oh0_29 oh0_30 oh0_31 oh0_32 oh0_33 oh0_34 oh0_35 oh0_36 oh0_37 p2 v_parts v_rates v_ways v_leastTime v_mostTime v_leastTime_44 v_mostTime_44 hc44) (cwV 1 hts gX9_span_X9_findSpans rfl rfl rfl (by decide +kernel) ⟨Nat.le_of_ble_eq_true rfl, Nat.le_of_ble_eq_true rfl⟩) hK hP hD hS hA rfl rfl rfl rfl rfl (by decide) rfl rfl rfl hl.1 (Nat.le_of_ble_eq_true rfl) dX9_span_44 ⟨Nat.zero_le _, Nat.zero_le _⟩ rfl rfl (fun H locs hP hD hS => ?_)
          refine lv_iload hx hb dX9_span_47 (lv_at hl 4 rfl) ?_
          refine lv_if_ne (tgt := 65) hx hb dX9_span_49 (by decide) (fun c49 => ?_) (fun c49 => ?_)
          · have hM := g_neg c49 hM
            refine lv_aload_n hx hb dX9_span_65 rfl (lv_at hl 0 rfl) ?_
            refine va_get (D := D) (ci := 9) (v := .ref h0_mostTime) (C := RX9) (T := TX9) (N := 38) hx hb hts iX9 hown hK hP 0 rfl rfl 27 (by decide) k63 (fun _ h9 => h9) rfl dX9_span_66 ?_
            refine lv_iload_n hx hb dX9_span_69 rfl (lv_at hl 3 rfl) ?_
            refine lv_iload_n hx hb dX9_span_70 rfl (lv_at hl 1 rfl) ?_
            obtain ⟨r71, hc71, hM⟩ := ob1_some hM
            refine cl_si (As := [.int p3, .int p1]) (rest := [.ref h0_mostTime]) (wr := [(h0, .inr (9, [oh0_0, oh0_1, oh0_2, .ref h0_parts, .ref h0_rates, .ref h0_ways, oh0_6, .ref h0_mouths, oh0_8, oh0_9, oh0_10, oh0_11, oh0_12, oh0_13, oh0_14, oh0_15, oh0_16, oh0_17, oh0_18, oh0_19, oh0_20, oh0_21, oh0_22, oh0_23, oh0_24, oh0_25, .ref h0_leastTime, .ref h0_mostTime, oh0_28, oh0_29, oh0_30, oh0_31, oh0_32, oh0_33, oh0_34, oh0_35, oh0_36, oh0_37])), (h0_parts, .inl (cy 2, 2, .inl v_parts)), (h0_rates, .inl (cy 2, 14, .inl v_rates)), (h0_ways, .inl (cy 2, 14, .inl v_ways)), (h0_mouths, .inl (cy 2, 2, .inl v_mouths)), (h0_leastTime, .inl (cy 2, 287, .inl v_leastTime_44)), (h0_mostTime, .inl (cy 2, 287, .inl v_mostTime_44))]) (ws2 := [(h0, .inr (9, [oh0_0, oh0_1, oh0_2, .ref h0_parts, .ref h0_rates, .ref h0_ways, oh0_6, .ref h0_mouths, oh0_8, oh0_9, oh0_10, oh0_11, oh0_12, oh0_13, oh0_14, oh0_15, oh0_16, oh0_17, oh0_18, oh0_19, oh0_20, oh0_21, oh0_22, oh0_23, oh0_24, oh0_25, .ref h0_leastTime, .ref h0_mostTime, oh0_28, oh0_29, oh0_30, oh0_31, oh0_32, oh0_33, oh0_34, oh0_35, oh0_36, oh0_37])), (h0_parts, .inl (cy 2, 2, .inl v_parts)), (h0_rates, .inl (cy 2, 14, .inl v_rates)), (h0_ways, .inl (cy 2, 14, .inl v_ways)), (h0_mouths, .inl (cy 2, 2, .inl v_mouths)), (h0_leastTime, .inl (cy 2, 287, .inl v_leastTime_44)), (h0_mostTime, .inl (cy 2, 287, .inl v_mostTime_44))]) (isC := []) (isR := [0, 1, 2, 3, 4, 5, 6]) (pm := [0, 1, 2, 3, 4, 5, 6]) hx hb hml hown hts (c9_index l D cy N p3 p1 r71 hc71) (va_cwS 2 hts gX9_span_X9_index rfl rfl rfl (by decide +kernel) ⟨Nat.le_of_ble_eq_true rfl, Nat.le_of_ble_eq_true rfl⟩) hK hP hD hS hA rfl rfl rfl (by decide) rfl rfl rfl hl.1 (Nat.le_of_ble_eq_true rfl) dX9_span_71 ⟨Nat.zero_le _, Nat.zero_le _⟩ rfl rfl (fun H locs hP hD hS => ?_)
            obtain ⟨h74, hM⟩ := gi_some hM
            refine va_iald hx hb hK hP 6 2 rfl rfl h74 dX9_span_74 ?_
            refine lv_istore (lv' := [(5, .int (v_mostTime_44 r71.toNatClampNeg)), (0, .ref h0), (1, .int p1), (2, .int p2), (3, .int p3), (4, .int p4)]) hx hb dX9_span_75 hl (by decide) rfl (fun ls hl => ?_)
            refine lv_iload hx hb dX9_span_77 (lv_at hl 0 rfl) ?_
            refine lv_iconst (v := -1) hx hb dX9_span_79 (by decide) ?_
            refine lv_icmp_ne (tgt := 87) hx hb dX9_span_80 (by decide) (fun c80 => ?_) (fun c80 => ?_)
            · have hM := g_neg c80 hM
              refine lv_iload hx hb dX9_span_87 (lv_at hl 0 rfl) ?_
              obtain ⟨rfl, rfl, rfl⟩ := si3 hM
              exact hret _ _ _ _ _ dX9_span_89 rfl rfl hP hD hS
            · have hM := g_pos c80 hM
              refine lv_iconst (v := -1) hx hb dX9_span_83 (by decide) ?_
              refine lv_goto (tgt := 89) hx hb dX9_span_84 (by decide) ?_
              obtain ⟨rfl, rfl, rfl⟩ := si3 hM
              exact hret _ _ _ _ _ dX9_span_89 rfl rfl hP hD hS
          · have hM := g_pos c49 hM
            refine lv_aload_n hx hb dX9_span_52 rfl (lv_at hl 0 rfl) ?_
            refine va_get (D := D) (ci := 9) (v := .ref h0_leastTime) (C := RX9) (T := TX9) (N := 38) hx hb hts iX9 hown hK hP 0 rfl rfl 26 (by decide) k60 (fun _ h9 => h9) rfl dX9_span_53 ?_
            refine lv_iload_n hx hb dX9_span_56 rfl (lv_at hl 3 rfl) ?_
            refine lv_iload_n hx hb dX9_span_57 rfl (lv_at hl 1 rfl) ?_
            obtain ⟨r58, hc58, hM⟩ := ob1_some hM
            refine cl_si (As := [.int p3, .int p1]) (rest := [.ref h0_leastTime]) (wr := [(h0, .inr (9, [oh0_0, oh0_1, oh0_2, .ref h0_parts, .ref h0_rates, .ref h0_ways, oh0_6, .ref h0_mouths, oh0_8, oh0_9, oh0_10, oh0_11, oh0_12, oh0_13, oh0_14, oh0_15, oh0_16, oh0_17, oh0_18, oh0_19, oh0_20, oh0_21, oh0_22, oh0_23, oh0_24, oh0_25, .ref h0_leastTime, .ref h0_mostTime, oh0_28, oh0_29, oh0_30, oh0_31, oh0_32, oh0_33, oh0_34, oh0_35, oh0_36, oh0_37])), (h0_parts, .inl (cy 2, 2, .inl v_parts)), (h0_rates, .inl (cy 2, 14, .inl v_rates)), (h0_ways, .inl (cy 2, 14, .inl v_ways)), (h0_mouths, .inl (cy 2, 2, .inl v_mouths)), (h0_leastTime, .inl (cy 2, 287, .inl v_leastTime_44)), (h0_mostTime, .inl (cy 2, 287, .inl v_mostTime_44))]) (ws2 := [(h0, .inr (9, [oh0_0, oh0_1, oh0_2, .ref h0_parts, .ref h0_rates, .ref h0_ways, oh0_6, .ref h0_mouths, oh0_8, oh0_9, oh0_10, oh0_11, oh0_12, oh0_13, oh0_14, oh0_15, oh0_16, oh0_17, oh0_18, oh0_19, oh0_20, oh0_21, oh0_22, oh0_23, oh0_24, oh0_25, .ref h0_leastTime, .ref h0_mostTime, oh0_28, oh0_29, oh0_30, oh0_31, oh0_32, oh0_33, oh0_34, oh0_35, oh0_36, oh0_37])), (h0_parts, .inl (cy 2, 2, .inl v_parts)), (h0_rates, .inl (cy 2, 14, .inl v_rates)), (h0_ways, .inl (cy 2, 14, .inl v_ways)), (h0_mouths, .inl (cy 2, 2, .inl v_mouths)), (h0_leastTime, .inl (cy 2, 287, .inl v_leastTime_44)), (h0_mostTime, .inl (cy 2, 287, .inl v_mostTime_44))]) (isC := []) (isR := [0, 1, 2, 3, 4, 5, 6]) (pm := [0, 1, 2, 3, 4, 5, 6]) hx hb hml hown hts (c9_index l D cy N p3 p1 r58 hc58) (va_cwS 2 hts gX9_span_X9_index rfl rfl rfl (by decide +kernel) ⟨Nat.le_of_ble_eq_true rfl, Nat.le_of_ble_eq_true rfl⟩) hK hP hD hS hA rfl rfl rfl (by decide) rfl rfl rfl hl.1 (Nat.le_of_ble_eq_true rfl) dX9_span_58 ⟨Nat.zero_le _, Nat.zero_le _⟩ rfl rfl (fun H locs hP hD hS => ?_)
            obtain ⟨h61, hM⟩ := gi_some hM
            refine va_iald hx hb hK hP 5 2 rfl rfl h61 dX9_span_61 ?_
            refine lv_goto (tgt := 75) hx hb dX9_span_62 (by decide) ?_
            refine lv_istore (lv' := [(5, .int (v_leastTime_44 r58.toNatClampNeg)), (0, .ref h0), (1, .int p1), (2, .int p2), (3, .int p3), (4, .int p4)]) hx hb dX9_span_75 hl (by decide) rfl (fun ls hl => ?_)
            refine lv_iload hx hb dX9_span_77 (lv_at hl 0 rfl) ?_
            refine lv_iconst (v := -1) hx hb dX9_span_79 (by decide) ?_
            refine lv_icmp_ne (tgt := 87) hx hb dX9_span_80 (by decide) (fun c80 => ?_) (fun c80 => ?_)
            · have hM := g_neg c80 hM
              refine lv_iload hx hb dX9_span_87 (lv_at hl 0 rfl) ?_
              obtain ⟨rfl, rfl, rfl⟩ := si3 hM
              exact hret _ _ _ _ _ dX9_span_89 rfl rfl hP hD hS
            · have hM := g_pos c80 hM
              refine lv_iconst (v := -1) hx hb dX9_span_83 (by decide) ?_
              refine lv_goto (tgt := 89) hx hb dX9_span_84 (by decide) ?_
              obtain ⟨rfl, rfl, rfl⟩ := si3 hM
              exact hret _ _ _ _ _ dX9_span_89 rfl rfl hP hD hS
        · have hM := g_pos c36 hM
          refine lv_ldc (v := -1000000002) hx hb hown k99 dX9_span_39 ?_
          obtain ⟨rfl, rfl, rfl⟩ := si3 hM
          exact hret _ _ _ _ _ dX9_span_41 rfl rfl hP hD hS
    · have hM := g_pos c13 hM
      refine lv_ldc (v := -1000000001) hx hb hown k180 dX9_span_16 ?_
      obtain ⟨rfl, rfl, rfl⟩ := si3 hM
      exact hret _ _ _ _ _ dX9_span_18 rfl rfl hP hD hS

-- ===== X9_longest longest (II)I =====
abbrev r9_longest : Room := { frames := 3, cells := 0, slots := 0, locals := 64 }
def f9_longest_J82 (N : Nat) (x4_30 : Int32) (x5_30 : Int32) (v_leastTime_53 : Nat → Int32) (v_mostTime_53 : Nat → Int32) (r63 : Int32) (rec30 : Int32 → Int32 → Int32 → (Nat → Int32) → (Nat → Int32) → Option (Int32 × Int32 × (Nat → Int32) × (Nat → Int32))) (s0_82 : Int32) : Option (Int32 × Int32 × (Nat → Int32) × (Nat → Int32)) :=
  if (v_mostTime_53 r63.toNatClampNeg) ≤ x4_30 then (rec30 s0_82 x4_30 (x5_30 + (1 : Int32)) v_leastTime_53 v_mostTime_53) else (rec30 s0_82 (v_mostTime_53 r63.toNatClampNeg) (x5_30 + (1 : Int32)) v_leastTime_53 v_mostTime_53)
def f9_longest_L30 (N : Nat) (p1 : Int32) (v_parts : Nat → Int32) (v_rates : Nat → Int32) (v_ways : Nat → Int32) (v_mouths : Nat → Int32) : Nat → Int32 → Int32 → Int32 → (Nat → Int32) → (Nat → Int32) → Option (Int32 × Int32 × (Nat → Int32) × (Nat → Int32))
  | 0, _, _, _, _, _ => none
  | n + 1, x3_30, x4_30, x5_30, v_leastTime_30, v_mostTime_30 => gi (0 : Int32) 2 (if (v_parts (0 : Int32).toNatClampNeg) ≤ x5_30 then (some (x3_30, x4_30, v_leastTime_30, v_mostTime_30)) else (ob1 (f9_isMouth N x5_30 v_parts v_mouths) fun r44 => if r44 = (0 : Int32) then ((f9_longest_L30 N p1 v_parts v_rates v_ways v_mouths n) x3_30 x4_30 (x5_30 + (1 : Int32)) v_leastTime_30 v_mostTime_30) else (ob2 (f9_findSpans N x5_30 v_parts v_rates v_ways v_leastTime_30 v_mostTime_30) fun v_leastTime_53 v_mostTime_53 => ob1 (f9_index N p1 x5_30) fun r63 => gi r63 287 (if (v_mostTime_53 r63.toNatClampNeg) ≤ x4_30 then (f9_longest_J82 N x4_30 x5_30 v_leastTime_53 v_mostTime_53 r63 (f9_longest_L30 N p1 v_parts v_rates v_ways v_mouths n) x3_30) else (f9_longest_J82 N x4_30 x5_30 v_leastTime_53 v_mostTime_53 r63 (f9_longest_L30 N p1 v_parts v_rates v_ways v_mouths n) x5_30)))))
def f9_longest (N : Nat) (p1 : Int32) (p2 : Int32) (v_parts : Nat → Int32) (v_rates : Nat → Int32) (v_ways : Nat → Int32) (v_mouths : Nat → Int32) (v_leastTime : Nat → Int32) (v_mostTime : Nat → Int32) : Option (Int32 × (Nat → Int32) × (Nat → Int32)) :=
  ob1 (f9_in N p1 (1 : Int32) (40 : Int32)) fun r4 => if r4 = (0 : Int32) then (some ((-1000000002 : Int32), v_leastTime, v_mostTime)) else (ob1 (f9_in N p2 (0 : Int32) (1 : Int32)) fun r13 => if r13 = (0 : Int32) then (some ((-1000000002 : Int32), v_leastTime, v_mostTime)) else (ob4 (f9_longest_L30 N p1 v_parts v_rates v_ways v_mouths N (-1 : Int32) (-1 : Int32) (0 : Int32) v_leastTime v_mostTime) fun e3_30 e4_30 v_leastTime_e30 v_mostTime_e30 => if p2 = (0 : Int32) then (some (e3_30, v_leastTime_e30, v_mostTime_e30)) else (some (e4_30, v_leastTime_e30, v_mostTime_e30))))
set_option maxHeartbeats 4000000 in
set_option maxRecDepth 100000 in
theorem c9_longest (l : Launch) (D : va_G) (cy : Nat → ClassId) (N : Nat) (h0 h0_parts h0_rates h0_ways h0_mouths h0_leastTime h0_mostTime : Nat) (oh0_0 oh0_1 oh0_2 oh0_6 oh0_8 oh0_9 oh0_10 oh0_11 oh0_12 oh0_13 oh0_14 oh0_15 oh0_16 oh0_17 oh0_18 oh0_19 oh0_20 oh0_21 oh0_22 oh0_23 oh0_24 oh0_25 oh0_28 oh0_29 oh0_30 oh0_31 oh0_32 oh0_33 oh0_34 oh0_35 oh0_36 oh0_37 : Value) (p1 : Int32) (p2 : Int32) (v_parts : Nat → Int32) (v_rates : Nat → Int32) (v_ways : Nat → Int32) (v_mouths : Nat → Int32) (v_leastTime : Nat → Int32) (v_mostTime : Nat → Int32) (r : Int32) (nv_leastTime : Nat → Int32) (nv_mostTime : Nat → Int32) (hM : f9_longest N p1 p2 v_parts v_rates v_ways v_mouths v_leastTime v_mostTime = some (r, nv_leastTime, nv_mostTime)) (sz : Nat) : CTi l yX9_longest wsX9_longest r9_longest [.ref h0, .int p1, .int p2] D cy sz [(h0, .inr (9, [oh0_0, oh0_1, oh0_2, .ref h0_parts, .ref h0_rates, .ref h0_ways, oh0_6, .ref h0_mouths, oh0_8, oh0_9, oh0_10, oh0_11, oh0_12, oh0_13, oh0_14, oh0_15, oh0_16, oh0_17, oh0_18, oh0_19, oh0_20, oh0_21, oh0_22, oh0_23, oh0_24, oh0_25, .ref h0_leastTime, .ref h0_mostTime, oh0_28, oh0_29, oh0_30, oh0_31, oh0_32, oh0_33, oh0_34, oh0_35, oh0_36, oh0_37])), (h0_parts, .inl (cy 2, 2, .inl v_parts)), (h0_rates, .inl (cy 2, 14, .inl v_rates)), (h0_ways, .inl (cy 2, 14, .inl v_ways)), (h0_mouths, .inl (cy 2, 2, .inl v_mouths)), (h0_leastTime, .inl (cy 2, 287, .inl v_leastTime)), (h0_mostTime, .inl (cy 2, 287, .inl v_mostTime))] [(h0, .inr (9, [oh0_0, oh0_1, oh0_2, .ref h0_parts, .ref h0_rates, .ref h0_ways, oh0_6, .ref h0_mouths, oh0_8, oh0_9, oh0_10, oh0_11, oh0_12, oh0_13, oh0_14, oh0_15, oh0_16, oh0_17, oh0_18, oh0_19, oh0_20, oh0_21, oh0_22, oh0_23, oh0_24, oh0_25, .ref h0_leastTime, .ref h0_mostTime, oh0_28, oh0_29, oh0_30, oh0_31, oh0_32, oh0_33, oh0_34, oh0_35, oh0_36, oh0_37])), (h0_parts, .inl (cy 2, 2, .inl v_parts)), (h0_rates, .inl (cy 2, 14, .inl v_rates)), (h0_ways, .inl (cy 2, 14, .inl v_ways)), (h0_mouths, .inl (cy 2, 2, .inl v_mouths)), (h0_leastTime, .inl (cy 2, 287, .inl nv_leastTime)), (h0_mostTime, .inl (cy 2, 287, .inl nv_mostTime))] r := by
  unfold f9_longest at hM
  refine ct_oi (cc := cX9_longest) (maxL := 7) (ty := .int) (by decide +kernel) rfl (Nat.le_of_ble_eq_true rfl) (lv0 := [(0, .ref h0), (1, .int p1), (2, .int p2)]) rfl ?_
  intro p e s m args below meth c A Q ls hx hb hts hown hml hK hP hD hS hA hret hl
  have hown : s.vm.findClass RX9 = some m.cls := hown
  have k99 := hts (.constant RX9 99 (-1000000002)) (List.mem_of_getElem? (i := 1) rfl)
  have k13 := hts (.fieldLink RX9 13 "CaveYearsModel" "parts" "[I") (List.mem_of_getElem? (i := 2) rfl)
  have iX9 := (fun w h => (List.mem_cons_of_mem _ (List.mem_append_right _ h)) : ∀ w ∈ wsX90, w ∈ wsX9_longest)
  have k63 := hts (.fieldLink RX9 63 "CaveYearsModel" "mostTime" "[I") (List.mem_of_getElem? (i := 3) rfl)
  refine lv_iload_n hx hb dX9_longest_0 rfl (lv_at hl 1 rfl) ?_
  refine lv_iconst (v := 1) hx hb dX9_longest_1 (by decide) ?_
  refine lv_bipush (v := 40) hx hb dX9_longest_2 (by decide) ?_
  obtain ⟨r4, hc4, hM⟩ := ob1_some hM
  refine cl_si (As := [.int p1, .int (1 : Int32), .int (40 : Int32)]) (rest := []) (wr := [(h0, .inr (9, [oh0_0, oh0_1, oh0_2, .ref h0_parts, .ref h0_rates, .ref h0_ways, oh0_6, .ref h0_mouths, oh0_8, oh0_9, oh0_10, oh0_11, oh0_12, oh0_13, oh0_14, oh0_15, oh0_16, oh0_17, oh0_18, oh0_19, oh0_20, oh0_21, oh0_22, oh0_23, oh0_24, oh0_25, .ref h0_leastTime, .ref h0_mostTime, oh0_28, oh0_29, oh0_30, oh0_31, oh0_32, oh0_33, oh0_34, oh0_35, oh0_36, oh0_37])), (h0_parts, .inl (cy 2, 2, .inl v_parts)), (h0_rates, .inl (cy 2, 14, .inl v_rates)), (h0_ways, .inl (cy 2, 14, .inl v_ways)), (h0_mouths, .inl (cy 2, 2, .inl v_mouths)), (h0_leastTime, .inl (cy 2, 287, .inl v_leastTime)), (h0_mostTime, .inl (cy 2, 287, .inl v_mostTime))]) (ws2 := [(h0, .inr (9, [oh0_0, oh0_1, oh0_2, .ref h0_parts, .ref h0_rates, .ref h0_ways, oh0_6, .ref h0_mouths, oh0_8, oh0_9, oh0_10, oh0_11, oh0_12, oh0_13, oh0_14, oh0_15, oh0_16, oh0_17, oh0_18, oh0_19, oh0_20, oh0_21, oh0_22, oh0_23, oh0_24, oh0_25, .ref h0_leastTime, .ref h0_mostTime, oh0_28, oh0_29, oh0_30, oh0_31, oh0_32, oh0_33, oh0_34, oh0_35, oh0_36, oh0_37])), (h0_parts, .inl (cy 2, 2, .inl v_parts)), (h0_rates, .inl (cy 2, 14, .inl v_rates)), (h0_ways, .inl (cy 2, 14, .inl v_ways)), (h0_mouths, .inl (cy 2, 2, .inl v_mouths)), (h0_leastTime, .inl (cy 2, 287, .inl v_leastTime)), (h0_mostTime, .inl (cy 2, 287, .inl v_mostTime))]) (isC := []) (isR := [0, 1, 2, 3, 4, 5, 6]) (pm := [0, 1, 2, 3, 4, 5, 6]) hx hb hml hown hts (c9_in l D cy N p1 (1 : Int32) (40 : Int32) r4 hc4) (va_cwS 3 hts gX9_longest_X9_in rfl rfl rfl (by decide +kernel) ⟨Nat.le_of_ble_eq_true rfl, Nat.le_of_ble_eq_true rfl⟩) hK hP hD hS hA rfl rfl rfl (by decide) rfl rfl rfl hl.1 (Nat.le_of_ble_eq_true rfl) dX9_longest_4 ⟨Nat.zero_le _, Nat.zero_le _⟩ rfl rfl (fun H locs hP hD hS => ?_)
  refine lv_if_eq (tgt := 19) hx hb dX9_longest_7 (by decide) (fun c7 => ?_) (fun c7 => ?_)
  · have hM := g_pos c7 hM
    refine lv_ldc (v := -1000000002) hx hb hown k99 dX9_longest_19 ?_
    obtain ⟨rfl, rfl, rfl⟩ := si3 hM
    exact hret _ _ _ _ _ dX9_longest_21 rfl rfl hP hD hS
  · have hM := g_neg c7 hM
    refine lv_iload_n hx hb dX9_longest_10 rfl (lv_at hl 2 rfl) ?_
    refine lv_iconst (v := 0) hx hb dX9_longest_11 (by decide) ?_
    refine lv_iconst (v := 1) hx hb dX9_longest_12 (by decide) ?_
    obtain ⟨r13, hc13, hM⟩ := ob1_some hM
    refine cl_si (As := [.int p2, .int (0 : Int32), .int (1 : Int32)]) (rest := []) (wr := [(h0, .inr (9, [oh0_0, oh0_1, oh0_2, .ref h0_parts, .ref h0_rates, .ref h0_ways, oh0_6, .ref h0_mouths, oh0_8, oh0_9, oh0_10, oh0_11, oh0_12, oh0_13, oh0_14, oh0_15, oh0_16, oh0_17, oh0_18, oh0_19, oh0_20, oh0_21, oh0_22, oh0_23, oh0_24, oh0_25, .ref h0_leastTime, .ref h0_mostTime, oh0_28, oh0_29, oh0_30, oh0_31, oh0_32, oh0_33, oh0_34, oh0_35, oh0_36, oh0_37])), (h0_parts, .inl (cy 2, 2, .inl v_parts)), (h0_rates, .inl (cy 2, 14, .inl v_rates)), (h0_ways, .inl (cy 2, 14, .inl v_ways)), (h0_mouths, .inl (cy 2, 2, .inl v_mouths)), (h0_leastTime, .inl (cy 2, 287, .inl v_leastTime)), (h0_mostTime, .inl (cy 2, 287, .inl v_mostTime))]) (ws2 := [(h0, .inr (9, [oh0_0, oh0_1, oh0_2, .ref h0_parts, .ref h0_rates, .ref h0_ways, oh0_6, .ref h0_mouths, oh0_8, oh0_9, oh0_10, oh0_11, oh0_12, oh0_13, oh0_14, oh0_15, oh0_16, oh0_17, oh0_18, oh0_19, oh0_20, oh0_21, oh0_22, oh0_23, oh0_24, oh0_25, .ref h0_leastTime, .ref h0_mostTime, oh0_28, oh0_29, oh0_30, oh0_31, oh0_32, oh0_33, oh0_34, oh0_35, oh0_36, oh0_37])), (h0_parts, .inl (cy 2, 2, .inl v_parts)), (h0_rates, .inl (cy 2, 14, .inl v_rates)), (h0_ways, .inl (cy 2, 14, .inl v_ways)), (h0_mouths, .inl (cy 2, 2, .inl v_mouths)), (h0_leastTime, .inl (cy 2, 287, .inl v_leastTime)), (h0_mostTime, .inl (cy 2, 287, .inl v_mostTime))]) (isC := []) (isR := [0, 1, 2, 3, 4, 5, 6]) (pm := [0, 1, 2, 3, 4, 5, 6]) hx hb hml hown hts (c9_in l D cy N p2 (0 : Int32) (1 : Int32) r13 hc13) (va_cwS 3 hts gX9_longest_X9_in rfl rfl rfl (by decide +kernel) ⟨Nat.le_of_ble_eq_true rfl, Nat.le_of_ble_eq_true rfl⟩) hK hP hD hS hA rfl rfl rfl (by decide) rfl rfl rfl hl.1 (Nat.le_of_ble_eq_true rfl) dX9_longest_13 ⟨Nat.zero_le _, Nat.zero_le _⟩ rfl rfl (fun H locs hP hD hS => ?_)
    refine lv_if_ne (tgt := 22) hx hb dX9_longest_16 (by decide) (fun c16 => ?_) (fun c16 => ?_)
    · have hM := g_neg c16 hM
      refine lv_iconst (v := -1) hx hb dX9_longest_22 (by decide) ?_
      refine lv_istore_n (lv' := [(3, .int (-1 : Int32)), (0, .ref h0), (1, .int p1), (2, .int p2)]) hx hb dX9_longest_23 rfl hl (by decide) rfl (fun ls hl => ?_)
      refine lv_iconst (v := -1) hx hb dX9_longest_24 (by decide) ?_
      refine lv_istore (lv' := [(4, .int (-1 : Int32)), (3, .int (-1 : Int32)), (0, .ref h0), (1, .int p1), (2, .int p2)]) hx hb dX9_longest_25 hl (by decide) rfl (fun ls hl => ?_)
      refine lv_iconst (v := 0) hx hb dX9_longest_27 (by decide) ?_
      refine lv_istore (lv' := [(5, .int (0 : Int32)), (4, .int (-1 : Int32)), (3, .int (-1 : Int32)), (0, .ref h0), (1, .int p1), (2, .int p2)]) hx hb dX9_longest_28 hl (by decide) rfl (fun ls hl => ?_)
      have L30 : ∀ (n : Nat) (x3_30 : Int32) (x4_30 : Int32) (x5_30 : Int32) (v_leastTime_30 : Nat → Int32) (v_mostTime_30 : Nat → Int32) (e3_30 : Int32) (e4_30 : Int32) (v_leastTime_e30 : Nat → Int32) (v_mostTime_e30 : Nat → Int32) (H : Heap) (locs : List Loc) (ls : Array Slot), f9_longest_L30 N p1 v_parts v_rates v_ways v_mouths n x3_30 x4_30 x5_30 v_leastTime_30 v_mostTime_30 = some (e3_30, e4_30, v_leastTime_e30, v_mostTime_e30) → va_P D vwCl [(h0, .inr (9, [oh0_0, oh0_1, oh0_2, .ref h0_parts, .ref h0_rates, .ref h0_ways, oh0_6, .ref h0_mouths, oh0_8, oh0_9, oh0_10, oh0_11, oh0_12, oh0_13, oh0_14, oh0_15, oh0_16, oh0_17, oh0_18, oh0_19, oh0_20, oh0_21, oh0_22, oh0_23, oh0_24, oh0_25, .ref h0_leastTime, .ref h0_mostTime, oh0_28, oh0_29, oh0_30, oh0_31, oh0_32, oh0_33, oh0_34, oh0_35, oh0_36, oh0_37])), (h0_parts, .inl (cy 2, 2, .inl v_parts)), (h0_rates, .inl (cy 2, 14, .inl v_rates)), (h0_ways, .inl (cy 2, 14, .inl v_ways)), (h0_mouths, .inl (cy 2, 2, .inl v_mouths)), (h0_leastTime, .inl (cy 2, 287, .inl v_leastTime_30)), (h0_mostTime, .inl (cy 2, 287, .inl v_mostTime_30))] H → va_D A [(h0, .inr (9, [oh0_0, oh0_1, oh0_2, .ref h0_parts, .ref h0_rates, .ref h0_ways, oh0_6, .ref h0_mouths, oh0_8, oh0_9, oh0_10, oh0_11, oh0_12, oh0_13, oh0_14, oh0_15, oh0_16, oh0_17, oh0_18, oh0_19, oh0_20, oh0_21, oh0_22, oh0_23, oh0_24, oh0_25, .ref h0_leastTime, .ref h0_mostTime, oh0_28, oh0_29, oh0_30, oh0_31, oh0_32, oh0_33, oh0_34, oh0_35, oh0_36, oh0_37])), (h0_parts, .inl (cy 2, 2, .inl v_parts)), (h0_rates, .inl (cy 2, 14, .inl v_rates)), (h0_ways, .inl (cy 2, 14, .inl v_ways)), (h0_mouths, .inl (cy 2, 2, .inl v_mouths)), (h0_leastTime, .inl (cy 2, 287, .inl v_leastTime_30)), (h0_mostTime, .inl (cy 2, 287, .inl v_mostTime_30))] → va_S A s.heap H locs → lv_has ls 7 [(0, .ref h0), (1, .int p1), (2, .int p2), (3, .int x3_30), (4, .int x4_30), (5, .int x5_30)] → (∀ (H : Heap) (locs : List Loc) (ls : Array Slot), va_P D vwCl [(h0, .inr (9, [oh0_0, oh0_1, oh0_2, .ref h0_parts, .ref h0_rates, .ref h0_ways, oh0_6, .ref h0_mouths, oh0_8, oh0_9, oh0_10, oh0_11, oh0_12, oh0_13, oh0_14, oh0_15, oh0_16, oh0_17, oh0_18, oh0_19, oh0_20, oh0_21, oh0_22, oh0_23, oh0_24, oh0_25, .ref h0_leastTime, .ref h0_mostTime, oh0_28, oh0_29, oh0_30, oh0_31, oh0_32, oh0_33, oh0_34, oh0_35, oh0_36, oh0_37])), (h0_parts, .inl (cy 2, 2, .inl v_parts)), (h0_rates, .inl (cy 2, 14, .inl v_rates)), (h0_ways, .inl (cy 2, 14, .inl v_ways)), (h0_mouths, .inl (cy 2, 2, .inl v_mouths)), (h0_leastTime, .inl (cy 2, 287, .inl v_leastTime_e30)), (h0_mostTime, .inl (cy 2, 287, .inl v_mostTime_e30))] H → va_D A [(h0, .inr (9, [oh0_0, oh0_1, oh0_2, .ref h0_parts, .ref h0_rates, .ref h0_ways, oh0_6, .ref h0_mouths, oh0_8, oh0_9, oh0_10, oh0_11, oh0_12, oh0_13, oh0_14, oh0_15, oh0_16, oh0_17, oh0_18, oh0_19, oh0_20, oh0_21, oh0_22, oh0_23, oh0_24, oh0_25, .ref h0_leastTime, .ref h0_mostTime, oh0_28, oh0_29, oh0_30, oh0_31, oh0_32, oh0_33, oh0_34, oh0_35, oh0_36, oh0_37])), (h0_parts, .inl (cy 2, 2, .inl v_parts)), (h0_rates, .inl (cy 2, 14, .inl v_rates)), (h0_ways, .inl (cy 2, 14, .inl v_ways)), (h0_mouths, .inl (cy 2, 2, .inl v_mouths)), (h0_leastTime, .inl (cy 2, 287, .inl v_leastTime_e30)), (h0_mostTime, .inl (cy 2, 287, .inl v_mostTime_e30))] → va_S A s.heap H locs → lv_has ls 7 [(2, .int p2), (3, .int e3_30), (4, .int e4_30)] → W p l e r9_longest s m args below meth c H locs 0 0 Q (F0 m 105 ls [])) → W p l e r9_longest s m args below meth c H locs 0 0 Q (F0 m 30 ls []) := by
        intro n
        induction n with
        | zero =>
          intro x3_30 x4_30 x5_30 v_leastTime_30 v_mostTime_30 e3_30 e4_30 v_leastTime_e30 v_mostTime_e30 H locs ls hM
          exact absurd hM (by simp [f9_longest_L30])
        | succ n ih =>
          intro x3_30 x4_30 x5_30 v_leastTime_30 v_mostTime_30 e3_30 e4_30 v_leastTime_e30 v_mostTime_e30 H locs ls hM hP hD hS hl K
          rw [f9_longest_L30] at hM
          refine lv_iload hx hb dX9_longest_30 (lv_at hl 5 rfl) ?_
          refine lv_aload_n hx hb dX9_longest_32 rfl (lv_at hl 0 rfl) ?_
          refine va_get (D := D) (ci := 9) (v := .ref h0_parts) (C := RX9) (T := TX9) (N := 38) hx hb hts iX9 hown hK hP 0 rfl rfl 3 (by decide) k13 (fun _ h9 => h9) rfl dX9_longest_33 ?_
          refine lv_iconst (v := 0) hx hb dX9_longest_36 (by decide) ?_
          obtain ⟨h37, hM⟩ := gi_some hM
          refine va_iald hx hb hK hP 1 2 rfl rfl h37 dX9_longest_37 ?_
          refine lv_icmp_ge (tgt := 105) hx hb dX9_longest_38 (by decide) (fun c38 => ?_) (fun c38 => ?_)
          · have hM := g_pos c38 hM
            obtain ⟨rfl, rfl, rfl, rfl⟩ := si4 hM
            exact K _ _ _ hP hD hS (lv_sub hl [2, 3, 4] rfl)
          · have hM := g_neg c38 hM
            refine lv_aload_n hx hb dX9_longest_41 rfl (lv_at hl 0 rfl) ?_
            refine lv_iload hx hb dX9_longest_42 (lv_at hl 5 rfl) ?_
            obtain ⟨r44, hc44, hM⟩ := ob1_some hM
            refine cl_vi (As := [.int x5_30]) (rest := []) (ci := 9) (q0 := 0) (wr := [(h0_rates, .inl (cy 2, 14, .inl v_rates)), (h0_ways, .inl (cy 2, 14, .inl v_ways)), (h0_leastTime, .inl (cy 2, 287, .inl v_leastTime_30)), (h0_mostTime, .inl (cy 2, 287, .inl v_mostTime_30))]) (ws2 := [(h0, .inr (9, [oh0_0, oh0_1, oh0_2, .ref h0_parts, .ref h0_rates, .ref h0_ways, oh0_6, .ref h0_mouths, oh0_8, oh0_9, oh0_10, oh0_11, oh0_12, oh0_13, oh0_14, oh0_15, oh0_16, oh0_17, oh0_18, oh0_19, oh0_20, oh0_21, oh0_22, oh0_23, oh0_24, oh0_25, .ref h0_leastTime, .ref h0_mostTime, oh0_28, oh0_29, oh0_30, oh0_31, oh0_32, oh0_33, oh0_34, oh0_35, oh0_36, oh0_37])), (h0_parts, .inl (cy 2, 2, .inl v_parts)), (h0_rates, .inl (cy 2, 14, .inl v_rates)), (h0_ways, .inl (cy 2, 14, .inl v_ways)), (h0_mouths, .inl (cy 2, 2, .inl v_mouths)), (h0_leastTime, .inl (cy 2, 287, .inl v_leastTime_30)), (h0_mostTime, .inl (cy 2, 287, .inl v_mostTime_30))]) (isC := [0, 1, 4]) (isR := [2, 3, 5, 6]) (pm := [4, 5, 0, 1, 6, 2, 3]) hx hb hml hown hts (c9_isMouth l D cy N h0 h0_parts h0_mouths oh0_0 oh0_1 oh0_2 (.ref h0_rates) (.ref h0_ways) oh0_6 oh0_8 oh0_9 oh0_10 oh0_11 oh0_12 oh0_13 oh0_14 oh0_15 oh0_16 oh0_17 oh0_18 oh0_19 oh0_20 oh0_21 oh0_22 oh0_23 oh0_24 oh0_25 (.ref h0_leastTime) (.ref h0_mostTime) oh0_28 oh0_29 oh0_30 oh0_31 oh0_32 oh0_33 oh0_34 oh0_35 oh0_36 oh0_37 x5_30 v_parts v_mouths r44 hc44) (cwV 1 hts gX9_longest_X9_isMouth rfl rfl rfl (by decide +kernel) ⟨Nat.le_of_ble_eq_true rfl, Nat.le_of_ble_eq_true rfl⟩) hK hP hD hS hA rfl rfl rfl rfl rfl (by decide) rfl rfl rfl hl.1 (Nat.le_of_ble_eq_true rfl) dX9_longest_44 ⟨Nat.zero_le _, Nat.zero_le _⟩ rfl rfl (fun H locs hP hD hS => ?_)
            refine lv_if_eq (tgt := 99) hx hb dX9_longest_47 (by decide) (fun c47 => ?_) (fun c47 => ?_)
            · have hM := g_pos c47 hM
              refine lv_iinc (v := x5_30 + (1 : Int32)) (lv' := [(5, .int (x5_30 + (1 : Int32))), (0, .ref h0), (1, .int p1), (2, .int p2), (3, .int x3_30), (4, .int x4_30)]) hx hb dX9_longest_99 hl (k := 5) rfl rfl (by decide) rfl (fun ls hl => ?_)
              refine lv_goto (tgt := 30) hx hb dX9_longest_102 (by decide) ?_
              exact ih x3_30 x4_30 (x5_30 + (1 : Int32)) v_leastTime_30 v_mostTime_30 e3_30 e4_30 v_leastTime_e30 v_mostTime_e30 _ _ _ hM hP hD hS (lv_sub hl [1, 2, 3, 4, 5, 0] rfl) K
            · have hM := g_neg c47 hM
              refine lv_aload_n hx hb dX9_longest_50 rfl (lv_at hl 0 rfl) ?_
              refine lv_iload hx hb dX9_longest_51 (lv_at hl 5 rfl) ?_
              obtain ⟨v_leastTime_53, v_mostTime_53, hc53, hM⟩ := ob2_some hM
              refine cl_vv (As := [.int x5_30]) (rest := []) (ci := 9) (q0 := 0) (wr := [(h0_mouths, .inl (cy 2, 2, .inl v_mouths))]) (ws2 := [(h0, .inr (9, [oh0_0, oh0_1, oh0_2, .ref h0_parts, .ref h0_rates, .ref h0_ways, oh0_6, .ref h0_mouths, oh0_8, oh0_9, oh0_10, oh0_11, oh0_12, oh0_13, oh0_14, oh0_15, oh0_16, oh0_17, oh0_18, oh0_19, oh0_20, oh0_21, oh0_22, oh0_23, oh0_24, oh0_25, .ref h0_leastTime, .ref h0_mostTime, oh0_28, oh0_29, oh0_30, oh0_31, oh0_32, oh0_33, oh0_34, oh0_35, oh0_36, oh0_37])), (h0_parts, .inl (cy 2, 2, .inl v_parts)), (h0_rates, .inl (cy 2, 14, .inl v_rates)), (h0_ways, .inl (cy 2, 14, .inl v_ways)), (h0_mouths, .inl (cy 2, 2, .inl v_mouths)), (h0_leastTime, .inl (cy 2, 287, .inl v_leastTime_53)), (h0_mostTime, .inl (cy 2, 287, .inl v_mostTime_53))]) (isC := [0, 1, 2, 3, 5, 6]) (isR := [4]) (pm := [1, 2, 3, 4, 0, 5, 6]) hx hb hml hown hts (c9_findSpans l D cy N h0 h0_parts h0_rates h0_ways h0_leastTime h0_mostTime oh0_0 oh0_1 oh0_2 oh0_6 (.ref h0_mouths) oh0_8 oh0_9 oh0_10 oh0_11 oh0_12 oh0_13 oh0_14 oh0_15 oh0_16 oh0_17 oh0_18 oh0_19 oh0_20 oh0_21 oh0_22 oh0_23 oh0_24 oh0_25 oh0_28 oh0_29 oh0_30 oh0_31 oh0_32 oh0_33 oh0_34 oh0_35 oh0_36 oh0_37 x5_30 v_parts v_rates v_ways v_leastTime_30 v_mostTime_30 v_leastTime_53 v_mostTime_53 hc53) (cwV 1 hts gX9_longest_X9_findSpans rfl rfl rfl (by decide +kernel) ⟨Nat.le_of_ble_eq_true rfl, Nat.le_of_ble_eq_true rfl⟩) hK hP hD hS hA rfl rfl rfl rfl rfl (by decide) rfl rfl rfl hl.1 (Nat.le_of_ble_eq_true rfl) dX9_longest_53 ⟨Nat.zero_le _, Nat.zero_le _⟩ rfl rfl (fun H locs hP hD hS => ?_)
              refine lv_aload_n hx hb dX9_longest_56 rfl (lv_at hl 0 rfl) ?_
              refine va_get (D := D) (ci := 9) (v := .ref h0_mostTime) (C := RX9) (T := TX9) (N := 38) hx hb hts iX9 hown hK hP 0 rfl rfl 27 (by decide) k63 (fun _ h9 => h9) rfl dX9_longest_57 ?_
              refine lv_iload_n hx hb dX9_longest_60 rfl (lv_at hl 1 rfl) ?_
              refine lv_iload hx hb dX9_longest_61 (lv_at hl 5 rfl) ?_
              obtain ⟨r63, hc63, hM⟩ := ob1_some hM
              refine cl_si (As := [.int p1, .int x5_30]) (rest := [.ref h0_mostTime]) (wr := [(h0, .inr (9, [oh0_0, oh0_1, oh0_2, .ref h0_parts, .ref h0_rates, .ref h0_ways, oh0_6, .ref h0_mouths, oh0_8, oh0_9, oh0_10, oh0_11, oh0_12, oh0_13, oh0_14, oh0_15, oh0_16, oh0_17, oh0_18, oh0_19, oh0_20, oh0_21, oh0_22, oh0_23, oh0_24, oh0_25, .ref h0_leastTime, .ref h0_mostTime, oh0_28, oh0_29, oh0_30, oh0_31, oh0_32, oh0_33, oh0_34, oh0_35, oh0_36, oh0_37])), (h0_parts, .inl (cy 2, 2, .inl v_parts)), (h0_rates, .inl (cy 2, 14, .inl v_rates)), (h0_ways, .inl (cy 2, 14, .inl v_ways)), (h0_mouths, .inl (cy 2, 2, .inl v_mouths)), (h0_leastTime, .inl (cy 2, 287, .inl v_leastTime_53)), (h0_mostTime, .inl (cy 2, 287, .inl v_mostTime_53))]) (ws2 := [(h0, .inr (9, [oh0_0, oh0_1, oh0_2, .ref h0_parts, .ref h0_rates, .ref h0_ways, oh0_6, .ref h0_mouths, oh0_8, oh0_9, oh0_10, oh0_11, oh0_12, oh0_13, oh0_14, oh0_15, oh0_16, oh0_17, oh0_18, oh0_19, oh0_20, oh0_21, oh0_22, oh0_23, oh0_24, oh0_25, .ref h0_leastTime, .ref h0_mostTime, oh0_28, oh0_29, oh0_30, oh0_31, oh0_32, oh0_33, oh0_34, oh0_35, oh0_36, oh0_37])), (h0_parts, .inl (cy 2, 2, .inl v_parts)), (h0_rates, .inl (cy 2, 14, .inl v_rates)), (h0_ways, .inl (cy 2, 14, .inl v_ways)), (h0_mouths, .inl (cy 2, 2, .inl v_mouths)), (h0_leastTime, .inl (cy 2, 287, .inl v_leastTime_53)), (h0_mostTime, .inl (cy 2, 287, .inl v_mostTime_53))]) (isC := []) (isR := [0, 1, 2, 3, 4, 5, 6]) (pm := [0, 1, 2, 3, 4, 5, 6]) hx hb hml hown hts (c9_index l D cy N p1 x5_30 r63 hc63) (va_cwS 2 hts gX9_longest_X9_index rfl rfl rfl (by decide +kernel) ⟨Nat.le_of_ble_eq_true rfl, Nat.le_of_ble_eq_true rfl⟩) hK hP hD hS hA rfl rfl rfl (by decide) rfl rfl rfl hl.1 (Nat.le_of_ble_eq_true rfl) dX9_longest_63 ⟨Nat.zero_le _, Nat.zero_le _⟩ rfl rfl (fun H locs hP hD hS => ?_)
              obtain ⟨h66, hM⟩ := gi_some hM
              refine va_iald hx hb hK hP 6 2 rfl rfl h66 dX9_longest_66 ?_
              refine lv_istore (lv' := [(6, .int (v_mostTime_53 r63.toNatClampNeg)), (0, .ref h0), (1, .int p1), (2, .int p2), (3, .int x3_30), (4, .int x4_30), (5, .int x5_30)]) hx hb dX9_longest_67 hl (by decide) rfl (fun ls hl => ?_)
              refine lv_iload hx hb dX9_longest_69 (lv_at hl 0 rfl) ?_
              refine lv_iload hx hb dX9_longest_71 (lv_at hl 5 rfl) ?_
              have K82 : ∀ (s0_82 : Int32) (H : Heap) (locs : List Loc) (ls : Array Slot), f9_longest_J82 N x4_30 x5_30 v_leastTime_53 v_mostTime_53 r63 (f9_longest_L30 N p1 v_parts v_rates v_ways v_mouths n) s0_82 = some (e3_30, e4_30, v_leastTime_e30, v_mostTime_e30) → va_P D vwCl [(h0, .inr (9, [oh0_0, oh0_1, oh0_2, .ref h0_parts, .ref h0_rates, .ref h0_ways, oh0_6, .ref h0_mouths, oh0_8, oh0_9, oh0_10, oh0_11, oh0_12, oh0_13, oh0_14, oh0_15, oh0_16, oh0_17, oh0_18, oh0_19, oh0_20, oh0_21, oh0_22, oh0_23, oh0_24, oh0_25, .ref h0_leastTime, .ref h0_mostTime, oh0_28, oh0_29, oh0_30, oh0_31, oh0_32, oh0_33, oh0_34, oh0_35, oh0_36, oh0_37])), (h0_parts, .inl (cy 2, 2, .inl v_parts)), (h0_rates, .inl (cy 2, 14, .inl v_rates)), (h0_ways, .inl (cy 2, 14, .inl v_ways)), (h0_mouths, .inl (cy 2, 2, .inl v_mouths)), (h0_leastTime, .inl (cy 2, 287, .inl v_leastTime_53)), (h0_mostTime, .inl (cy 2, 287, .inl v_mostTime_53))] H → va_D A [(h0, .inr (9, [oh0_0, oh0_1, oh0_2, .ref h0_parts, .ref h0_rates, .ref h0_ways, oh0_6, .ref h0_mouths, oh0_8, oh0_9, oh0_10, oh0_11, oh0_12, oh0_13, oh0_14, oh0_15, oh0_16, oh0_17, oh0_18, oh0_19, oh0_20, oh0_21, oh0_22, oh0_23, oh0_24, oh0_25, .ref h0_leastTime, .ref h0_mostTime, oh0_28, oh0_29, oh0_30, oh0_31, oh0_32, oh0_33, oh0_34, oh0_35, oh0_36, oh0_37])), (h0_parts, .inl (cy 2, 2, .inl v_parts)), (h0_rates, .inl (cy 2, 14, .inl v_rates)), (h0_ways, .inl (cy 2, 14, .inl v_ways)), (h0_mouths, .inl (cy 2, 2, .inl v_mouths)), (h0_leastTime, .inl (cy 2, 287, .inl v_leastTime_53)), (h0_mostTime, .inl (cy 2, 287, .inl v_mostTime_53))] → va_S A s.heap H locs → lv_has ls 7 [(0, .ref h0), (1, .int p1), (2, .int p2), (4, .int x4_30), (5, .int x5_30), (6, .int (v_mostTime_53 r63.toNatClampNeg))] → W p l e r9_longest s m args below meth c H locs 0 0 Q (F0 m 82 ls [.int s0_82]) := by
                intro s0_82 H locs ls hM hP hD hS hl
                unfold f9_longest_J82 at hM
                refine lv_istore_n (lv' := [(3, .int s0_82), (0, .ref h0), (1, .int p1), (2, .int p2), (4, .int x4_30), (5, .int x5_30), (6, .int (v_mostTime_53 r63.toNatClampNeg))]) hx hb dX9_longest_82 rfl hl (by decide) rfl (fun ls hl => ?_)
                refine lv_iload hx hb dX9_longest_83 (lv_at hl 6 rfl) ?_
                refine lv_iload hx hb dX9_longest_85 (lv_at hl 4 rfl) ?_
                refine lv_icmp_le (tgt := 95) hx hb dX9_longest_87 (by decide) (fun c87 => ?_) (fun c87 => ?_)
                · have hM := g_pos c87 hM
                  refine lv_iload hx hb dX9_longest_95 (lv_at hl 4 rfl) ?_
                  refine lv_istore (lv' := [(4, .int x4_30), (3, .int s0_82), (0, .ref h0), (1, .int p1), (2, .int p2), (5, .int x5_30), (6, .int (v_mostTime_53 r63.toNatClampNeg))]) hx hb dX9_longest_97 hl (by decide) rfl (fun ls hl => ?_)
                  refine lv_iinc (v := x5_30 + (1 : Int32)) (lv' := [(5, .int (x5_30 + (1 : Int32))), (4, .int x4_30), (3, .int s0_82), (0, .ref h0), (1, .int p1), (2, .int p2), (6, .int (v_mostTime_53 r63.toNatClampNeg))]) hx hb dX9_longest_99 hl (k := 5) rfl rfl (by decide) rfl (fun ls hl => ?_)
                  refine lv_goto (tgt := 30) hx hb dX9_longest_102 (by decide) ?_
                  exact ih s0_82 x4_30 (x5_30 + (1 : Int32)) v_leastTime_53 v_mostTime_53 e3_30 e4_30 v_leastTime_e30 v_mostTime_e30 _ _ _ hM hP hD hS (lv_sub hl [3, 4, 5, 2, 1, 0] rfl) K
                · have hM := g_neg c87 hM
                  refine lv_iload hx hb dX9_longest_90 (lv_at hl 6 rfl) ?_
                  refine lv_goto (tgt := 97) hx hb dX9_longest_92 (by decide) ?_
                  refine lv_istore (lv' := [(4, .int (v_mostTime_53 r63.toNatClampNeg)), (3, .int s0_82), (0, .ref h0), (1, .int p1), (2, .int p2), (5, .int x5_30), (6, .int (v_mostTime_53 r63.toNatClampNeg))]) hx hb dX9_longest_97 hl (by decide) rfl (fun ls hl => ?_)
                  refine lv_iinc (v := x5_30 + (1 : Int32)) (lv' := [(5, .int (x5_30 + (1 : Int32))), (4, .int (v_mostTime_53 r63.toNatClampNeg)), (3, .int s0_82), (0, .ref h0), (1, .int p1), (2, .int p2), (6, .int (v_mostTime_53 r63.toNatClampNeg))]) hx hb dX9_longest_99 hl (k := 5) rfl rfl (by decide) rfl (fun ls hl => ?_)
                  refine lv_goto (tgt := 30) hx hb dX9_longest_102 (by decide) ?_
                  exact ih s0_82 (v_mostTime_53 r63.toNatClampNeg) (x5_30 + (1 : Int32)) v_leastTime_53 v_mostTime_53 e3_30 e4_30 v_leastTime_e30 v_mostTime_e30 _ _ _ hM hP hD hS (lv_sub hl [3, 4, 5, 2, 1, 0] rfl) K
              refine lv_icmp_le (tgt := 81) hx hb dX9_longest_73 (by decide) (fun c73 => ?_) (fun c73 => ?_)
              · have hM := g_pos c73 hM
                refine lv_iload_n hx hb dX9_longest_81 rfl (lv_at hl 4 rfl) ?_
                exact K82 x3_30 _ _ _ hM hP hD hS (lv_sub hl [1, 2, 3, 5, 6, 0] rfl)
              · have hM := g_neg c73 hM
                refine lv_iload hx hb dX9_longest_76 (lv_at hl 6 rfl) ?_
                refine lv_goto (tgt := 82) hx hb dX9_longest_78 (by decide) ?_
                exact K82 x5_30 _ _ _ hM hP hD hS (lv_sub hl [1, 2, 3, 5, 6, 0] rfl)
      obtain ⟨e3_30, e4_30, v_leastTime_e30, v_mostTime_e30, hL30, hM⟩ := ob4_some hM
      refine L30 N (-1 : Int32) (-1 : Int32) (0 : Int32) v_leastTime v_mostTime e3_30 e4_30 v_leastTime_e30 v_mostTime_e30 _ _ _ hL30 hP hD hS (lv_sub hl [3, 4, 5, 2, 1, 0] rfl) ?_
      intro H locs ls hP hD hS hl
      refine lv_iload_n hx hb dX9_longest_105 rfl (lv_at hl 0 rfl) ?_
      refine lv_if_ne (tgt := 113) hx hb dX9_longest_106 (by decide) (fun c106 => ?_) (fun c106 => ?_)
      · have hM := g_neg c106 hM
        refine lv_iload hx hb dX9_longest_113 (lv_at hl 2 rfl) ?_
        obtain ⟨rfl, rfl, rfl⟩ := si3 hM
        exact hret _ _ _ _ _ dX9_longest_115 rfl rfl hP hD hS
      · have hM := g_pos c106 hM
        refine lv_iload_n hx hb dX9_longest_109 rfl (lv_at hl 1 rfl) ?_
        refine lv_goto (tgt := 115) hx hb dX9_longest_110 (by decide) ?_
        obtain ⟨rfl, rfl, rfl⟩ := si3 hM
        exact hret _ _ _ _ _ dX9_longest_115 rfl rfl hP hD hS
    · have hM := g_pos c16 hM
      refine lv_ldc (v := -1000000002) hx hb hown k99 dX9_longest_19 ?_
      obtain ⟨rfl, rfl, rfl⟩ := si3 hM
      exact hret _ _ _ _ _ dX9_longest_21 rfl rfl hP hD hS

-- ===== X9_ageAt ageAt (II)I =====
abbrev r9_ageAt : Room := { frames := 1, cells := 0, slots := 0, locals := 21 }
def f9_ageAt (N : Nat) (p1 : Int32) (p2 : Int32) (v_now : Nat → Int32) : Option Int32 :=
  ob1 (f9_isDown N p1 v_now) fun r2 => if r2 = (0 : Int32) then (gi (0 : Int32) 60 (gi ((1 : Int32) + p1) 60 (some (((v_now ((1 : Int32) + p1).toNatClampNeg) + p2) - (v_now (0 : Int32).toNatClampNeg))))) else (gi ((13 : Int32) + p1) 60 (gi ((1 : Int32) + p1) 60 (some (((v_now ((1 : Int32) + p1).toNatClampNeg) + p2) - (v_now ((13 : Int32) + p1).toNatClampNeg)))))
set_option maxHeartbeats 4000000 in
set_option maxRecDepth 100000 in
theorem c9_ageAt (l : Launch) (D : va_G) (cy : Nat → ClassId) (N : Nat) (h0 h0_now : Nat) (oh0_0 oh0_1 oh0_2 oh0_3 oh0_4 oh0_5 oh0_6 oh0_7 oh0_8 oh0_9 oh0_10 oh0_11 oh0_12 oh0_13 oh0_14 oh0_15 oh0_16 oh0_17 oh0_18 oh0_19 oh0_20 oh0_21 oh0_23 oh0_24 oh0_25 oh0_26 oh0_27 oh0_28 oh0_29 oh0_30 oh0_31 oh0_32 oh0_33 oh0_34 oh0_35 oh0_36 oh0_37 : Value) (p1 : Int32) (p2 : Int32) (v_now : Nat → Int32) (r : Int32) (hM : f9_ageAt N p1 p2 v_now = some r) (sz : Nat) : CTi l yX9_ageAt wsX9_ageAt r9_ageAt [.ref h0, .int p1, .int p2] D cy sz [(h0, .inr (9, [oh0_0, oh0_1, oh0_2, oh0_3, oh0_4, oh0_5, oh0_6, oh0_7, oh0_8, oh0_9, oh0_10, oh0_11, oh0_12, oh0_13, oh0_14, oh0_15, oh0_16, oh0_17, oh0_18, oh0_19, oh0_20, oh0_21, .ref h0_now, oh0_23, oh0_24, oh0_25, oh0_26, oh0_27, oh0_28, oh0_29, oh0_30, oh0_31, oh0_32, oh0_33, oh0_34, oh0_35, oh0_36, oh0_37])), (h0_now, .inl (cy 2, 60, .inl v_now))] [(h0, .inr (9, [oh0_0, oh0_1, oh0_2, oh0_3, oh0_4, oh0_5, oh0_6, oh0_7, oh0_8, oh0_9, oh0_10, oh0_11, oh0_12, oh0_13, oh0_14, oh0_15, oh0_16, oh0_17, oh0_18, oh0_19, oh0_20, oh0_21, .ref h0_now, oh0_23, oh0_24, oh0_25, oh0_26, oh0_27, oh0_28, oh0_29, oh0_30, oh0_31, oh0_32, oh0_33, oh0_34, oh0_35, oh0_36, oh0_37])), (h0_now, .inl (cy 2, 60, .inl v_now))] r := by
  unfold f9_ageAt at hM
  refine ct_oi (cc := cX9_ageAt) (maxL := 4) (ty := .int) (by decide +kernel) rfl (Nat.le_of_ble_eq_true rfl) (lv0 := [(0, .ref h0), (1, .int p1), (2, .int p2)]) rfl ?_
  intro p e s m args below meth c A Q ls hx hb hts hown hml hK hP hD hS hA hret hl
  have hown : s.vm.findClass RX9 = some m.cls := hown
  have k50 := hts (.fieldLink RX9 50 "CaveYearsModel" "now" "[I") (List.mem_of_getElem? (i := 1) rfl)
  have iX9 := (fun w h => (List.mem_cons_of_mem _ (List.mem_append_right _ h)) : ∀ w ∈ wsX90, w ∈ wsX9_ageAt)
  refine lv_aload_n hx hb dX9_ageAt_0 rfl (lv_at hl 0 rfl) ?_
  refine lv_iload_n hx hb dX9_ageAt_1 rfl (lv_at hl 1 rfl) ?_
  obtain ⟨r2, hc2, hM⟩ := ob1_some hM
  refine cl_vi (As := [.int p1]) (rest := []) (ci := 9) (q0 := 0) (wr := []) (ws2 := [(h0, .inr (9, [oh0_0, oh0_1, oh0_2, oh0_3, oh0_4, oh0_5, oh0_6, oh0_7, oh0_8, oh0_9, oh0_10, oh0_11, oh0_12, oh0_13, oh0_14, oh0_15, oh0_16, oh0_17, oh0_18, oh0_19, oh0_20, oh0_21, .ref h0_now, oh0_23, oh0_24, oh0_25, oh0_26, oh0_27, oh0_28, oh0_29, oh0_30, oh0_31, oh0_32, oh0_33, oh0_34, oh0_35, oh0_36, oh0_37])), (h0_now, .inl (cy 2, 60, .inl v_now))]) (isC := [0, 1]) (isR := []) (pm := [0, 1]) hx hb hml hown hts (c9_isDown l D cy N h0 h0_now oh0_0 oh0_1 oh0_2 oh0_3 oh0_4 oh0_5 oh0_6 oh0_7 oh0_8 oh0_9 oh0_10 oh0_11 oh0_12 oh0_13 oh0_14 oh0_15 oh0_16 oh0_17 oh0_18 oh0_19 oh0_20 oh0_21 oh0_23 oh0_24 oh0_25 oh0_26 oh0_27 oh0_28 oh0_29 oh0_30 oh0_31 oh0_32 oh0_33 oh0_34 oh0_35 oh0_36 oh0_37 p1 v_now r2 hc2) (cwV 1 hts gX9_ageAt_X9_isDown rfl rfl rfl (by decide +kernel) ⟨Nat.le_of_ble_eq_true rfl, Nat.le_of_ble_eq_true rfl⟩) hK hP hD hS hA rfl rfl rfl rfl rfl (by decide) rfl rfl rfl hl.1 (Nat.le_of_ble_eq_true rfl) dX9_ageAt_2 ⟨Nat.zero_le _, Nat.zero_le _⟩ rfl rfl (fun H locs hP hD hS => ?_)
  refine lv_if_eq (tgt := 20) hx hb dX9_ageAt_5 (by decide) (fun c5 => ?_) (fun c5 => ?_)
  · have hM := g_pos c5 hM
    refine lv_aload_n hx hb dX9_ageAt_20 rfl (lv_at hl 0 rfl) ?_
    refine va_get (D := D) (ci := 9) (v := .ref h0_now) (C := RX9) (T := TX9) (N := 38) hx hb hts iX9 hown hK hP 0 rfl rfl 22 (by decide) k50 (fun _ h9 => h9) rfl dX9_ageAt_21 ?_
    refine lv_iconst (v := 0) hx hb dX9_ageAt_24 (by decide) ?_
    obtain ⟨h25, hM⟩ := gi_some hM
    refine va_iald hx hb hK hP 1 2 rfl rfl h25 dX9_ageAt_25 ?_
    refine lv_istore_n (lv' := [(3, .int (v_now (0 : Int32).toNatClampNeg)), (0, .ref h0), (1, .int p1), (2, .int p2)]) hx hb dX9_ageAt_26 rfl hl (by decide) rfl (fun ls hl => ?_)
    refine lv_aload_n hx hb dX9_ageAt_27 rfl (lv_at hl 1 rfl) ?_
    refine va_get (D := D) (ci := 9) (v := .ref h0_now) (C := RX9) (T := TX9) (N := 38) hx hb hts iX9 hown hK hP 0 rfl rfl 22 (by decide) k50 (fun _ h9 => h9) rfl dX9_ageAt_28 ?_
    refine lv_iconst (v := 1) hx hb dX9_ageAt_31 (by decide) ?_
    refine lv_iload_n hx hb dX9_ageAt_32 rfl (lv_at hl 2 rfl) ?_
    refine lv_iadd hx hb dX9_ageAt_33 ?_
    obtain ⟨h34, hM⟩ := gi_some hM
    refine va_iald hx hb hK hP 1 2 rfl rfl h34 dX9_ageAt_34 ?_
    refine lv_iload_n hx hb dX9_ageAt_35 rfl (lv_at hl 3 rfl) ?_
    refine lv_iadd hx hb dX9_ageAt_36 ?_
    refine lv_iload_n hx hb dX9_ageAt_37 rfl (lv_at hl 0 rfl) ?_
    refine lv_isub hx hb dX9_ageAt_38 ?_
    obtain rfl := si1 hM
    exact hret _ _ _ _ _ dX9_ageAt_39 rfl rfl hP hD hS
  · have hM := g_neg c5 hM
    refine lv_aload_n hx hb dX9_ageAt_8 rfl (lv_at hl 0 rfl) ?_
    refine va_get (D := D) (ci := 9) (v := .ref h0_now) (C := RX9) (T := TX9) (N := 38) hx hb hts iX9 hown hK hP 0 rfl rfl 22 (by decide) k50 (fun _ h9 => h9) rfl dX9_ageAt_9 ?_
    refine lv_bipush (v := 13) hx hb dX9_ageAt_12 (by decide) ?_
    refine lv_iload_n hx hb dX9_ageAt_14 rfl (lv_at hl 1 rfl) ?_
    refine lv_iadd hx hb dX9_ageAt_15 ?_
    obtain ⟨h16, hM⟩ := gi_some hM
    refine va_iald hx hb hK hP 1 2 rfl rfl h16 dX9_ageAt_16 ?_
    refine lv_goto (tgt := 26) hx hb dX9_ageAt_17 (by decide) ?_
    refine lv_istore_n (lv' := [(3, .int (v_now ((13 : Int32) + p1).toNatClampNeg)), (0, .ref h0), (1, .int p1), (2, .int p2)]) hx hb dX9_ageAt_26 rfl hl (by decide) rfl (fun ls hl => ?_)
    refine lv_aload_n hx hb dX9_ageAt_27 rfl (lv_at hl 1 rfl) ?_
    refine va_get (D := D) (ci := 9) (v := .ref h0_now) (C := RX9) (T := TX9) (N := 38) hx hb hts iX9 hown hK hP 0 rfl rfl 22 (by decide) k50 (fun _ h9 => h9) rfl dX9_ageAt_28 ?_
    refine lv_iconst (v := 1) hx hb dX9_ageAt_31 (by decide) ?_
    refine lv_iload_n hx hb dX9_ageAt_32 rfl (lv_at hl 2 rfl) ?_
    refine lv_iadd hx hb dX9_ageAt_33 ?_
    obtain ⟨h34, hM⟩ := gi_some hM
    refine va_iald hx hb hK hP 1 2 rfl rfl h34 dX9_ageAt_34 ?_
    refine lv_iload_n hx hb dX9_ageAt_35 rfl (lv_at hl 3 rfl) ?_
    refine lv_iadd hx hb dX9_ageAt_36 ?_
    refine lv_iload_n hx hb dX9_ageAt_37 rfl (lv_at hl 0 rfl) ?_
    refine lv_isub hx hb dX9_ageAt_38 ?_
    obtain rfl := si1 hM
    exact hret _ _ _ _ _ dX9_ageAt_39 rfl rfl hP hD hS

-- ===== X9_meeting meeting (III)I =====
abbrev r9_meeting : Room := { frames := 2, cells := 0, slots := 0, locals := 44 }
def f9_meeting_J118 (N : Nat) (p1 : Int32) (p2 : Int32) (p3 : Int32) (v_now : Nat → Int32) (s0_118 : Int32) : Option Int32 :=
  if p3 = (0 : Int32) then (some s0_118) else (if p3 = (1 : Int32) then (ob1 (f9_ageAt N p1 s0_118 v_now) fun r142 => some r142) else (ob1 (f9_ageAt N p2 s0_118 v_now) fun r142 => some r142))
def f9_meeting_J80 (N : Nat) (p1 : Int32) (p2 : Int32) (p3 : Int32) (v_now : Nat → Int32) (s0_80 : Int32) : Option Int32 :=
  ob1 (f9_isDown N p2 v_now) fun r84 => if r84 = (0 : Int32) then (f9_meeting_J118 N p1 p2 p3 v_now s0_80) else (gi ((13 : Int32) + p2) 60 (if (v_now ((13 : Int32) + p2).toNatClampNeg) ≤ s0_80 then (f9_meeting_J118 N p1 p2 p3 v_now s0_80) else (gi ((13 : Int32) + p2) 60 (f9_meeting_J118 N p1 p2 p3 v_now (v_now ((13 : Int32) + p2).toNatClampNeg)))))
def f9_meeting (N : Nat) (p1 : Int32) (p2 : Int32) (p3 : Int32) (v_persons : Nat → Int32) (v_now : Nat → Int32) : Option Int32 :=
  ob1 (f9_isPerson N p1 v_persons) fun r2 => if r2 = (0 : Int32) then (some (-1000000001 : Int32)) else (ob1 (f9_isPerson N p2 v_persons) fun r10 => if r10 = (0 : Int32) then (some (-1000000001 : Int32)) else (if p1 = p2 then (some (-1000000001 : Int32)) else (ob1 (f9_in N p3 (0 : Int32) (2 : Int32)) fun r27 => if r27 = (0 : Int32) then (some (-1000000002 : Int32)) else (gi (0 : Int32) 60 (ob1 (f9_isDown N p1 v_now) fun r46 => if r46 = (0 : Int32) then (f9_meeting_J80 N p1 p2 p3 v_now (v_now (0 : Int32).toNatClampNeg)) else (gi ((13 : Int32) + p1) 60 (if (v_now ((13 : Int32) + p1).toNatClampNeg) ≤ (v_now (0 : Int32).toNatClampNeg) then (f9_meeting_J80 N p1 p2 p3 v_now (v_now (0 : Int32).toNatClampNeg)) else (gi ((13 : Int32) + p1) 60 (f9_meeting_J80 N p1 p2 p3 v_now (v_now ((13 : Int32) + p1).toNatClampNeg))))))))))
set_option maxHeartbeats 4000000 in
set_option maxRecDepth 100000 in
theorem c9_meeting (l : Launch) (D : va_G) (cy : Nat → ClassId) (N : Nat) (h0 h0_persons h0_now : Nat) (oh0_0 oh0_1 oh0_2 oh0_3 oh0_4 oh0_5 oh0_6 oh0_7 oh0_9 oh0_10 oh0_11 oh0_12 oh0_13 oh0_14 oh0_15 oh0_16 oh0_17 oh0_18 oh0_19 oh0_20 oh0_21 oh0_23 oh0_24 oh0_25 oh0_26 oh0_27 oh0_28 oh0_29 oh0_30 oh0_31 oh0_32 oh0_33 oh0_34 oh0_35 oh0_36 oh0_37 : Value) (p1 : Int32) (p2 : Int32) (p3 : Int32) (v_persons : Nat → Int32) (v_now : Nat → Int32) (r : Int32) (hM : f9_meeting N p1 p2 p3 v_persons v_now = some r) (sz : Nat) : CTi l yX9_meeting wsX9_meeting r9_meeting [.ref h0, .int p1, .int p2, .int p3] D cy sz [(h0, .inr (9, [oh0_0, oh0_1, oh0_2, oh0_3, oh0_4, oh0_5, oh0_6, oh0_7, .ref h0_persons, oh0_9, oh0_10, oh0_11, oh0_12, oh0_13, oh0_14, oh0_15, oh0_16, oh0_17, oh0_18, oh0_19, oh0_20, oh0_21, .ref h0_now, oh0_23, oh0_24, oh0_25, oh0_26, oh0_27, oh0_28, oh0_29, oh0_30, oh0_31, oh0_32, oh0_33, oh0_34, oh0_35, oh0_36, oh0_37])), (h0_persons, .inl (cy 2, 2, .inl v_persons)), (h0_now, .inl (cy 2, 60, .inl v_now))] [(h0, .inr (9, [oh0_0, oh0_1, oh0_2, oh0_3, oh0_4, oh0_5, oh0_6, oh0_7, .ref h0_persons, oh0_9, oh0_10, oh0_11, oh0_12, oh0_13, oh0_14, oh0_15, oh0_16, oh0_17, oh0_18, oh0_19, oh0_20, oh0_21, .ref h0_now, oh0_23, oh0_24, oh0_25, oh0_26, oh0_27, oh0_28, oh0_29, oh0_30, oh0_31, oh0_32, oh0_33, oh0_34, oh0_35, oh0_36, oh0_37])), (h0_persons, .inl (cy 2, 2, .inl v_persons)), (h0_now, .inl (cy 2, 60, .inl v_now))] r := by
  unfold f9_meeting at hM
  refine ct_oi (cc := cX9_meeting) (maxL := 5) (ty := .int) (by decide +kernel) rfl (Nat.le_of_ble_eq_true rfl) (lv0 := [(0, .ref h0), (1, .int p1), (2, .int p2), (3, .int p3)]) rfl ?_
  intro p e s m args below meth c A Q ls hx hb hts hown hml hK hP hD hS hA hret hl
  have hown : s.vm.findClass RX9 = some m.cls := hown
  have k180 := hts (.constant RX9 180 (-1000000001)) (List.mem_of_getElem? (i := 1) rfl)
  have k50 := hts (.fieldLink RX9 50 "CaveYearsModel" "now" "[I") (List.mem_of_getElem? (i := 3) rfl)
  have iX9 := (fun w h => (List.mem_cons_of_mem _ (List.mem_append_right _ h)) : ∀ w ∈ wsX90, w ∈ wsX9_meeting)
  have k99 := hts (.constant RX9 99 (-1000000002)) (List.mem_of_getElem? (i := 2) rfl)
  refine lv_aload_n hx hb dX9_meeting_0 rfl (lv_at hl 0 rfl) ?_
  refine lv_iload_n hx hb dX9_meeting_1 rfl (lv_at hl 1 rfl) ?_
  obtain ⟨r2, hc2, hM⟩ := ob1_some hM
  refine cl_vi (As := [.int p1]) (rest := []) (ci := 9) (q0 := 0) (wr := [(h0_now, .inl (cy 2, 60, .inl v_now))]) (ws2 := [(h0, .inr (9, [oh0_0, oh0_1, oh0_2, oh0_3, oh0_4, oh0_5, oh0_6, oh0_7, .ref h0_persons, oh0_9, oh0_10, oh0_11, oh0_12, oh0_13, oh0_14, oh0_15, oh0_16, oh0_17, oh0_18, oh0_19, oh0_20, oh0_21, .ref h0_now, oh0_23, oh0_24, oh0_25, oh0_26, oh0_27, oh0_28, oh0_29, oh0_30, oh0_31, oh0_32, oh0_33, oh0_34, oh0_35, oh0_36, oh0_37])), (h0_persons, .inl (cy 2, 2, .inl v_persons)), (h0_now, .inl (cy 2, 60, .inl v_now))]) (isC := [0, 1]) (isR := [2]) (pm := [1, 2, 0]) hx hb hml hown hts (c9_isPerson l D cy N h0 h0_persons oh0_0 oh0_1 oh0_2 oh0_3 oh0_4 oh0_5 oh0_6 oh0_7 oh0_9 oh0_10 oh0_11 oh0_12 oh0_13 oh0_14 oh0_15 oh0_16 oh0_17 oh0_18 oh0_19 oh0_20 oh0_21 (.ref h0_now) oh0_23 oh0_24 oh0_25 oh0_26 oh0_27 oh0_28 oh0_29 oh0_30 oh0_31 oh0_32 oh0_33 oh0_34 oh0_35 oh0_36 oh0_37 p1 v_persons r2 hc2) (cwV 1 hts gX9_meeting_X9_isPerson rfl rfl rfl (by decide +kernel) ⟨Nat.le_of_ble_eq_true rfl, Nat.le_of_ble_eq_true rfl⟩) hK hP hD hS hA rfl rfl rfl rfl rfl (by decide) rfl rfl rfl hl.1 (Nat.le_of_ble_eq_true rfl) dX9_meeting_2 ⟨Nat.zero_le _, Nat.zero_le _⟩ rfl rfl (fun H locs hP hD hS => ?_)
  refine lv_if_eq (tgt := 21) hx hb dX9_meeting_5 (by decide) (fun c5 => ?_) (fun c5 => ?_)
  · have hM := g_pos c5 hM
    refine lv_ldc (v := -1000000001) hx hb hown k180 dX9_meeting_21 ?_
    obtain rfl := si1 hM
    exact hret _ _ _ _ _ dX9_meeting_23 rfl rfl hP hD hS
  · have hM := g_neg c5 hM
    refine lv_aload_n hx hb dX9_meeting_8 rfl (lv_at hl 0 rfl) ?_
    refine lv_iload_n hx hb dX9_meeting_9 rfl (lv_at hl 2 rfl) ?_
    obtain ⟨r10, hc10, hM⟩ := ob1_some hM
    refine cl_vi (As := [.int p2]) (rest := []) (ci := 9) (q0 := 0) (wr := [(h0_now, .inl (cy 2, 60, .inl v_now))]) (ws2 := [(h0, .inr (9, [oh0_0, oh0_1, oh0_2, oh0_3, oh0_4, oh0_5, oh0_6, oh0_7, .ref h0_persons, oh0_9, oh0_10, oh0_11, oh0_12, oh0_13, oh0_14, oh0_15, oh0_16, oh0_17, oh0_18, oh0_19, oh0_20, oh0_21, .ref h0_now, oh0_23, oh0_24, oh0_25, oh0_26, oh0_27, oh0_28, oh0_29, oh0_30, oh0_31, oh0_32, oh0_33, oh0_34, oh0_35, oh0_36, oh0_37])), (h0_persons, .inl (cy 2, 2, .inl v_persons)), (h0_now, .inl (cy 2, 60, .inl v_now))]) (isC := [0, 1]) (isR := [2]) (pm := [1, 2, 0]) hx hb hml hown hts (c9_isPerson l D cy N h0 h0_persons oh0_0 oh0_1 oh0_2 oh0_3 oh0_4 oh0_5 oh0_6 oh0_7 oh0_9 oh0_10 oh0_11 oh0_12 oh0_13 oh0_14 oh0_15 oh0_16 oh0_17 oh0_18 oh0_19 oh0_20 oh0_21 (.ref h0_now) oh0_23 oh0_24 oh0_25 oh0_26 oh0_27 oh0_28 oh0_29 oh0_30 oh0_31 oh0_32 oh0_33 oh0_34 oh0_35 oh0_36 oh0_37 p2 v_persons r10 hc10) (cwV 1 hts gX9_meeting_X9_isPerson rfl rfl rfl (by decide +kernel) ⟨Nat.le_of_ble_eq_true rfl, Nat.le_of_ble_eq_true rfl⟩) hK hP hD hS hA rfl rfl rfl rfl rfl (by decide) rfl rfl rfl hl.1 (Nat.le_of_ble_eq_true rfl) dX9_meeting_10 ⟨Nat.zero_le _, Nat.zero_le _⟩ rfl rfl (fun H locs hP hD hS => ?_)
    refine lv_if_eq (tgt := 21) hx hb dX9_meeting_13 (by decide) (fun c13 => ?_) (fun c13 => ?_)
    · have hM := g_pos c13 hM
      refine lv_ldc (v := -1000000001) hx hb hown k180 dX9_meeting_21 ?_
      obtain rfl := si1 hM
      exact hret _ _ _ _ _ dX9_meeting_23 rfl rfl hP hD hS
    · have hM := g_neg c13 hM
      refine lv_iload_n hx hb dX9_meeting_16 rfl (lv_at hl 1 rfl) ?_
      refine lv_iload_n hx hb dX9_meeting_17 rfl (lv_at hl 2 rfl) ?_
      refine lv_icmp_ne (tgt := 24) hx hb dX9_meeting_18 (by decide) (fun c18 => ?_) (fun c18 => ?_)
      · have hM := g_neg c18 hM
        refine lv_iload_n hx hb dX9_meeting_24 rfl (lv_at hl 3 rfl) ?_
        refine lv_iconst (v := 0) hx hb dX9_meeting_25 (by decide) ?_
        refine lv_iconst (v := 2) hx hb dX9_meeting_26 (by decide) ?_
        obtain ⟨r27, hc27, hM⟩ := ob1_some hM
        refine cl_si (As := [.int p3, .int (0 : Int32), .int (2 : Int32)]) (rest := []) (wr := [(h0, .inr (9, [oh0_0, oh0_1, oh0_2, oh0_3, oh0_4, oh0_5, oh0_6, oh0_7, .ref h0_persons, oh0_9, oh0_10, oh0_11, oh0_12, oh0_13, oh0_14, oh0_15, oh0_16, oh0_17, oh0_18, oh0_19, oh0_20, oh0_21, .ref h0_now, oh0_23, oh0_24, oh0_25, oh0_26, oh0_27, oh0_28, oh0_29, oh0_30, oh0_31, oh0_32, oh0_33, oh0_34, oh0_35, oh0_36, oh0_37])), (h0_persons, .inl (cy 2, 2, .inl v_persons)), (h0_now, .inl (cy 2, 60, .inl v_now))]) (ws2 := [(h0, .inr (9, [oh0_0, oh0_1, oh0_2, oh0_3, oh0_4, oh0_5, oh0_6, oh0_7, .ref h0_persons, oh0_9, oh0_10, oh0_11, oh0_12, oh0_13, oh0_14, oh0_15, oh0_16, oh0_17, oh0_18, oh0_19, oh0_20, oh0_21, .ref h0_now, oh0_23, oh0_24, oh0_25, oh0_26, oh0_27, oh0_28, oh0_29, oh0_30, oh0_31, oh0_32, oh0_33, oh0_34, oh0_35, oh0_36, oh0_37])), (h0_persons, .inl (cy 2, 2, .inl v_persons)), (h0_now, .inl (cy 2, 60, .inl v_now))]) (isC := []) (isR := [0, 1, 2]) (pm := [0, 1, 2]) hx hb hml hown hts (c9_in l D cy N p3 (0 : Int32) (2 : Int32) r27 hc27) (va_cwS 3 hts gX9_meeting_X9_in rfl rfl rfl (by decide +kernel) ⟨Nat.le_of_ble_eq_true rfl, Nat.le_of_ble_eq_true rfl⟩) hK hP hD hS hA rfl rfl rfl (by decide) rfl rfl rfl hl.1 (Nat.le_of_ble_eq_true rfl) dX9_meeting_27 ⟨Nat.zero_le _, Nat.zero_le _⟩ rfl rfl (fun H locs hP hD hS => ?_)
        refine lv_if_ne (tgt := 36) hx hb dX9_meeting_30 (by decide) (fun c30 => ?_) (fun c30 => ?_)
        · have hM := g_neg c30 hM
          refine lv_aload_n hx hb dX9_meeting_36 rfl (lv_at hl 0 rfl) ?_
          refine va_get (D := D) (ci := 9) (v := .ref h0_now) (C := RX9) (T := TX9) (N := 38) hx hb hts iX9 hown hK hP 0 rfl rfl 22 (by decide) k50 (fun _ h9 => h9) rfl dX9_meeting_37 ?_
          refine lv_iconst (v := 0) hx hb dX9_meeting_40 (by decide) ?_
          obtain ⟨h41, hM⟩ := gi_some hM
          refine va_iald hx hb hK hP 2 2 rfl rfl h41 dX9_meeting_41 ?_
          refine lv_istore (lv' := [(4, .int (v_now (0 : Int32).toNatClampNeg)), (0, .ref h0), (1, .int p1), (2, .int p2), (3, .int p3)]) hx hb dX9_meeting_42 hl (by decide) rfl (fun ls hl => ?_)
          refine lv_aload_n hx hb dX9_meeting_44 rfl (lv_at hl 1 rfl) ?_
          refine lv_iload_n hx hb dX9_meeting_45 rfl (lv_at hl 2 rfl) ?_
          obtain ⟨r46, hc46, hM⟩ := ob1_some hM
          refine cl_vi (As := [.int p1]) (rest := []) (ci := 9) (q0 := 0) (wr := [(h0_persons, .inl (cy 2, 2, .inl v_persons))]) (ws2 := [(h0, .inr (9, [oh0_0, oh0_1, oh0_2, oh0_3, oh0_4, oh0_5, oh0_6, oh0_7, .ref h0_persons, oh0_9, oh0_10, oh0_11, oh0_12, oh0_13, oh0_14, oh0_15, oh0_16, oh0_17, oh0_18, oh0_19, oh0_20, oh0_21, .ref h0_now, oh0_23, oh0_24, oh0_25, oh0_26, oh0_27, oh0_28, oh0_29, oh0_30, oh0_31, oh0_32, oh0_33, oh0_34, oh0_35, oh0_36, oh0_37])), (h0_persons, .inl (cy 2, 2, .inl v_persons)), (h0_now, .inl (cy 2, 60, .inl v_now))]) (isC := [0, 2]) (isR := [1]) (pm := [1, 0, 2]) hx hb hml hown hts (c9_isDown l D cy N h0 h0_now oh0_0 oh0_1 oh0_2 oh0_3 oh0_4 oh0_5 oh0_6 oh0_7 (.ref h0_persons) oh0_9 oh0_10 oh0_11 oh0_12 oh0_13 oh0_14 oh0_15 oh0_16 oh0_17 oh0_18 oh0_19 oh0_20 oh0_21 oh0_23 oh0_24 oh0_25 oh0_26 oh0_27 oh0_28 oh0_29 oh0_30 oh0_31 oh0_32 oh0_33 oh0_34 oh0_35 oh0_36 oh0_37 p1 v_now r46 hc46) (cwV 1 hts gX9_meeting_X9_isDown rfl rfl rfl (by decide +kernel) ⟨Nat.le_of_ble_eq_true rfl, Nat.le_of_ble_eq_true rfl⟩) hK hP hD hS hA rfl rfl rfl rfl rfl (by decide) rfl rfl rfl hl.1 (Nat.le_of_ble_eq_true rfl) dX9_meeting_46 ⟨Nat.zero_le _, Nat.zero_le _⟩ rfl rfl (fun H locs hP hD hS => ?_)
          have K80 : ∀ (s0_80 : Int32) (H : Heap) (locs : List Loc) (ls : Array Slot), f9_meeting_J80 N p1 p2 p3 v_now s0_80 = some r → va_P D vwCl [(h0, .inr (9, [oh0_0, oh0_1, oh0_2, oh0_3, oh0_4, oh0_5, oh0_6, oh0_7, .ref h0_persons, oh0_9, oh0_10, oh0_11, oh0_12, oh0_13, oh0_14, oh0_15, oh0_16, oh0_17, oh0_18, oh0_19, oh0_20, oh0_21, .ref h0_now, oh0_23, oh0_24, oh0_25, oh0_26, oh0_27, oh0_28, oh0_29, oh0_30, oh0_31, oh0_32, oh0_33, oh0_34, oh0_35, oh0_36, oh0_37])), (h0_persons, .inl (cy 2, 2, .inl v_persons)), (h0_now, .inl (cy 2, 60, .inl v_now))] H → va_D A [(h0, .inr (9, [oh0_0, oh0_1, oh0_2, oh0_3, oh0_4, oh0_5, oh0_6, oh0_7, .ref h0_persons, oh0_9, oh0_10, oh0_11, oh0_12, oh0_13, oh0_14, oh0_15, oh0_16, oh0_17, oh0_18, oh0_19, oh0_20, oh0_21, .ref h0_now, oh0_23, oh0_24, oh0_25, oh0_26, oh0_27, oh0_28, oh0_29, oh0_30, oh0_31, oh0_32, oh0_33, oh0_34, oh0_35, oh0_36, oh0_37])), (h0_persons, .inl (cy 2, 2, .inl v_persons)), (h0_now, .inl (cy 2, 60, .inl v_now))] → va_S A s.heap H locs → lv_has ls 5 [(0, .ref h0), (1, .int p1), (2, .int p2), (3, .int p3)] → W p l e r9_meeting s m args below meth c H locs 0 0 Q (F0 m 80 ls [.int s0_80]) := by
            intro s0_80 H locs ls hM hP hD hS hl
            unfold f9_meeting_J80 at hM
            refine lv_istore (lv' := [(4, .int s0_80), (0, .ref h0), (1, .int p1), (2, .int p2), (3, .int p3)]) hx hb dX9_meeting_80 hl (by decide) rfl (fun ls hl => ?_)
            refine lv_aload_n hx hb dX9_meeting_82 rfl (lv_at hl 1 rfl) ?_
            refine lv_iload_n hx hb dX9_meeting_83 rfl (lv_at hl 3 rfl) ?_
            obtain ⟨r84, hc84, hM⟩ := ob1_some hM
            refine cl_vi (As := [.int p2]) (rest := []) (ci := 9) (q0 := 0) (wr := [(h0_persons, .inl (cy 2, 2, .inl v_persons))]) (ws2 := [(h0, .inr (9, [oh0_0, oh0_1, oh0_2, oh0_3, oh0_4, oh0_5, oh0_6, oh0_7, .ref h0_persons, oh0_9, oh0_10, oh0_11, oh0_12, oh0_13, oh0_14, oh0_15, oh0_16, oh0_17, oh0_18, oh0_19, oh0_20, oh0_21, .ref h0_now, oh0_23, oh0_24, oh0_25, oh0_26, oh0_27, oh0_28, oh0_29, oh0_30, oh0_31, oh0_32, oh0_33, oh0_34, oh0_35, oh0_36, oh0_37])), (h0_persons, .inl (cy 2, 2, .inl v_persons)), (h0_now, .inl (cy 2, 60, .inl v_now))]) (isC := [0, 2]) (isR := [1]) (pm := [1, 0, 2]) hx hb hml hown hts (c9_isDown l D cy N h0 h0_now oh0_0 oh0_1 oh0_2 oh0_3 oh0_4 oh0_5 oh0_6 oh0_7 (.ref h0_persons) oh0_9 oh0_10 oh0_11 oh0_12 oh0_13 oh0_14 oh0_15 oh0_16 oh0_17 oh0_18 oh0_19 oh0_20 oh0_21 oh0_23 oh0_24 oh0_25 oh0_26 oh0_27 oh0_28 oh0_29 oh0_30 oh0_31 oh0_32 oh0_33 oh0_34 oh0_35 oh0_36 oh0_37 p2 v_now r84 hc84) (cwV 1 hts gX9_meeting_X9_isDown rfl rfl rfl (by decide +kernel) ⟨Nat.le_of_ble_eq_true rfl, Nat.le_of_ble_eq_true rfl⟩) hK hP hD hS hA rfl rfl rfl rfl rfl (by decide) rfl rfl rfl hl.1 (Nat.le_of_ble_eq_true rfl) dX9_meeting_84 ⟨Nat.zero_le _, Nat.zero_le _⟩ rfl rfl (fun H locs hP hD hS => ?_)
            have K118 : ∀ (s0_118 : Int32) (H : Heap) (locs : List Loc) (ls : Array Slot), f9_meeting_J118 N p1 p2 p3 v_now s0_118 = some r → va_P D vwCl [(h0, .inr (9, [oh0_0, oh0_1, oh0_2, oh0_3, oh0_4, oh0_5, oh0_6, oh0_7, .ref h0_persons, oh0_9, oh0_10, oh0_11, oh0_12, oh0_13, oh0_14, oh0_15, oh0_16, oh0_17, oh0_18, oh0_19, oh0_20, oh0_21, .ref h0_now, oh0_23, oh0_24, oh0_25, oh0_26, oh0_27, oh0_28, oh0_29, oh0_30, oh0_31, oh0_32, oh0_33, oh0_34, oh0_35, oh0_36, oh0_37])), (h0_persons, .inl (cy 2, 2, .inl v_persons)), (h0_now, .inl (cy 2, 60, .inl v_now))] H → va_D A [(h0, .inr (9, [oh0_0, oh0_1, oh0_2, oh0_3, oh0_4, oh0_5, oh0_6, oh0_7, .ref h0_persons, oh0_9, oh0_10, oh0_11, oh0_12, oh0_13, oh0_14, oh0_15, oh0_16, oh0_17, oh0_18, oh0_19, oh0_20, oh0_21, .ref h0_now, oh0_23, oh0_24, oh0_25, oh0_26, oh0_27, oh0_28, oh0_29, oh0_30, oh0_31, oh0_32, oh0_33, oh0_34, oh0_35, oh0_36, oh0_37])), (h0_persons, .inl (cy 2, 2, .inl v_persons)), (h0_now, .inl (cy 2, 60, .inl v_now))] → va_S A s.heap H locs → lv_has ls 5 [(0, .ref h0), (1, .int p1), (2, .int p2), (3, .int p3)] → W p l e r9_meeting s m args below meth c H locs 0 0 Q (F0 m 118 ls [.int s0_118]) := by
              intro s0_118 H locs ls hM hP hD hS hl
              unfold f9_meeting_J118 at hM
              refine lv_istore (lv' := [(4, .int s0_118), (0, .ref h0), (1, .int p1), (2, .int p2), (3, .int p3)]) hx hb dX9_meeting_118 hl (by decide) rfl (fun ls hl => ?_)
              refine lv_iload_n hx hb dX9_meeting_120 rfl (lv_at hl 4 rfl) ?_
              refine lv_if_ne (tgt := 129) hx hb dX9_meeting_121 (by decide) (fun c121 => ?_) (fun c121 => ?_)
              · have hM := g_neg c121 hM
                refine lv_aload_n hx hb dX9_meeting_129 rfl (lv_at hl 1 rfl) ?_
                refine lv_iload_n hx hb dX9_meeting_130 rfl (lv_at hl 4 rfl) ?_
                refine lv_iconst (v := 1) hx hb dX9_meeting_131 (by decide) ?_
                refine lv_icmp_ne (tgt := 139) hx hb dX9_meeting_132 (by decide) (fun c132 => ?_) (fun c132 => ?_)
                · have hM := g_neg c132 hM
                  refine lv_iload_n hx hb dX9_meeting_139 rfl (lv_at hl 3 rfl) ?_
                  refine lv_iload hx hb dX9_meeting_140 (lv_at hl 0 rfl) ?_
                  obtain ⟨r142, hc142, hM⟩ := ob1_some hM
                  refine cl_vi (As := [.int p2, .int s0_118]) (rest := []) (ci := 9) (q0 := 0) (wr := [(h0_persons, .inl (cy 2, 2, .inl v_persons))]) (ws2 := [(h0, .inr (9, [oh0_0, oh0_1, oh0_2, oh0_3, oh0_4, oh0_5, oh0_6, oh0_7, .ref h0_persons, oh0_9, oh0_10, oh0_11, oh0_12, oh0_13, oh0_14, oh0_15, oh0_16, oh0_17, oh0_18, oh0_19, oh0_20, oh0_21, .ref h0_now, oh0_23, oh0_24, oh0_25, oh0_26, oh0_27, oh0_28, oh0_29, oh0_30, oh0_31, oh0_32, oh0_33, oh0_34, oh0_35, oh0_36, oh0_37])), (h0_persons, .inl (cy 2, 2, .inl v_persons)), (h0_now, .inl (cy 2, 60, .inl v_now))]) (isC := [0, 2]) (isR := [1]) (pm := [1, 0, 2]) hx hb hml hown hts (c9_ageAt l D cy N h0 h0_now oh0_0 oh0_1 oh0_2 oh0_3 oh0_4 oh0_5 oh0_6 oh0_7 (.ref h0_persons) oh0_9 oh0_10 oh0_11 oh0_12 oh0_13 oh0_14 oh0_15 oh0_16 oh0_17 oh0_18 oh0_19 oh0_20 oh0_21 oh0_23 oh0_24 oh0_25 oh0_26 oh0_27 oh0_28 oh0_29 oh0_30 oh0_31 oh0_32 oh0_33 oh0_34 oh0_35 oh0_36 oh0_37 p2 s0_118 v_now r142 hc142) (cwV 2 hts gX9_meeting_X9_ageAt rfl rfl rfl (by decide +kernel) ⟨Nat.le_of_ble_eq_true rfl, Nat.le_of_ble_eq_true rfl⟩) hK hP hD hS hA rfl rfl rfl rfl rfl (by decide) rfl rfl rfl hl.1 (Nat.le_of_ble_eq_true rfl) dX9_meeting_142 ⟨Nat.zero_le _, Nat.zero_le _⟩ rfl rfl (fun H locs hP hD hS => ?_)
                  obtain rfl := si1 hM
                  exact hret _ _ _ _ _ dX9_meeting_145 rfl rfl hP hD hS
                · have hM := g_pos c132 hM
                  refine lv_iload_n hx hb dX9_meeting_135 rfl (lv_at hl 2 rfl) ?_
                  refine lv_goto (tgt := 140) hx hb dX9_meeting_136 (by decide) ?_
                  refine lv_iload hx hb dX9_meeting_140 (lv_at hl 0 rfl) ?_
                  obtain ⟨r142, hc142, hM⟩ := ob1_some hM
                  refine cl_vi (As := [.int p1, .int s0_118]) (rest := []) (ci := 9) (q0 := 0) (wr := [(h0_persons, .inl (cy 2, 2, .inl v_persons))]) (ws2 := [(h0, .inr (9, [oh0_0, oh0_1, oh0_2, oh0_3, oh0_4, oh0_5, oh0_6, oh0_7, .ref h0_persons, oh0_9, oh0_10, oh0_11, oh0_12, oh0_13, oh0_14, oh0_15, oh0_16, oh0_17, oh0_18, oh0_19, oh0_20, oh0_21, .ref h0_now, oh0_23, oh0_24, oh0_25, oh0_26, oh0_27, oh0_28, oh0_29, oh0_30, oh0_31, oh0_32, oh0_33, oh0_34, oh0_35, oh0_36, oh0_37])), (h0_persons, .inl (cy 2, 2, .inl v_persons)), (h0_now, .inl (cy 2, 60, .inl v_now))]) (isC := [0, 2]) (isR := [1]) (pm := [1, 0, 2]) hx hb hml hown hts (c9_ageAt l D cy N h0 h0_now oh0_0 oh0_1 oh0_2 oh0_3 oh0_4 oh0_5 oh0_6 oh0_7 (.ref h0_persons) oh0_9 oh0_10 oh0_11 oh0_12 oh0_13 oh0_14 oh0_15 oh0_16 oh0_17 oh0_18 oh0_19 oh0_20 oh0_21 oh0_23 oh0_24 oh0_25 oh0_26 oh0_27 oh0_28 oh0_29 oh0_30 oh0_31 oh0_32 oh0_33 oh0_34 oh0_35 oh0_36 oh0_37 p1 s0_118 v_now r142 hc142) (cwV 2 hts gX9_meeting_X9_ageAt rfl rfl rfl (by decide +kernel) ⟨Nat.le_of_ble_eq_true rfl, Nat.le_of_ble_eq_true rfl⟩) hK hP hD hS hA rfl rfl rfl rfl rfl (by decide) rfl rfl rfl hl.1 (Nat.le_of_ble_eq_true rfl) dX9_meeting_142 ⟨Nat.zero_le _, Nat.zero_le _⟩ rfl rfl (fun H locs hP hD hS => ?_)
                  obtain rfl := si1 hM
                  exact hret _ _ _ _ _ dX9_meeting_145 rfl rfl hP hD hS
              · have hM := g_pos c121 hM
                refine lv_iload hx hb dX9_meeting_124 (lv_at hl 0 rfl) ?_
                refine lv_goto (tgt := 145) hx hb dX9_meeting_126 (by decide) ?_
                obtain rfl := si1 hM
                exact hret _ _ _ _ _ dX9_meeting_145 rfl rfl hP hD hS
            refine lv_if_eq (tgt := 116) hx hb dX9_meeting_87 (by decide) (fun c87 => ?_) (fun c87 => ?_)
            · have hM := g_pos c87 hM
              refine lv_iload hx hb dX9_meeting_116 (lv_at hl 0 rfl) ?_
              exact K118 s0_80 _ _ _ hM hP hD hS (lv_sub hl [1, 2, 3, 4] rfl)
            · have hM := g_neg c87 hM
              refine lv_aload_n hx hb dX9_meeting_90 rfl (lv_at hl 1 rfl) ?_
              refine va_get (D := D) (ci := 9) (v := .ref h0_now) (C := RX9) (T := TX9) (N := 38) hx hb hts iX9 hown hK hP 0 rfl rfl 22 (by decide) k50 (fun _ h9 => h9) rfl dX9_meeting_91 ?_
              refine lv_bipush (v := 13) hx hb dX9_meeting_94 (by decide) ?_
              refine lv_iload_n hx hb dX9_meeting_96 rfl (lv_at hl 3 rfl) ?_
              refine lv_iadd hx hb dX9_meeting_97 ?_
              obtain ⟨h98, hM⟩ := gi_some hM
              refine va_iald hx hb hK hP 2 2 rfl rfl h98 dX9_meeting_98 ?_
              refine lv_iload hx hb dX9_meeting_99 (lv_at hl 0 rfl) ?_
              refine lv_icmp_le (tgt := 116) hx hb dX9_meeting_101 (by decide) (fun c101 => ?_) (fun c101 => ?_)
              · have hM := g_pos c101 hM
                refine lv_iload hx hb dX9_meeting_116 (lv_at hl 0 rfl) ?_
                exact K118 s0_80 _ _ _ hM hP hD hS (lv_sub hl [1, 2, 3, 4] rfl)
              · have hM := g_neg c101 hM
                refine lv_aload_n hx hb dX9_meeting_104 rfl (lv_at hl 1 rfl) ?_
                refine va_get (D := D) (ci := 9) (v := .ref h0_now) (C := RX9) (T := TX9) (N := 38) hx hb hts iX9 hown hK hP 0 rfl rfl 22 (by decide) k50 (fun _ h9 => h9) rfl dX9_meeting_105 ?_
                refine lv_bipush (v := 13) hx hb dX9_meeting_108 (by decide) ?_
                refine lv_iload_n hx hb dX9_meeting_110 rfl (lv_at hl 3 rfl) ?_
                refine lv_iadd hx hb dX9_meeting_111 ?_
                obtain ⟨h112, hM⟩ := gi_some hM
                refine va_iald hx hb hK hP 2 2 rfl rfl h112 dX9_meeting_112 ?_
                refine lv_goto (tgt := 118) hx hb dX9_meeting_113 (by decide) ?_
                exact K118 (v_now ((13 : Int32) + p2).toNatClampNeg) _ _ _ hM hP hD hS (lv_sub hl [1, 2, 3, 4] rfl)
          refine lv_if_eq (tgt := 78) hx hb dX9_meeting_49 (by decide) (fun c49 => ?_) (fun c49 => ?_)
          · have hM := g_pos c49 hM
            refine lv_iload hx hb dX9_meeting_78 (lv_at hl 0 rfl) ?_
            exact K80 (v_now (0 : Int32).toNatClampNeg) _ _ _ hM hP hD hS (lv_sub hl [1, 2, 3, 4] rfl)
          · have hM := g_neg c49 hM
            refine lv_aload_n hx hb dX9_meeting_52 rfl (lv_at hl 1 rfl) ?_
            refine va_get (D := D) (ci := 9) (v := .ref h0_now) (C := RX9) (T := TX9) (N := 38) hx hb hts iX9 hown hK hP 0 rfl rfl 22 (by decide) k50 (fun _ h9 => h9) rfl dX9_meeting_53 ?_
            refine lv_bipush (v := 13) hx hb dX9_meeting_56 (by decide) ?_
            refine lv_iload_n hx hb dX9_meeting_58 rfl (lv_at hl 2 rfl) ?_
            refine lv_iadd hx hb dX9_meeting_59 ?_
            obtain ⟨h60, hM⟩ := gi_some hM
            refine va_iald hx hb hK hP 2 2 rfl rfl h60 dX9_meeting_60 ?_
            refine lv_iload hx hb dX9_meeting_61 (lv_at hl 0 rfl) ?_
            refine lv_icmp_le (tgt := 78) hx hb dX9_meeting_63 (by decide) (fun c63 => ?_) (fun c63 => ?_)
            · have hM := g_pos c63 hM
              refine lv_iload hx hb dX9_meeting_78 (lv_at hl 0 rfl) ?_
              exact K80 (v_now (0 : Int32).toNatClampNeg) _ _ _ hM hP hD hS (lv_sub hl [1, 2, 3, 4] rfl)
            · have hM := g_neg c63 hM
              refine lv_aload_n hx hb dX9_meeting_66 rfl (lv_at hl 1 rfl) ?_
              refine va_get (D := D) (ci := 9) (v := .ref h0_now) (C := RX9) (T := TX9) (N := 38) hx hb hts iX9 hown hK hP 0 rfl rfl 22 (by decide) k50 (fun _ h9 => h9) rfl dX9_meeting_67 ?_
              refine lv_bipush (v := 13) hx hb dX9_meeting_70 (by decide) ?_
              refine lv_iload_n hx hb dX9_meeting_72 rfl (lv_at hl 2 rfl) ?_
              refine lv_iadd hx hb dX9_meeting_73 ?_
              obtain ⟨h74, hM⟩ := gi_some hM
              refine va_iald hx hb hK hP 2 2 rfl rfl h74 dX9_meeting_74 ?_
              refine lv_goto (tgt := 80) hx hb dX9_meeting_75 (by decide) ?_
              exact K80 (v_now ((13 : Int32) + p1).toNatClampNeg) _ _ _ hM hP hD hS (lv_sub hl [1, 2, 3, 4] rfl)
        · have hM := g_pos c30 hM
          refine lv_ldc (v := -1000000002) hx hb hown k99 dX9_meeting_33 ?_
          obtain rfl := si1 hM
          exact hret _ _ _ _ _ dX9_meeting_35 rfl rfl hP hD hS
      · have hM := g_pos c18 hM
        refine lv_ldc (v := -1000000001) hx hb hown k180 dX9_meeting_21 ?_
        obtain rfl := si1 hM
        exact hret _ _ _ _ _ dX9_meeting_23 rfl rfl hP hD hS

-- ===== X9_sum sum (II)I =====
abbrev r9_sum : Room := { frames := 2, cells := 0, slots := 0, locals := 43 }
def f9_sum_L50 (N : Nat) (p2 : Int32) (v_interest : Nat → Int32) : Nat → Int32 → Int32 → Option Int32
  | 0, _, _ => none
  | n + 1, x3_50, x4_50 => if (p2 / (60 : Int32)) ≤ x4_50 then (some x3_50) else (ob1 (f9_grown N x3_50 v_interest) fun r61 => (f9_sum_L50 N p2 v_interest n) r61 (x4_50 + (1 : Int32)))
def f9_sum (N : Nat) (p1 : Int32) (p2 : Int32) (v_persons : Nat → Int32) (v_interest : Nat → Int32) (v_now : Nat → Int32) : Option Int32 :=
  ob1 (f9_isPerson N p1 v_persons) fun r2 => if r2 = (0 : Int32) then (some (-1000000001 : Int32)) else (gi (0 : Int32) 60 (ob1 (f9_in N p2 (v_now (0 : Int32).toNatClampNeg) (9999999 : Int32)) fun r20 => if r20 = (0 : Int32) then (some (-1000000002 : Int32)) else (gi ((7 : Int32) + p1) 60 (gi (0 : Int32) 60 (ob1 (f9_sum_L50 N p2 v_interest N (v_now ((7 : Int32) + p1).toNatClampNeg) ((v_now (0 : Int32).toNatClampNeg) / (60 : Int32))) fun e3_50 => some e3_50)))))
set_option maxHeartbeats 4000000 in
set_option maxRecDepth 100000 in
theorem c9_sum (l : Launch) (D : va_G) (cy : Nat → ClassId) (N : Nat) (h0 h0_persons h0_interest h0_now : Nat) (oh0_0 oh0_1 oh0_2 oh0_3 oh0_4 oh0_5 oh0_6 oh0_7 oh0_9 oh0_10 oh0_12 oh0_13 oh0_14 oh0_15 oh0_16 oh0_17 oh0_18 oh0_19 oh0_20 oh0_21 oh0_23 oh0_24 oh0_25 oh0_26 oh0_27 oh0_28 oh0_29 oh0_30 oh0_31 oh0_32 oh0_33 oh0_34 oh0_35 oh0_36 oh0_37 : Value) (p1 : Int32) (p2 : Int32) (v_persons : Nat → Int32) (v_interest : Nat → Int32) (v_now : Nat → Int32) (r : Int32) (hM : f9_sum N p1 p2 v_persons v_interest v_now = some r) (sz : Nat) : CTi l yX9_sum wsX9_sum r9_sum [.ref h0, .int p1, .int p2] D cy sz [(h0, .inr (9, [oh0_0, oh0_1, oh0_2, oh0_3, oh0_4, oh0_5, oh0_6, oh0_7, .ref h0_persons, oh0_9, oh0_10, .ref h0_interest, oh0_12, oh0_13, oh0_14, oh0_15, oh0_16, oh0_17, oh0_18, oh0_19, oh0_20, oh0_21, .ref h0_now, oh0_23, oh0_24, oh0_25, oh0_26, oh0_27, oh0_28, oh0_29, oh0_30, oh0_31, oh0_32, oh0_33, oh0_34, oh0_35, oh0_36, oh0_37])), (h0_persons, .inl (cy 2, 2, .inl v_persons)), (h0_interest, .inl (cy 2, 2, .inl v_interest)), (h0_now, .inl (cy 2, 60, .inl v_now))] [(h0, .inr (9, [oh0_0, oh0_1, oh0_2, oh0_3, oh0_4, oh0_5, oh0_6, oh0_7, .ref h0_persons, oh0_9, oh0_10, .ref h0_interest, oh0_12, oh0_13, oh0_14, oh0_15, oh0_16, oh0_17, oh0_18, oh0_19, oh0_20, oh0_21, .ref h0_now, oh0_23, oh0_24, oh0_25, oh0_26, oh0_27, oh0_28, oh0_29, oh0_30, oh0_31, oh0_32, oh0_33, oh0_34, oh0_35, oh0_36, oh0_37])), (h0_persons, .inl (cy 2, 2, .inl v_persons)), (h0_interest, .inl (cy 2, 2, .inl v_interest)), (h0_now, .inl (cy 2, 60, .inl v_now))] r := by
  unfold f9_sum at hM
  refine ct_oi (cc := cX9_sum) (maxL := 5) (ty := .int) (by decide +kernel) rfl (Nat.le_of_ble_eq_true rfl) (lv0 := [(0, .ref h0), (1, .int p1), (2, .int p2)]) rfl ?_
  intro p e s m args below meth c A Q ls hx hb hts hown hml hK hP hD hS hA hret hl
  have hown : s.vm.findClass RX9 = some m.cls := hown
  have k50 := hts (.fieldLink RX9 50 "CaveYearsModel" "now" "[I") (List.mem_of_getElem? (i := 2) rfl)
  have iX9 := (fun w h => (List.mem_cons_of_mem _ (List.mem_append_right _ h)) : ∀ w ∈ wsX90, w ∈ wsX9_sum)
  have k210 := hts (.constant RX9 210 (9999999)) (List.mem_of_getElem? (i := 3) rfl)
  have k99 := hts (.constant RX9 99 (-1000000002)) (List.mem_of_getElem? (i := 4) rfl)
  have k180 := hts (.constant RX9 180 (-1000000001)) (List.mem_of_getElem? (i := 1) rfl)
  refine lv_aload_n hx hb dX9_sum_0 rfl (lv_at hl 0 rfl) ?_
  refine lv_iload_n hx hb dX9_sum_1 rfl (lv_at hl 1 rfl) ?_
  obtain ⟨r2, hc2, hM⟩ := ob1_some hM
  refine cl_vi (As := [.int p1]) (rest := []) (ci := 9) (q0 := 0) (wr := [(h0_interest, .inl (cy 2, 2, .inl v_interest)), (h0_now, .inl (cy 2, 60, .inl v_now))]) (ws2 := [(h0, .inr (9, [oh0_0, oh0_1, oh0_2, oh0_3, oh0_4, oh0_5, oh0_6, oh0_7, .ref h0_persons, oh0_9, oh0_10, .ref h0_interest, oh0_12, oh0_13, oh0_14, oh0_15, oh0_16, oh0_17, oh0_18, oh0_19, oh0_20, oh0_21, .ref h0_now, oh0_23, oh0_24, oh0_25, oh0_26, oh0_27, oh0_28, oh0_29, oh0_30, oh0_31, oh0_32, oh0_33, oh0_34, oh0_35, oh0_36, oh0_37])), (h0_persons, .inl (cy 2, 2, .inl v_persons)), (h0_interest, .inl (cy 2, 2, .inl v_interest)), (h0_now, .inl (cy 2, 60, .inl v_now))]) (isC := [0, 1]) (isR := [2, 3]) (pm := [2, 3, 0, 1]) hx hb hml hown hts (c9_isPerson l D cy N h0 h0_persons oh0_0 oh0_1 oh0_2 oh0_3 oh0_4 oh0_5 oh0_6 oh0_7 oh0_9 oh0_10 (.ref h0_interest) oh0_12 oh0_13 oh0_14 oh0_15 oh0_16 oh0_17 oh0_18 oh0_19 oh0_20 oh0_21 (.ref h0_now) oh0_23 oh0_24 oh0_25 oh0_26 oh0_27 oh0_28 oh0_29 oh0_30 oh0_31 oh0_32 oh0_33 oh0_34 oh0_35 oh0_36 oh0_37 p1 v_persons r2 hc2) (cwV 1 hts gX9_sum_X9_isPerson rfl rfl rfl (by decide +kernel) ⟨Nat.le_of_ble_eq_true rfl, Nat.le_of_ble_eq_true rfl⟩) hK hP hD hS hA rfl rfl rfl rfl rfl (by decide) rfl rfl rfl hl.1 (Nat.le_of_ble_eq_true rfl) dX9_sum_2 ⟨Nat.zero_le _, Nat.zero_le _⟩ rfl rfl (fun H locs hP hD hS => ?_)
  refine lv_if_ne (tgt := 11) hx hb dX9_sum_5 (by decide) (fun c5 => ?_) (fun c5 => ?_)
  · have hM := g_neg c5 hM
    refine lv_iload_n hx hb dX9_sum_11 rfl (lv_at hl 2 rfl) ?_
    refine lv_aload_n hx hb dX9_sum_12 rfl (lv_at hl 0 rfl) ?_
    refine va_get (D := D) (ci := 9) (v := .ref h0_now) (C := RX9) (T := TX9) (N := 38) hx hb hts iX9 hown hK hP 0 rfl rfl 22 (by decide) k50 (fun _ h9 => h9) rfl dX9_sum_13 ?_
    refine lv_iconst (v := 0) hx hb dX9_sum_16 (by decide) ?_
    obtain ⟨h17, hM⟩ := gi_some hM
    refine va_iald hx hb hK hP 3 2 rfl rfl h17 dX9_sum_17 ?_
    refine lv_ldc (v := 9999999) hx hb hown k210 dX9_sum_18 ?_
    obtain ⟨r20, hc20, hM⟩ := ob1_some hM
    refine cl_si (As := [.int p2, .int (v_now (0 : Int32).toNatClampNeg), .int (9999999 : Int32)]) (rest := []) (wr := [(h0, .inr (9, [oh0_0, oh0_1, oh0_2, oh0_3, oh0_4, oh0_5, oh0_6, oh0_7, .ref h0_persons, oh0_9, oh0_10, .ref h0_interest, oh0_12, oh0_13, oh0_14, oh0_15, oh0_16, oh0_17, oh0_18, oh0_19, oh0_20, oh0_21, .ref h0_now, oh0_23, oh0_24, oh0_25, oh0_26, oh0_27, oh0_28, oh0_29, oh0_30, oh0_31, oh0_32, oh0_33, oh0_34, oh0_35, oh0_36, oh0_37])), (h0_persons, .inl (cy 2, 2, .inl v_persons)), (h0_interest, .inl (cy 2, 2, .inl v_interest)), (h0_now, .inl (cy 2, 60, .inl v_now))]) (ws2 := [(h0, .inr (9, [oh0_0, oh0_1, oh0_2, oh0_3, oh0_4, oh0_5, oh0_6, oh0_7, .ref h0_persons, oh0_9, oh0_10, .ref h0_interest, oh0_12, oh0_13, oh0_14, oh0_15, oh0_16, oh0_17, oh0_18, oh0_19, oh0_20, oh0_21, .ref h0_now, oh0_23, oh0_24, oh0_25, oh0_26, oh0_27, oh0_28, oh0_29, oh0_30, oh0_31, oh0_32, oh0_33, oh0_34, oh0_35, oh0_36, oh0_37])), (h0_persons, .inl (cy 2, 2, .inl v_persons)), (h0_interest, .inl (cy 2, 2, .inl v_interest)), (h0_now, .inl (cy 2, 60, .inl v_now))]) (isC := []) (isR := [0, 1, 2, 3]) (pm := [0, 1, 2, 3]) hx hb hml hown hts (c9_in l D cy N p2 (v_now (0 : Int32).toNatClampNeg) (9999999 : Int32) r20 hc20) (va_cwS 3 hts gX9_sum_X9_in rfl rfl rfl (by decide +kernel) ⟨Nat.le_of_ble_eq_true rfl, Nat.le_of_ble_eq_true rfl⟩) hK hP hD hS hA rfl rfl rfl (by decide) rfl rfl rfl hl.1 (Nat.le_of_ble_eq_true rfl) dX9_sum_20 ⟨Nat.zero_le _, Nat.zero_le _⟩ rfl rfl (fun H locs hP hD hS => ?_)
    refine lv_if_ne (tgt := 29) hx hb dX9_sum_23 (by decide) (fun c23 => ?_) (fun c23 => ?_)
    · have hM := g_neg c23 hM
      refine lv_aload_n hx hb dX9_sum_29 rfl (lv_at hl 0 rfl) ?_
      refine va_get (D := D) (ci := 9) (v := .ref h0_now) (C := RX9) (T := TX9) (N := 38) hx hb hts iX9 hown hK hP 0 rfl rfl 22 (by decide) k50 (fun _ h9 => h9) rfl dX9_sum_30 ?_
      refine lv_bipush (v := 7) hx hb dX9_sum_33 (by decide) ?_
      refine lv_iload_n hx hb dX9_sum_35 rfl (lv_at hl 1 rfl) ?_
      refine lv_iadd hx hb dX9_sum_36 ?_
      obtain ⟨h37, hM⟩ := gi_some hM
      refine va_iald hx hb hK hP 3 2 rfl rfl h37 dX9_sum_37 ?_
      refine lv_istore_n (lv' := [(3, .int (v_now ((7 : Int32) + p1).toNatClampNeg)), (0, .ref h0), (1, .int p1), (2, .int p2)]) hx hb dX9_sum_38 rfl hl (by decide) rfl (fun ls hl => ?_)
      refine lv_aload_n hx hb dX9_sum_39 rfl (lv_at hl 1 rfl) ?_
      refine va_get (D := D) (ci := 9) (v := .ref h0_now) (C := RX9) (T := TX9) (N := 38) hx hb hts iX9 hown hK hP 0 rfl rfl 22 (by decide) k50 (fun _ h9 => h9) rfl dX9_sum_40 ?_
      refine lv_iconst (v := 0) hx hb dX9_sum_43 (by decide) ?_
      obtain ⟨h44, hM⟩ := gi_some hM
      refine va_iald hx hb hK hP 3 2 rfl rfl h44 dX9_sum_44 ?_
      refine lv_bipush (v := 60) hx hb dX9_sum_45 (by decide) ?_
      refine lv_idiv hx hb dX9_sum_47 (by decide) ?_
      refine lv_istore (lv' := [(4, .int ((v_now (0 : Int32).toNatClampNeg) / (60 : Int32))), (3, .int (v_now ((7 : Int32) + p1).toNatClampNeg)), (0, .ref h0), (1, .int p1), (2, .int p2)]) hx hb dX9_sum_48 hl (by decide) rfl (fun ls hl => ?_)
      have L50 : ∀ (n : Nat) (x3_50 : Int32) (x4_50 : Int32) (e3_50 : Int32) (H : Heap) (locs : List Loc) (ls : Array Slot), f9_sum_L50 N p2 v_interest n x3_50 x4_50 = some e3_50 → va_P D vwCl [(h0, .inr (9, [oh0_0, oh0_1, oh0_2, oh0_3, oh0_4, oh0_5, oh0_6, oh0_7, .ref h0_persons, oh0_9, oh0_10, .ref h0_interest, oh0_12, oh0_13, oh0_14, oh0_15, oh0_16, oh0_17, oh0_18, oh0_19, oh0_20, oh0_21, .ref h0_now, oh0_23, oh0_24, oh0_25, oh0_26, oh0_27, oh0_28, oh0_29, oh0_30, oh0_31, oh0_32, oh0_33, oh0_34, oh0_35, oh0_36, oh0_37])), (h0_persons, .inl (cy 2, 2, .inl v_persons)), (h0_interest, .inl (cy 2, 2, .inl v_interest)), (h0_now, .inl (cy 2, 60, .inl v_now))] H → va_D A [(h0, .inr (9, [oh0_0, oh0_1, oh0_2, oh0_3, oh0_4, oh0_5, oh0_6, oh0_7, .ref h0_persons, oh0_9, oh0_10, .ref h0_interest, oh0_12, oh0_13, oh0_14, oh0_15, oh0_16, oh0_17, oh0_18, oh0_19, oh0_20, oh0_21, .ref h0_now, oh0_23, oh0_24, oh0_25, oh0_26, oh0_27, oh0_28, oh0_29, oh0_30, oh0_31, oh0_32, oh0_33, oh0_34, oh0_35, oh0_36, oh0_37])), (h0_persons, .inl (cy 2, 2, .inl v_persons)), (h0_interest, .inl (cy 2, 2, .inl v_interest)), (h0_now, .inl (cy 2, 60, .inl v_now))] → va_S A s.heap H locs → lv_has ls 5 [(0, .ref h0), (2, .int p2), (3, .int x3_50), (4, .int x4_50)] → (∀ (H : Heap) (locs : List Loc) (ls : Array Slot), va_P D vwCl [(h0, .inr (9, [oh0_0, oh0_1, oh0_2, oh0_3, oh0_4, oh0_5, oh0_6, oh0_7, .ref h0_persons, oh0_9, oh0_10, .ref h0_interest, oh0_12, oh0_13, oh0_14, oh0_15, oh0_16, oh0_17, oh0_18, oh0_19, oh0_20, oh0_21, .ref h0_now, oh0_23, oh0_24, oh0_25, oh0_26, oh0_27, oh0_28, oh0_29, oh0_30, oh0_31, oh0_32, oh0_33, oh0_34, oh0_35, oh0_36, oh0_37])), (h0_persons, .inl (cy 2, 2, .inl v_persons)), (h0_interest, .inl (cy 2, 2, .inl v_interest)), (h0_now, .inl (cy 2, 60, .inl v_now))] H → va_D A [(h0, .inr (9, [oh0_0, oh0_1, oh0_2, oh0_3, oh0_4, oh0_5, oh0_6, oh0_7, .ref h0_persons, oh0_9, oh0_10, .ref h0_interest, oh0_12, oh0_13, oh0_14, oh0_15, oh0_16, oh0_17, oh0_18, oh0_19, oh0_20, oh0_21, .ref h0_now, oh0_23, oh0_24, oh0_25, oh0_26, oh0_27, oh0_28, oh0_29, oh0_30, oh0_31, oh0_32, oh0_33, oh0_34, oh0_35, oh0_36, oh0_37])), (h0_persons, .inl (cy 2, 2, .inl v_persons)), (h0_interest, .inl (cy 2, 2, .inl v_interest)), (h0_now, .inl (cy 2, 60, .inl v_now))] → va_S A s.heap H locs → lv_has ls 5 [(3, .int e3_50)] → W p l e r9_sum s m args below meth c H locs 0 0 Q (F0 m 71 ls [])) → W p l e r9_sum s m args below meth c H locs 0 0 Q (F0 m 50 ls []) := by
        intro n
        induction n with
        | zero =>
          intro x3_50 x4_50 e3_50 H locs ls hM
          exact absurd hM (by simp [f9_sum_L50])
        | succ n ih =>
          intro x3_50 x4_50 e3_50 H locs ls hM hP hD hS hl K
          rw [f9_sum_L50] at hM
          refine lv_iload hx hb dX9_sum_50 (lv_at hl 3 rfl) ?_
          refine lv_iload_n hx hb dX9_sum_52 rfl (lv_at hl 1 rfl) ?_
          refine lv_bipush (v := 60) hx hb dX9_sum_53 (by decide) ?_
          refine lv_idiv hx hb dX9_sum_55 (by decide) ?_
          refine lv_icmp_ge (tgt := 71) hx hb dX9_sum_56 (by decide) (fun c56 => ?_) (fun c56 => ?_)
          · have hM := g_pos c56 hM
            obtain rfl := si1 hM
            exact K _ _ _ hP hD hS (lv_sub hl [2] rfl)
          · have hM := g_neg c56 hM
            refine lv_aload_n hx hb dX9_sum_59 rfl (lv_at hl 0 rfl) ?_
            refine lv_iload_n hx hb dX9_sum_60 rfl (lv_at hl 2 rfl) ?_
            obtain ⟨r61, hc61, hM⟩ := ob1_some hM
            refine cl_vi (As := [.int x3_50]) (rest := []) (ci := 9) (q0 := 0) (wr := [(h0_persons, .inl (cy 2, 2, .inl v_persons)), (h0_now, .inl (cy 2, 60, .inl v_now))]) (ws2 := [(h0, .inr (9, [oh0_0, oh0_1, oh0_2, oh0_3, oh0_4, oh0_5, oh0_6, oh0_7, .ref h0_persons, oh0_9, oh0_10, .ref h0_interest, oh0_12, oh0_13, oh0_14, oh0_15, oh0_16, oh0_17, oh0_18, oh0_19, oh0_20, oh0_21, .ref h0_now, oh0_23, oh0_24, oh0_25, oh0_26, oh0_27, oh0_28, oh0_29, oh0_30, oh0_31, oh0_32, oh0_33, oh0_34, oh0_35, oh0_36, oh0_37])), (h0_persons, .inl (cy 2, 2, .inl v_persons)), (h0_interest, .inl (cy 2, 2, .inl v_interest)), (h0_now, .inl (cy 2, 60, .inl v_now))]) (isC := [0, 2]) (isR := [1, 3]) (pm := [2, 0, 3, 1]) hx hb hml hown hts (c9_grown l D cy N h0 h0_interest oh0_0 oh0_1 oh0_2 oh0_3 oh0_4 oh0_5 oh0_6 oh0_7 (.ref h0_persons) oh0_9 oh0_10 oh0_12 oh0_13 oh0_14 oh0_15 oh0_16 oh0_17 oh0_18 oh0_19 oh0_20 oh0_21 (.ref h0_now) oh0_23 oh0_24 oh0_25 oh0_26 oh0_27 oh0_28 oh0_29 oh0_30 oh0_31 oh0_32 oh0_33 oh0_34 oh0_35 oh0_36 oh0_37 x3_50 v_interest r61 hc61) (cwV 1 hts gX9_sum_X9_grown rfl rfl rfl (by decide +kernel) ⟨Nat.le_of_ble_eq_true rfl, Nat.le_of_ble_eq_true rfl⟩) hK hP hD hS hA rfl rfl rfl rfl rfl (by decide) rfl rfl rfl hl.1 (Nat.le_of_ble_eq_true rfl) dX9_sum_61 ⟨Nat.zero_le _, Nat.zero_le _⟩ rfl rfl (fun H locs hP hD hS => ?_)
            refine lv_istore_n (lv' := [(3, .int r61), (0, .ref h0), (2, .int p2), (4, .int x4_50)]) hx hb dX9_sum_64 rfl hl (by decide) rfl (fun ls hl => ?_)
            refine lv_iinc (v := x4_50 + (1 : Int32)) (lv' := [(4, .int (x4_50 + (1 : Int32))), (3, .int r61), (0, .ref h0), (2, .int p2)]) hx hb dX9_sum_65 hl (k := 3) rfl rfl (by decide) rfl (fun ls hl => ?_)
            refine lv_goto (tgt := 50) hx hb dX9_sum_68 (by decide) ?_
            exact ih r61 (x4_50 + (1 : Int32)) e3_50 _ _ _ hM hP hD hS (lv_sub hl [2, 3, 1, 0] rfl) K
      obtain ⟨e3_50, hL50, hM⟩ := ob1_some hM
      refine L50 N (v_now ((7 : Int32) + p1).toNatClampNeg) ((v_now (0 : Int32).toNatClampNeg) / (60 : Int32)) e3_50 _ _ _ hL50 hP hD hS (lv_sub hl [2, 4, 1, 0] rfl) ?_
      intro H locs ls hP hD hS hl
      refine lv_iload_n hx hb dX9_sum_71 rfl (lv_at hl 0 rfl) ?_
      obtain rfl := si1 hM
      exact hret _ _ _ _ _ dX9_sum_72 rfl rfl hP hD hS
    · have hM := g_pos c23 hM
      refine lv_ldc (v := -1000000002) hx hb hown k99 dX9_sum_26 ?_
      obtain rfl := si1 hM
      exact hret _ _ _ _ _ dX9_sum_28 rfl rfl hP hD hS
  · have hM := g_pos c5 hM
    refine lv_ldc (v := -1000000001) hx hb hown k180 dX9_sum_8 ?_
    obtain rfl := si1 hM
    exact hret _ _ _ _ _ dX9_sum_10 rfl rfl hP hD hS

-- ===== X9_sitOut sitOut (I)I =====
abbrev r9_sitOut : Room := { frames := 3, cells := 0, slots := 0, locals := 64 }
def f9_sitOut_L15 (N : Nat) (v_winters : Nat → Int32) (v_winterFrom : Nat → Int32) (v_winterLong : Nat → Int32) (v_now : Nat → Int32) : Nat → Int32 → Int32 → Option Int32
  | 0, _, _ => none
  | n + 1, x2_15, x3_15 => gi (0 : Int32) 2 (if (v_winters (0 : Int32).toNatClampNeg) ≤ x3_15 then (some x2_15) else (gi x3_15 10 (gi x3_15 10 (gi x3_15 10 (gi (0 : Int32) 60 (if ((60 : Int32) * (v_winterFrom x3_15.toNatClampNeg)) < (v_now (0 : Int32).toNatClampNeg) then ((f9_sitOut_L15 N v_winters v_winterFrom v_winterLong v_now n) x2_15 (x3_15 + (1 : Int32))) else (if ((60 : Int32) * ((v_winterFrom x3_15.toNatClampNeg) + (v_winterLong x3_15.toNatClampNeg))) ≤ x2_15 then ((f9_sitOut_L15 N v_winters v_winterFrom v_winterLong v_now n) x2_15 (x3_15 + (1 : Int32))) else ((f9_sitOut_L15 N v_winters v_winterFrom v_winterLong v_now n) ((60 : Int32) * ((v_winterFrom x3_15.toNatClampNeg) + (v_winterLong x3_15.toNatClampNeg))) (x3_15 + (1 : Int32))))))))))
def f9_sitOut_L94 (N : Nat) (p1 : Int32) (v_now : Nat → Int32) (e2_15 : Int32) (v_leastTime_89 : Nat → Int32) (v_mostTime_89 : Nat → Int32) : Nat → Int32 → Option (Int32 × (Nat → Int32) × (Nat → Int32))
  | 0, _ => none
  | n + 1, x3_94 => if (40 : Int32) < x3_94 then (some ((-1 : Int32), v_leastTime_89, v_mostTime_89)) else (ob1 (f9_index N x3_94 p1) fun r106 => gi r106 287 (gi (0 : Int32) 60 (if (v_mostTime_89 r106.toNatClampNeg) < (e2_15 - (v_now (0 : Int32).toNatClampNeg)) then ((f9_sitOut_L94 N p1 v_now e2_15 v_leastTime_89 v_mostTime_89 n) (x3_94 + (1 : Int32))) else (some (x3_94, v_leastTime_89, v_mostTime_89)))))
def f9_sitOut (N : Nat) (p1 : Int32) (v_parts : Nat → Int32) (v_rates : Nat → Int32) (v_ways : Nat → Int32) (v_mouths : Nat → Int32) (v_winters : Nat → Int32) (v_winterFrom : Nat → Int32) (v_winterLong : Nat → Int32) (v_now : Nat → Int32) (v_leastTime : Nat → Int32) (v_mostTime : Nat → Int32) : Option (Int32 × (Nat → Int32) × (Nat → Int32)) :=
  ob1 (f9_isMouth N p1 v_parts v_mouths) fun r2 => if r2 = (0 : Int32) then (some ((-1000000001 : Int32), v_leastTime, v_mostTime)) else (ob1 (f9_sitOut_L15 N v_winters v_winterFrom v_winterLong v_now N (-1 : Int32) (0 : Int32)) fun e2_15 => if e2_15 = (-1 : Int32) then (some ((0 : Int32), v_leastTime, v_mostTime)) else (ob2 (f9_findSpans N p1 v_parts v_rates v_ways v_leastTime v_mostTime) fun v_leastTime_89 v_mostTime_89 => f9_sitOut_L94 N p1 v_now e2_15 v_leastTime_89 v_mostTime_89 N (1 : Int32)))
set_option maxHeartbeats 4000000 in
set_option maxRecDepth 100000 in
theorem c9_sitOut (l : Launch) (D : va_G) (cy : Nat → ClassId) (N : Nat) (h0 h0_parts h0_rates h0_ways h0_mouths h0_winters h0_winterFrom h0_winterLong h0_now h0_leastTime h0_mostTime : Nat) (oh0_0 oh0_1 oh0_2 oh0_6 oh0_8 oh0_9 oh0_10 oh0_11 oh0_15 oh0_16 oh0_17 oh0_18 oh0_19 oh0_20 oh0_21 oh0_23 oh0_24 oh0_25 oh0_28 oh0_29 oh0_30 oh0_31 oh0_32 oh0_33 oh0_34 oh0_35 oh0_36 oh0_37 : Value) (p1 : Int32) (v_parts : Nat → Int32) (v_rates : Nat → Int32) (v_ways : Nat → Int32) (v_mouths : Nat → Int32) (v_winters : Nat → Int32) (v_winterFrom : Nat → Int32) (v_winterLong : Nat → Int32) (v_now : Nat → Int32) (v_leastTime : Nat → Int32) (v_mostTime : Nat → Int32) (r : Int32) (nv_leastTime : Nat → Int32) (nv_mostTime : Nat → Int32) (hM : f9_sitOut N p1 v_parts v_rates v_ways v_mouths v_winters v_winterFrom v_winterLong v_now v_leastTime v_mostTime = some (r, nv_leastTime, nv_mostTime)) (sz : Nat) : CTi l yX9_sitOut wsX9_sitOut r9_sitOut [.ref h0, .int p1] D cy sz [(h0, .inr (9, [oh0_0, oh0_1, oh0_2, .ref h0_parts, .ref h0_rates, .ref h0_ways, oh0_6, .ref h0_mouths, oh0_8, oh0_9, oh0_10, oh0_11, .ref h0_winters, .ref h0_winterFrom, .ref h0_winterLong, oh0_15, oh0_16, oh0_17, oh0_18, oh0_19, oh0_20, oh0_21, .ref h0_now, oh0_23, oh0_24, oh0_25, .ref h0_leastTime, .ref h0_mostTime, oh0_28, oh0_29, oh0_30, oh0_31, oh0_32, oh0_33, oh0_34, oh0_35, oh0_36, oh0_37])), (h0_parts, .inl (cy 2, 2, .inl v_parts)), (h0_rates, .inl (cy 2, 14, .inl v_rates)), (h0_ways, .inl (cy 2, 14, .inl v_ways)), (h0_mouths, .inl (cy 2, 2, .inl v_mouths)), (h0_winters, .inl (cy 2, 2, .inl v_winters)), (h0_winterFrom, .inl (cy 2, 10, .inl v_winterFrom)), (h0_winterLong, .inl (cy 2, 10, .inl v_winterLong)), (h0_now, .inl (cy 2, 60, .inl v_now)), (h0_leastTime, .inl (cy 2, 287, .inl v_leastTime)), (h0_mostTime, .inl (cy 2, 287, .inl v_mostTime))] [(h0, .inr (9, [oh0_0, oh0_1, oh0_2, .ref h0_parts, .ref h0_rates, .ref h0_ways, oh0_6, .ref h0_mouths, oh0_8, oh0_9, oh0_10, oh0_11, .ref h0_winters, .ref h0_winterFrom, .ref h0_winterLong, oh0_15, oh0_16, oh0_17, oh0_18, oh0_19, oh0_20, oh0_21, .ref h0_now, oh0_23, oh0_24, oh0_25, .ref h0_leastTime, .ref h0_mostTime, oh0_28, oh0_29, oh0_30, oh0_31, oh0_32, oh0_33, oh0_34, oh0_35, oh0_36, oh0_37])), (h0_parts, .inl (cy 2, 2, .inl v_parts)), (h0_rates, .inl (cy 2, 14, .inl v_rates)), (h0_ways, .inl (cy 2, 14, .inl v_ways)), (h0_mouths, .inl (cy 2, 2, .inl v_mouths)), (h0_winters, .inl (cy 2, 2, .inl v_winters)), (h0_winterFrom, .inl (cy 2, 10, .inl v_winterFrom)), (h0_winterLong, .inl (cy 2, 10, .inl v_winterLong)), (h0_now, .inl (cy 2, 60, .inl v_now)), (h0_leastTime, .inl (cy 2, 287, .inl nv_leastTime)), (h0_mostTime, .inl (cy 2, 287, .inl nv_mostTime))] r := by
  unfold f9_sitOut at hM
  refine ct_oi (cc := cX9_sitOut) (maxL := 5) (ty := .int) (by decide +kernel) rfl (Nat.le_of_ble_eq_true rfl) (lv0 := [(0, .ref h0), (1, .int p1)]) rfl ?_
  intro p e s m args below meth c A Q ls hx hb hts hown hml hK hP hD hS hA hret hl
  have hown : s.vm.findClass RX9 = some m.cls := hown
  have k41 := hts (.fieldLink RX9 41 "CaveYearsModel" "winters" "[I") (List.mem_of_getElem? (i := 2) rfl)
  have iX9 := (fun w h => (List.mem_cons_of_mem _ (List.mem_append_right _ h)) : ∀ w ∈ wsX90, w ∈ wsX9_sitOut)
  have k44 := hts (.fieldLink RX9 44 "CaveYearsModel" "winterFrom" "[I") (List.mem_of_getElem? (i := 3) rfl)
  have k47 := hts (.fieldLink RX9 47 "CaveYearsModel" "winterLong" "[I") (List.mem_of_getElem? (i := 4) rfl)
  have k50 := hts (.fieldLink RX9 50 "CaveYearsModel" "now" "[I") (List.mem_of_getElem? (i := 5) rfl)
  have k63 := hts (.fieldLink RX9 63 "CaveYearsModel" "mostTime" "[I") (List.mem_of_getElem? (i := 6) rfl)
  have k180 := hts (.constant RX9 180 (-1000000001)) (List.mem_of_getElem? (i := 1) rfl)
  refine lv_aload_n hx hb dX9_sitOut_0 rfl (lv_at hl 0 rfl) ?_
  refine lv_iload_n hx hb dX9_sitOut_1 rfl (lv_at hl 1 rfl) ?_
  obtain ⟨r2, hc2, hM⟩ := ob1_some hM
  refine cl_vi (As := [.int p1]) (rest := []) (ci := 9) (q0 := 0) (wr := [(h0_rates, .inl (cy 2, 14, .inl v_rates)), (h0_ways, .inl (cy 2, 14, .inl v_ways)), (h0_winters, .inl (cy 2, 2, .inl v_winters)), (h0_winterFrom, .inl (cy 2, 10, .inl v_winterFrom)), (h0_winterLong, .inl (cy 2, 10, .inl v_winterLong)), (h0_now, .inl (cy 2, 60, .inl v_now)), (h0_leastTime, .inl (cy 2, 287, .inl v_leastTime)), (h0_mostTime, .inl (cy 2, 287, .inl v_mostTime))]) (ws2 := [(h0, .inr (9, [oh0_0, oh0_1, oh0_2, .ref h0_parts, .ref h0_rates, .ref h0_ways, oh0_6, .ref h0_mouths, oh0_8, oh0_9, oh0_10, oh0_11, .ref h0_winters, .ref h0_winterFrom, .ref h0_winterLong, oh0_15, oh0_16, oh0_17, oh0_18, oh0_19, oh0_20, oh0_21, .ref h0_now, oh0_23, oh0_24, oh0_25, .ref h0_leastTime, .ref h0_mostTime, oh0_28, oh0_29, oh0_30, oh0_31, oh0_32, oh0_33, oh0_34, oh0_35, oh0_36, oh0_37])), (h0_parts, .inl (cy 2, 2, .inl v_parts)), (h0_rates, .inl (cy 2, 14, .inl v_rates)), (h0_ways, .inl (cy 2, 14, .inl v_ways)), (h0_mouths, .inl (cy 2, 2, .inl v_mouths)), (h0_winters, .inl (cy 2, 2, .inl v_winters)), (h0_winterFrom, .inl (cy 2, 10, .inl v_winterFrom)), (h0_winterLong, .inl (cy 2, 10, .inl v_winterLong)), (h0_now, .inl (cy 2, 60, .inl v_now)), (h0_leastTime, .inl (cy 2, 287, .inl v_leastTime)), (h0_mostTime, .inl (cy 2, 287, .inl v_mostTime))]) (isC := [0, 1, 4]) (isR := [2, 3, 5, 6, 7, 8, 9, 10]) (pm := [8, 9, 0, 1, 10, 2, 3, 4, 5, 6, 7]) hx hb hml hown hts (c9_isMouth l D cy N h0 h0_parts h0_mouths oh0_0 oh0_1 oh0_2 (.ref h0_rates) (.ref h0_ways) oh0_6 oh0_8 oh0_9 oh0_10 oh0_11 (.ref h0_winters) (.ref h0_winterFrom) (.ref h0_winterLong) oh0_15 oh0_16 oh0_17 oh0_18 oh0_19 oh0_20 oh0_21 (.ref h0_now) oh0_23 oh0_24 oh0_25 (.ref h0_leastTime) (.ref h0_mostTime) oh0_28 oh0_29 oh0_30 oh0_31 oh0_32 oh0_33 oh0_34 oh0_35 oh0_36 oh0_37 p1 v_parts v_mouths r2 hc2) (cwV 1 hts gX9_sitOut_X9_isMouth rfl rfl rfl (by decide +kernel) ⟨Nat.le_of_ble_eq_true rfl, Nat.le_of_ble_eq_true rfl⟩) hK hP hD hS hA rfl rfl rfl rfl rfl (by decide) rfl rfl rfl hl.1 (Nat.le_of_ble_eq_true rfl) dX9_sitOut_2 ⟨Nat.zero_le _, Nat.zero_le _⟩ rfl rfl (fun H locs hP hD hS => ?_)
  refine lv_if_ne (tgt := 11) hx hb dX9_sitOut_5 (by decide) (fun c5 => ?_) (fun c5 => ?_)
  · have hM := g_neg c5 hM
    refine lv_iconst (v := -1) hx hb dX9_sitOut_11 (by decide) ?_
    refine lv_istore_n (lv' := [(2, .int (-1 : Int32)), (0, .ref h0), (1, .int p1)]) hx hb dX9_sitOut_12 rfl hl (by decide) rfl (fun ls hl => ?_)
    refine lv_iconst (v := 0) hx hb dX9_sitOut_13 (by decide) ?_
    refine lv_istore_n (lv' := [(3, .int (0 : Int32)), (2, .int (-1 : Int32)), (0, .ref h0), (1, .int p1)]) hx hb dX9_sitOut_14 rfl hl (by decide) rfl (fun ls hl => ?_)
    have L15 : ∀ (n : Nat) (x2_15 : Int32) (x3_15 : Int32) (e2_15 : Int32) (H : Heap) (locs : List Loc) (ls : Array Slot), f9_sitOut_L15 N v_winters v_winterFrom v_winterLong v_now n x2_15 x3_15 = some e2_15 → va_P D vwCl [(h0, .inr (9, [oh0_0, oh0_1, oh0_2, .ref h0_parts, .ref h0_rates, .ref h0_ways, oh0_6, .ref h0_mouths, oh0_8, oh0_9, oh0_10, oh0_11, .ref h0_winters, .ref h0_winterFrom, .ref h0_winterLong, oh0_15, oh0_16, oh0_17, oh0_18, oh0_19, oh0_20, oh0_21, .ref h0_now, oh0_23, oh0_24, oh0_25, .ref h0_leastTime, .ref h0_mostTime, oh0_28, oh0_29, oh0_30, oh0_31, oh0_32, oh0_33, oh0_34, oh0_35, oh0_36, oh0_37])), (h0_parts, .inl (cy 2, 2, .inl v_parts)), (h0_rates, .inl (cy 2, 14, .inl v_rates)), (h0_ways, .inl (cy 2, 14, .inl v_ways)), (h0_mouths, .inl (cy 2, 2, .inl v_mouths)), (h0_winters, .inl (cy 2, 2, .inl v_winters)), (h0_winterFrom, .inl (cy 2, 10, .inl v_winterFrom)), (h0_winterLong, .inl (cy 2, 10, .inl v_winterLong)), (h0_now, .inl (cy 2, 60, .inl v_now)), (h0_leastTime, .inl (cy 2, 287, .inl v_leastTime)), (h0_mostTime, .inl (cy 2, 287, .inl v_mostTime))] H → va_D A [(h0, .inr (9, [oh0_0, oh0_1, oh0_2, .ref h0_parts, .ref h0_rates, .ref h0_ways, oh0_6, .ref h0_mouths, oh0_8, oh0_9, oh0_10, oh0_11, .ref h0_winters, .ref h0_winterFrom, .ref h0_winterLong, oh0_15, oh0_16, oh0_17, oh0_18, oh0_19, oh0_20, oh0_21, .ref h0_now, oh0_23, oh0_24, oh0_25, .ref h0_leastTime, .ref h0_mostTime, oh0_28, oh0_29, oh0_30, oh0_31, oh0_32, oh0_33, oh0_34, oh0_35, oh0_36, oh0_37])), (h0_parts, .inl (cy 2, 2, .inl v_parts)), (h0_rates, .inl (cy 2, 14, .inl v_rates)), (h0_ways, .inl (cy 2, 14, .inl v_ways)), (h0_mouths, .inl (cy 2, 2, .inl v_mouths)), (h0_winters, .inl (cy 2, 2, .inl v_winters)), (h0_winterFrom, .inl (cy 2, 10, .inl v_winterFrom)), (h0_winterLong, .inl (cy 2, 10, .inl v_winterLong)), (h0_now, .inl (cy 2, 60, .inl v_now)), (h0_leastTime, .inl (cy 2, 287, .inl v_leastTime)), (h0_mostTime, .inl (cy 2, 287, .inl v_mostTime))] → va_S A s.heap H locs → lv_has ls 5 [(0, .ref h0), (1, .int p1), (2, .int x2_15), (3, .int x3_15)] → (∀ (H : Heap) (locs : List Loc) (ls : Array Slot), va_P D vwCl [(h0, .inr (9, [oh0_0, oh0_1, oh0_2, .ref h0_parts, .ref h0_rates, .ref h0_ways, oh0_6, .ref h0_mouths, oh0_8, oh0_9, oh0_10, oh0_11, .ref h0_winters, .ref h0_winterFrom, .ref h0_winterLong, oh0_15, oh0_16, oh0_17, oh0_18, oh0_19, oh0_20, oh0_21, .ref h0_now, oh0_23, oh0_24, oh0_25, .ref h0_leastTime, .ref h0_mostTime, oh0_28, oh0_29, oh0_30, oh0_31, oh0_32, oh0_33, oh0_34, oh0_35, oh0_36, oh0_37])), (h0_parts, .inl (cy 2, 2, .inl v_parts)), (h0_rates, .inl (cy 2, 14, .inl v_rates)), (h0_ways, .inl (cy 2, 14, .inl v_ways)), (h0_mouths, .inl (cy 2, 2, .inl v_mouths)), (h0_winters, .inl (cy 2, 2, .inl v_winters)), (h0_winterFrom, .inl (cy 2, 10, .inl v_winterFrom)), (h0_winterLong, .inl (cy 2, 10, .inl v_winterLong)), (h0_now, .inl (cy 2, 60, .inl v_now)), (h0_leastTime, .inl (cy 2, 287, .inl v_leastTime)), (h0_mostTime, .inl (cy 2, 287, .inl v_mostTime))] H → va_D A [(h0, .inr (9, [oh0_0, oh0_1, oh0_2, .ref h0_parts, .ref h0_rates, .ref h0_ways, oh0_6, .ref h0_mouths, oh0_8, oh0_9, oh0_10, oh0_11, .ref h0_winters, .ref h0_winterFrom, .ref h0_winterLong, oh0_15, oh0_16, oh0_17, oh0_18, oh0_19, oh0_20, oh0_21, .ref h0_now, oh0_23, oh0_24, oh0_25, .ref h0_leastTime, .ref h0_mostTime, oh0_28, oh0_29, oh0_30, oh0_31, oh0_32, oh0_33, oh0_34, oh0_35, oh0_36, oh0_37])), (h0_parts, .inl (cy 2, 2, .inl v_parts)), (h0_rates, .inl (cy 2, 14, .inl v_rates)), (h0_ways, .inl (cy 2, 14, .inl v_ways)), (h0_mouths, .inl (cy 2, 2, .inl v_mouths)), (h0_winters, .inl (cy 2, 2, .inl v_winters)), (h0_winterFrom, .inl (cy 2, 10, .inl v_winterFrom)), (h0_winterLong, .inl (cy 2, 10, .inl v_winterLong)), (h0_now, .inl (cy 2, 60, .inl v_now)), (h0_leastTime, .inl (cy 2, 287, .inl v_leastTime)), (h0_mostTime, .inl (cy 2, 287, .inl v_mostTime))] → va_S A s.heap H locs → lv_has ls 5 [(0, .ref h0), (1, .int p1), (2, .int e2_15)] → W p l e r9_sitOut s m args below meth c H locs 0 0 Q (F0 m 80 ls [])) → W p l e r9_sitOut s m args below meth c H locs 0 0 Q (F0 m 15 ls []) := by
      intro n
      induction n with
      | zero =>
        intro x2_15 x3_15 e2_15 H locs ls hM
        exact absurd hM (by simp [f9_sitOut_L15])
      | succ n ih =>
        intro x2_15 x3_15 e2_15 H locs ls hM hP hD hS hl K
        rw [f9_sitOut_L15] at hM
        refine lv_iload_n hx hb dX9_sitOut_15 rfl (lv_at hl 3 rfl) ?_
        refine lv_aload_n hx hb dX9_sitOut_16 rfl (lv_at hl 0 rfl) ?_
        refine va_get (D := D) (ci := 9) (v := .ref h0_winters) (C := RX9) (T := TX9) (N := 38) hx hb hts iX9 hown hK hP 0 rfl rfl 12 (by decide) k41 (fun _ h9 => h9) rfl dX9_sitOut_17 ?_
        refine lv_iconst (v := 0) hx hb dX9_sitOut_20 (by decide) ?_
        obtain ⟨h21, hM⟩ := gi_some hM
        refine va_iald hx hb hK hP 5 2 rfl rfl h21 dX9_sitOut_21 ?_
        refine lv_icmp_ge (tgt := 80) hx hb dX9_sitOut_22 (by decide) (fun c22 => ?_) (fun c22 => ?_)
        · have hM := g_pos c22 hM
          obtain rfl := si1 hM
          exact K _ _ _ hP hD hS (lv_sub hl [0, 1, 2] rfl)
        · have hM := g_neg c22 hM
          refine lv_bipush (v := 60) hx hb dX9_sitOut_25 (by decide) ?_
          refine lv_aload_n hx hb dX9_sitOut_27 rfl (lv_at hl 0 rfl) ?_
          refine va_get (D := D) (ci := 9) (v := .ref h0_winterFrom) (C := RX9) (T := TX9) (N := 38) hx hb hts iX9 hown hK hP 0 rfl rfl 13 (by decide) k44 (fun _ h9 => h9) rfl dX9_sitOut_28 ?_
          refine lv_iload_n hx hb dX9_sitOut_31 rfl (lv_at hl 3 rfl) ?_
          obtain ⟨h32, hM⟩ := gi_some hM
          refine va_iald hx hb hK hP 6 2 rfl rfl h32 dX9_sitOut_32 ?_
          refine lv_aload_n hx hb dX9_sitOut_33 rfl (lv_at hl 0 rfl) ?_
          refine va_get (D := D) (ci := 9) (v := .ref h0_winterLong) (C := RX9) (T := TX9) (N := 38) hx hb hts iX9 hown hK hP 0 rfl rfl 14 (by decide) k47 (fun _ h9 => h9) rfl dX9_sitOut_34 ?_
          refine lv_iload_n hx hb dX9_sitOut_37 rfl (lv_at hl 3 rfl) ?_
          obtain ⟨h38, hM⟩ := gi_some hM
          refine va_iald hx hb hK hP 7 2 rfl rfl h38 dX9_sitOut_38 ?_
          refine lv_iadd hx hb dX9_sitOut_39 ?_
          refine lv_imul hx hb dX9_sitOut_40 ?_
          refine lv_istore (lv' := [(4, .int ((60 : Int32) * ((v_winterFrom x3_15.toNatClampNeg) + (v_winterLong x3_15.toNatClampNeg)))), (0, .ref h0), (1, .int p1), (2, .int x2_15), (3, .int x3_15)]) hx hb dX9_sitOut_41 hl (by decide) rfl (fun ls hl => ?_)
          refine lv_bipush (v := 60) hx hb dX9_sitOut_43 (by decide) ?_
          refine lv_aload_n hx hb dX9_sitOut_45 rfl (lv_at hl 1 rfl) ?_
          refine va_get (D := D) (ci := 9) (v := .ref h0_winterFrom) (C := RX9) (T := TX9) (N := 38) hx hb hts iX9 hown hK hP 0 rfl rfl 13 (by decide) k44 (fun _ h9 => h9) rfl dX9_sitOut_46 ?_
          refine lv_iload_n hx hb dX9_sitOut_49 rfl (lv_at hl 4 rfl) ?_
          obtain ⟨h50, hM⟩ := gi_some hM
          refine va_iald hx hb hK hP 6 2 rfl rfl h50 dX9_sitOut_50 ?_
          refine lv_imul hx hb dX9_sitOut_51 ?_
          refine lv_aload_n hx hb dX9_sitOut_52 rfl (lv_at hl 1 rfl) ?_
          refine va_get (D := D) (ci := 9) (v := .ref h0_now) (C := RX9) (T := TX9) (N := 38) hx hb hts iX9 hown hK hP 0 rfl rfl 22 (by decide) k50 (fun _ h9 => h9) rfl dX9_sitOut_53 ?_
          refine lv_iconst (v := 0) hx hb dX9_sitOut_56 (by decide) ?_
          obtain ⟨h57, hM⟩ := gi_some hM
          refine va_iald hx hb hK hP 8 2 rfl rfl h57 dX9_sitOut_57 ?_
          refine lv_icmp_lt (tgt := 72) hx hb dX9_sitOut_58 (by decide) (fun c58 => ?_) (fun c58 => ?_)
          · have hM := g_pos c58 hM
            refine lv_iload_n hx hb dX9_sitOut_72 rfl (lv_at hl 3 rfl) ?_
            refine lv_istore_n (lv' := [(2, .int x2_15), (4, .int ((60 : Int32) * ((v_winterFrom x3_15.toNatClampNeg) + (v_winterLong x3_15.toNatClampNeg)))), (0, .ref h0), (1, .int p1), (3, .int x3_15)]) hx hb dX9_sitOut_73 rfl hl (by decide) rfl (fun ls hl => ?_)
            refine lv_iinc (v := x3_15 + (1 : Int32)) (lv' := [(3, .int (x3_15 + (1 : Int32))), (2, .int x2_15), (4, .int ((60 : Int32) * ((v_winterFrom x3_15.toNatClampNeg) + (v_winterLong x3_15.toNatClampNeg)))), (0, .ref h0), (1, .int p1)]) hx hb dX9_sitOut_74 hl (k := 4) rfl rfl (by decide) rfl (fun ls hl => ?_)
            refine lv_goto (tgt := 15) hx hb dX9_sitOut_77 (by decide) ?_
            exact ih x2_15 (x3_15 + (1 : Int32)) e2_15 _ _ _ hM hP hD hS (lv_sub hl [3, 4, 1, 0] rfl) K
          · have hM := g_neg c58 hM
            refine lv_iload hx hb dX9_sitOut_61 (lv_at hl 0 rfl) ?_
            refine lv_iload_n hx hb dX9_sitOut_63 rfl (lv_at hl 3 rfl) ?_
            refine lv_icmp_le (tgt := 72) hx hb dX9_sitOut_64 (by decide) (fun c64 => ?_) (fun c64 => ?_)
            · have hM := g_pos c64 hM
              refine lv_iload_n hx hb dX9_sitOut_72 rfl (lv_at hl 3 rfl) ?_
              refine lv_istore_n (lv' := [(2, .int x2_15), (4, .int ((60 : Int32) * ((v_winterFrom x3_15.toNatClampNeg) + (v_winterLong x3_15.toNatClampNeg)))), (0, .ref h0), (1, .int p1), (3, .int x3_15)]) hx hb dX9_sitOut_73 rfl hl (by decide) rfl (fun ls hl => ?_)
              refine lv_iinc (v := x3_15 + (1 : Int32)) (lv' := [(3, .int (x3_15 + (1 : Int32))), (2, .int x2_15), (4, .int ((60 : Int32) * ((v_winterFrom x3_15.toNatClampNeg) + (v_winterLong x3_15.toNatClampNeg)))), (0, .ref h0), (1, .int p1)]) hx hb dX9_sitOut_74 hl (k := 4) rfl rfl (by decide) rfl (fun ls hl => ?_)
              refine lv_goto (tgt := 15) hx hb dX9_sitOut_77 (by decide) ?_
              exact ih x2_15 (x3_15 + (1 : Int32)) e2_15 _ _ _ hM hP hD hS (lv_sub hl [3, 4, 1, 0] rfl) K
            · have hM := g_neg c64 hM
              refine lv_iload hx hb dX9_sitOut_67 (lv_at hl 0 rfl) ?_
              refine lv_goto (tgt := 73) hx hb dX9_sitOut_69 (by decide) ?_
              refine lv_istore_n (lv' := [(2, .int ((60 : Int32) * ((v_winterFrom x3_15.toNatClampNeg) + (v_winterLong x3_15.toNatClampNeg)))), (4, .int ((60 : Int32) * ((v_winterFrom x3_15.toNatClampNeg) + (v_winterLong x3_15.toNatClampNeg)))), (0, .ref h0), (1, .int p1), (3, .int x3_15)]) hx hb dX9_sitOut_73 rfl hl (by decide) rfl (fun ls hl => ?_)
              refine lv_iinc (v := x3_15 + (1 : Int32)) (lv' := [(3, .int (x3_15 + (1 : Int32))), (2, .int ((60 : Int32) * ((v_winterFrom x3_15.toNatClampNeg) + (v_winterLong x3_15.toNatClampNeg)))), (4, .int ((60 : Int32) * ((v_winterFrom x3_15.toNatClampNeg) + (v_winterLong x3_15.toNatClampNeg)))), (0, .ref h0), (1, .int p1)]) hx hb dX9_sitOut_74 hl (k := 4) rfl rfl (by decide) rfl (fun ls hl => ?_)
              refine lv_goto (tgt := 15) hx hb dX9_sitOut_77 (by decide) ?_
              exact ih ((60 : Int32) * ((v_winterFrom x3_15.toNatClampNeg) + (v_winterLong x3_15.toNatClampNeg))) (x3_15 + (1 : Int32)) e2_15 _ _ _ hM hP hD hS (lv_sub hl [3, 4, 1, 0] rfl) K
    obtain ⟨e2_15, hL15, hM⟩ := ob1_some hM
    refine L15 N (-1 : Int32) (0 : Int32) e2_15 _ _ _ hL15 hP hD hS (lv_sub hl [2, 3, 1, 0] rfl) ?_
    intro H locs ls hP hD hS hl
    refine lv_iload_n hx hb dX9_sitOut_80 rfl (lv_at hl 2 rfl) ?_
    refine lv_iconst (v := -1) hx hb dX9_sitOut_81 (by decide) ?_
    refine lv_icmp_ne (tgt := 87) hx hb dX9_sitOut_82 (by decide) (fun c82 => ?_) (fun c82 => ?_)
    · have hM := g_neg c82 hM
      refine lv_aload_n hx hb dX9_sitOut_87 rfl (lv_at hl 0 rfl) ?_
      refine lv_iload_n hx hb dX9_sitOut_88 rfl (lv_at hl 1 rfl) ?_
      obtain ⟨v_leastTime_89, v_mostTime_89, hc89, hM⟩ := ob2_some hM
      refine cl_vv (As := [.int p1]) (rest := []) (ci := 9) (q0 := 0) (wr := [(h0_mouths, .inl (cy 2, 2, .inl v_mouths)), (h0_winters, .inl (cy 2, 2, .inl v_winters)), (h0_winterFrom, .inl (cy 2, 10, .inl v_winterFrom)), (h0_winterLong, .inl (cy 2, 10, .inl v_winterLong)), (h0_now, .inl (cy 2, 60, .inl v_now))]) (ws2 := [(h0, .inr (9, [oh0_0, oh0_1, oh0_2, .ref h0_parts, .ref h0_rates, .ref h0_ways, oh0_6, .ref h0_mouths, oh0_8, oh0_9, oh0_10, oh0_11, .ref h0_winters, .ref h0_winterFrom, .ref h0_winterLong, oh0_15, oh0_16, oh0_17, oh0_18, oh0_19, oh0_20, oh0_21, .ref h0_now, oh0_23, oh0_24, oh0_25, .ref h0_leastTime, .ref h0_mostTime, oh0_28, oh0_29, oh0_30, oh0_31, oh0_32, oh0_33, oh0_34, oh0_35, oh0_36, oh0_37])), (h0_parts, .inl (cy 2, 2, .inl v_parts)), (h0_rates, .inl (cy 2, 14, .inl v_rates)), (h0_ways, .inl (cy 2, 14, .inl v_ways)), (h0_mouths, .inl (cy 2, 2, .inl v_mouths)), (h0_winters, .inl (cy 2, 2, .inl v_winters)), (h0_winterFrom, .inl (cy 2, 10, .inl v_winterFrom)), (h0_winterLong, .inl (cy 2, 10, .inl v_winterLong)), (h0_now, .inl (cy 2, 60, .inl v_now)), (h0_leastTime, .inl (cy 2, 287, .inl v_leastTime_89)), (h0_mostTime, .inl (cy 2, 287, .inl v_mostTime_89))]) (isC := [0, 1, 2, 3, 9, 10]) (isR := [4, 5, 6, 7, 8]) (pm := [5, 6, 7, 8, 0, 1, 2, 3, 4, 9, 10]) hx hb hml hown hts (c9_findSpans l D cy N h0 h0_parts h0_rates h0_ways h0_leastTime h0_mostTime oh0_0 oh0_1 oh0_2 oh0_6 (.ref h0_mouths) oh0_8 oh0_9 oh0_10 oh0_11 (.ref h0_winters) (.ref h0_winterFrom) (.ref h0_winterLong) oh0_15 oh0_16 oh0_17 oh0_18 oh0_19 oh0_20 oh0_21 (.ref h0_now) oh0_23 oh0_24 oh0_25 oh0_28 oh0_29 oh0_30 oh0_31 oh0_32 oh0_33 oh0_34 oh0_35 oh0_36 oh0_37 p1 v_parts v_rates v_ways v_leastTime v_mostTime v_leastTime_89 v_mostTime_89 hc89) (cwV 1 hts gX9_sitOut_X9_findSpans rfl rfl rfl (by decide +kernel) ⟨Nat.le_of_ble_eq_true rfl, Nat.le_of_ble_eq_true rfl⟩) hK hP hD hS hA rfl rfl rfl rfl rfl (by decide) rfl rfl rfl hl.1 (Nat.le_of_ble_eq_true rfl) dX9_sitOut_89 ⟨Nat.zero_le _, Nat.zero_le _⟩ rfl rfl (fun H locs hP hD hS => ?_)
      refine lv_iconst (v := 1) hx hb dX9_sitOut_92 (by decide) ?_
      refine lv_istore_n (lv' := [(3, .int (1 : Int32)), (0, .ref h0), (1, .int p1), (2, .int e2_15)]) hx hb dX9_sitOut_93 rfl hl (by decide) rfl (fun ls hl => ?_)
      have L94 : ∀ (n : Nat) (x3_94 : Int32) (H : Heap) (locs : List Loc) (ls : Array Slot), f9_sitOut_L94 N p1 v_now e2_15 v_leastTime_89 v_mostTime_89 n x3_94 = some (r, nv_leastTime, nv_mostTime) → va_P D vwCl [(h0, .inr (9, [oh0_0, oh0_1, oh0_2, .ref h0_parts, .ref h0_rates, .ref h0_ways, oh0_6, .ref h0_mouths, oh0_8, oh0_9, oh0_10, oh0_11, .ref h0_winters, .ref h0_winterFrom, .ref h0_winterLong, oh0_15, oh0_16, oh0_17, oh0_18, oh0_19, oh0_20, oh0_21, .ref h0_now, oh0_23, oh0_24, oh0_25, .ref h0_leastTime, .ref h0_mostTime, oh0_28, oh0_29, oh0_30, oh0_31, oh0_32, oh0_33, oh0_34, oh0_35, oh0_36, oh0_37])), (h0_parts, .inl (cy 2, 2, .inl v_parts)), (h0_rates, .inl (cy 2, 14, .inl v_rates)), (h0_ways, .inl (cy 2, 14, .inl v_ways)), (h0_mouths, .inl (cy 2, 2, .inl v_mouths)), (h0_winters, .inl (cy 2, 2, .inl v_winters)), (h0_winterFrom, .inl (cy 2, 10, .inl v_winterFrom)), (h0_winterLong, .inl (cy 2, 10, .inl v_winterLong)), (h0_now, .inl (cy 2, 60, .inl v_now)), (h0_leastTime, .inl (cy 2, 287, .inl v_leastTime_89)), (h0_mostTime, .inl (cy 2, 287, .inl v_mostTime_89))] H → va_D A [(h0, .inr (9, [oh0_0, oh0_1, oh0_2, .ref h0_parts, .ref h0_rates, .ref h0_ways, oh0_6, .ref h0_mouths, oh0_8, oh0_9, oh0_10, oh0_11, .ref h0_winters, .ref h0_winterFrom, .ref h0_winterLong, oh0_15, oh0_16, oh0_17, oh0_18, oh0_19, oh0_20, oh0_21, .ref h0_now, oh0_23, oh0_24, oh0_25, .ref h0_leastTime, .ref h0_mostTime, oh0_28, oh0_29, oh0_30, oh0_31, oh0_32, oh0_33, oh0_34, oh0_35, oh0_36, oh0_37])), (h0_parts, .inl (cy 2, 2, .inl v_parts)), (h0_rates, .inl (cy 2, 14, .inl v_rates)), (h0_ways, .inl (cy 2, 14, .inl v_ways)), (h0_mouths, .inl (cy 2, 2, .inl v_mouths)), (h0_winters, .inl (cy 2, 2, .inl v_winters)), (h0_winterFrom, .inl (cy 2, 10, .inl v_winterFrom)), (h0_winterLong, .inl (cy 2, 10, .inl v_winterLong)), (h0_now, .inl (cy 2, 60, .inl v_now)), (h0_leastTime, .inl (cy 2, 287, .inl v_leastTime_89)), (h0_mostTime, .inl (cy 2, 287, .inl v_mostTime_89))] → va_S A s.heap H locs → lv_has ls 5 [(0, .ref h0), (1, .int p1), (2, .int e2_15), (3, .int x3_94)] → W p l e r9_sitOut s m args below meth c H locs 0 0 Q (F0 m 94 ls []) := by
        intro n
        induction n with
        | zero =>
          intro x3_94 H locs ls hM
          exact absurd hM (by simp [f9_sitOut_L94])
        | succ n ih =>
          intro x3_94 H locs ls hM hP hD hS hl
          rw [f9_sitOut_L94] at hM
          refine lv_iload_n hx hb dX9_sitOut_94 rfl (lv_at hl 3 rfl) ?_
          refine lv_bipush (v := 40) hx hb dX9_sitOut_95 (by decide) ?_
          refine lv_icmp_gt (tgt := 129) hx hb dX9_sitOut_97 (by decide) (fun c97 => ?_) (fun c97 => ?_)
          · have hM := g_pos c97 hM
            refine lv_iconst (v := -1) hx hb dX9_sitOut_129 (by decide) ?_
            obtain ⟨rfl, rfl, rfl⟩ := si3 hM
            exact hret _ _ _ _ _ dX9_sitOut_130 rfl rfl hP hD hS
          · have hM := g_neg c97 hM
            refine lv_aload_n hx hb dX9_sitOut_100 rfl (lv_at hl 0 rfl) ?_
            refine va_get (D := D) (ci := 9) (v := .ref h0_mostTime) (C := RX9) (T := TX9) (N := 38) hx hb hts iX9 hown hK hP 0 rfl rfl 27 (by decide) k63 (fun _ h9 => h9) rfl dX9_sitOut_101 ?_
            refine lv_iload_n hx hb dX9_sitOut_104 rfl (lv_at hl 3 rfl) ?_
            refine lv_iload_n hx hb dX9_sitOut_105 rfl (lv_at hl 1 rfl) ?_
            obtain ⟨r106, hc106, hM⟩ := ob1_some hM
            refine cl_si (As := [.int x3_94, .int p1]) (rest := [.ref h0_mostTime]) (wr := [(h0, .inr (9, [oh0_0, oh0_1, oh0_2, .ref h0_parts, .ref h0_rates, .ref h0_ways, oh0_6, .ref h0_mouths, oh0_8, oh0_9, oh0_10, oh0_11, .ref h0_winters, .ref h0_winterFrom, .ref h0_winterLong, oh0_15, oh0_16, oh0_17, oh0_18, oh0_19, oh0_20, oh0_21, .ref h0_now, oh0_23, oh0_24, oh0_25, .ref h0_leastTime, .ref h0_mostTime, oh0_28, oh0_29, oh0_30, oh0_31, oh0_32, oh0_33, oh0_34, oh0_35, oh0_36, oh0_37])), (h0_parts, .inl (cy 2, 2, .inl v_parts)), (h0_rates, .inl (cy 2, 14, .inl v_rates)), (h0_ways, .inl (cy 2, 14, .inl v_ways)), (h0_mouths, .inl (cy 2, 2, .inl v_mouths)), (h0_winters, .inl (cy 2, 2, .inl v_winters)), (h0_winterFrom, .inl (cy 2, 10, .inl v_winterFrom)), (h0_winterLong, .inl (cy 2, 10, .inl v_winterLong)), (h0_now, .inl (cy 2, 60, .inl v_now)), (h0_leastTime, .inl (cy 2, 287, .inl v_leastTime_89)), (h0_mostTime, .inl (cy 2, 287, .inl v_mostTime_89))]) (ws2 := [(h0, .inr (9, [oh0_0, oh0_1, oh0_2, .ref h0_parts, .ref h0_rates, .ref h0_ways, oh0_6, .ref h0_mouths, oh0_8, oh0_9, oh0_10, oh0_11, .ref h0_winters, .ref h0_winterFrom, .ref h0_winterLong, oh0_15, oh0_16, oh0_17, oh0_18, oh0_19, oh0_20, oh0_21, .ref h0_now, oh0_23, oh0_24, oh0_25, .ref h0_leastTime, .ref h0_mostTime, oh0_28, oh0_29, oh0_30, oh0_31, oh0_32, oh0_33, oh0_34, oh0_35, oh0_36, oh0_37])), (h0_parts, .inl (cy 2, 2, .inl v_parts)), (h0_rates, .inl (cy 2, 14, .inl v_rates)), (h0_ways, .inl (cy 2, 14, .inl v_ways)), (h0_mouths, .inl (cy 2, 2, .inl v_mouths)), (h0_winters, .inl (cy 2, 2, .inl v_winters)), (h0_winterFrom, .inl (cy 2, 10, .inl v_winterFrom)), (h0_winterLong, .inl (cy 2, 10, .inl v_winterLong)), (h0_now, .inl (cy 2, 60, .inl v_now)), (h0_leastTime, .inl (cy 2, 287, .inl v_leastTime_89)), (h0_mostTime, .inl (cy 2, 287, .inl v_mostTime_89))]) (isC := []) (isR := [0, 1, 2, 3, 4, 5, 6, 7, 8, 9, 10]) (pm := [0, 1, 2, 3, 4, 5, 6, 7, 8, 9, 10]) hx hb hml hown hts (c9_index l D cy N x3_94 p1 r106 hc106) (va_cwS 2 hts gX9_sitOut_X9_index rfl rfl rfl (by decide +kernel) ⟨Nat.le_of_ble_eq_true rfl, Nat.le_of_ble_eq_true rfl⟩) hK hP hD hS hA rfl rfl rfl (by decide) rfl rfl rfl hl.1 (Nat.le_of_ble_eq_true rfl) dX9_sitOut_106 ⟨Nat.zero_le _, Nat.zero_le _⟩ rfl rfl (fun H locs hP hD hS => ?_)
            obtain ⟨h109, hM⟩ := gi_some hM
            refine va_iald hx hb hK hP 10 2 rfl rfl h109 dX9_sitOut_109 ?_
            refine lv_iload_n hx hb dX9_sitOut_110 rfl (lv_at hl 2 rfl) ?_
            refine lv_aload_n hx hb dX9_sitOut_111 rfl (lv_at hl 0 rfl) ?_
            refine va_get (D := D) (ci := 9) (v := .ref h0_now) (C := RX9) (T := TX9) (N := 38) hx hb hts iX9 hown hK hP 0 rfl rfl 22 (by decide) k50 (fun _ h9 => h9) rfl dX9_sitOut_112 ?_
            refine lv_iconst (v := 0) hx hb dX9_sitOut_115 (by decide) ?_
            obtain ⟨h116, hM⟩ := gi_some hM
            refine va_iald hx hb hK hP 8 2 rfl rfl h116 dX9_sitOut_116 ?_
            refine lv_isub hx hb dX9_sitOut_117 ?_
            refine lv_icmp_lt (tgt := 123) hx hb dX9_sitOut_118 (by decide) (fun c118 => ?_) (fun c118 => ?_)
            · have hM := g_pos c118 hM
              refine lv_iinc (v := x3_94 + (1 : Int32)) (lv' := [(3, .int (x3_94 + (1 : Int32))), (0, .ref h0), (1, .int p1), (2, .int e2_15)]) hx hb dX9_sitOut_123 hl (k := 3) rfl rfl (by decide) rfl (fun ls hl => ?_)
              refine lv_goto (tgt := 94) hx hb dX9_sitOut_126 (by decide) ?_
              exact ih (x3_94 + (1 : Int32)) _ _ _ hM hP hD hS (lv_sub hl [1, 2, 3, 0] rfl)
            · have hM := g_neg c118 hM
              refine lv_iload_n hx hb dX9_sitOut_121 rfl (lv_at hl 3 rfl) ?_
              obtain ⟨rfl, rfl, rfl⟩ := si3 hM
              exact hret _ _ _ _ _ dX9_sitOut_122 rfl rfl hP hD hS
      exact L94 N (1 : Int32) _ _ _ hM hP hD hS (lv_sub hl [1, 2, 3, 0] rfl)
    · have hM := g_pos c82 hM
      refine lv_iconst (v := 0) hx hb dX9_sitOut_85 (by decide) ?_
      obtain ⟨rfl, rfl, rfl⟩ := si3 hM
      exact hret _ _ _ _ _ dX9_sitOut_86 rfl rfl hP hD hS
  · have hM := g_pos c5 hM
    refine lv_ldc (v := -1000000001) hx hb hown k180 dX9_sitOut_8 ?_
    obtain ⟨rfl, rfl, rfl⟩ := si3 hM
    exact hret _ _ _ _ _ dX9_sitOut_10 rfl rfl hP hD hS

-- ===== X9_tryOut tryOut (II)I =====
abbrev r9_tryOut : Room := { frames := 1, cells := 0, slots := 0, locals := 22 }
def f9_tryOut (N : Nat) (p1 : Int32) (p2 : Int32) (v_tries : Int32) (v_tryDays : Nat → Int32) (v_tryTicks : Nat → Int32) : Option (Int32 × Int32 × (Nat → Int32) × (Nat → Int32)) :=
  ob1 (f9_in N p1 (1 : Int32) (40 : Int32)) fun r4 => if r4 = (0 : Int32) then (some ((-1000000002 : Int32), v_tries, v_tryDays, v_tryTicks)) else (ob1 (f9_in N p2 (0 : Int32) (99999 : Int32)) fun r14 => if r14 = (0 : Int32) then (some ((-1000000002 : Int32), v_tries, v_tryDays, v_tryTicks)) else (if v_tries = (10 : Int32) then (some ((-1000000004 : Int32), v_tries, v_tryDays, v_tryTicks)) else (gi v_tries 10 (gi v_tries 10 (some ((v_tries + (1 : Int32)), (v_tries + (1 : Int32)), (upd v_tryDays v_tries.toNatClampNeg p1), (upd v_tryTicks v_tries.toNatClampNeg p2)))))))
set_option maxHeartbeats 4000000 in
set_option maxRecDepth 100000 in
theorem c9_tryOut (l : Launch) (D : va_G) (cy : Nat → ClassId) (N : Nat) (h0 h0_tryDays h0_tryTicks : Nat) (oh0_0 oh0_1 oh0_2 oh0_3 oh0_4 oh0_5 oh0_6 oh0_7 oh0_8 oh0_9 oh0_10 oh0_11 oh0_12 oh0_13 oh0_14 oh0_15 oh0_16 oh0_17 oh0_18 oh0_19 oh0_20 oh0_21 oh0_22 oh0_23 oh0_24 oh0_25 oh0_26 oh0_27 oh0_28 oh0_29 oh0_33 oh0_34 oh0_35 oh0_36 oh0_37 : Value) (p1 : Int32) (p2 : Int32) (v_tries : Int32) (v_tryDays : Nat → Int32) (v_tryTicks : Nat → Int32) (r : Int32) (nv_tries : Int32) (nv_tryDays : Nat → Int32) (nv_tryTicks : Nat → Int32) (hM : f9_tryOut N p1 p2 v_tries v_tryDays v_tryTicks = some (r, nv_tries, nv_tryDays, nv_tryTicks)) (sz : Nat) : CTi l yX9_tryOut wsX9_tryOut r9_tryOut [.ref h0, .int p1, .int p2] D cy sz [(h0, .inr (9, [oh0_0, oh0_1, oh0_2, oh0_3, oh0_4, oh0_5, oh0_6, oh0_7, oh0_8, oh0_9, oh0_10, oh0_11, oh0_12, oh0_13, oh0_14, oh0_15, oh0_16, oh0_17, oh0_18, oh0_19, oh0_20, oh0_21, oh0_22, oh0_23, oh0_24, oh0_25, oh0_26, oh0_27, oh0_28, oh0_29, .ref h0_tryDays, .ref h0_tryTicks, .int v_tries, oh0_33, oh0_34, oh0_35, oh0_36, oh0_37])), (h0_tryDays, .inl (cy 2, 10, .inl v_tryDays)), (h0_tryTicks, .inl (cy 2, 10, .inl v_tryTicks))] [(h0, .inr (9, [oh0_0, oh0_1, oh0_2, oh0_3, oh0_4, oh0_5, oh0_6, oh0_7, oh0_8, oh0_9, oh0_10, oh0_11, oh0_12, oh0_13, oh0_14, oh0_15, oh0_16, oh0_17, oh0_18, oh0_19, oh0_20, oh0_21, oh0_22, oh0_23, oh0_24, oh0_25, oh0_26, oh0_27, oh0_28, oh0_29, .ref h0_tryDays, .ref h0_tryTicks, .int nv_tries, oh0_33, oh0_34, oh0_35, oh0_36, oh0_37])), (h0_tryDays, .inl (cy 2, 10, .inl nv_tryDays)), (h0_tryTicks, .inl (cy 2, 10, .inl nv_tryTicks))] r := by
  unfold f9_tryOut at hM
  refine ct_oi (cc := cX9_tryOut) (maxL := 3) (ty := .int) (by decide +kernel) rfl (Nat.le_of_ble_eq_true rfl) (lv0 := [(0, .ref h0), (1, .int p1), (2, .int p2)]) rfl ?_
  intro p e s m args below meth c A Q ls hx hb hts hown hml hK hP hD hS hA hret hl
  have hown : s.vm.findClass RX9 = some m.cls := hown
  have k99 := hts (.constant RX9 99 (-1000000002)) (List.mem_of_getElem? (i := 2) rfl)
  have k251 := hts (.constant RX9 251 (99999)) (List.mem_of_getElem? (i := 1) rfl)
  have k162 := hts (.fieldLink RX9 162 "CaveYearsModel" "tries" "I") (List.mem_of_getElem? (i := 3) rfl)
  have iX9 := (fun w h => (List.mem_cons_of_mem _ (List.mem_append_right _ h)) : ∀ w ∈ wsX90, w ∈ wsX9_tryOut)
  have k73 := hts (.fieldLink RX9 73 "CaveYearsModel" "tryDays" "[I") (List.mem_of_getElem? (i := 5) rfl)
  have k76 := hts (.fieldLink RX9 76 "CaveYearsModel" "tryTicks" "[I") (List.mem_of_getElem? (i := 6) rfl)
  have k103 := hts (.constant RX9 103 (-1000000004)) (List.mem_of_getElem? (i := 4) rfl)
  refine lv_iload_n hx hb dX9_tryOut_0 rfl (lv_at hl 1 rfl) ?_
  refine lv_iconst (v := 1) hx hb dX9_tryOut_1 (by decide) ?_
  refine lv_bipush (v := 40) hx hb dX9_tryOut_2 (by decide) ?_
  obtain ⟨r4, hc4, hM⟩ := ob1_some hM
  refine cl_si (As := [.int p1, .int (1 : Int32), .int (40 : Int32)]) (rest := []) (wr := [(h0, .inr (9, [oh0_0, oh0_1, oh0_2, oh0_3, oh0_4, oh0_5, oh0_6, oh0_7, oh0_8, oh0_9, oh0_10, oh0_11, oh0_12, oh0_13, oh0_14, oh0_15, oh0_16, oh0_17, oh0_18, oh0_19, oh0_20, oh0_21, oh0_22, oh0_23, oh0_24, oh0_25, oh0_26, oh0_27, oh0_28, oh0_29, .ref h0_tryDays, .ref h0_tryTicks, .int v_tries, oh0_33, oh0_34, oh0_35, oh0_36, oh0_37])), (h0_tryDays, .inl (cy 2, 10, .inl v_tryDays)), (h0_tryTicks, .inl (cy 2, 10, .inl v_tryTicks))]) (ws2 := [(h0, .inr (9, [oh0_0, oh0_1, oh0_2, oh0_3, oh0_4, oh0_5, oh0_6, oh0_7, oh0_8, oh0_9, oh0_10, oh0_11, oh0_12, oh0_13, oh0_14, oh0_15, oh0_16, oh0_17, oh0_18, oh0_19, oh0_20, oh0_21, oh0_22, oh0_23, oh0_24, oh0_25, oh0_26, oh0_27, oh0_28, oh0_29, .ref h0_tryDays, .ref h0_tryTicks, .int v_tries, oh0_33, oh0_34, oh0_35, oh0_36, oh0_37])), (h0_tryDays, .inl (cy 2, 10, .inl v_tryDays)), (h0_tryTicks, .inl (cy 2, 10, .inl v_tryTicks))]) (isC := []) (isR := [0, 1, 2]) (pm := [0, 1, 2]) hx hb hml hown hts (c9_in l D cy N p1 (1 : Int32) (40 : Int32) r4 hc4) (va_cwS 3 hts gX9_tryOut_X9_in rfl rfl rfl (by decide +kernel) ⟨Nat.le_of_ble_eq_true rfl, Nat.le_of_ble_eq_true rfl⟩) hK hP hD hS hA rfl rfl rfl (by decide) rfl rfl rfl hl.1 (Nat.le_of_ble_eq_true rfl) dX9_tryOut_4 ⟨Nat.zero_le _, Nat.zero_le _⟩ rfl rfl (fun H locs hP hD hS => ?_)
  refine lv_if_eq (tgt := 20) hx hb dX9_tryOut_7 (by decide) (fun c7 => ?_) (fun c7 => ?_)
  · have hM := g_pos c7 hM
    refine lv_ldc (v := -1000000002) hx hb hown k99 dX9_tryOut_20 ?_
    obtain ⟨rfl, rfl, rfl, rfl⟩ := si4 hM
    exact hret _ _ _ _ _ dX9_tryOut_22 rfl rfl hP hD hS
  · have hM := g_neg c7 hM
    refine lv_iload_n hx hb dX9_tryOut_10 rfl (lv_at hl 2 rfl) ?_
    refine lv_iconst (v := 0) hx hb dX9_tryOut_11 (by decide) ?_
    refine lv_ldc (v := 99999) hx hb hown k251 dX9_tryOut_12 ?_
    obtain ⟨r14, hc14, hM⟩ := ob1_some hM
    refine cl_si (As := [.int p2, .int (0 : Int32), .int (99999 : Int32)]) (rest := []) (wr := [(h0, .inr (9, [oh0_0, oh0_1, oh0_2, oh0_3, oh0_4, oh0_5, oh0_6, oh0_7, oh0_8, oh0_9, oh0_10, oh0_11, oh0_12, oh0_13, oh0_14, oh0_15, oh0_16, oh0_17, oh0_18, oh0_19, oh0_20, oh0_21, oh0_22, oh0_23, oh0_24, oh0_25, oh0_26, oh0_27, oh0_28, oh0_29, .ref h0_tryDays, .ref h0_tryTicks, .int v_tries, oh0_33, oh0_34, oh0_35, oh0_36, oh0_37])), (h0_tryDays, .inl (cy 2, 10, .inl v_tryDays)), (h0_tryTicks, .inl (cy 2, 10, .inl v_tryTicks))]) (ws2 := [(h0, .inr (9, [oh0_0, oh0_1, oh0_2, oh0_3, oh0_4, oh0_5, oh0_6, oh0_7, oh0_8, oh0_9, oh0_10, oh0_11, oh0_12, oh0_13, oh0_14, oh0_15, oh0_16, oh0_17, oh0_18, oh0_19, oh0_20, oh0_21, oh0_22, oh0_23, oh0_24, oh0_25, oh0_26, oh0_27, oh0_28, oh0_29, .ref h0_tryDays, .ref h0_tryTicks, .int v_tries, oh0_33, oh0_34, oh0_35, oh0_36, oh0_37])), (h0_tryDays, .inl (cy 2, 10, .inl v_tryDays)), (h0_tryTicks, .inl (cy 2, 10, .inl v_tryTicks))]) (isC := []) (isR := [0, 1, 2]) (pm := [0, 1, 2]) hx hb hml hown hts (c9_in l D cy N p2 (0 : Int32) (99999 : Int32) r14 hc14) (va_cwS 3 hts gX9_tryOut_X9_in rfl rfl rfl (by decide +kernel) ⟨Nat.le_of_ble_eq_true rfl, Nat.le_of_ble_eq_true rfl⟩) hK hP hD hS hA rfl rfl rfl (by decide) rfl rfl rfl hl.1 (Nat.le_of_ble_eq_true rfl) dX9_tryOut_14 ⟨Nat.zero_le _, Nat.zero_le _⟩ rfl rfl (fun H locs hP hD hS => ?_)
    refine lv_if_ne (tgt := 23) hx hb dX9_tryOut_17 (by decide) (fun c17 => ?_) (fun c17 => ?_)
    · have hM := g_neg c17 hM
      refine lv_aload_n hx hb dX9_tryOut_23 rfl (lv_at hl 0 rfl) ?_
      refine va_get (D := D) (ci := 9) (v := .int v_tries) (C := RX9) (T := TX9) (N := 38) hx hb hts iX9 hown hK hP 0 rfl rfl 32 (by decide) k162 (fun _ h9 => h9) rfl dX9_tryOut_24 ?_
      refine lv_bipush (v := 10) hx hb dX9_tryOut_27 (by decide) ?_
      refine lv_icmp_ne (tgt := 35) hx hb dX9_tryOut_29 (by decide) (fun c29 => ?_) (fun c29 => ?_)
      · have hM := g_neg c29 hM
        refine lv_aload_n hx hb dX9_tryOut_35 rfl (lv_at hl 0 rfl) ?_
        refine va_get (D := D) (ci := 9) (v := .ref h0_tryDays) (C := RX9) (T := TX9) (N := 38) hx hb hts iX9 hown hK hP 0 rfl rfl 30 (by decide) k73 (fun _ h9 => h9) rfl dX9_tryOut_36 ?_
        refine lv_aload_n hx hb dX9_tryOut_39 rfl (lv_at hl 0 rfl) ?_
        refine va_get (D := D) (ci := 9) (v := .int v_tries) (C := RX9) (T := TX9) (N := 38) hx hb hts iX9 hown hK hP 0 rfl rfl 32 (by decide) k162 (fun _ h9 => h9) rfl dX9_tryOut_40 ?_
        refine lv_iload_n hx hb dX9_tryOut_43 rfl (lv_at hl 1 rfl) ?_
        obtain ⟨h44, hM⟩ := gi_some hM
        refine va_iast hx hb hK hP hD hS 1 2 rfl rfl h44 dX9_tryOut_44 (fun H locs hP hD hS => ?_)
        have hP : va_P D vwCl [(h0, .inr (9, [oh0_0, oh0_1, oh0_2, oh0_3, oh0_4, oh0_5, oh0_6, oh0_7, oh0_8, oh0_9, oh0_10, oh0_11, oh0_12, oh0_13, oh0_14, oh0_15, oh0_16, oh0_17, oh0_18, oh0_19, oh0_20, oh0_21, oh0_22, oh0_23, oh0_24, oh0_25, oh0_26, oh0_27, oh0_28, oh0_29, .ref h0_tryDays, .ref h0_tryTicks, .int v_tries, oh0_33, oh0_34, oh0_35, oh0_36, oh0_37])), (h0_tryDays, .inl (cy 2, 10, .inl (upd v_tryDays v_tries.toNatClampNeg p1))), (h0_tryTicks, .inl (cy 2, 10, .inl v_tryTicks))] H := hP
        have hD : va_D A [(h0, .inr (9, [oh0_0, oh0_1, oh0_2, oh0_3, oh0_4, oh0_5, oh0_6, oh0_7, oh0_8, oh0_9, oh0_10, oh0_11, oh0_12, oh0_13, oh0_14, oh0_15, oh0_16, oh0_17, oh0_18, oh0_19, oh0_20, oh0_21, oh0_22, oh0_23, oh0_24, oh0_25, oh0_26, oh0_27, oh0_28, oh0_29, .ref h0_tryDays, .ref h0_tryTicks, .int v_tries, oh0_33, oh0_34, oh0_35, oh0_36, oh0_37])), (h0_tryDays, .inl (cy 2, 10, .inl (upd v_tryDays v_tries.toNatClampNeg p1))), (h0_tryTicks, .inl (cy 2, 10, .inl v_tryTicks))] := hD
        refine lv_aload_n hx hb dX9_tryOut_45 rfl (lv_at hl 0 rfl) ?_
        refine va_get (D := D) (ci := 9) (v := .ref h0_tryTicks) (C := RX9) (T := TX9) (N := 38) hx hb hts iX9 hown hK hP 0 rfl rfl 31 (by decide) k76 (fun _ h9 => h9) rfl dX9_tryOut_46 ?_
        refine lv_aload_n hx hb dX9_tryOut_49 rfl (lv_at hl 0 rfl) ?_
        refine va_get (D := D) (ci := 9) (v := .int v_tries) (C := RX9) (T := TX9) (N := 38) hx hb hts iX9 hown hK hP 0 rfl rfl 32 (by decide) k162 (fun _ h9 => h9) rfl dX9_tryOut_50 ?_
        refine lv_iload_n hx hb dX9_tryOut_53 rfl (lv_at hl 2 rfl) ?_
        obtain ⟨h54, hM⟩ := gi_some hM
        refine va_iast hx hb hK hP hD hS 2 2 rfl rfl h54 dX9_tryOut_54 (fun H locs hP hD hS => ?_)
        have hP : va_P D vwCl [(h0, .inr (9, [oh0_0, oh0_1, oh0_2, oh0_3, oh0_4, oh0_5, oh0_6, oh0_7, oh0_8, oh0_9, oh0_10, oh0_11, oh0_12, oh0_13, oh0_14, oh0_15, oh0_16, oh0_17, oh0_18, oh0_19, oh0_20, oh0_21, oh0_22, oh0_23, oh0_24, oh0_25, oh0_26, oh0_27, oh0_28, oh0_29, .ref h0_tryDays, .ref h0_tryTicks, .int v_tries, oh0_33, oh0_34, oh0_35, oh0_36, oh0_37])), (h0_tryDays, .inl (cy 2, 10, .inl (upd v_tryDays v_tries.toNatClampNeg p1))), (h0_tryTicks, .inl (cy 2, 10, .inl (upd v_tryTicks v_tries.toNatClampNeg p2)))] H := hP
        have hD : va_D A [(h0, .inr (9, [oh0_0, oh0_1, oh0_2, oh0_3, oh0_4, oh0_5, oh0_6, oh0_7, oh0_8, oh0_9, oh0_10, oh0_11, oh0_12, oh0_13, oh0_14, oh0_15, oh0_16, oh0_17, oh0_18, oh0_19, oh0_20, oh0_21, oh0_22, oh0_23, oh0_24, oh0_25, oh0_26, oh0_27, oh0_28, oh0_29, .ref h0_tryDays, .ref h0_tryTicks, .int v_tries, oh0_33, oh0_34, oh0_35, oh0_36, oh0_37])), (h0_tryDays, .inl (cy 2, 10, .inl (upd v_tryDays v_tries.toNatClampNeg p1))), (h0_tryTicks, .inl (cy 2, 10, .inl (upd v_tryTicks v_tries.toNatClampNeg p2)))] := hD
        refine lv_aload_n hx hb dX9_tryOut_55 rfl (lv_at hl 0 rfl) ?_
        refine lv_dup hx hb dX9_tryOut_56 rfl ?_
        refine va_get (D := D) (ci := 9) (v := .int v_tries) (C := RX9) (T := TX9) (N := 38) hx hb hts iX9 hown hK hP 0 rfl rfl 32 (by decide) k162 (fun _ h9 => h9) rfl dX9_tryOut_57 ?_
        refine lv_iconst (v := 1) hx hb dX9_tryOut_60 (by decide) ?_
        refine lv_iadd hx hb dX9_tryOut_61 ?_
        refine va_put (D := D) (ci := 9) (v := .int (v_tries + (1 : Int32))) (ty := .int) (C := RX9) (T := TX9) (N := 38) hx hb hts iX9 tyX9 tyX9_ok nmX9 hown hK hP hD hS 0 rfl rfl 32 (by decide) k162 (fun _ h9 => h9) rfl (by decide +kernel) rfl rfl (Nat.le_of_ble_eq_true rfl) dX9_tryOut_62 (fun H locs hP hD hS => ?_)
        have hP : va_P D vwCl [(h0, .inr (9, [oh0_0, oh0_1, oh0_2, oh0_3, oh0_4, oh0_5, oh0_6, oh0_7, oh0_8, oh0_9, oh0_10, oh0_11, oh0_12, oh0_13, oh0_14, oh0_15, oh0_16, oh0_17, oh0_18, oh0_19, oh0_20, oh0_21, oh0_22, oh0_23, oh0_24, oh0_25, oh0_26, oh0_27, oh0_28, oh0_29, .ref h0_tryDays, .ref h0_tryTicks, .int (v_tries + (1 : Int32)), oh0_33, oh0_34, oh0_35, oh0_36, oh0_37])), (h0_tryDays, .inl (cy 2, 10, .inl (upd v_tryDays v_tries.toNatClampNeg p1))), (h0_tryTicks, .inl (cy 2, 10, .inl (upd v_tryTicks v_tries.toNatClampNeg p2)))] H := hP
        have hD : va_D A [(h0, .inr (9, [oh0_0, oh0_1, oh0_2, oh0_3, oh0_4, oh0_5, oh0_6, oh0_7, oh0_8, oh0_9, oh0_10, oh0_11, oh0_12, oh0_13, oh0_14, oh0_15, oh0_16, oh0_17, oh0_18, oh0_19, oh0_20, oh0_21, oh0_22, oh0_23, oh0_24, oh0_25, oh0_26, oh0_27, oh0_28, oh0_29, .ref h0_tryDays, .ref h0_tryTicks, .int (v_tries + (1 : Int32)), oh0_33, oh0_34, oh0_35, oh0_36, oh0_37])), (h0_tryDays, .inl (cy 2, 10, .inl (upd v_tryDays v_tries.toNatClampNeg p1))), (h0_tryTicks, .inl (cy 2, 10, .inl (upd v_tryTicks v_tries.toNatClampNeg p2)))] := hD
        refine lv_aload_n hx hb dX9_tryOut_65 rfl (lv_at hl 0 rfl) ?_
        refine va_get (D := D) (ci := 9) (v := .int (v_tries + (1 : Int32))) (C := RX9) (T := TX9) (N := 38) hx hb hts iX9 hown hK hP 0 rfl rfl 32 (by decide) k162 (fun _ h9 => h9) rfl dX9_tryOut_66 ?_
        obtain ⟨rfl, rfl, rfl, rfl⟩ := si4 hM
        exact hret _ _ _ _ _ dX9_tryOut_69 rfl rfl hP hD hS
      · have hM := g_pos c29 hM
        refine lv_ldc (v := -1000000004) hx hb hown k103 dX9_tryOut_32 ?_
        obtain ⟨rfl, rfl, rfl, rfl⟩ := si4 hM
        exact hret _ _ _ _ _ dX9_tryOut_34 rfl rfl hP hD hS
    · have hM := g_pos c17 hM
      refine lv_ldc (v := -1000000002) hx hb hown k99 dX9_tryOut_20 ?_
      obtain ⟨rfl, rfl, rfl, rfl⟩ := si4 hM
      exact hret _ _ _ _ _ dX9_tryOut_22 rfl rfl hP hD hS

-- ===== X9_fits fits ()I =====
abbrev r9_fits : Room := { frames := 0, cells := 0, slots := 0, locals := 0 }
def f9_fits_L19 (N : Nat) (v_tries : Int32) (v_rates : Nat → Int32) (v_tryDays : Nat → Int32) (v_tryTicks : Nat → Int32) (x2_4 : Int32) : Nat → Int32 → Int32 → Option Int32
  | 0, _, _ => none
  | n + 1, x3_19, x4_19 => if v_tries ≤ x4_19 then (some x3_19) else (if x3_19 = (0 : Int32) then ((f9_fits_L19 N v_tries v_rates v_tryDays v_tryTicks x2_4 n) (0 : Int32) (x4_19 + (1 : Int32))) else (gi x4_19 10 (gi x2_4 14 (gi x4_19 10 (if ((v_tryDays x4_19.toNatClampNeg) * (v_rates x2_4.toNatClampNeg)) = (v_tryTicks x4_19.toNatClampNeg) then ((f9_fits_L19 N v_tries v_rates v_tryDays v_tryTicks x2_4 n) (1 : Int32) (x4_19 + (1 : Int32))) else ((f9_fits_L19 N v_tries v_rates v_tryDays v_tryTicks x2_4 n) (0 : Int32) (x4_19 + (1 : Int32))))))))
def f9_fits_L4 (N : Nat) (v_tries : Int32) (v_parts : Nat → Int32) (v_rates : Nat → Int32) (v_tryDays : Nat → Int32) (v_tryTicks : Nat → Int32) : Nat → Int32 → Int32 → Option Int32
  | 0, _, _ => none
  | n + 1, x1_4, x2_4 => gi (0 : Int32) 2 (if (v_parts (0 : Int32).toNatClampNeg) ≤ x2_4 then (some x1_4) else (ob1 (f9_fits_L19 N v_tries v_rates v_tryDays v_tryTicks x2_4 N (1 : Int32) (0 : Int32)) fun e3_19 => if e3_19 = (0 : Int32) then ((f9_fits_L4 N v_tries v_parts v_rates v_tryDays v_tryTicks n) (x1_4 ||| (0 : Int32)) (x2_4 + (1 : Int32))) else ((f9_fits_L4 N v_tries v_parts v_rates v_tryDays v_tryTicks n) (x1_4 ||| ((1 : Int32) <<< (x2_4 &&& 31))) (x2_4 + (1 : Int32)))))
def f9_fits (N : Nat) (v_tries : Int32) (v_parts : Nat → Int32) (v_rates : Nat → Int32) (v_tryDays : Nat → Int32) (v_tryTicks : Nat → Int32) : Option Int32 :=
  ob1 (f9_fits_L4 N v_tries v_parts v_rates v_tryDays v_tryTicks N (0 : Int32) (0 : Int32)) fun e1_4 => some e1_4
set_option maxHeartbeats 4000000 in
set_option maxRecDepth 100000 in
theorem c9_fits (l : Launch) (D : va_G) (cy : Nat → ClassId) (N : Nat) (h0 h0_parts h0_rates h0_tryDays h0_tryTicks : Nat) (oh0_0 oh0_1 oh0_2 oh0_5 oh0_6 oh0_7 oh0_8 oh0_9 oh0_10 oh0_11 oh0_12 oh0_13 oh0_14 oh0_15 oh0_16 oh0_17 oh0_18 oh0_19 oh0_20 oh0_21 oh0_22 oh0_23 oh0_24 oh0_25 oh0_26 oh0_27 oh0_28 oh0_29 oh0_33 oh0_34 oh0_35 oh0_36 oh0_37 : Value) (v_tries : Int32) (v_parts : Nat → Int32) (v_rates : Nat → Int32) (v_tryDays : Nat → Int32) (v_tryTicks : Nat → Int32) (r : Int32) (hM : f9_fits N v_tries v_parts v_rates v_tryDays v_tryTicks = some r) (sz : Nat) : CTi l yX9_fits wsX9_fits r9_fits [.ref h0] D cy sz [(h0, .inr (9, [oh0_0, oh0_1, oh0_2, .ref h0_parts, .ref h0_rates, oh0_5, oh0_6, oh0_7, oh0_8, oh0_9, oh0_10, oh0_11, oh0_12, oh0_13, oh0_14, oh0_15, oh0_16, oh0_17, oh0_18, oh0_19, oh0_20, oh0_21, oh0_22, oh0_23, oh0_24, oh0_25, oh0_26, oh0_27, oh0_28, oh0_29, .ref h0_tryDays, .ref h0_tryTicks, .int v_tries, oh0_33, oh0_34, oh0_35, oh0_36, oh0_37])), (h0_parts, .inl (cy 2, 2, .inl v_parts)), (h0_rates, .inl (cy 2, 14, .inl v_rates)), (h0_tryDays, .inl (cy 2, 10, .inl v_tryDays)), (h0_tryTicks, .inl (cy 2, 10, .inl v_tryTicks))] [(h0, .inr (9, [oh0_0, oh0_1, oh0_2, .ref h0_parts, .ref h0_rates, oh0_5, oh0_6, oh0_7, oh0_8, oh0_9, oh0_10, oh0_11, oh0_12, oh0_13, oh0_14, oh0_15, oh0_16, oh0_17, oh0_18, oh0_19, oh0_20, oh0_21, oh0_22, oh0_23, oh0_24, oh0_25, oh0_26, oh0_27, oh0_28, oh0_29, .ref h0_tryDays, .ref h0_tryTicks, .int v_tries, oh0_33, oh0_34, oh0_35, oh0_36, oh0_37])), (h0_parts, .inl (cy 2, 2, .inl v_parts)), (h0_rates, .inl (cy 2, 14, .inl v_rates)), (h0_tryDays, .inl (cy 2, 10, .inl v_tryDays)), (h0_tryTicks, .inl (cy 2, 10, .inl v_tryTicks))] r := by
  unfold f9_fits at hM
  refine ct_oi (cc := cX9_fits) (maxL := 5) (ty := .int) (by decide +kernel) rfl (Nat.le_of_ble_eq_true rfl) (lv0 := [(0, .ref h0)]) rfl ?_
  intro p e s m args below meth c A Q ls hx hb hts hown hml hK hP hD hS hA hret hl
  have hown : s.vm.findClass RX9 = some m.cls := hown
  have k13 := hts (.fieldLink RX9 13 "CaveYearsModel" "parts" "[I") (List.mem_of_getElem? (i := 1) rfl)
  have iX9 := (fun w h => (List.mem_cons_of_mem _ (List.mem_append_right _ h)) : ∀ w ∈ wsX90, w ∈ wsX9_fits)
  have k162 := hts (.fieldLink RX9 162 "CaveYearsModel" "tries" "I") (List.mem_of_getElem? (i := 2) rfl)
  have k73 := hts (.fieldLink RX9 73 "CaveYearsModel" "tryDays" "[I") (List.mem_of_getElem? (i := 3) rfl)
  have k17 := hts (.fieldLink RX9 17 "CaveYearsModel" "rates" "[I") (List.mem_of_getElem? (i := 4) rfl)
  have k76 := hts (.fieldLink RX9 76 "CaveYearsModel" "tryTicks" "[I") (List.mem_of_getElem? (i := 5) rfl)
  refine lv_iconst (v := 0) hx hb dX9_fits_0 (by decide) ?_
  refine lv_istore_n (lv' := [(1, .int (0 : Int32)), (0, .ref h0)]) hx hb dX9_fits_1 rfl hl (by decide) rfl (fun ls hl => ?_)
  refine lv_iconst (v := 0) hx hb dX9_fits_2 (by decide) ?_
  refine lv_istore_n (lv' := [(2, .int (0 : Int32)), (1, .int (0 : Int32)), (0, .ref h0)]) hx hb dX9_fits_3 rfl hl (by decide) rfl (fun ls hl => ?_)
  have L4 : ∀ (n : Nat) (x1_4 : Int32) (x2_4 : Int32) (e1_4 : Int32) (H : Heap) (locs : List Loc) (ls : Array Slot), f9_fits_L4 N v_tries v_parts v_rates v_tryDays v_tryTicks n x1_4 x2_4 = some e1_4 → va_P D vwCl [(h0, .inr (9, [oh0_0, oh0_1, oh0_2, .ref h0_parts, .ref h0_rates, oh0_5, oh0_6, oh0_7, oh0_8, oh0_9, oh0_10, oh0_11, oh0_12, oh0_13, oh0_14, oh0_15, oh0_16, oh0_17, oh0_18, oh0_19, oh0_20, oh0_21, oh0_22, oh0_23, oh0_24, oh0_25, oh0_26, oh0_27, oh0_28, oh0_29, .ref h0_tryDays, .ref h0_tryTicks, .int v_tries, oh0_33, oh0_34, oh0_35, oh0_36, oh0_37])), (h0_parts, .inl (cy 2, 2, .inl v_parts)), (h0_rates, .inl (cy 2, 14, .inl v_rates)), (h0_tryDays, .inl (cy 2, 10, .inl v_tryDays)), (h0_tryTicks, .inl (cy 2, 10, .inl v_tryTicks))] H → va_D A [(h0, .inr (9, [oh0_0, oh0_1, oh0_2, .ref h0_parts, .ref h0_rates, oh0_5, oh0_6, oh0_7, oh0_8, oh0_9, oh0_10, oh0_11, oh0_12, oh0_13, oh0_14, oh0_15, oh0_16, oh0_17, oh0_18, oh0_19, oh0_20, oh0_21, oh0_22, oh0_23, oh0_24, oh0_25, oh0_26, oh0_27, oh0_28, oh0_29, .ref h0_tryDays, .ref h0_tryTicks, .int v_tries, oh0_33, oh0_34, oh0_35, oh0_36, oh0_37])), (h0_parts, .inl (cy 2, 2, .inl v_parts)), (h0_rates, .inl (cy 2, 14, .inl v_rates)), (h0_tryDays, .inl (cy 2, 10, .inl v_tryDays)), (h0_tryTicks, .inl (cy 2, 10, .inl v_tryTicks))] → va_S A s.heap H locs → lv_has ls 5 [(0, .ref h0), (1, .int x1_4), (2, .int x2_4)] → (∀ (H : Heap) (locs : List Loc) (ls : Array Slot), va_P D vwCl [(h0, .inr (9, [oh0_0, oh0_1, oh0_2, .ref h0_parts, .ref h0_rates, oh0_5, oh0_6, oh0_7, oh0_8, oh0_9, oh0_10, oh0_11, oh0_12, oh0_13, oh0_14, oh0_15, oh0_16, oh0_17, oh0_18, oh0_19, oh0_20, oh0_21, oh0_22, oh0_23, oh0_24, oh0_25, oh0_26, oh0_27, oh0_28, oh0_29, .ref h0_tryDays, .ref h0_tryTicks, .int v_tries, oh0_33, oh0_34, oh0_35, oh0_36, oh0_37])), (h0_parts, .inl (cy 2, 2, .inl v_parts)), (h0_rates, .inl (cy 2, 14, .inl v_rates)), (h0_tryDays, .inl (cy 2, 10, .inl v_tryDays)), (h0_tryTicks, .inl (cy 2, 10, .inl v_tryTicks))] H → va_D A [(h0, .inr (9, [oh0_0, oh0_1, oh0_2, .ref h0_parts, .ref h0_rates, oh0_5, oh0_6, oh0_7, oh0_8, oh0_9, oh0_10, oh0_11, oh0_12, oh0_13, oh0_14, oh0_15, oh0_16, oh0_17, oh0_18, oh0_19, oh0_20, oh0_21, oh0_22, oh0_23, oh0_24, oh0_25, oh0_26, oh0_27, oh0_28, oh0_29, .ref h0_tryDays, .ref h0_tryTicks, .int v_tries, oh0_33, oh0_34, oh0_35, oh0_36, oh0_37])), (h0_parts, .inl (cy 2, 2, .inl v_parts)), (h0_rates, .inl (cy 2, 14, .inl v_rates)), (h0_tryDays, .inl (cy 2, 10, .inl v_tryDays)), (h0_tryTicks, .inl (cy 2, 10, .inl v_tryTicks))] → va_S A s.heap H locs → lv_has ls 5 [(1, .int e1_4)] → W p l e r9_fits s m args below meth c H locs 0 0 Q (F0 m 88 ls [])) → W p l e r9_fits s m args below meth c H locs 0 0 Q (F0 m 4 ls []) := by
    intro n
    induction n with
    | zero =>
      intro x1_4 x2_4 e1_4 H locs ls hM
      exact absurd hM (by simp [f9_fits_L4])
    | succ n ih =>
      intro x1_4 x2_4 e1_4 H locs ls hM hP hD hS hl K
      rw [f9_fits_L4] at hM
      refine lv_iload_n hx hb dX9_fits_4 rfl (lv_at hl 2 rfl) ?_
      refine lv_aload_n hx hb dX9_fits_5 rfl (lv_at hl 0 rfl) ?_
      refine va_get (D := D) (ci := 9) (v := .ref h0_parts) (C := RX9) (T := TX9) (N := 38) hx hb hts iX9 hown hK hP 0 rfl rfl 3 (by decide) k13 (fun _ h9 => h9) rfl dX9_fits_6 ?_
      refine lv_iconst (v := 0) hx hb dX9_fits_9 (by decide) ?_
      obtain ⟨h10, hM⟩ := gi_some hM
      refine va_iald hx hb hK hP 1 2 rfl rfl h10 dX9_fits_10 ?_
      refine lv_icmp_ge (tgt := 88) hx hb dX9_fits_11 (by decide) (fun c11 => ?_) (fun c11 => ?_)
      · have hM := g_pos c11 hM
        obtain rfl := si1 hM
        exact K _ _ _ hP hD hS (lv_sub hl [1] rfl)
      · have hM := g_neg c11 hM
        refine lv_iconst (v := 1) hx hb dX9_fits_14 (by decide) ?_
        refine lv_istore_n (lv' := [(3, .int (1 : Int32)), (0, .ref h0), (1, .int x1_4), (2, .int x2_4)]) hx hb dX9_fits_15 rfl hl (by decide) rfl (fun ls hl => ?_)
        refine lv_iconst (v := 0) hx hb dX9_fits_16 (by decide) ?_
        refine lv_istore (lv' := [(4, .int (0 : Int32)), (3, .int (1 : Int32)), (0, .ref h0), (1, .int x1_4), (2, .int x2_4)]) hx hb dX9_fits_17 hl (by decide) rfl (fun ls hl => ?_)
        have L19 : ∀ (n : Nat) (x3_19 : Int32) (x4_19 : Int32) (e3_19 : Int32) (H : Heap) (locs : List Loc) (ls : Array Slot), f9_fits_L19 N v_tries v_rates v_tryDays v_tryTicks x2_4 n x3_19 x4_19 = some e3_19 → va_P D vwCl [(h0, .inr (9, [oh0_0, oh0_1, oh0_2, .ref h0_parts, .ref h0_rates, oh0_5, oh0_6, oh0_7, oh0_8, oh0_9, oh0_10, oh0_11, oh0_12, oh0_13, oh0_14, oh0_15, oh0_16, oh0_17, oh0_18, oh0_19, oh0_20, oh0_21, oh0_22, oh0_23, oh0_24, oh0_25, oh0_26, oh0_27, oh0_28, oh0_29, .ref h0_tryDays, .ref h0_tryTicks, .int v_tries, oh0_33, oh0_34, oh0_35, oh0_36, oh0_37])), (h0_parts, .inl (cy 2, 2, .inl v_parts)), (h0_rates, .inl (cy 2, 14, .inl v_rates)), (h0_tryDays, .inl (cy 2, 10, .inl v_tryDays)), (h0_tryTicks, .inl (cy 2, 10, .inl v_tryTicks))] H → va_D A [(h0, .inr (9, [oh0_0, oh0_1, oh0_2, .ref h0_parts, .ref h0_rates, oh0_5, oh0_6, oh0_7, oh0_8, oh0_9, oh0_10, oh0_11, oh0_12, oh0_13, oh0_14, oh0_15, oh0_16, oh0_17, oh0_18, oh0_19, oh0_20, oh0_21, oh0_22, oh0_23, oh0_24, oh0_25, oh0_26, oh0_27, oh0_28, oh0_29, .ref h0_tryDays, .ref h0_tryTicks, .int v_tries, oh0_33, oh0_34, oh0_35, oh0_36, oh0_37])), (h0_parts, .inl (cy 2, 2, .inl v_parts)), (h0_rates, .inl (cy 2, 14, .inl v_rates)), (h0_tryDays, .inl (cy 2, 10, .inl v_tryDays)), (h0_tryTicks, .inl (cy 2, 10, .inl v_tryTicks))] → va_S A s.heap H locs → lv_has ls 5 [(0, .ref h0), (1, .int x1_4), (2, .int x2_4), (3, .int x3_19), (4, .int x4_19)] → (∀ (H : Heap) (locs : List Loc) (ls : Array Slot), va_P D vwCl [(h0, .inr (9, [oh0_0, oh0_1, oh0_2, .ref h0_parts, .ref h0_rates, oh0_5, oh0_6, oh0_7, oh0_8, oh0_9, oh0_10, oh0_11, oh0_12, oh0_13, oh0_14, oh0_15, oh0_16, oh0_17, oh0_18, oh0_19, oh0_20, oh0_21, oh0_22, oh0_23, oh0_24, oh0_25, oh0_26, oh0_27, oh0_28, oh0_29, .ref h0_tryDays, .ref h0_tryTicks, .int v_tries, oh0_33, oh0_34, oh0_35, oh0_36, oh0_37])), (h0_parts, .inl (cy 2, 2, .inl v_parts)), (h0_rates, .inl (cy 2, 14, .inl v_rates)), (h0_tryDays, .inl (cy 2, 10, .inl v_tryDays)), (h0_tryTicks, .inl (cy 2, 10, .inl v_tryTicks))] H → va_D A [(h0, .inr (9, [oh0_0, oh0_1, oh0_2, .ref h0_parts, .ref h0_rates, oh0_5, oh0_6, oh0_7, oh0_8, oh0_9, oh0_10, oh0_11, oh0_12, oh0_13, oh0_14, oh0_15, oh0_16, oh0_17, oh0_18, oh0_19, oh0_20, oh0_21, oh0_22, oh0_23, oh0_24, oh0_25, oh0_26, oh0_27, oh0_28, oh0_29, .ref h0_tryDays, .ref h0_tryTicks, .int v_tries, oh0_33, oh0_34, oh0_35, oh0_36, oh0_37])), (h0_parts, .inl (cy 2, 2, .inl v_parts)), (h0_rates, .inl (cy 2, 14, .inl v_rates)), (h0_tryDays, .inl (cy 2, 10, .inl v_tryDays)), (h0_tryTicks, .inl (cy 2, 10, .inl v_tryTicks))] → va_S A s.heap H locs → lv_has ls 5 [(0, .ref h0), (1, .int x1_4), (2, .int x2_4), (3, .int e3_19)] → W p l e r9_fits s m args below meth c H locs 0 0 Q (F0 m 68 ls [])) → W p l e r9_fits s m args below meth c H locs 0 0 Q (F0 m 19 ls []) := by
          intro n
          induction n with
          | zero =>
            intro x3_19 x4_19 e3_19 H locs ls hM
            exact absurd hM (by simp [f9_fits_L19])
          | succ n ih =>
            intro x3_19 x4_19 e3_19 H locs ls hM hP hD hS hl K
            rw [f9_fits_L19] at hM
            refine lv_iload hx hb dX9_fits_19 (lv_at hl 4 rfl) ?_
            refine lv_aload_n hx hb dX9_fits_21 rfl (lv_at hl 0 rfl) ?_
            refine va_get (D := D) (ci := 9) (v := .int v_tries) (C := RX9) (T := TX9) (N := 38) hx hb hts iX9 hown hK hP 0 rfl rfl 32 (by decide) k162 (fun _ h9 => h9) rfl dX9_fits_22 ?_
            refine lv_icmp_ge (tgt := 68) hx hb dX9_fits_25 (by decide) (fun c25 => ?_) (fun c25 => ?_)
            · have hM := g_pos c25 hM
              obtain rfl := si1 hM
              exact K _ _ _ hP hD hS (lv_sub hl [0, 1, 2, 3] rfl)
            · have hM := g_neg c25 hM
              refine lv_iload_n hx hb dX9_fits_28 rfl (lv_at hl 3 rfl) ?_
              refine lv_if_eq (tgt := 60) hx hb dX9_fits_29 (by decide) (fun c29 => ?_) (fun c29 => ?_)
              · have hM := g_pos c29 hM
                refine lv_iconst (v := 0) hx hb dX9_fits_60 (by decide) ?_
                refine lv_istore_n (lv' := [(3, .int (0 : Int32)), (0, .ref h0), (1, .int x1_4), (2, .int x2_4), (4, .int x4_19)]) hx hb dX9_fits_61 rfl hl (by decide) rfl (fun ls hl => ?_)
                refine lv_iinc (v := x4_19 + (1 : Int32)) (lv' := [(4, .int (x4_19 + (1 : Int32))), (3, .int (0 : Int32)), (0, .ref h0), (1, .int x1_4), (2, .int x2_4)]) hx hb dX9_fits_62 hl (k := 4) rfl rfl (by decide) rfl (fun ls hl => ?_)
                refine lv_goto (tgt := 19) hx hb dX9_fits_65 (by decide) ?_
                exact ih (0 : Int32) (x4_19 + (1 : Int32)) e3_19 _ _ _ hM hP hD hS (lv_sub hl [2, 3, 4, 1, 0] rfl) K
              · have hM := g_neg c29 hM
                refine lv_aload_n hx hb dX9_fits_32 rfl (lv_at hl 0 rfl) ?_
                refine va_get (D := D) (ci := 9) (v := .ref h0_tryDays) (C := RX9) (T := TX9) (N := 38) hx hb hts iX9 hown hK hP 0 rfl rfl 30 (by decide) k73 (fun _ h9 => h9) rfl dX9_fits_33 ?_
                refine lv_iload hx hb dX9_fits_36 (lv_at hl 4 rfl) ?_
                obtain ⟨h38, hM⟩ := gi_some hM
                refine va_iald hx hb hK hP 3 2 rfl rfl h38 dX9_fits_38 ?_
                refine lv_aload_n hx hb dX9_fits_39 rfl (lv_at hl 0 rfl) ?_
                refine va_get (D := D) (ci := 9) (v := .ref h0_rates) (C := RX9) (T := TX9) (N := 38) hx hb hts iX9 hown hK hP 0 rfl rfl 4 (by decide) k17 (fun _ h9 => h9) rfl dX9_fits_40 ?_
                refine lv_iload_n hx hb dX9_fits_43 rfl (lv_at hl 2 rfl) ?_
                obtain ⟨h44, hM⟩ := gi_some hM
                refine va_iald hx hb hK hP 2 2 rfl rfl h44 dX9_fits_44 ?_
                refine lv_imul hx hb dX9_fits_45 ?_
                refine lv_aload_n hx hb dX9_fits_46 rfl (lv_at hl 0 rfl) ?_
                refine va_get (D := D) (ci := 9) (v := .ref h0_tryTicks) (C := RX9) (T := TX9) (N := 38) hx hb hts iX9 hown hK hP 0 rfl rfl 31 (by decide) k76 (fun _ h9 => h9) rfl dX9_fits_47 ?_
                refine lv_iload hx hb dX9_fits_50 (lv_at hl 4 rfl) ?_
                obtain ⟨h52, hM⟩ := gi_some hM
                refine va_iald hx hb hK hP 4 2 rfl rfl h52 dX9_fits_52 ?_
                refine lv_icmp_ne (tgt := 60) hx hb dX9_fits_53 (by decide) (fun c53 => ?_) (fun c53 => ?_)
                · have hM := g_neg c53 hM
                  refine lv_iconst (v := 0) hx hb dX9_fits_60 (by decide) ?_
                  refine lv_istore_n (lv' := [(3, .int (0 : Int32)), (0, .ref h0), (1, .int x1_4), (2, .int x2_4), (4, .int x4_19)]) hx hb dX9_fits_61 rfl hl (by decide) rfl (fun ls hl => ?_)
                  refine lv_iinc (v := x4_19 + (1 : Int32)) (lv' := [(4, .int (x4_19 + (1 : Int32))), (3, .int (0 : Int32)), (0, .ref h0), (1, .int x1_4), (2, .int x2_4)]) hx hb dX9_fits_62 hl (k := 4) rfl rfl (by decide) rfl (fun ls hl => ?_)
                  refine lv_goto (tgt := 19) hx hb dX9_fits_65 (by decide) ?_
                  exact ih (0 : Int32) (x4_19 + (1 : Int32)) e3_19 _ _ _ hM hP hD hS (lv_sub hl [2, 3, 4, 1, 0] rfl) K
                · have hM := g_pos c53 hM
                  refine lv_iconst (v := 1) hx hb dX9_fits_56 (by decide) ?_
                  refine lv_goto (tgt := 61) hx hb dX9_fits_57 (by decide) ?_
                  refine lv_istore_n (lv' := [(3, .int (1 : Int32)), (0, .ref h0), (1, .int x1_4), (2, .int x2_4), (4, .int x4_19)]) hx hb dX9_fits_61 rfl hl (by decide) rfl (fun ls hl => ?_)
                  refine lv_iinc (v := x4_19 + (1 : Int32)) (lv' := [(4, .int (x4_19 + (1 : Int32))), (3, .int (1 : Int32)), (0, .ref h0), (1, .int x1_4), (2, .int x2_4)]) hx hb dX9_fits_62 hl (k := 4) rfl rfl (by decide) rfl (fun ls hl => ?_)
                  refine lv_goto (tgt := 19) hx hb dX9_fits_65 (by decide) ?_
                  exact ih (1 : Int32) (x4_19 + (1 : Int32)) e3_19 _ _ _ hM hP hD hS (lv_sub hl [2, 3, 4, 1, 0] rfl) K
        obtain ⟨e3_19, hL19, hM⟩ := ob1_some hM
        refine L19 N (1 : Int32) (0 : Int32) e3_19 _ _ _ hL19 hP hD hS (lv_sub hl [2, 3, 4, 1, 0] rfl) ?_
        intro H locs ls hP hD hS hl
        refine lv_iload_n hx hb dX9_fits_68 rfl (lv_at hl 1 rfl) ?_
        refine lv_iload_n hx hb dX9_fits_69 rfl (lv_at hl 3 rfl) ?_
        refine lv_if_eq (tgt := 79) hx hb dX9_fits_70 (by decide) (fun c70 => ?_) (fun c70 => ?_)
        · have hM := g_pos c70 hM
          refine lv_iconst (v := 0) hx hb dX9_fits_79 (by decide) ?_
          refine lv_ior hx hb dX9_fits_80 ?_
          refine lv_istore_n (lv' := [(1, .int (x1_4 ||| (0 : Int32))), (0, .ref h0), (2, .int x2_4), (3, .int e3_19)]) hx hb dX9_fits_81 rfl hl (by decide) rfl (fun ls hl => ?_)
          refine lv_iinc (v := x2_4 + (1 : Int32)) (lv' := [(2, .int (x2_4 + (1 : Int32))), (1, .int (x1_4 ||| (0 : Int32))), (0, .ref h0), (3, .int e3_19)]) hx hb dX9_fits_82 hl (k := 2) rfl rfl (by decide) rfl (fun ls hl => ?_)
          refine lv_goto (tgt := 4) hx hb dX9_fits_85 (by decide) ?_
          exact ih (x1_4 ||| (0 : Int32)) (x2_4 + (1 : Int32)) e1_4 _ _ _ hM hP hD hS (lv_sub hl [2, 1, 0] rfl) K
        · have hM := g_neg c70 hM
          refine lv_iconst (v := 1) hx hb dX9_fits_73 (by decide) ?_
          refine lv_iload_n hx hb dX9_fits_74 rfl (lv_at hl 2 rfl) ?_
          refine lv_ishl hx hb dX9_fits_75 ?_
          refine lv_goto (tgt := 80) hx hb dX9_fits_76 (by decide) ?_
          refine lv_ior hx hb dX9_fits_80 ?_
          refine lv_istore_n (lv' := [(1, .int (x1_4 ||| ((1 : Int32) <<< (x2_4 &&& 31)))), (0, .ref h0), (2, .int x2_4), (3, .int e3_19)]) hx hb dX9_fits_81 rfl hl (by decide) rfl (fun ls hl => ?_)
          refine lv_iinc (v := x2_4 + (1 : Int32)) (lv' := [(2, .int (x2_4 + (1 : Int32))), (1, .int (x1_4 ||| ((1 : Int32) <<< (x2_4 &&& 31)))), (0, .ref h0), (3, .int e3_19)]) hx hb dX9_fits_82 hl (k := 2) rfl rfl (by decide) rfl (fun ls hl => ?_)
          refine lv_goto (tgt := 4) hx hb dX9_fits_85 (by decide) ?_
          exact ih (x1_4 ||| ((1 : Int32) <<< (x2_4 &&& 31))) (x2_4 + (1 : Int32)) e1_4 _ _ _ hM hP hD hS (lv_sub hl [2, 1, 0] rfl) K
  obtain ⟨e1_4, hL4, hM⟩ := ob1_some hM
  refine L4 N (0 : Int32) (0 : Int32) e1_4 _ _ _ hL4 hP hD hS (lv_sub hl [2, 1, 0] rfl) ?_
  intro H locs ls hP hD hS hl
  refine lv_iload_n hx hb dX9_fits_88 rfl (lv_at hl 0 rfl) ?_
  obtain rfl := si1 hM
  exact hret _ _ _ _ _ dX9_fits_89 rfl rfl hP hD hS

-- ===== X9_line line (II)I =====
abbrev r9_line : Room := { frames := 1, cells := 0, slots := 0, locals := 22 }
def f9_line (N : Nat) (p1 : Int32) (p2 : Int32) (v_lines : Int32) (v_lineDate : Nat → Int32) (v_lineAge : Nat → Int32) : Option (Int32 × Int32 × (Nat → Int32) × (Nat → Int32)) :=
  ob1 (f9_in N p1 (0 : Int32) (500 : Int32)) fun r5 => if r5 = (0 : Int32) then (some ((-1000000002 : Int32), v_lines, v_lineDate, v_lineAge)) else (ob1 (f9_in N p2 (0 : Int32) (200 : Int32)) fun r16 => if r16 = (0 : Int32) then (some ((-1000000002 : Int32), v_lines, v_lineDate, v_lineAge)) else (if v_lines = (8 : Int32) then (some ((-1000000004 : Int32), v_lines, v_lineDate, v_lineAge)) else (gi v_lines 8 (gi v_lines 8 (some ((v_lines + (1 : Int32)), (v_lines + (1 : Int32)), (upd v_lineDate v_lines.toNatClampNeg p1), (upd v_lineAge v_lines.toNatClampNeg p2)))))))
set_option maxHeartbeats 4000000 in
set_option maxRecDepth 100000 in
theorem c9_line (l : Launch) (D : va_G) (cy : Nat → ClassId) (N : Nat) (h0 h0_lineDate h0_lineAge : Nat) (oh0_0 oh0_1 oh0_2 oh0_3 oh0_4 oh0_5 oh0_6 oh0_7 oh0_8 oh0_9 oh0_10 oh0_11 oh0_12 oh0_13 oh0_14 oh0_15 oh0_16 oh0_17 oh0_18 oh0_19 oh0_20 oh0_21 oh0_22 oh0_23 oh0_24 oh0_25 oh0_26 oh0_27 oh0_28 oh0_29 oh0_30 oh0_31 oh0_32 oh0_36 oh0_37 : Value) (p1 : Int32) (p2 : Int32) (v_lines : Int32) (v_lineDate : Nat → Int32) (v_lineAge : Nat → Int32) (r : Int32) (nv_lines : Int32) (nv_lineDate : Nat → Int32) (nv_lineAge : Nat → Int32) (hM : f9_line N p1 p2 v_lines v_lineDate v_lineAge = some (r, nv_lines, nv_lineDate, nv_lineAge)) (sz : Nat) : CTi l yX9_line wsX9_line r9_line [.ref h0, .int p1, .int p2] D cy sz [(h0, .inr (9, [oh0_0, oh0_1, oh0_2, oh0_3, oh0_4, oh0_5, oh0_6, oh0_7, oh0_8, oh0_9, oh0_10, oh0_11, oh0_12, oh0_13, oh0_14, oh0_15, oh0_16, oh0_17, oh0_18, oh0_19, oh0_20, oh0_21, oh0_22, oh0_23, oh0_24, oh0_25, oh0_26, oh0_27, oh0_28, oh0_29, oh0_30, oh0_31, oh0_32, .ref h0_lineDate, .ref h0_lineAge, .int v_lines, oh0_36, oh0_37])), (h0_lineDate, .inl (cy 2, 8, .inl v_lineDate)), (h0_lineAge, .inl (cy 2, 8, .inl v_lineAge))] [(h0, .inr (9, [oh0_0, oh0_1, oh0_2, oh0_3, oh0_4, oh0_5, oh0_6, oh0_7, oh0_8, oh0_9, oh0_10, oh0_11, oh0_12, oh0_13, oh0_14, oh0_15, oh0_16, oh0_17, oh0_18, oh0_19, oh0_20, oh0_21, oh0_22, oh0_23, oh0_24, oh0_25, oh0_26, oh0_27, oh0_28, oh0_29, oh0_30, oh0_31, oh0_32, .ref h0_lineDate, .ref h0_lineAge, .int nv_lines, oh0_36, oh0_37])), (h0_lineDate, .inl (cy 2, 8, .inl nv_lineDate)), (h0_lineAge, .inl (cy 2, 8, .inl nv_lineAge))] r := by
  unfold f9_line at hM
  refine ct_oi (cc := cX9_line) (maxL := 3) (ty := .int) (by decide +kernel) rfl (Nat.le_of_ble_eq_true rfl) (lv0 := [(0, .ref h0), (1, .int p1), (2, .int p2)]) rfl ?_
  intro p e s m args below meth c A Q ls hx hb hts hown hml hK hP hD hS hA hret hl
  have hown : s.vm.findClass RX9 = some m.cls := hown
  have k99 := hts (.constant RX9 99 (-1000000002)) (List.mem_of_getElem? (i := 1) rfl)
  have k165 := hts (.fieldLink RX9 165 "CaveYearsModel" "lines" "I") (List.mem_of_getElem? (i := 2) rfl)
  have iX9 := (fun w h => (List.mem_cons_of_mem _ (List.mem_append_right _ h)) : ∀ w ∈ wsX90, w ∈ wsX9_line)
  have k79 := hts (.fieldLink RX9 79 "CaveYearsModel" "lineDate" "[I") (List.mem_of_getElem? (i := 4) rfl)
  have k82 := hts (.fieldLink RX9 82 "CaveYearsModel" "lineAge" "[I") (List.mem_of_getElem? (i := 5) rfl)
  have k103 := hts (.constant RX9 103 (-1000000004)) (List.mem_of_getElem? (i := 3) rfl)
  refine lv_iload_n hx hb dX9_line_0 rfl (lv_at hl 1 rfl) ?_
  refine lv_iconst (v := 0) hx hb dX9_line_1 (by decide) ?_
  refine lv_sipush (v := 500) hx hb dX9_line_2 (by decide) ?_
  obtain ⟨r5, hc5, hM⟩ := ob1_some hM
  refine cl_si (As := [.int p1, .int (0 : Int32), .int (500 : Int32)]) (rest := []) (wr := [(h0, .inr (9, [oh0_0, oh0_1, oh0_2, oh0_3, oh0_4, oh0_5, oh0_6, oh0_7, oh0_8, oh0_9, oh0_10, oh0_11, oh0_12, oh0_13, oh0_14, oh0_15, oh0_16, oh0_17, oh0_18, oh0_19, oh0_20, oh0_21, oh0_22, oh0_23, oh0_24, oh0_25, oh0_26, oh0_27, oh0_28, oh0_29, oh0_30, oh0_31, oh0_32, .ref h0_lineDate, .ref h0_lineAge, .int v_lines, oh0_36, oh0_37])), (h0_lineDate, .inl (cy 2, 8, .inl v_lineDate)), (h0_lineAge, .inl (cy 2, 8, .inl v_lineAge))]) (ws2 := [(h0, .inr (9, [oh0_0, oh0_1, oh0_2, oh0_3, oh0_4, oh0_5, oh0_6, oh0_7, oh0_8, oh0_9, oh0_10, oh0_11, oh0_12, oh0_13, oh0_14, oh0_15, oh0_16, oh0_17, oh0_18, oh0_19, oh0_20, oh0_21, oh0_22, oh0_23, oh0_24, oh0_25, oh0_26, oh0_27, oh0_28, oh0_29, oh0_30, oh0_31, oh0_32, .ref h0_lineDate, .ref h0_lineAge, .int v_lines, oh0_36, oh0_37])), (h0_lineDate, .inl (cy 2, 8, .inl v_lineDate)), (h0_lineAge, .inl (cy 2, 8, .inl v_lineAge))]) (isC := []) (isR := [0, 1, 2]) (pm := [0, 1, 2]) hx hb hml hown hts (c9_in l D cy N p1 (0 : Int32) (500 : Int32) r5 hc5) (va_cwS 3 hts gX9_line_X9_in rfl rfl rfl (by decide +kernel) ⟨Nat.le_of_ble_eq_true rfl, Nat.le_of_ble_eq_true rfl⟩) hK hP hD hS hA rfl rfl rfl (by decide) rfl rfl rfl hl.1 (Nat.le_of_ble_eq_true rfl) dX9_line_5 ⟨Nat.zero_le _, Nat.zero_le _⟩ rfl rfl (fun H locs hP hD hS => ?_)
  refine lv_if_eq (tgt := 22) hx hb dX9_line_8 (by decide) (fun c8 => ?_) (fun c8 => ?_)
  · have hM := g_pos c8 hM
    refine lv_ldc (v := -1000000002) hx hb hown k99 dX9_line_22 ?_
    obtain ⟨rfl, rfl, rfl, rfl⟩ := si4 hM
    exact hret _ _ _ _ _ dX9_line_24 rfl rfl hP hD hS
  · have hM := g_neg c8 hM
    refine lv_iload_n hx hb dX9_line_11 rfl (lv_at hl 2 rfl) ?_
    refine lv_iconst (v := 0) hx hb dX9_line_12 (by decide) ?_
    refine lv_sipush (v := 200) hx hb dX9_line_13 (by decide) ?_
    obtain ⟨r16, hc16, hM⟩ := ob1_some hM
    refine cl_si (As := [.int p2, .int (0 : Int32), .int (200 : Int32)]) (rest := []) (wr := [(h0, .inr (9, [oh0_0, oh0_1, oh0_2, oh0_3, oh0_4, oh0_5, oh0_6, oh0_7, oh0_8, oh0_9, oh0_10, oh0_11, oh0_12, oh0_13, oh0_14, oh0_15, oh0_16, oh0_17, oh0_18, oh0_19, oh0_20, oh0_21, oh0_22, oh0_23, oh0_24, oh0_25, oh0_26, oh0_27, oh0_28, oh0_29, oh0_30, oh0_31, oh0_32, .ref h0_lineDate, .ref h0_lineAge, .int v_lines, oh0_36, oh0_37])), (h0_lineDate, .inl (cy 2, 8, .inl v_lineDate)), (h0_lineAge, .inl (cy 2, 8, .inl v_lineAge))]) (ws2 := [(h0, .inr (9, [oh0_0, oh0_1, oh0_2, oh0_3, oh0_4, oh0_5, oh0_6, oh0_7, oh0_8, oh0_9, oh0_10, oh0_11, oh0_12, oh0_13, oh0_14, oh0_15, oh0_16, oh0_17, oh0_18, oh0_19, oh0_20, oh0_21, oh0_22, oh0_23, oh0_24, oh0_25, oh0_26, oh0_27, oh0_28, oh0_29, oh0_30, oh0_31, oh0_32, .ref h0_lineDate, .ref h0_lineAge, .int v_lines, oh0_36, oh0_37])), (h0_lineDate, .inl (cy 2, 8, .inl v_lineDate)), (h0_lineAge, .inl (cy 2, 8, .inl v_lineAge))]) (isC := []) (isR := [0, 1, 2]) (pm := [0, 1, 2]) hx hb hml hown hts (c9_in l D cy N p2 (0 : Int32) (200 : Int32) r16 hc16) (va_cwS 3 hts gX9_line_X9_in rfl rfl rfl (by decide +kernel) ⟨Nat.le_of_ble_eq_true rfl, Nat.le_of_ble_eq_true rfl⟩) hK hP hD hS hA rfl rfl rfl (by decide) rfl rfl rfl hl.1 (Nat.le_of_ble_eq_true rfl) dX9_line_16 ⟨Nat.zero_le _, Nat.zero_le _⟩ rfl rfl (fun H locs hP hD hS => ?_)
    refine lv_if_ne (tgt := 25) hx hb dX9_line_19 (by decide) (fun c19 => ?_) (fun c19 => ?_)
    · have hM := g_neg c19 hM
      refine lv_aload_n hx hb dX9_line_25 rfl (lv_at hl 0 rfl) ?_
      refine va_get (D := D) (ci := 9) (v := .int v_lines) (C := RX9) (T := TX9) (N := 38) hx hb hts iX9 hown hK hP 0 rfl rfl 35 (by decide) k165 (fun _ h9 => h9) rfl dX9_line_26 ?_
      refine lv_bipush (v := 8) hx hb dX9_line_29 (by decide) ?_
      refine lv_icmp_ne (tgt := 37) hx hb dX9_line_31 (by decide) (fun c31 => ?_) (fun c31 => ?_)
      · have hM := g_neg c31 hM
        refine lv_aload_n hx hb dX9_line_37 rfl (lv_at hl 0 rfl) ?_
        refine va_get (D := D) (ci := 9) (v := .ref h0_lineDate) (C := RX9) (T := TX9) (N := 38) hx hb hts iX9 hown hK hP 0 rfl rfl 33 (by decide) k79 (fun _ h9 => h9) rfl dX9_line_38 ?_
        refine lv_aload_n hx hb dX9_line_41 rfl (lv_at hl 0 rfl) ?_
        refine va_get (D := D) (ci := 9) (v := .int v_lines) (C := RX9) (T := TX9) (N := 38) hx hb hts iX9 hown hK hP 0 rfl rfl 35 (by decide) k165 (fun _ h9 => h9) rfl dX9_line_42 ?_
        refine lv_iload_n hx hb dX9_line_45 rfl (lv_at hl 1 rfl) ?_
        obtain ⟨h46, hM⟩ := gi_some hM
        refine va_iast hx hb hK hP hD hS 1 2 rfl rfl h46 dX9_line_46 (fun H locs hP hD hS => ?_)
        have hP : va_P D vwCl [(h0, .inr (9, [oh0_0, oh0_1, oh0_2, oh0_3, oh0_4, oh0_5, oh0_6, oh0_7, oh0_8, oh0_9, oh0_10, oh0_11, oh0_12, oh0_13, oh0_14, oh0_15, oh0_16, oh0_17, oh0_18, oh0_19, oh0_20, oh0_21, oh0_22, oh0_23, oh0_24, oh0_25, oh0_26, oh0_27, oh0_28, oh0_29, oh0_30, oh0_31, oh0_32, .ref h0_lineDate, .ref h0_lineAge, .int v_lines, oh0_36, oh0_37])), (h0_lineDate, .inl (cy 2, 8, .inl (upd v_lineDate v_lines.toNatClampNeg p1))), (h0_lineAge, .inl (cy 2, 8, .inl v_lineAge))] H := hP
        have hD : va_D A [(h0, .inr (9, [oh0_0, oh0_1, oh0_2, oh0_3, oh0_4, oh0_5, oh0_6, oh0_7, oh0_8, oh0_9, oh0_10, oh0_11, oh0_12, oh0_13, oh0_14, oh0_15, oh0_16, oh0_17, oh0_18, oh0_19, oh0_20, oh0_21, oh0_22, oh0_23, oh0_24, oh0_25, oh0_26, oh0_27, oh0_28, oh0_29, oh0_30, oh0_31, oh0_32, .ref h0_lineDate, .ref h0_lineAge, .int v_lines, oh0_36, oh0_37])), (h0_lineDate, .inl (cy 2, 8, .inl (upd v_lineDate v_lines.toNatClampNeg p1))), (h0_lineAge, .inl (cy 2, 8, .inl v_lineAge))] := hD
        refine lv_aload_n hx hb dX9_line_47 rfl (lv_at hl 0 rfl) ?_
        refine va_get (D := D) (ci := 9) (v := .ref h0_lineAge) (C := RX9) (T := TX9) (N := 38) hx hb hts iX9 hown hK hP 0 rfl rfl 34 (by decide) k82 (fun _ h9 => h9) rfl dX9_line_48 ?_
        refine lv_aload_n hx hb dX9_line_51 rfl (lv_at hl 0 rfl) ?_
        refine va_get (D := D) (ci := 9) (v := .int v_lines) (C := RX9) (T := TX9) (N := 38) hx hb hts iX9 hown hK hP 0 rfl rfl 35 (by decide) k165 (fun _ h9 => h9) rfl dX9_line_52 ?_
        refine lv_iload_n hx hb dX9_line_55 rfl (lv_at hl 2 rfl) ?_
        obtain ⟨h56, hM⟩ := gi_some hM
        refine va_iast hx hb hK hP hD hS 2 2 rfl rfl h56 dX9_line_56 (fun H locs hP hD hS => ?_)
        have hP : va_P D vwCl [(h0, .inr (9, [oh0_0, oh0_1, oh0_2, oh0_3, oh0_4, oh0_5, oh0_6, oh0_7, oh0_8, oh0_9, oh0_10, oh0_11, oh0_12, oh0_13, oh0_14, oh0_15, oh0_16, oh0_17, oh0_18, oh0_19, oh0_20, oh0_21, oh0_22, oh0_23, oh0_24, oh0_25, oh0_26, oh0_27, oh0_28, oh0_29, oh0_30, oh0_31, oh0_32, .ref h0_lineDate, .ref h0_lineAge, .int v_lines, oh0_36, oh0_37])), (h0_lineDate, .inl (cy 2, 8, .inl (upd v_lineDate v_lines.toNatClampNeg p1))), (h0_lineAge, .inl (cy 2, 8, .inl (upd v_lineAge v_lines.toNatClampNeg p2)))] H := hP
        have hD : va_D A [(h0, .inr (9, [oh0_0, oh0_1, oh0_2, oh0_3, oh0_4, oh0_5, oh0_6, oh0_7, oh0_8, oh0_9, oh0_10, oh0_11, oh0_12, oh0_13, oh0_14, oh0_15, oh0_16, oh0_17, oh0_18, oh0_19, oh0_20, oh0_21, oh0_22, oh0_23, oh0_24, oh0_25, oh0_26, oh0_27, oh0_28, oh0_29, oh0_30, oh0_31, oh0_32, .ref h0_lineDate, .ref h0_lineAge, .int v_lines, oh0_36, oh0_37])), (h0_lineDate, .inl (cy 2, 8, .inl (upd v_lineDate v_lines.toNatClampNeg p1))), (h0_lineAge, .inl (cy 2, 8, .inl (upd v_lineAge v_lines.toNatClampNeg p2)))] := hD
        refine lv_aload_n hx hb dX9_line_57 rfl (lv_at hl 0 rfl) ?_
        refine lv_dup hx hb dX9_line_58 rfl ?_
        refine va_get (D := D) (ci := 9) (v := .int v_lines) (C := RX9) (T := TX9) (N := 38) hx hb hts iX9 hown hK hP 0 rfl rfl 35 (by decide) k165 (fun _ h9 => h9) rfl dX9_line_59 ?_
        refine lv_iconst (v := 1) hx hb dX9_line_62 (by decide) ?_
        refine lv_iadd hx hb dX9_line_63 ?_
        refine va_put (D := D) (ci := 9) (v := .int (v_lines + (1 : Int32))) (ty := .int) (C := RX9) (T := TX9) (N := 38) hx hb hts iX9 tyX9 tyX9_ok nmX9 hown hK hP hD hS 0 rfl rfl 35 (by decide) k165 (fun _ h9 => h9) rfl (by decide +kernel) rfl rfl (Nat.le_of_ble_eq_true rfl) dX9_line_64 (fun H locs hP hD hS => ?_)
        have hP : va_P D vwCl [(h0, .inr (9, [oh0_0, oh0_1, oh0_2, oh0_3, oh0_4, oh0_5, oh0_6, oh0_7, oh0_8, oh0_9, oh0_10, oh0_11, oh0_12, oh0_13, oh0_14, oh0_15, oh0_16, oh0_17, oh0_18, oh0_19, oh0_20, oh0_21, oh0_22, oh0_23, oh0_24, oh0_25, oh0_26, oh0_27, oh0_28, oh0_29, oh0_30, oh0_31, oh0_32, .ref h0_lineDate, .ref h0_lineAge, .int (v_lines + (1 : Int32)), oh0_36, oh0_37])), (h0_lineDate, .inl (cy 2, 8, .inl (upd v_lineDate v_lines.toNatClampNeg p1))), (h0_lineAge, .inl (cy 2, 8, .inl (upd v_lineAge v_lines.toNatClampNeg p2)))] H := hP
        have hD : va_D A [(h0, .inr (9, [oh0_0, oh0_1, oh0_2, oh0_3, oh0_4, oh0_5, oh0_6, oh0_7, oh0_8, oh0_9, oh0_10, oh0_11, oh0_12, oh0_13, oh0_14, oh0_15, oh0_16, oh0_17, oh0_18, oh0_19, oh0_20, oh0_21, oh0_22, oh0_23, oh0_24, oh0_25, oh0_26, oh0_27, oh0_28, oh0_29, oh0_30, oh0_31, oh0_32, .ref h0_lineDate, .ref h0_lineAge, .int (v_lines + (1 : Int32)), oh0_36, oh0_37])), (h0_lineDate, .inl (cy 2, 8, .inl (upd v_lineDate v_lines.toNatClampNeg p1))), (h0_lineAge, .inl (cy 2, 8, .inl (upd v_lineAge v_lines.toNatClampNeg p2)))] := hD
        refine lv_aload_n hx hb dX9_line_67 rfl (lv_at hl 0 rfl) ?_
        refine va_get (D := D) (ci := 9) (v := .int (v_lines + (1 : Int32))) (C := RX9) (T := TX9) (N := 38) hx hb hts iX9 hown hK hP 0 rfl rfl 35 (by decide) k165 (fun _ h9 => h9) rfl dX9_line_68 ?_
        obtain ⟨rfl, rfl, rfl, rfl⟩ := si4 hM
        exact hret _ _ _ _ _ dX9_line_71 rfl rfl hP hD hS
      · have hM := g_pos c31 hM
        refine lv_ldc (v := -1000000004) hx hb hown k103 dX9_line_34 ?_
        obtain ⟨rfl, rfl, rfl, rfl⟩ := si4 hM
        exact hret _ _ _ _ _ dX9_line_36 rfl rfl hP hD hS
    · have hM := g_pos c19 hM
      refine lv_ldc (v := -1000000002) hx hb hown k99 dX9_line_22 ?_
      obtain ⟨rfl, rfl, rfl, rfl⟩ := si4 hM
      exact hret _ _ _ _ _ dX9_line_24 rfl rfl hP hD hS

-- ===== X9_isOne isOne (II)Z =====
abbrev r9_isOne : Room := { frames := 1, cells := 0, slots := 0, locals := 22 }
def f9_isOne_J31 (N : Nat) (p2 : Int32) (v_lineDate : Nat → Int32) (v_lineAge : Nat → Int32) (s0_31 : Int32) : Option Int32 :=
  gi s0_31 8 (gi p2 8 (gi s0_31 8 (gi p2 8 (ob1 (f9_in N ((v_lineAge s0_31.toNatClampNeg) - (v_lineAge p2.toNatClampNeg)) (0 : Int32) ((v_lineDate s0_31.toNatClampNeg) - (v_lineDate p2.toNatClampNeg))) fun r62 => gb r62 (some r62)))))
def f9_isOne_J31b (N : Nat) (p1 : Int32) (v_lineDate : Nat → Int32) (v_lineAge : Nat → Int32) (s0_31 : Int32) : Option Int32 :=
  gi s0_31 8 (gi p1 8 (gi s0_31 8 (gi p1 8 (ob1 (f9_in N ((v_lineAge s0_31.toNatClampNeg) - (v_lineAge p1.toNatClampNeg)) (0 : Int32) ((v_lineDate s0_31.toNatClampNeg) - (v_lineDate p1.toNatClampNeg))) fun r62 => gb r62 (some r62)))))
def f9_isOne (N : Nat) (p1 : Int32) (p2 : Int32) (v_lineDate : Nat → Int32) (v_lineAge : Nat → Int32) : Option Int32 :=
  gi p1 8 (gi p2 8 (if (v_lineDate p2.toNatClampNeg) < (v_lineDate p1.toNatClampNeg) then (if p2 = p1 then (f9_isOne_J31 N p2 v_lineDate v_lineAge p2) else (f9_isOne_J31 N p2 v_lineDate v_lineAge p1)) else (if p1 = p1 then (f9_isOne_J31b N p1 v_lineDate v_lineAge p2) else (f9_isOne_J31b N p1 v_lineDate v_lineAge p1))))
set_option maxHeartbeats 4000000 in
set_option maxRecDepth 100000 in
theorem c9_isOne (l : Launch) (D : va_G) (cy : Nat → ClassId) (N : Nat) (h0 h0_lineDate h0_lineAge : Nat) (oh0_0 oh0_1 oh0_2 oh0_3 oh0_4 oh0_5 oh0_6 oh0_7 oh0_8 oh0_9 oh0_10 oh0_11 oh0_12 oh0_13 oh0_14 oh0_15 oh0_16 oh0_17 oh0_18 oh0_19 oh0_20 oh0_21 oh0_22 oh0_23 oh0_24 oh0_25 oh0_26 oh0_27 oh0_28 oh0_29 oh0_30 oh0_31 oh0_32 oh0_35 oh0_36 oh0_37 : Value) (p1 : Int32) (p2 : Int32) (v_lineDate : Nat → Int32) (v_lineAge : Nat → Int32) (r : Int32) (hM : f9_isOne N p1 p2 v_lineDate v_lineAge = some r) (sz : Nat) : CTi l yX9_isOne wsX9_isOne r9_isOne [.ref h0, .int p1, .int p2] D cy sz [(h0, .inr (9, [oh0_0, oh0_1, oh0_2, oh0_3, oh0_4, oh0_5, oh0_6, oh0_7, oh0_8, oh0_9, oh0_10, oh0_11, oh0_12, oh0_13, oh0_14, oh0_15, oh0_16, oh0_17, oh0_18, oh0_19, oh0_20, oh0_21, oh0_22, oh0_23, oh0_24, oh0_25, oh0_26, oh0_27, oh0_28, oh0_29, oh0_30, oh0_31, oh0_32, .ref h0_lineDate, .ref h0_lineAge, oh0_35, oh0_36, oh0_37])), (h0_lineDate, .inl (cy 2, 8, .inl v_lineDate)), (h0_lineAge, .inl (cy 2, 8, .inl v_lineAge))] [(h0, .inr (9, [oh0_0, oh0_1, oh0_2, oh0_3, oh0_4, oh0_5, oh0_6, oh0_7, oh0_8, oh0_9, oh0_10, oh0_11, oh0_12, oh0_13, oh0_14, oh0_15, oh0_16, oh0_17, oh0_18, oh0_19, oh0_20, oh0_21, oh0_22, oh0_23, oh0_24, oh0_25, oh0_26, oh0_27, oh0_28, oh0_29, oh0_30, oh0_31, oh0_32, .ref h0_lineDate, .ref h0_lineAge, oh0_35, oh0_36, oh0_37])), (h0_lineDate, .inl (cy 2, 8, .inl v_lineDate)), (h0_lineAge, .inl (cy 2, 8, .inl v_lineAge))] r := by
  unfold f9_isOne at hM
  refine ct_oi (cc := cX9_isOne) (maxL := 5) (ty := .boolean) (by decide +kernel) rfl (Nat.le_of_ble_eq_true rfl) (lv0 := [(0, .ref h0), (1, .int p1), (2, .int p2)]) rfl ?_
  intro p e s m args below meth c A Q ls hx hb hts hown hml hK hP hD hS hA hret hl
  have hown : s.vm.findClass RX9 = some m.cls := hown
  have k79 := hts (.fieldLink RX9 79 "CaveYearsModel" "lineDate" "[I") (List.mem_of_getElem? (i := 1) rfl)
  have iX9 := (fun w h => (List.mem_cons_of_mem _ (List.mem_append_right _ h)) : ∀ w ∈ wsX90, w ∈ wsX9_isOne)
  have k82 := hts (.fieldLink RX9 82 "CaveYearsModel" "lineAge" "[I") (List.mem_of_getElem? (i := 2) rfl)
  refine lv_aload_n hx hb dX9_isOne_0 rfl (lv_at hl 0 rfl) ?_
  refine va_get (D := D) (ci := 9) (v := .ref h0_lineDate) (C := RX9) (T := TX9) (N := 38) hx hb hts iX9 hown hK hP 0 rfl rfl 33 (by decide) k79 (fun _ h9 => h9) rfl dX9_isOne_1 ?_
  refine lv_iload_n hx hb dX9_isOne_4 rfl (lv_at hl 1 rfl) ?_
  obtain ⟨h5, hM⟩ := gi_some hM
  refine va_iald hx hb hK hP 1 2 rfl rfl h5 dX9_isOne_5 ?_
  refine lv_aload_n hx hb dX9_isOne_6 rfl (lv_at hl 0 rfl) ?_
  refine va_get (D := D) (ci := 9) (v := .ref h0_lineDate) (C := RX9) (T := TX9) (N := 38) hx hb hts iX9 hown hK hP 0 rfl rfl 33 (by decide) k79 (fun _ h9 => h9) rfl dX9_isOne_7 ?_
  refine lv_iload_n hx hb dX9_isOne_10 rfl (lv_at hl 2 rfl) ?_
  obtain ⟨h11, hM⟩ := gi_some hM
  refine va_iald hx hb hK hP 1 2 rfl rfl h11 dX9_isOne_11 ?_
  refine lv_icmp_gt (tgt := 19) hx hb dX9_isOne_12 (by decide) (fun c12 => ?_) (fun c12 => ?_)
  · have hM := g_pos c12 hM
    refine lv_iload_n hx hb dX9_isOne_19 rfl (lv_at hl 2 rfl) ?_
    refine lv_istore_n (lv' := [(3, .int p2), (0, .ref h0), (1, .int p1), (2, .int p2)]) hx hb dX9_isOne_20 rfl hl (by decide) rfl (fun ls hl => ?_)
    refine lv_iload_n hx hb dX9_isOne_21 rfl (lv_at hl 0 rfl) ?_
    refine lv_iload_n hx hb dX9_isOne_22 rfl (lv_at hl 2 rfl) ?_
    have K31 : ∀ (s0_31 : Int32) (H : Heap) (locs : List Loc) (ls : Array Slot), f9_isOne_J31 N p2 v_lineDate v_lineAge s0_31 = some r → va_P D vwCl [(h0, .inr (9, [oh0_0, oh0_1, oh0_2, oh0_3, oh0_4, oh0_5, oh0_6, oh0_7, oh0_8, oh0_9, oh0_10, oh0_11, oh0_12, oh0_13, oh0_14, oh0_15, oh0_16, oh0_17, oh0_18, oh0_19, oh0_20, oh0_21, oh0_22, oh0_23, oh0_24, oh0_25, oh0_26, oh0_27, oh0_28, oh0_29, oh0_30, oh0_31, oh0_32, .ref h0_lineDate, .ref h0_lineAge, oh0_35, oh0_36, oh0_37])), (h0_lineDate, .inl (cy 2, 8, .inl v_lineDate)), (h0_lineAge, .inl (cy 2, 8, .inl v_lineAge))] H → va_D A [(h0, .inr (9, [oh0_0, oh0_1, oh0_2, oh0_3, oh0_4, oh0_5, oh0_6, oh0_7, oh0_8, oh0_9, oh0_10, oh0_11, oh0_12, oh0_13, oh0_14, oh0_15, oh0_16, oh0_17, oh0_18, oh0_19, oh0_20, oh0_21, oh0_22, oh0_23, oh0_24, oh0_25, oh0_26, oh0_27, oh0_28, oh0_29, oh0_30, oh0_31, oh0_32, .ref h0_lineDate, .ref h0_lineAge, oh0_35, oh0_36, oh0_37])), (h0_lineDate, .inl (cy 2, 8, .inl v_lineDate)), (h0_lineAge, .inl (cy 2, 8, .inl v_lineAge))] → va_S A s.heap H locs → lv_has ls 5 [(0, .ref h0), (3, .int p2)] → W p l e r9_isOne s m args below meth c H locs 0 0 Q (F0 m 31 ls [.int s0_31]) := by
      intro s0_31 H locs ls hM hP hD hS hl
      unfold f9_isOne_J31 at hM
      refine lv_istore (lv' := [(4, .int s0_31), (0, .ref h0), (3, .int p2)]) hx hb dX9_isOne_31 hl (by decide) rfl (fun ls hl => ?_)
      refine lv_aload_n hx hb dX9_isOne_33 rfl (lv_at hl 1 rfl) ?_
      refine va_get (D := D) (ci := 9) (v := .ref h0_lineAge) (C := RX9) (T := TX9) (N := 38) hx hb hts iX9 hown hK hP 0 rfl rfl 34 (by decide) k82 (fun _ h9 => h9) rfl dX9_isOne_34 ?_
      refine lv_iload hx hb dX9_isOne_37 (lv_at hl 0 rfl) ?_
      obtain ⟨h39, hM⟩ := gi_some hM
      refine va_iald hx hb hK hP 2 2 rfl rfl h39 dX9_isOne_39 ?_
      refine lv_aload_n hx hb dX9_isOne_40 rfl (lv_at hl 1 rfl) ?_
      refine va_get (D := D) (ci := 9) (v := .ref h0_lineAge) (C := RX9) (T := TX9) (N := 38) hx hb hts iX9 hown hK hP 0 rfl rfl 34 (by decide) k82 (fun _ h9 => h9) rfl dX9_isOne_41 ?_
      refine lv_iload_n hx hb dX9_isOne_44 rfl (lv_at hl 2 rfl) ?_
      obtain ⟨h45, hM⟩ := gi_some hM
      refine va_iald hx hb hK hP 2 2 rfl rfl h45 dX9_isOne_45 ?_
      refine lv_isub hx hb dX9_isOne_46 ?_
      refine lv_iconst (v := 0) hx hb dX9_isOne_47 (by decide) ?_
      refine lv_aload_n hx hb dX9_isOne_48 rfl (lv_at hl 1 rfl) ?_
      refine va_get (D := D) (ci := 9) (v := .ref h0_lineDate) (C := RX9) (T := TX9) (N := 38) hx hb hts iX9 hown hK hP 0 rfl rfl 33 (by decide) k79 (fun _ h9 => h9) rfl dX9_isOne_49 ?_
      refine lv_iload hx hb dX9_isOne_52 (lv_at hl 0 rfl) ?_
      obtain ⟨h54, hM⟩ := gi_some hM
      refine va_iald hx hb hK hP 1 2 rfl rfl h54 dX9_isOne_54 ?_
      refine lv_aload_n hx hb dX9_isOne_55 rfl (lv_at hl 1 rfl) ?_
      refine va_get (D := D) (ci := 9) (v := .ref h0_lineDate) (C := RX9) (T := TX9) (N := 38) hx hb hts iX9 hown hK hP 0 rfl rfl 33 (by decide) k79 (fun _ h9 => h9) rfl dX9_isOne_56 ?_
      refine lv_iload_n hx hb dX9_isOne_59 rfl (lv_at hl 2 rfl) ?_
      obtain ⟨h60, hM⟩ := gi_some hM
      refine va_iald hx hb hK hP 1 2 rfl rfl h60 dX9_isOne_60 ?_
      refine lv_isub hx hb dX9_isOne_61 ?_
      obtain ⟨r62, hc62, hM⟩ := ob1_some hM
      refine cl_si (As := [.int ((v_lineAge s0_31.toNatClampNeg) - (v_lineAge p2.toNatClampNeg)), .int (0 : Int32), .int ((v_lineDate s0_31.toNatClampNeg) - (v_lineDate p2.toNatClampNeg))]) (rest := []) (wr := [(h0, .inr (9, [oh0_0, oh0_1, oh0_2, oh0_3, oh0_4, oh0_5, oh0_6, oh0_7, oh0_8, oh0_9, oh0_10, oh0_11, oh0_12, oh0_13, oh0_14, oh0_15, oh0_16, oh0_17, oh0_18, oh0_19, oh0_20, oh0_21, oh0_22, oh0_23, oh0_24, oh0_25, oh0_26, oh0_27, oh0_28, oh0_29, oh0_30, oh0_31, oh0_32, .ref h0_lineDate, .ref h0_lineAge, oh0_35, oh0_36, oh0_37])), (h0_lineDate, .inl (cy 2, 8, .inl v_lineDate)), (h0_lineAge, .inl (cy 2, 8, .inl v_lineAge))]) (ws2 := [(h0, .inr (9, [oh0_0, oh0_1, oh0_2, oh0_3, oh0_4, oh0_5, oh0_6, oh0_7, oh0_8, oh0_9, oh0_10, oh0_11, oh0_12, oh0_13, oh0_14, oh0_15, oh0_16, oh0_17, oh0_18, oh0_19, oh0_20, oh0_21, oh0_22, oh0_23, oh0_24, oh0_25, oh0_26, oh0_27, oh0_28, oh0_29, oh0_30, oh0_31, oh0_32, .ref h0_lineDate, .ref h0_lineAge, oh0_35, oh0_36, oh0_37])), (h0_lineDate, .inl (cy 2, 8, .inl v_lineDate)), (h0_lineAge, .inl (cy 2, 8, .inl v_lineAge))]) (isC := []) (isR := [0, 1, 2]) (pm := [0, 1, 2]) hx hb hml hown hts (c9_in l D cy N ((v_lineAge s0_31.toNatClampNeg) - (v_lineAge p2.toNatClampNeg)) (0 : Int32) ((v_lineDate s0_31.toNatClampNeg) - (v_lineDate p2.toNatClampNeg)) r62 hc62) (va_cwS 3 hts gX9_isOne_X9_in rfl rfl rfl (by decide +kernel) ⟨Nat.le_of_ble_eq_true rfl, Nat.le_of_ble_eq_true rfl⟩) hK hP hD hS hA rfl rfl rfl (by decide) rfl rfl rfl hl.1 (Nat.le_of_ble_eq_true rfl) dX9_isOne_62 ⟨Nat.zero_le _, Nat.zero_le _⟩ rfl rfl (fun H locs hP hD hS => ?_)
      obtain ⟨hz65, hM⟩ := gb_some hM
      obtain rfl := si1 hM
      exact hret _ _ _ _ _ dX9_isOne_65 rfl hz65 hP hD hS
    refine lv_icmp_ne (tgt := 30) hx hb dX9_isOne_23 (by decide) (fun c23 => ?_) (fun c23 => ?_)
    · have hM := g_neg c23 hM
      refine lv_iload_n hx hb dX9_isOne_30 rfl (lv_at hl 2 rfl) ?_
      exact K31 p1 _ _ _ hM hP hD hS (lv_sub hl [1, 0] rfl)
    · have hM := g_pos c23 hM
      refine lv_iload_n hx hb dX9_isOne_26 rfl (lv_at hl 3 rfl) ?_
      refine lv_goto (tgt := 31) hx hb dX9_isOne_27 (by decide) ?_
      exact K31 p2 _ _ _ hM hP hD hS (lv_sub hl [1, 0] rfl)
  · have hM := g_neg c12 hM
    refine lv_iload_n hx hb dX9_isOne_15 rfl (lv_at hl 1 rfl) ?_
    refine lv_goto (tgt := 20) hx hb dX9_isOne_16 (by decide) ?_
    refine lv_istore_n (lv' := [(3, .int p1), (0, .ref h0), (1, .int p1), (2, .int p2)]) hx hb dX9_isOne_20 rfl hl (by decide) rfl (fun ls hl => ?_)
    refine lv_iload_n hx hb dX9_isOne_21 rfl (lv_at hl 0 rfl) ?_
    refine lv_iload_n hx hb dX9_isOne_22 rfl (lv_at hl 2 rfl) ?_
    have K31 : ∀ (s0_31 : Int32) (H : Heap) (locs : List Loc) (ls : Array Slot), f9_isOne_J31b N p1 v_lineDate v_lineAge s0_31 = some r → va_P D vwCl [(h0, .inr (9, [oh0_0, oh0_1, oh0_2, oh0_3, oh0_4, oh0_5, oh0_6, oh0_7, oh0_8, oh0_9, oh0_10, oh0_11, oh0_12, oh0_13, oh0_14, oh0_15, oh0_16, oh0_17, oh0_18, oh0_19, oh0_20, oh0_21, oh0_22, oh0_23, oh0_24, oh0_25, oh0_26, oh0_27, oh0_28, oh0_29, oh0_30, oh0_31, oh0_32, .ref h0_lineDate, .ref h0_lineAge, oh0_35, oh0_36, oh0_37])), (h0_lineDate, .inl (cy 2, 8, .inl v_lineDate)), (h0_lineAge, .inl (cy 2, 8, .inl v_lineAge))] H → va_D A [(h0, .inr (9, [oh0_0, oh0_1, oh0_2, oh0_3, oh0_4, oh0_5, oh0_6, oh0_7, oh0_8, oh0_9, oh0_10, oh0_11, oh0_12, oh0_13, oh0_14, oh0_15, oh0_16, oh0_17, oh0_18, oh0_19, oh0_20, oh0_21, oh0_22, oh0_23, oh0_24, oh0_25, oh0_26, oh0_27, oh0_28, oh0_29, oh0_30, oh0_31, oh0_32, .ref h0_lineDate, .ref h0_lineAge, oh0_35, oh0_36, oh0_37])), (h0_lineDate, .inl (cy 2, 8, .inl v_lineDate)), (h0_lineAge, .inl (cy 2, 8, .inl v_lineAge))] → va_S A s.heap H locs → lv_has ls 5 [(0, .ref h0), (3, .int p1)] → W p l e r9_isOne s m args below meth c H locs 0 0 Q (F0 m 31 ls [.int s0_31]) := by
      intro s0_31 H locs ls hM hP hD hS hl
      unfold f9_isOne_J31b at hM
      refine lv_istore (lv' := [(4, .int s0_31), (0, .ref h0), (3, .int p1)]) hx hb dX9_isOne_31 hl (by decide) rfl (fun ls hl => ?_)
      refine lv_aload_n hx hb dX9_isOne_33 rfl (lv_at hl 1 rfl) ?_
      refine va_get (D := D) (ci := 9) (v := .ref h0_lineAge) (C := RX9) (T := TX9) (N := 38) hx hb hts iX9 hown hK hP 0 rfl rfl 34 (by decide) k82 (fun _ h9 => h9) rfl dX9_isOne_34 ?_
      refine lv_iload hx hb dX9_isOne_37 (lv_at hl 0 rfl) ?_
      obtain ⟨h39, hM⟩ := gi_some hM
      refine va_iald hx hb hK hP 2 2 rfl rfl h39 dX9_isOne_39 ?_
      refine lv_aload_n hx hb dX9_isOne_40 rfl (lv_at hl 1 rfl) ?_
      refine va_get (D := D) (ci := 9) (v := .ref h0_lineAge) (C := RX9) (T := TX9) (N := 38) hx hb hts iX9 hown hK hP 0 rfl rfl 34 (by decide) k82 (fun _ h9 => h9) rfl dX9_isOne_41 ?_
      refine lv_iload_n hx hb dX9_isOne_44 rfl (lv_at hl 2 rfl) ?_
      obtain ⟨h45, hM⟩ := gi_some hM
      refine va_iald hx hb hK hP 2 2 rfl rfl h45 dX9_isOne_45 ?_
      refine lv_isub hx hb dX9_isOne_46 ?_
      refine lv_iconst (v := 0) hx hb dX9_isOne_47 (by decide) ?_
      refine lv_aload_n hx hb dX9_isOne_48 rfl (lv_at hl 1 rfl) ?_
      refine va_get (D := D) (ci := 9) (v := .ref h0_lineDate) (C := RX9) (T := TX9) (N := 38) hx hb hts iX9 hown hK hP 0 rfl rfl 33 (by decide) k79 (fun _ h9 => h9) rfl dX9_isOne_49 ?_
      refine lv_iload hx hb dX9_isOne_52 (lv_at hl 0 rfl) ?_
      obtain ⟨h54, hM⟩ := gi_some hM
      refine va_iald hx hb hK hP 1 2 rfl rfl h54 dX9_isOne_54 ?_
      refine lv_aload_n hx hb dX9_isOne_55 rfl (lv_at hl 1 rfl) ?_
      refine va_get (D := D) (ci := 9) (v := .ref h0_lineDate) (C := RX9) (T := TX9) (N := 38) hx hb hts iX9 hown hK hP 0 rfl rfl 33 (by decide) k79 (fun _ h9 => h9) rfl dX9_isOne_56 ?_
      refine lv_iload_n hx hb dX9_isOne_59 rfl (lv_at hl 2 rfl) ?_
      obtain ⟨h60, hM⟩ := gi_some hM
      refine va_iald hx hb hK hP 1 2 rfl rfl h60 dX9_isOne_60 ?_
      refine lv_isub hx hb dX9_isOne_61 ?_
      obtain ⟨r62, hc62, hM⟩ := ob1_some hM
      refine cl_si (As := [.int ((v_lineAge s0_31.toNatClampNeg) - (v_lineAge p1.toNatClampNeg)), .int (0 : Int32), .int ((v_lineDate s0_31.toNatClampNeg) - (v_lineDate p1.toNatClampNeg))]) (rest := []) (wr := [(h0, .inr (9, [oh0_0, oh0_1, oh0_2, oh0_3, oh0_4, oh0_5, oh0_6, oh0_7, oh0_8, oh0_9, oh0_10, oh0_11, oh0_12, oh0_13, oh0_14, oh0_15, oh0_16, oh0_17, oh0_18, oh0_19, oh0_20, oh0_21, oh0_22, oh0_23, oh0_24, oh0_25, oh0_26, oh0_27, oh0_28, oh0_29, oh0_30, oh0_31, oh0_32, .ref h0_lineDate, .ref h0_lineAge, oh0_35, oh0_36, oh0_37])), (h0_lineDate, .inl (cy 2, 8, .inl v_lineDate)), (h0_lineAge, .inl (cy 2, 8, .inl v_lineAge))]) (ws2 := [(h0, .inr (9, [oh0_0, oh0_1, oh0_2, oh0_3, oh0_4, oh0_5, oh0_6, oh0_7, oh0_8, oh0_9, oh0_10, oh0_11, oh0_12, oh0_13, oh0_14, oh0_15, oh0_16, oh0_17, oh0_18, oh0_19, oh0_20, oh0_21, oh0_22, oh0_23, oh0_24, oh0_25, oh0_26, oh0_27, oh0_28, oh0_29, oh0_30, oh0_31, oh0_32, .ref h0_lineDate, .ref h0_lineAge, oh0_35, oh0_36, oh0_37])), (h0_lineDate, .inl (cy 2, 8, .inl v_lineDate)), (h0_lineAge, .inl (cy 2, 8, .inl v_lineAge))]) (isC := []) (isR := [0, 1, 2]) (pm := [0, 1, 2]) hx hb hml hown hts (c9_in l D cy N ((v_lineAge s0_31.toNatClampNeg) - (v_lineAge p1.toNatClampNeg)) (0 : Int32) ((v_lineDate s0_31.toNatClampNeg) - (v_lineDate p1.toNatClampNeg)) r62 hc62) (va_cwS 3 hts gX9_isOne_X9_in rfl rfl rfl (by decide +kernel) ⟨Nat.le_of_ble_eq_true rfl, Nat.le_of_ble_eq_true rfl⟩) hK hP hD hS hA rfl rfl rfl (by decide) rfl rfl rfl hl.1 (Nat.le_of_ble_eq_true rfl) dX9_isOne_62 ⟨Nat.zero_le _, Nat.zero_le _⟩ rfl rfl (fun H locs hP hD hS => ?_)
      obtain ⟨hz65, hM⟩ := gb_some hM
      obtain rfl := si1 hM
      exact hret _ _ _ _ _ dX9_isOne_65 rfl hz65 hP hD hS
    refine lv_icmp_ne (tgt := 30) hx hb dX9_isOne_23 (by decide) (fun c23 => ?_) (fun c23 => ?_)
    · have hM := g_neg c23 hM
      refine lv_iload_n hx hb dX9_isOne_30 rfl (lv_at hl 2 rfl) ?_
      exact K31 p1 _ _ _ hM hP hD hS (lv_sub hl [1, 0] rfl)
    · have hM := g_pos c23 hM
      refine lv_iload_n hx hb dX9_isOne_26 rfl (lv_at hl 3 rfl) ?_
      refine lv_goto (tgt := 31) hx hb dX9_isOne_27 (by decide) ?_
      exact K31 p2 _ _ _ hM hP hD hS (lv_sub hl [1, 0] rfl)

-- ===== X9_canBeOne canBeOne (II)I =====
abbrev r9_canBeOne : Room := { frames := 2, cells := 0, slots := 0, locals := 46 }
def f9_canBeOne (N : Nat) (p1 : Int32) (p2 : Int32) (v_lines : Int32) (v_lineDate : Nat → Int32) (v_lineAge : Nat → Int32) : Option Int32 :=
  ob1 (f9_in N p1 (0 : Int32) (v_lines - (1 : Int32))) fun r8 => if r8 = (0 : Int32) then (some (-1000000002 : Int32)) else (ob1 (f9_in N p2 (0 : Int32) (v_lines - (1 : Int32))) fun r22 => if r22 = (0 : Int32) then (some (-1000000002 : Int32)) else (if p1 = p2 then (some (-1000000002 : Int32)) else (ob1 (f9_isOne N p1 p2 v_lineDate v_lineAge) fun r39 => if r39 = (0 : Int32) then (some (0 : Int32)) else (some (1 : Int32)))))
set_option maxHeartbeats 4000000 in
set_option maxRecDepth 100000 in
theorem c9_canBeOne (l : Launch) (D : va_G) (cy : Nat → ClassId) (N : Nat) (h0 h0_lineDate h0_lineAge : Nat) (oh0_0 oh0_1 oh0_2 oh0_3 oh0_4 oh0_5 oh0_6 oh0_7 oh0_8 oh0_9 oh0_10 oh0_11 oh0_12 oh0_13 oh0_14 oh0_15 oh0_16 oh0_17 oh0_18 oh0_19 oh0_20 oh0_21 oh0_22 oh0_23 oh0_24 oh0_25 oh0_26 oh0_27 oh0_28 oh0_29 oh0_30 oh0_31 oh0_32 oh0_36 oh0_37 : Value) (p1 : Int32) (p2 : Int32) (v_lines : Int32) (v_lineDate : Nat → Int32) (v_lineAge : Nat → Int32) (r : Int32) (hM : f9_canBeOne N p1 p2 v_lines v_lineDate v_lineAge = some r) (sz : Nat) : CTi l yX9_canBeOne wsX9_canBeOne r9_canBeOne [.ref h0, .int p1, .int p2] D cy sz [(h0, .inr (9, [oh0_0, oh0_1, oh0_2, oh0_3, oh0_4, oh0_5, oh0_6, oh0_7, oh0_8, oh0_9, oh0_10, oh0_11, oh0_12, oh0_13, oh0_14, oh0_15, oh0_16, oh0_17, oh0_18, oh0_19, oh0_20, oh0_21, oh0_22, oh0_23, oh0_24, oh0_25, oh0_26, oh0_27, oh0_28, oh0_29, oh0_30, oh0_31, oh0_32, .ref h0_lineDate, .ref h0_lineAge, .int v_lines, oh0_36, oh0_37])), (h0_lineDate, .inl (cy 2, 8, .inl v_lineDate)), (h0_lineAge, .inl (cy 2, 8, .inl v_lineAge))] [(h0, .inr (9, [oh0_0, oh0_1, oh0_2, oh0_3, oh0_4, oh0_5, oh0_6, oh0_7, oh0_8, oh0_9, oh0_10, oh0_11, oh0_12, oh0_13, oh0_14, oh0_15, oh0_16, oh0_17, oh0_18, oh0_19, oh0_20, oh0_21, oh0_22, oh0_23, oh0_24, oh0_25, oh0_26, oh0_27, oh0_28, oh0_29, oh0_30, oh0_31, oh0_32, .ref h0_lineDate, .ref h0_lineAge, .int v_lines, oh0_36, oh0_37])), (h0_lineDate, .inl (cy 2, 8, .inl v_lineDate)), (h0_lineAge, .inl (cy 2, 8, .inl v_lineAge))] r := by
  unfold f9_canBeOne at hM
  refine ct_oi (cc := cX9_canBeOne) (maxL := 3) (ty := .int) (by decide +kernel) rfl (Nat.le_of_ble_eq_true rfl) (lv0 := [(0, .ref h0), (1, .int p1), (2, .int p2)]) rfl ?_
  intro p e s m args below meth c A Q ls hx hb hts hown hml hK hP hD hS hA hret hl
  have hown : s.vm.findClass RX9 = some m.cls := hown
  have k165 := hts (.fieldLink RX9 165 "CaveYearsModel" "lines" "I") (List.mem_of_getElem? (i := 1) rfl)
  have iX9 := (fun w h => (List.mem_cons_of_mem _ (List.mem_append_right _ h)) : ∀ w ∈ wsX90, w ∈ wsX9_canBeOne)
  have k99 := hts (.constant RX9 99 (-1000000002)) (List.mem_of_getElem? (i := 2) rfl)
  refine lv_iload_n hx hb dX9_canBeOne_0 rfl (lv_at hl 1 rfl) ?_
  refine lv_iconst (v := 0) hx hb dX9_canBeOne_1 (by decide) ?_
  refine lv_aload_n hx hb dX9_canBeOne_2 rfl (lv_at hl 0 rfl) ?_
  refine va_get (D := D) (ci := 9) (v := .int v_lines) (C := RX9) (T := TX9) (N := 38) hx hb hts iX9 hown hK hP 0 rfl rfl 35 (by decide) k165 (fun _ h9 => h9) rfl dX9_canBeOne_3 ?_
  refine lv_iconst (v := 1) hx hb dX9_canBeOne_6 (by decide) ?_
  refine lv_isub hx hb dX9_canBeOne_7 ?_
  obtain ⟨r8, hc8, hM⟩ := ob1_some hM
  refine cl_si (As := [.int p1, .int (0 : Int32), .int (v_lines - (1 : Int32))]) (rest := []) (wr := [(h0, .inr (9, [oh0_0, oh0_1, oh0_2, oh0_3, oh0_4, oh0_5, oh0_6, oh0_7, oh0_8, oh0_9, oh0_10, oh0_11, oh0_12, oh0_13, oh0_14, oh0_15, oh0_16, oh0_17, oh0_18, oh0_19, oh0_20, oh0_21, oh0_22, oh0_23, oh0_24, oh0_25, oh0_26, oh0_27, oh0_28, oh0_29, oh0_30, oh0_31, oh0_32, .ref h0_lineDate, .ref h0_lineAge, .int v_lines, oh0_36, oh0_37])), (h0_lineDate, .inl (cy 2, 8, .inl v_lineDate)), (h0_lineAge, .inl (cy 2, 8, .inl v_lineAge))]) (ws2 := [(h0, .inr (9, [oh0_0, oh0_1, oh0_2, oh0_3, oh0_4, oh0_5, oh0_6, oh0_7, oh0_8, oh0_9, oh0_10, oh0_11, oh0_12, oh0_13, oh0_14, oh0_15, oh0_16, oh0_17, oh0_18, oh0_19, oh0_20, oh0_21, oh0_22, oh0_23, oh0_24, oh0_25, oh0_26, oh0_27, oh0_28, oh0_29, oh0_30, oh0_31, oh0_32, .ref h0_lineDate, .ref h0_lineAge, .int v_lines, oh0_36, oh0_37])), (h0_lineDate, .inl (cy 2, 8, .inl v_lineDate)), (h0_lineAge, .inl (cy 2, 8, .inl v_lineAge))]) (isC := []) (isR := [0, 1, 2]) (pm := [0, 1, 2]) hx hb hml hown hts (c9_in l D cy N p1 (0 : Int32) (v_lines - (1 : Int32)) r8 hc8) (va_cwS 3 hts gX9_canBeOne_X9_in rfl rfl rfl (by decide +kernel) ⟨Nat.le_of_ble_eq_true rfl, Nat.le_of_ble_eq_true rfl⟩) hK hP hD hS hA rfl rfl rfl (by decide) rfl rfl rfl hl.1 (Nat.le_of_ble_eq_true rfl) dX9_canBeOne_8 ⟨Nat.zero_le _, Nat.zero_le _⟩ rfl rfl (fun H locs hP hD hS => ?_)
  refine lv_if_eq (tgt := 33) hx hb dX9_canBeOne_11 (by decide) (fun c11 => ?_) (fun c11 => ?_)
  · have hM := g_pos c11 hM
    refine lv_ldc (v := -1000000002) hx hb hown k99 dX9_canBeOne_33 ?_
    obtain rfl := si1 hM
    exact hret _ _ _ _ _ dX9_canBeOne_35 rfl rfl hP hD hS
  · have hM := g_neg c11 hM
    refine lv_iload_n hx hb dX9_canBeOne_14 rfl (lv_at hl 2 rfl) ?_
    refine lv_iconst (v := 0) hx hb dX9_canBeOne_15 (by decide) ?_
    refine lv_aload_n hx hb dX9_canBeOne_16 rfl (lv_at hl 0 rfl) ?_
    refine va_get (D := D) (ci := 9) (v := .int v_lines) (C := RX9) (T := TX9) (N := 38) hx hb hts iX9 hown hK hP 0 rfl rfl 35 (by decide) k165 (fun _ h9 => h9) rfl dX9_canBeOne_17 ?_
    refine lv_iconst (v := 1) hx hb dX9_canBeOne_20 (by decide) ?_
    refine lv_isub hx hb dX9_canBeOne_21 ?_
    obtain ⟨r22, hc22, hM⟩ := ob1_some hM
    refine cl_si (As := [.int p2, .int (0 : Int32), .int (v_lines - (1 : Int32))]) (rest := []) (wr := [(h0, .inr (9, [oh0_0, oh0_1, oh0_2, oh0_3, oh0_4, oh0_5, oh0_6, oh0_7, oh0_8, oh0_9, oh0_10, oh0_11, oh0_12, oh0_13, oh0_14, oh0_15, oh0_16, oh0_17, oh0_18, oh0_19, oh0_20, oh0_21, oh0_22, oh0_23, oh0_24, oh0_25, oh0_26, oh0_27, oh0_28, oh0_29, oh0_30, oh0_31, oh0_32, .ref h0_lineDate, .ref h0_lineAge, .int v_lines, oh0_36, oh0_37])), (h0_lineDate, .inl (cy 2, 8, .inl v_lineDate)), (h0_lineAge, .inl (cy 2, 8, .inl v_lineAge))]) (ws2 := [(h0, .inr (9, [oh0_0, oh0_1, oh0_2, oh0_3, oh0_4, oh0_5, oh0_6, oh0_7, oh0_8, oh0_9, oh0_10, oh0_11, oh0_12, oh0_13, oh0_14, oh0_15, oh0_16, oh0_17, oh0_18, oh0_19, oh0_20, oh0_21, oh0_22, oh0_23, oh0_24, oh0_25, oh0_26, oh0_27, oh0_28, oh0_29, oh0_30, oh0_31, oh0_32, .ref h0_lineDate, .ref h0_lineAge, .int v_lines, oh0_36, oh0_37])), (h0_lineDate, .inl (cy 2, 8, .inl v_lineDate)), (h0_lineAge, .inl (cy 2, 8, .inl v_lineAge))]) (isC := []) (isR := [0, 1, 2]) (pm := [0, 1, 2]) hx hb hml hown hts (c9_in l D cy N p2 (0 : Int32) (v_lines - (1 : Int32)) r22 hc22) (va_cwS 3 hts gX9_canBeOne_X9_in rfl rfl rfl (by decide +kernel) ⟨Nat.le_of_ble_eq_true rfl, Nat.le_of_ble_eq_true rfl⟩) hK hP hD hS hA rfl rfl rfl (by decide) rfl rfl rfl hl.1 (Nat.le_of_ble_eq_true rfl) dX9_canBeOne_22 ⟨Nat.zero_le _, Nat.zero_le _⟩ rfl rfl (fun H locs hP hD hS => ?_)
    refine lv_if_eq (tgt := 33) hx hb dX9_canBeOne_25 (by decide) (fun c25 => ?_) (fun c25 => ?_)
    · have hM := g_pos c25 hM
      refine lv_ldc (v := -1000000002) hx hb hown k99 dX9_canBeOne_33 ?_
      obtain rfl := si1 hM
      exact hret _ _ _ _ _ dX9_canBeOne_35 rfl rfl hP hD hS
    · have hM := g_neg c25 hM
      refine lv_iload_n hx hb dX9_canBeOne_28 rfl (lv_at hl 1 rfl) ?_
      refine lv_iload_n hx hb dX9_canBeOne_29 rfl (lv_at hl 2 rfl) ?_
      refine lv_icmp_ne (tgt := 36) hx hb dX9_canBeOne_30 (by decide) (fun c30 => ?_) (fun c30 => ?_)
      · have hM := g_neg c30 hM
        refine lv_aload_n hx hb dX9_canBeOne_36 rfl (lv_at hl 0 rfl) ?_
        refine lv_iload_n hx hb dX9_canBeOne_37 rfl (lv_at hl 1 rfl) ?_
        refine lv_iload_n hx hb dX9_canBeOne_38 rfl (lv_at hl 2 rfl) ?_
        obtain ⟨r39, hc39, hM⟩ := ob1_some hM
        refine cl_vi (As := [.int p1, .int p2]) (rest := []) (ci := 9) (q0 := 0) (wr := []) (ws2 := [(h0, .inr (9, [oh0_0, oh0_1, oh0_2, oh0_3, oh0_4, oh0_5, oh0_6, oh0_7, oh0_8, oh0_9, oh0_10, oh0_11, oh0_12, oh0_13, oh0_14, oh0_15, oh0_16, oh0_17, oh0_18, oh0_19, oh0_20, oh0_21, oh0_22, oh0_23, oh0_24, oh0_25, oh0_26, oh0_27, oh0_28, oh0_29, oh0_30, oh0_31, oh0_32, .ref h0_lineDate, .ref h0_lineAge, .int v_lines, oh0_36, oh0_37])), (h0_lineDate, .inl (cy 2, 8, .inl v_lineDate)), (h0_lineAge, .inl (cy 2, 8, .inl v_lineAge))]) (isC := [0, 1, 2]) (isR := []) (pm := [0, 1, 2]) hx hb hml hown hts (c9_isOne l D cy N h0 h0_lineDate h0_lineAge oh0_0 oh0_1 oh0_2 oh0_3 oh0_4 oh0_5 oh0_6 oh0_7 oh0_8 oh0_9 oh0_10 oh0_11 oh0_12 oh0_13 oh0_14 oh0_15 oh0_16 oh0_17 oh0_18 oh0_19 oh0_20 oh0_21 oh0_22 oh0_23 oh0_24 oh0_25 oh0_26 oh0_27 oh0_28 oh0_29 oh0_30 oh0_31 oh0_32 (.int v_lines) oh0_36 oh0_37 p1 p2 v_lineDate v_lineAge r39 hc39) (cwV 2 hts gX9_canBeOne_X9_isOne rfl rfl rfl (by decide +kernel) ⟨Nat.le_of_ble_eq_true rfl, Nat.le_of_ble_eq_true rfl⟩) hK hP hD hS hA rfl rfl rfl rfl rfl (by decide) rfl rfl rfl hl.1 (Nat.le_of_ble_eq_true rfl) dX9_canBeOne_39 ⟨Nat.zero_le _, Nat.zero_le _⟩ rfl rfl (fun H locs hP hD hS => ?_)
        refine lv_if_eq (tgt := 49) hx hb dX9_canBeOne_42 (by decide) (fun c42 => ?_) (fun c42 => ?_)
        · have hM := g_pos c42 hM
          refine lv_iconst (v := 0) hx hb dX9_canBeOne_49 (by decide) ?_
          obtain rfl := si1 hM
          exact hret _ _ _ _ _ dX9_canBeOne_50 rfl rfl hP hD hS
        · have hM := g_neg c42 hM
          refine lv_iconst (v := 1) hx hb dX9_canBeOne_45 (by decide) ?_
          refine lv_goto (tgt := 50) hx hb dX9_canBeOne_46 (by decide) ?_
          obtain rfl := si1 hM
          exact hret _ _ _ _ _ dX9_canBeOne_50 rfl rfl hP hD hS
      · have hM := g_pos c30 hM
        refine lv_ldc (v := -1000000002) hx hb hown k99 dX9_canBeOne_33 ?_
        obtain rfl := si1 hM
        exact hret _ _ _ _ _ dX9_canBeOne_35 rfl rfl hP hD hS

-- ===== X9_manyIn manyIn (I)I =====
abbrev r9_manyIn : Room := { frames := 0, cells := 0, slots := 0, locals := 0 }
def f9_manyIn_L4 (N : Nat) (p1 : Int32) (v_man : Nat → Int32) : Nat → Int32 → Int32 → Option Int32
  | 0, _, _ => none
  | n + 1, x2_4, x3_4 => if p1 ≤ x3_4 then (some x2_4) else (gi x3_4 8 (if ((v_man x3_4.toNatClampNeg) + (1 : Int32)) ≤ x2_4 then ((f9_manyIn_L4 N p1 v_man n) x2_4 (x3_4 + (1 : Int32))) else (gi x3_4 8 ((f9_manyIn_L4 N p1 v_man n) ((v_man x3_4.toNatClampNeg) + (1 : Int32)) (x3_4 + (1 : Int32))))))
def f9_manyIn (N : Nat) (p1 : Int32) (v_man : Nat → Int32) : Option Int32 :=
  ob1 (f9_manyIn_L4 N p1 v_man N (0 : Int32) (0 : Int32)) fun e2_4 => some e2_4
set_option maxHeartbeats 4000000 in
set_option maxRecDepth 100000 in
theorem c9_manyIn (l : Launch) (D : va_G) (cy : Nat → ClassId) (N : Nat) (h0 h0_man : Nat) (oh0_0 oh0_1 oh0_2 oh0_3 oh0_4 oh0_5 oh0_6 oh0_7 oh0_8 oh0_9 oh0_10 oh0_11 oh0_12 oh0_13 oh0_14 oh0_15 oh0_16 oh0_17 oh0_18 oh0_19 oh0_20 oh0_21 oh0_22 oh0_23 oh0_24 oh0_25 oh0_26 oh0_27 oh0_28 oh0_29 oh0_30 oh0_31 oh0_32 oh0_33 oh0_34 oh0_35 oh0_37 : Value) (p1 : Int32) (v_man : Nat → Int32) (r : Int32) (hM : f9_manyIn N p1 v_man = some r) (sz : Nat) : CTi l yX9_manyIn wsX9_manyIn r9_manyIn [.ref h0, .int p1] D cy sz [(h0, .inr (9, [oh0_0, oh0_1, oh0_2, oh0_3, oh0_4, oh0_5, oh0_6, oh0_7, oh0_8, oh0_9, oh0_10, oh0_11, oh0_12, oh0_13, oh0_14, oh0_15, oh0_16, oh0_17, oh0_18, oh0_19, oh0_20, oh0_21, oh0_22, oh0_23, oh0_24, oh0_25, oh0_26, oh0_27, oh0_28, oh0_29, oh0_30, oh0_31, oh0_32, oh0_33, oh0_34, oh0_35, .ref h0_man, oh0_37])), (h0_man, .inl (cy 2, 8, .inl v_man))] [(h0, .inr (9, [oh0_0, oh0_1, oh0_2, oh0_3, oh0_4, oh0_5, oh0_6, oh0_7, oh0_8, oh0_9, oh0_10, oh0_11, oh0_12, oh0_13, oh0_14, oh0_15, oh0_16, oh0_17, oh0_18, oh0_19, oh0_20, oh0_21, oh0_22, oh0_23, oh0_24, oh0_25, oh0_26, oh0_27, oh0_28, oh0_29, oh0_30, oh0_31, oh0_32, oh0_33, oh0_34, oh0_35, .ref h0_man, oh0_37])), (h0_man, .inl (cy 2, 8, .inl v_man))] r := by
  unfold f9_manyIn at hM
  refine ct_oi (cc := cX9_manyIn) (maxL := 4) (ty := .int) (by decide +kernel) rfl (Nat.le_of_ble_eq_true rfl) (lv0 := [(0, .ref h0), (1, .int p1)]) rfl ?_
  intro p e s m args below meth c A Q ls hx hb hts hown hml hK hP hD hS hA hret hl
  have hown : s.vm.findClass RX9 = some m.cls := hown
  have k85 := hts (.fieldLink RX9 85 "CaveYearsModel" "man" "[I") (List.mem_of_getElem? (i := 1) rfl)
  have iX9 := (fun w h => (List.mem_cons_of_mem _ (List.mem_append_right _ h)) : ∀ w ∈ wsX90, w ∈ wsX9_manyIn)
  refine lv_iconst (v := 0) hx hb dX9_manyIn_0 (by decide) ?_
  refine lv_istore_n (lv' := [(2, .int (0 : Int32)), (0, .ref h0), (1, .int p1)]) hx hb dX9_manyIn_1 rfl hl (by decide) rfl (fun ls hl => ?_)
  refine lv_iconst (v := 0) hx hb dX9_manyIn_2 (by decide) ?_
  refine lv_istore_n (lv' := [(3, .int (0 : Int32)), (2, .int (0 : Int32)), (0, .ref h0), (1, .int p1)]) hx hb dX9_manyIn_3 rfl hl (by decide) rfl (fun ls hl => ?_)
  have L4 : ∀ (n : Nat) (x2_4 : Int32) (x3_4 : Int32) (e2_4 : Int32) (H : Heap) (locs : List Loc) (ls : Array Slot), f9_manyIn_L4 N p1 v_man n x2_4 x3_4 = some e2_4 → va_P D vwCl [(h0, .inr (9, [oh0_0, oh0_1, oh0_2, oh0_3, oh0_4, oh0_5, oh0_6, oh0_7, oh0_8, oh0_9, oh0_10, oh0_11, oh0_12, oh0_13, oh0_14, oh0_15, oh0_16, oh0_17, oh0_18, oh0_19, oh0_20, oh0_21, oh0_22, oh0_23, oh0_24, oh0_25, oh0_26, oh0_27, oh0_28, oh0_29, oh0_30, oh0_31, oh0_32, oh0_33, oh0_34, oh0_35, .ref h0_man, oh0_37])), (h0_man, .inl (cy 2, 8, .inl v_man))] H → va_D A [(h0, .inr (9, [oh0_0, oh0_1, oh0_2, oh0_3, oh0_4, oh0_5, oh0_6, oh0_7, oh0_8, oh0_9, oh0_10, oh0_11, oh0_12, oh0_13, oh0_14, oh0_15, oh0_16, oh0_17, oh0_18, oh0_19, oh0_20, oh0_21, oh0_22, oh0_23, oh0_24, oh0_25, oh0_26, oh0_27, oh0_28, oh0_29, oh0_30, oh0_31, oh0_32, oh0_33, oh0_34, oh0_35, .ref h0_man, oh0_37])), (h0_man, .inl (cy 2, 8, .inl v_man))] → va_S A s.heap H locs → lv_has ls 4 [(0, .ref h0), (1, .int p1), (2, .int x2_4), (3, .int x3_4)] → (∀ (H : Heap) (locs : List Loc) (ls : Array Slot), va_P D vwCl [(h0, .inr (9, [oh0_0, oh0_1, oh0_2, oh0_3, oh0_4, oh0_5, oh0_6, oh0_7, oh0_8, oh0_9, oh0_10, oh0_11, oh0_12, oh0_13, oh0_14, oh0_15, oh0_16, oh0_17, oh0_18, oh0_19, oh0_20, oh0_21, oh0_22, oh0_23, oh0_24, oh0_25, oh0_26, oh0_27, oh0_28, oh0_29, oh0_30, oh0_31, oh0_32, oh0_33, oh0_34, oh0_35, .ref h0_man, oh0_37])), (h0_man, .inl (cy 2, 8, .inl v_man))] H → va_D A [(h0, .inr (9, [oh0_0, oh0_1, oh0_2, oh0_3, oh0_4, oh0_5, oh0_6, oh0_7, oh0_8, oh0_9, oh0_10, oh0_11, oh0_12, oh0_13, oh0_14, oh0_15, oh0_16, oh0_17, oh0_18, oh0_19, oh0_20, oh0_21, oh0_22, oh0_23, oh0_24, oh0_25, oh0_26, oh0_27, oh0_28, oh0_29, oh0_30, oh0_31, oh0_32, oh0_33, oh0_34, oh0_35, .ref h0_man, oh0_37])), (h0_man, .inl (cy 2, 8, .inl v_man))] → va_S A s.heap H locs → lv_has ls 4 [(2, .int e2_4)] → W p l e r9_manyIn s m args below meth c H locs 0 0 Q (F0 m 40 ls [])) → W p l e r9_manyIn s m args below meth c H locs 0 0 Q (F0 m 4 ls []) := by
    intro n
    induction n with
    | zero =>
      intro x2_4 x3_4 e2_4 H locs ls hM
      exact absurd hM (by simp [f9_manyIn_L4])
    | succ n ih =>
      intro x2_4 x3_4 e2_4 H locs ls hM hP hD hS hl K
      rw [f9_manyIn_L4] at hM
      refine lv_iload_n hx hb dX9_manyIn_4 rfl (lv_at hl 3 rfl) ?_
      refine lv_iload_n hx hb dX9_manyIn_5 rfl (lv_at hl 1 rfl) ?_
      refine lv_icmp_ge (tgt := 40) hx hb dX9_manyIn_6 (by decide) (fun c6 => ?_) (fun c6 => ?_)
      · have hM := g_pos c6 hM
        obtain rfl := si1 hM
        exact K _ _ _ hP hD hS (lv_sub hl [2] rfl)
      · have hM := g_neg c6 hM
        refine lv_aload_n hx hb dX9_manyIn_9 rfl (lv_at hl 0 rfl) ?_
        refine va_get (D := D) (ci := 9) (v := .ref h0_man) (C := RX9) (T := TX9) (N := 38) hx hb hts iX9 hown hK hP 0 rfl rfl 36 (by decide) k85 (fun _ h9 => h9) rfl dX9_manyIn_10 ?_
        refine lv_iload_n hx hb dX9_manyIn_13 rfl (lv_at hl 3 rfl) ?_
        obtain ⟨h14, hM⟩ := gi_some hM
        refine va_iald hx hb hK hP 1 2 rfl rfl h14 dX9_manyIn_14 ?_
        refine lv_iconst (v := 1) hx hb dX9_manyIn_15 (by decide) ?_
        refine lv_iadd hx hb dX9_manyIn_16 ?_
        refine lv_iload_n hx hb dX9_manyIn_17 rfl (lv_at hl 2 rfl) ?_
        refine lv_icmp_le (tgt := 32) hx hb dX9_manyIn_18 (by decide) (fun c18 => ?_) (fun c18 => ?_)
        · have hM := g_pos c18 hM
          refine lv_iload_n hx hb dX9_manyIn_32 rfl (lv_at hl 2 rfl) ?_
          refine lv_istore_n (lv' := [(2, .int x2_4), (0, .ref h0), (1, .int p1), (3, .int x3_4)]) hx hb dX9_manyIn_33 rfl hl (by decide) rfl (fun ls hl => ?_)
          refine lv_iinc (v := x3_4 + (1 : Int32)) (lv' := [(3, .int (x3_4 + (1 : Int32))), (2, .int x2_4), (0, .ref h0), (1, .int p1)]) hx hb dX9_manyIn_34 hl (k := 3) rfl rfl (by decide) rfl (fun ls hl => ?_)
          refine lv_goto (tgt := 4) hx hb dX9_manyIn_37 (by decide) ?_
          exact ih x2_4 (x3_4 + (1 : Int32)) e2_4 _ _ _ hM hP hD hS (lv_sub hl [2, 3, 1, 0] rfl) K
        · have hM := g_neg c18 hM
          refine lv_aload_n hx hb dX9_manyIn_21 rfl (lv_at hl 0 rfl) ?_
          refine va_get (D := D) (ci := 9) (v := .ref h0_man) (C := RX9) (T := TX9) (N := 38) hx hb hts iX9 hown hK hP 0 rfl rfl 36 (by decide) k85 (fun _ h9 => h9) rfl dX9_manyIn_22 ?_
          refine lv_iload_n hx hb dX9_manyIn_25 rfl (lv_at hl 3 rfl) ?_
          obtain ⟨h26, hM⟩ := gi_some hM
          refine va_iald hx hb hK hP 1 2 rfl rfl h26 dX9_manyIn_26 ?_
          refine lv_iconst (v := 1) hx hb dX9_manyIn_27 (by decide) ?_
          refine lv_iadd hx hb dX9_manyIn_28 ?_
          refine lv_goto (tgt := 33) hx hb dX9_manyIn_29 (by decide) ?_
          refine lv_istore_n (lv' := [(2, .int ((v_man x3_4.toNatClampNeg) + (1 : Int32))), (0, .ref h0), (1, .int p1), (3, .int x3_4)]) hx hb dX9_manyIn_33 rfl hl (by decide) rfl (fun ls hl => ?_)
          refine lv_iinc (v := x3_4 + (1 : Int32)) (lv' := [(3, .int (x3_4 + (1 : Int32))), (2, .int ((v_man x3_4.toNatClampNeg) + (1 : Int32))), (0, .ref h0), (1, .int p1)]) hx hb dX9_manyIn_34 hl (k := 3) rfl rfl (by decide) rfl (fun ls hl => ?_)
          refine lv_goto (tgt := 4) hx hb dX9_manyIn_37 (by decide) ?_
          exact ih ((v_man x3_4.toNatClampNeg) + (1 : Int32)) (x3_4 + (1 : Int32)) e2_4 _ _ _ hM hP hD hS (lv_sub hl [2, 3, 1, 0] rfl) K
  obtain ⟨e2_4, hL4, hM⟩ := ob1_some hM
  refine L4 N (0 : Int32) (0 : Int32) e2_4 _ _ _ hL4 hP hD hS (lv_sub hl [2, 3, 1, 0] rfl) ?_
  intro H locs ls hP hD hS hl
  refine lv_iload_n hx hb dX9_manyIn_40 rfl (lv_at hl 0 rfl) ?_
  obtain rfl := si1 hM
  exact hret _ _ _ _ _ dX9_manyIn_41 rfl rfl hP hD hS

-- ===== X9_mayBe mayBe (I)Z =====
abbrev r9_mayBe : Room := { frames := 2, cells := 0, slots := 0, locals := 46 }
def f9_mayBe_L4 (N : Nat) (p1 : Int32) (v_lineDate : Nat → Int32) (v_lineAge : Nat → Int32) (v_man : Nat → Int32) : Nat → Int32 → Int32 → Option Int32
  | 0, _, _ => none
  | n + 1, x2_4, x3_4 => if p1 ≤ x3_4 then (some x2_4) else (if x2_4 = (0 : Int32) then ((f9_mayBe_L4 N p1 v_lineDate v_lineAge v_man n) (0 : Int32) (x3_4 + (1 : Int32))) else (gi x3_4 8 (gi p1 8 (if (v_man x3_4.toNatClampNeg) = (v_man p1.toNatClampNeg) then (ob1 (f9_isOne N x3_4 p1 v_lineDate v_lineAge) fun r31 => if r31 = (0 : Int32) then ((f9_mayBe_L4 N p1 v_lineDate v_lineAge v_man n) (0 : Int32) (x3_4 + (1 : Int32))) else ((f9_mayBe_L4 N p1 v_lineDate v_lineAge v_man n) (1 : Int32) (x3_4 + (1 : Int32)))) else ((f9_mayBe_L4 N p1 v_lineDate v_lineAge v_man n) (1 : Int32) (x3_4 + (1 : Int32)))))))
def f9_mayBe (N : Nat) (p1 : Int32) (v_lineDate : Nat → Int32) (v_lineAge : Nat → Int32) (v_man : Nat → Int32) : Option Int32 :=
  ob1 (f9_mayBe_L4 N p1 v_lineDate v_lineAge v_man N (1 : Int32) (0 : Int32)) fun e2_4 => gb e2_4 (some e2_4)
set_option maxHeartbeats 4000000 in
set_option maxRecDepth 100000 in
theorem c9_mayBe (l : Launch) (D : va_G) (cy : Nat → ClassId) (N : Nat) (h0 h0_lineDate h0_lineAge h0_man : Nat) (oh0_0 oh0_1 oh0_2 oh0_3 oh0_4 oh0_5 oh0_6 oh0_7 oh0_8 oh0_9 oh0_10 oh0_11 oh0_12 oh0_13 oh0_14 oh0_15 oh0_16 oh0_17 oh0_18 oh0_19 oh0_20 oh0_21 oh0_22 oh0_23 oh0_24 oh0_25 oh0_26 oh0_27 oh0_28 oh0_29 oh0_30 oh0_31 oh0_32 oh0_35 oh0_37 : Value) (p1 : Int32) (v_lineDate : Nat → Int32) (v_lineAge : Nat → Int32) (v_man : Nat → Int32) (r : Int32) (hM : f9_mayBe N p1 v_lineDate v_lineAge v_man = some r) (sz : Nat) : CTi l yX9_mayBe wsX9_mayBe r9_mayBe [.ref h0, .int p1] D cy sz [(h0, .inr (9, [oh0_0, oh0_1, oh0_2, oh0_3, oh0_4, oh0_5, oh0_6, oh0_7, oh0_8, oh0_9, oh0_10, oh0_11, oh0_12, oh0_13, oh0_14, oh0_15, oh0_16, oh0_17, oh0_18, oh0_19, oh0_20, oh0_21, oh0_22, oh0_23, oh0_24, oh0_25, oh0_26, oh0_27, oh0_28, oh0_29, oh0_30, oh0_31, oh0_32, .ref h0_lineDate, .ref h0_lineAge, oh0_35, .ref h0_man, oh0_37])), (h0_lineDate, .inl (cy 2, 8, .inl v_lineDate)), (h0_lineAge, .inl (cy 2, 8, .inl v_lineAge)), (h0_man, .inl (cy 2, 8, .inl v_man))] [(h0, .inr (9, [oh0_0, oh0_1, oh0_2, oh0_3, oh0_4, oh0_5, oh0_6, oh0_7, oh0_8, oh0_9, oh0_10, oh0_11, oh0_12, oh0_13, oh0_14, oh0_15, oh0_16, oh0_17, oh0_18, oh0_19, oh0_20, oh0_21, oh0_22, oh0_23, oh0_24, oh0_25, oh0_26, oh0_27, oh0_28, oh0_29, oh0_30, oh0_31, oh0_32, .ref h0_lineDate, .ref h0_lineAge, oh0_35, .ref h0_man, oh0_37])), (h0_lineDate, .inl (cy 2, 8, .inl v_lineDate)), (h0_lineAge, .inl (cy 2, 8, .inl v_lineAge)), (h0_man, .inl (cy 2, 8, .inl v_man))] r := by
  unfold f9_mayBe at hM
  refine ct_oi (cc := cX9_mayBe) (maxL := 4) (ty := .boolean) (by decide +kernel) rfl (Nat.le_of_ble_eq_true rfl) (lv0 := [(0, .ref h0), (1, .int p1)]) rfl ?_
  intro p e s m args below meth c A Q ls hx hb hts hown hml hK hP hD hS hA hret hl
  have hown : s.vm.findClass RX9 = some m.cls := hown
  have k85 := hts (.fieldLink RX9 85 "CaveYearsModel" "man" "[I") (List.mem_of_getElem? (i := 1) rfl)
  have iX9 := (fun w h => (List.mem_cons_of_mem _ (List.mem_append_right _ h)) : ∀ w ∈ wsX90, w ∈ wsX9_mayBe)
  refine lv_iconst (v := 1) hx hb dX9_mayBe_0 (by decide) ?_
  refine lv_istore_n (lv' := [(2, .int (1 : Int32)), (0, .ref h0), (1, .int p1)]) hx hb dX9_mayBe_1 rfl hl (by decide) rfl (fun ls hl => ?_)
  refine lv_iconst (v := 0) hx hb dX9_mayBe_2 (by decide) ?_
  refine lv_istore_n (lv' := [(3, .int (0 : Int32)), (2, .int (1 : Int32)), (0, .ref h0), (1, .int p1)]) hx hb dX9_mayBe_3 rfl hl (by decide) rfl (fun ls hl => ?_)
  have L4 : ∀ (n : Nat) (x2_4 : Int32) (x3_4 : Int32) (e2_4 : Int32) (H : Heap) (locs : List Loc) (ls : Array Slot), f9_mayBe_L4 N p1 v_lineDate v_lineAge v_man n x2_4 x3_4 = some e2_4 → va_P D vwCl [(h0, .inr (9, [oh0_0, oh0_1, oh0_2, oh0_3, oh0_4, oh0_5, oh0_6, oh0_7, oh0_8, oh0_9, oh0_10, oh0_11, oh0_12, oh0_13, oh0_14, oh0_15, oh0_16, oh0_17, oh0_18, oh0_19, oh0_20, oh0_21, oh0_22, oh0_23, oh0_24, oh0_25, oh0_26, oh0_27, oh0_28, oh0_29, oh0_30, oh0_31, oh0_32, .ref h0_lineDate, .ref h0_lineAge, oh0_35, .ref h0_man, oh0_37])), (h0_lineDate, .inl (cy 2, 8, .inl v_lineDate)), (h0_lineAge, .inl (cy 2, 8, .inl v_lineAge)), (h0_man, .inl (cy 2, 8, .inl v_man))] H → va_D A [(h0, .inr (9, [oh0_0, oh0_1, oh0_2, oh0_3, oh0_4, oh0_5, oh0_6, oh0_7, oh0_8, oh0_9, oh0_10, oh0_11, oh0_12, oh0_13, oh0_14, oh0_15, oh0_16, oh0_17, oh0_18, oh0_19, oh0_20, oh0_21, oh0_22, oh0_23, oh0_24, oh0_25, oh0_26, oh0_27, oh0_28, oh0_29, oh0_30, oh0_31, oh0_32, .ref h0_lineDate, .ref h0_lineAge, oh0_35, .ref h0_man, oh0_37])), (h0_lineDate, .inl (cy 2, 8, .inl v_lineDate)), (h0_lineAge, .inl (cy 2, 8, .inl v_lineAge)), (h0_man, .inl (cy 2, 8, .inl v_man))] → va_S A s.heap H locs → lv_has ls 4 [(0, .ref h0), (1, .int p1), (2, .int x2_4), (3, .int x3_4)] → (∀ (H : Heap) (locs : List Loc) (ls : Array Slot), va_P D vwCl [(h0, .inr (9, [oh0_0, oh0_1, oh0_2, oh0_3, oh0_4, oh0_5, oh0_6, oh0_7, oh0_8, oh0_9, oh0_10, oh0_11, oh0_12, oh0_13, oh0_14, oh0_15, oh0_16, oh0_17, oh0_18, oh0_19, oh0_20, oh0_21, oh0_22, oh0_23, oh0_24, oh0_25, oh0_26, oh0_27, oh0_28, oh0_29, oh0_30, oh0_31, oh0_32, .ref h0_lineDate, .ref h0_lineAge, oh0_35, .ref h0_man, oh0_37])), (h0_lineDate, .inl (cy 2, 8, .inl v_lineDate)), (h0_lineAge, .inl (cy 2, 8, .inl v_lineAge)), (h0_man, .inl (cy 2, 8, .inl v_man))] H → va_D A [(h0, .inr (9, [oh0_0, oh0_1, oh0_2, oh0_3, oh0_4, oh0_5, oh0_6, oh0_7, oh0_8, oh0_9, oh0_10, oh0_11, oh0_12, oh0_13, oh0_14, oh0_15, oh0_16, oh0_17, oh0_18, oh0_19, oh0_20, oh0_21, oh0_22, oh0_23, oh0_24, oh0_25, oh0_26, oh0_27, oh0_28, oh0_29, oh0_30, oh0_31, oh0_32, .ref h0_lineDate, .ref h0_lineAge, oh0_35, .ref h0_man, oh0_37])), (h0_lineDate, .inl (cy 2, 8, .inl v_lineDate)), (h0_lineAge, .inl (cy 2, 8, .inl v_lineAge)), (h0_man, .inl (cy 2, 8, .inl v_man))] → va_S A s.heap H locs → lv_has ls 4 [(2, .int e2_4)] → W p l e r9_mayBe s m args below meth c H locs 0 0 Q (F0 m 49 ls [])) → W p l e r9_mayBe s m args below meth c H locs 0 0 Q (F0 m 4 ls []) := by
    intro n
    induction n with
    | zero =>
      intro x2_4 x3_4 e2_4 H locs ls hM
      exact absurd hM (by simp [f9_mayBe_L4])
    | succ n ih =>
      intro x2_4 x3_4 e2_4 H locs ls hM hP hD hS hl K
      rw [f9_mayBe_L4] at hM
      refine lv_iload_n hx hb dX9_mayBe_4 rfl (lv_at hl 3 rfl) ?_
      refine lv_iload_n hx hb dX9_mayBe_5 rfl (lv_at hl 1 rfl) ?_
      refine lv_icmp_ge (tgt := 49) hx hb dX9_mayBe_6 (by decide) (fun c6 => ?_) (fun c6 => ?_)
      · have hM := g_pos c6 hM
        obtain rfl := si1 hM
        exact K _ _ _ hP hD hS (lv_sub hl [2] rfl)
      · have hM := g_neg c6 hM
        refine lv_iload_n hx hb dX9_mayBe_9 rfl (lv_at hl 2 rfl) ?_
        refine lv_if_eq (tgt := 41) hx hb dX9_mayBe_10 (by decide) (fun c10 => ?_) (fun c10 => ?_)
        · have hM := g_pos c10 hM
          refine lv_iconst (v := 0) hx hb dX9_mayBe_41 (by decide) ?_
          refine lv_istore_n (lv' := [(2, .int (0 : Int32)), (0, .ref h0), (1, .int p1), (3, .int x3_4)]) hx hb dX9_mayBe_42 rfl hl (by decide) rfl (fun ls hl => ?_)
          refine lv_iinc (v := x3_4 + (1 : Int32)) (lv' := [(3, .int (x3_4 + (1 : Int32))), (2, .int (0 : Int32)), (0, .ref h0), (1, .int p1)]) hx hb dX9_mayBe_43 hl (k := 3) rfl rfl (by decide) rfl (fun ls hl => ?_)
          refine lv_goto (tgt := 4) hx hb dX9_mayBe_46 (by decide) ?_
          exact ih (0 : Int32) (x3_4 + (1 : Int32)) e2_4 _ _ _ hM hP hD hS (lv_sub hl [2, 3, 1, 0] rfl) K
        · have hM := g_neg c10 hM
          refine lv_aload_n hx hb dX9_mayBe_13 rfl (lv_at hl 0 rfl) ?_
          refine va_get (D := D) (ci := 9) (v := .ref h0_man) (C := RX9) (T := TX9) (N := 38) hx hb hts iX9 hown hK hP 0 rfl rfl 36 (by decide) k85 (fun _ h9 => h9) rfl dX9_mayBe_14 ?_
          refine lv_iload_n hx hb dX9_mayBe_17 rfl (lv_at hl 3 rfl) ?_
          obtain ⟨h18, hM⟩ := gi_some hM
          refine va_iald hx hb hK hP 3 2 rfl rfl h18 dX9_mayBe_18 ?_
          refine lv_aload_n hx hb dX9_mayBe_19 rfl (lv_at hl 0 rfl) ?_
          refine va_get (D := D) (ci := 9) (v := .ref h0_man) (C := RX9) (T := TX9) (N := 38) hx hb hts iX9 hown hK hP 0 rfl rfl 36 (by decide) k85 (fun _ h9 => h9) rfl dX9_mayBe_20 ?_
          refine lv_iload_n hx hb dX9_mayBe_23 rfl (lv_at hl 1 rfl) ?_
          obtain ⟨h24, hM⟩ := gi_some hM
          refine va_iald hx hb hK hP 3 2 rfl rfl h24 dX9_mayBe_24 ?_
          refine lv_icmp_ne (tgt := 37) hx hb dX9_mayBe_25 (by decide) (fun c25 => ?_) (fun c25 => ?_)
          · have hM := g_neg c25 hM
            refine lv_iconst (v := 1) hx hb dX9_mayBe_37 (by decide) ?_
            refine lv_goto (tgt := 42) hx hb dX9_mayBe_38 (by decide) ?_
            refine lv_istore_n (lv' := [(2, .int (1 : Int32)), (0, .ref h0), (1, .int p1), (3, .int x3_4)]) hx hb dX9_mayBe_42 rfl hl (by decide) rfl (fun ls hl => ?_)
            refine lv_iinc (v := x3_4 + (1 : Int32)) (lv' := [(3, .int (x3_4 + (1 : Int32))), (2, .int (1 : Int32)), (0, .ref h0), (1, .int p1)]) hx hb dX9_mayBe_43 hl (k := 3) rfl rfl (by decide) rfl (fun ls hl => ?_)
            refine lv_goto (tgt := 4) hx hb dX9_mayBe_46 (by decide) ?_
            exact ih (1 : Int32) (x3_4 + (1 : Int32)) e2_4 _ _ _ hM hP hD hS (lv_sub hl [2, 3, 1, 0] rfl) K
          · have hM := g_pos c25 hM
            refine lv_aload_n hx hb dX9_mayBe_28 rfl (lv_at hl 0 rfl) ?_
            refine lv_iload_n hx hb dX9_mayBe_29 rfl (lv_at hl 3 rfl) ?_
            refine lv_iload_n hx hb dX9_mayBe_30 rfl (lv_at hl 1 rfl) ?_
            obtain ⟨r31, hc31, hM⟩ := ob1_some hM
            refine cl_vi (As := [.int x3_4, .int p1]) (rest := []) (ci := 9) (q0 := 0) (wr := [(h0_man, .inl (cy 2, 8, .inl v_man))]) (ws2 := [(h0, .inr (9, [oh0_0, oh0_1, oh0_2, oh0_3, oh0_4, oh0_5, oh0_6, oh0_7, oh0_8, oh0_9, oh0_10, oh0_11, oh0_12, oh0_13, oh0_14, oh0_15, oh0_16, oh0_17, oh0_18, oh0_19, oh0_20, oh0_21, oh0_22, oh0_23, oh0_24, oh0_25, oh0_26, oh0_27, oh0_28, oh0_29, oh0_30, oh0_31, oh0_32, .ref h0_lineDate, .ref h0_lineAge, oh0_35, .ref h0_man, oh0_37])), (h0_lineDate, .inl (cy 2, 8, .inl v_lineDate)), (h0_lineAge, .inl (cy 2, 8, .inl v_lineAge)), (h0_man, .inl (cy 2, 8, .inl v_man))]) (isC := [0, 1, 2]) (isR := [3]) (pm := [1, 2, 3, 0]) hx hb hml hown hts (c9_isOne l D cy N h0 h0_lineDate h0_lineAge oh0_0 oh0_1 oh0_2 oh0_3 oh0_4 oh0_5 oh0_6 oh0_7 oh0_8 oh0_9 oh0_10 oh0_11 oh0_12 oh0_13 oh0_14 oh0_15 oh0_16 oh0_17 oh0_18 oh0_19 oh0_20 oh0_21 oh0_22 oh0_23 oh0_24 oh0_25 oh0_26 oh0_27 oh0_28 oh0_29 oh0_30 oh0_31 oh0_32 oh0_35 (.ref h0_man) oh0_37 x3_4 p1 v_lineDate v_lineAge r31 hc31) (cwV 2 hts gX9_mayBe_X9_isOne rfl rfl rfl (by decide +kernel) ⟨Nat.le_of_ble_eq_true rfl, Nat.le_of_ble_eq_true rfl⟩) hK hP hD hS hA rfl rfl rfl rfl rfl (by decide) rfl rfl rfl hl.1 (Nat.le_of_ble_eq_true rfl) dX9_mayBe_31 ⟨Nat.zero_le _, Nat.zero_le _⟩ rfl rfl (fun H locs hP hD hS => ?_)
            refine lv_if_eq (tgt := 41) hx hb dX9_mayBe_34 (by decide) (fun c34 => ?_) (fun c34 => ?_)
            · have hM := g_pos c34 hM
              refine lv_iconst (v := 0) hx hb dX9_mayBe_41 (by decide) ?_
              refine lv_istore_n (lv' := [(2, .int (0 : Int32)), (0, .ref h0), (1, .int p1), (3, .int x3_4)]) hx hb dX9_mayBe_42 rfl hl (by decide) rfl (fun ls hl => ?_)
              refine lv_iinc (v := x3_4 + (1 : Int32)) (lv' := [(3, .int (x3_4 + (1 : Int32))), (2, .int (0 : Int32)), (0, .ref h0), (1, .int p1)]) hx hb dX9_mayBe_43 hl (k := 3) rfl rfl (by decide) rfl (fun ls hl => ?_)
              refine lv_goto (tgt := 4) hx hb dX9_mayBe_46 (by decide) ?_
              exact ih (0 : Int32) (x3_4 + (1 : Int32)) e2_4 _ _ _ hM hP hD hS (lv_sub hl [2, 3, 1, 0] rfl) K
            · have hM := g_neg c34 hM
              refine lv_iconst (v := 1) hx hb dX9_mayBe_37 (by decide) ?_
              refine lv_goto (tgt := 42) hx hb dX9_mayBe_38 (by decide) ?_
              refine lv_istore_n (lv' := [(2, .int (1 : Int32)), (0, .ref h0), (1, .int p1), (3, .int x3_4)]) hx hb dX9_mayBe_42 rfl hl (by decide) rfl (fun ls hl => ?_)
              refine lv_iinc (v := x3_4 + (1 : Int32)) (lv' := [(3, .int (x3_4 + (1 : Int32))), (2, .int (1 : Int32)), (0, .ref h0), (1, .int p1)]) hx hb dX9_mayBe_43 hl (k := 3) rfl rfl (by decide) rfl (fun ls hl => ?_)
              refine lv_goto (tgt := 4) hx hb dX9_mayBe_46 (by decide) ?_
              exact ih (1 : Int32) (x3_4 + (1 : Int32)) e2_4 _ _ _ hM hP hD hS (lv_sub hl [2, 3, 1, 0] rfl) K
  obtain ⟨e2_4, hL4, hM⟩ := ob1_some hM
  refine L4 N (1 : Int32) (0 : Int32) e2_4 _ _ _ hL4 hP hD hS (lv_sub hl [2, 3, 1, 0] rfl) ?_
  intro H locs ls hP hD hS hl
  refine lv_iload_n hx hb dX9_mayBe_49 rfl (lv_at hl 0 rfl) ?_
  obtain ⟨hz50, hM⟩ := gb_some hM
  obtain rfl := si1 hM
  exact hret _ _ _ _ _ dX9_mayBe_50 rfl hz50 hP hD hS

-- ===== X9_findFewest findFewest ()I =====
abbrev r9_findFewest : Room := { frames := 3, cells := 0, slots := 0, locals := 69 }
def f9_findFewest_L89 (N : Nat) (v_lines : Int32) (x1_25 : Int32) (x2_25 : Int32) (v_man_25 : Nat → Int32) (r82 : Int32) : Nat → Int32 → (Nat → Int32) → Option (Nat → Int32)
  | 0, _, _ => none
  | n + 1, x4_89, v_bestMan_89 => if v_lines ≤ x4_89 then (some v_bestMan_89) else (if x1_25 ≤ r82 then (some v_bestMan_89) else (gi x4_89 8 (gi x4_89 8 ((f9_findFewest_L89 N v_lines x1_25 x2_25 v_man_25 r82 n) (x4_89 + (1 : Int32)) (upd v_bestMan_89 x4_89.toNatClampNeg ((upd v_man_25 x2_25.toNatClampNeg ((v_man_25 x2_25.toNatClampNeg) + (1 : Int32))) x4_89.toNatClampNeg))))))
def f9_findFewest_L25 (N : Nat) (v_lines : Int32) (v_lineDate : Nat → Int32) (v_lineAge : Nat → Int32) : Nat → Int32 → Int32 → (Nat → Int32) → (Nat → Int32) → Option (Int32 × (Nat → Int32) × (Nat → Int32))
  | 0, _, _, _, _ => none
  | n + 1, x1_25, x2_25, v_man_25, v_bestMan_25 => if x2_25 < (0 : Int32) then (some (x1_25, v_man_25, v_bestMan_25)) else (gi x2_25 8 (gi x2_25 8 (gi x2_25 8 (ob1 (f9_manyIn N x2_25 (upd v_man_25 x2_25.toNatClampNeg ((v_man_25 x2_25.toNatClampNeg) + (1 : Int32)))) fun r47 => if ((upd v_man_25 x2_25.toNatClampNeg ((v_man_25 x2_25.toNatClampNeg) + (1 : Int32))) x2_25.toNatClampNeg) ≤ r47 then (ob1 (f9_mayBe N x2_25 v_lineDate v_lineAge (upd v_man_25 x2_25.toNatClampNeg ((v_man_25 x2_25.toNatClampNeg) + (1 : Int32)))) fun r61 => if r61 = (0 : Int32) then ((f9_findFewest_L25 N v_lines v_lineDate v_lineAge n) x1_25 x2_25 (upd v_man_25 x2_25.toNatClampNeg ((v_man_25 x2_25.toNatClampNeg) + (1 : Int32))) v_bestMan_25) else (if x2_25 = (v_lines - (1 : Int32)) then (ob1 (f9_manyIn N v_lines (upd v_man_25 x2_25.toNatClampNeg ((v_man_25 x2_25.toNatClampNeg) + (1 : Int32)))) fun r82 => ob1 (f9_findFewest_L89 N v_lines x1_25 x2_25 v_man_25 r82 N (0 : Int32) v_bestMan_25) fun v_bestMan_e89 => if x1_25 ≤ r82 then ((f9_findFewest_L25 N v_lines v_lineDate v_lineAge n) x1_25 x2_25 (upd v_man_25 x2_25.toNatClampNeg ((v_man_25 x2_25.toNatClampNeg) + (1 : Int32))) v_bestMan_e89) else ((f9_findFewest_L25 N v_lines v_lineDate v_lineAge n) r82 x2_25 (upd v_man_25 x2_25.toNatClampNeg ((v_man_25 x2_25.toNatClampNeg) + (1 : Int32))) v_bestMan_e89)) else (gi (x2_25 + (1 : Int32)) 8 ((f9_findFewest_L25 N v_lines v_lineDate v_lineAge n) x1_25 (x2_25 + (1 : Int32)) (upd (upd v_man_25 x2_25.toNatClampNeg ((v_man_25 x2_25.toNatClampNeg) + (1 : Int32))) (x2_25 + (1 : Int32)).toNatClampNeg (-1 : Int32)) v_bestMan_25)))) else ((f9_findFewest_L25 N v_lines v_lineDate v_lineAge n) x1_25 (x2_25 + (-1 : Int32)) (upd v_man_25 x2_25.toNatClampNeg ((v_man_25 x2_25.toNatClampNeg) + (1 : Int32))) v_bestMan_25)))))
def f9_findFewest (N : Nat) (v_lines : Int32) (v_lineDate : Nat → Int32) (v_lineAge : Nat → Int32) (v_man : Nat → Int32) (v_bestMan : Nat → Int32) : Option (Int32 × (Nat → Int32) × (Nat → Int32)) :=
  if v_lines = (0 : Int32) then (some ((0 : Int32), v_man, v_bestMan)) else (gi (0 : Int32) 8 (ob3 (f9_findFewest_L25 N v_lines v_lineDate v_lineAge N (v_lines + (1 : Int32)) (0 : Int32) (upd v_man (0 : Int32).toNatClampNeg (-1 : Int32)) v_bestMan) fun e1_25 v_man_e25 v_bestMan_e25 => some (e1_25, v_man_e25, v_bestMan_e25)))
set_option maxHeartbeats 4000000 in
set_option maxRecDepth 100000 in
theorem c9_findFewest (l : Launch) (D : va_G) (cy : Nat → ClassId) (N : Nat) (h0 h0_lineDate h0_lineAge h0_man h0_bestMan : Nat) (oh0_0 oh0_1 oh0_2 oh0_3 oh0_4 oh0_5 oh0_6 oh0_7 oh0_8 oh0_9 oh0_10 oh0_11 oh0_12 oh0_13 oh0_14 oh0_15 oh0_16 oh0_17 oh0_18 oh0_19 oh0_20 oh0_21 oh0_22 oh0_23 oh0_24 oh0_25 oh0_26 oh0_27 oh0_28 oh0_29 oh0_30 oh0_31 oh0_32 : Value) (v_lines : Int32) (v_lineDate : Nat → Int32) (v_lineAge : Nat → Int32) (v_man : Nat → Int32) (v_bestMan : Nat → Int32) (r : Int32) (nv_man : Nat → Int32) (nv_bestMan : Nat → Int32) (hM : f9_findFewest N v_lines v_lineDate v_lineAge v_man v_bestMan = some (r, nv_man, nv_bestMan)) (sz : Nat) : CTi l yX9_findFewest wsX9_findFewest r9_findFewest [.ref h0] D cy sz [(h0, .inr (9, [oh0_0, oh0_1, oh0_2, oh0_3, oh0_4, oh0_5, oh0_6, oh0_7, oh0_8, oh0_9, oh0_10, oh0_11, oh0_12, oh0_13, oh0_14, oh0_15, oh0_16, oh0_17, oh0_18, oh0_19, oh0_20, oh0_21, oh0_22, oh0_23, oh0_24, oh0_25, oh0_26, oh0_27, oh0_28, oh0_29, oh0_30, oh0_31, oh0_32, .ref h0_lineDate, .ref h0_lineAge, .int v_lines, .ref h0_man, .ref h0_bestMan])), (h0_lineDate, .inl (cy 2, 8, .inl v_lineDate)), (h0_lineAge, .inl (cy 2, 8, .inl v_lineAge)), (h0_man, .inl (cy 2, 8, .inl v_man)), (h0_bestMan, .inl (cy 2, 8, .inl v_bestMan))] [(h0, .inr (9, [oh0_0, oh0_1, oh0_2, oh0_3, oh0_4, oh0_5, oh0_6, oh0_7, oh0_8, oh0_9, oh0_10, oh0_11, oh0_12, oh0_13, oh0_14, oh0_15, oh0_16, oh0_17, oh0_18, oh0_19, oh0_20, oh0_21, oh0_22, oh0_23, oh0_24, oh0_25, oh0_26, oh0_27, oh0_28, oh0_29, oh0_30, oh0_31, oh0_32, .ref h0_lineDate, .ref h0_lineAge, .int v_lines, .ref h0_man, .ref h0_bestMan])), (h0_lineDate, .inl (cy 2, 8, .inl v_lineDate)), (h0_lineAge, .inl (cy 2, 8, .inl v_lineAge)), (h0_man, .inl (cy 2, 8, .inl nv_man)), (h0_bestMan, .inl (cy 2, 8, .inl nv_bestMan))] r := by
  unfold f9_findFewest at hM
  refine ct_oi (cc := cX9_findFewest) (maxL := 5) (ty := .int) (by decide +kernel) rfl (Nat.le_of_ble_eq_true rfl) (lv0 := [(0, .ref h0)]) rfl ?_
  intro p e s m args below meth c A Q ls hx hb hts hown hml hK hP hD hS hA hret hl
  have hown : s.vm.findClass RX9 = some m.cls := hown
  have k165 := hts (.fieldLink RX9 165 "CaveYearsModel" "lines" "I") (List.mem_of_getElem? (i := 1) rfl)
  have iX9 := (fun w h => (List.mem_cons_of_mem _ (List.mem_append_right _ h)) : ∀ w ∈ wsX90, w ∈ wsX9_findFewest)
  have k85 := hts (.fieldLink RX9 85 "CaveYearsModel" "man" "[I") (List.mem_of_getElem? (i := 2) rfl)
  have k88 := hts (.fieldLink RX9 88 "CaveYearsModel" "bestMan" "[I") (List.mem_of_getElem? (i := 3) rfl)
  refine lv_aload_n hx hb dX9_findFewest_0 rfl (lv_at hl 0 rfl) ?_
  refine va_get (D := D) (ci := 9) (v := .int v_lines) (C := RX9) (T := TX9) (N := 38) hx hb hts iX9 hown hK hP 0 rfl rfl 35 (by decide) k165 (fun _ h9 => h9) rfl dX9_findFewest_1 ?_
  refine lv_iconst (v := 1) hx hb dX9_findFewest_4 (by decide) ?_
  refine lv_iadd hx hb dX9_findFewest_5 ?_
  refine lv_istore_n (lv' := [(1, .int (v_lines + (1 : Int32))), (0, .ref h0)]) hx hb dX9_findFewest_6 rfl hl (by decide) rfl (fun ls hl => ?_)
  refine lv_iconst (v := 0) hx hb dX9_findFewest_7 (by decide) ?_
  refine lv_istore_n (lv' := [(2, .int (0 : Int32)), (1, .int (v_lines + (1 : Int32))), (0, .ref h0)]) hx hb dX9_findFewest_8 rfl hl (by decide) rfl (fun ls hl => ?_)
  refine lv_aload_n hx hb dX9_findFewest_9 rfl (lv_at hl 2 rfl) ?_
  refine va_get (D := D) (ci := 9) (v := .int v_lines) (C := RX9) (T := TX9) (N := 38) hx hb hts iX9 hown hK hP 0 rfl rfl 35 (by decide) k165 (fun _ h9 => h9) rfl dX9_findFewest_10 ?_
  refine lv_if_ne (tgt := 18) hx hb dX9_findFewest_13 (by decide) (fun c13 => ?_) (fun c13 => ?_)
  · have hM := g_neg c13 hM
    refine lv_aload_n hx hb dX9_findFewest_18 rfl (lv_at hl 2 rfl) ?_
    refine va_get (D := D) (ci := 9) (v := .ref h0_man) (C := RX9) (T := TX9) (N := 38) hx hb hts iX9 hown hK hP 0 rfl rfl 36 (by decide) k85 (fun _ h9 => h9) rfl dX9_findFewest_19 ?_
    refine lv_iconst (v := 0) hx hb dX9_findFewest_22 (by decide) ?_
    refine lv_iconst (v := -1) hx hb dX9_findFewest_23 (by decide) ?_
    obtain ⟨h24, hM⟩ := gi_some hM
    refine va_iast hx hb hK hP hD hS 3 2 rfl rfl h24 dX9_findFewest_24 (fun H locs hP hD hS => ?_)
    have hP : va_P D vwCl [(h0, .inr (9, [oh0_0, oh0_1, oh0_2, oh0_3, oh0_4, oh0_5, oh0_6, oh0_7, oh0_8, oh0_9, oh0_10, oh0_11, oh0_12, oh0_13, oh0_14, oh0_15, oh0_16, oh0_17, oh0_18, oh0_19, oh0_20, oh0_21, oh0_22, oh0_23, oh0_24, oh0_25, oh0_26, oh0_27, oh0_28, oh0_29, oh0_30, oh0_31, oh0_32, .ref h0_lineDate, .ref h0_lineAge, .int v_lines, .ref h0_man, .ref h0_bestMan])), (h0_lineDate, .inl (cy 2, 8, .inl v_lineDate)), (h0_lineAge, .inl (cy 2, 8, .inl v_lineAge)), (h0_man, .inl (cy 2, 8, .inl (upd v_man (0 : Int32).toNatClampNeg (-1 : Int32)))), (h0_bestMan, .inl (cy 2, 8, .inl v_bestMan))] H := hP
    have hD : va_D A [(h0, .inr (9, [oh0_0, oh0_1, oh0_2, oh0_3, oh0_4, oh0_5, oh0_6, oh0_7, oh0_8, oh0_9, oh0_10, oh0_11, oh0_12, oh0_13, oh0_14, oh0_15, oh0_16, oh0_17, oh0_18, oh0_19, oh0_20, oh0_21, oh0_22, oh0_23, oh0_24, oh0_25, oh0_26, oh0_27, oh0_28, oh0_29, oh0_30, oh0_31, oh0_32, .ref h0_lineDate, .ref h0_lineAge, .int v_lines, .ref h0_man, .ref h0_bestMan])), (h0_lineDate, .inl (cy 2, 8, .inl v_lineDate)), (h0_lineAge, .inl (cy 2, 8, .inl v_lineAge)), (h0_man, .inl (cy 2, 8, .inl (upd v_man (0 : Int32).toNatClampNeg (-1 : Int32)))), (h0_bestMan, .inl (cy 2, 8, .inl v_bestMan))] := hD
    have L25 : ∀ (n : Nat) (x1_25 : Int32) (x2_25 : Int32) (v_man_25 : Nat → Int32) (v_bestMan_25 : Nat → Int32) (e1_25 : Int32) (v_man_e25 : Nat → Int32) (v_bestMan_e25 : Nat → Int32) (H : Heap) (locs : List Loc) (ls : Array Slot), f9_findFewest_L25 N v_lines v_lineDate v_lineAge n x1_25 x2_25 v_man_25 v_bestMan_25 = some (e1_25, v_man_e25, v_bestMan_e25) → va_P D vwCl [(h0, .inr (9, [oh0_0, oh0_1, oh0_2, oh0_3, oh0_4, oh0_5, oh0_6, oh0_7, oh0_8, oh0_9, oh0_10, oh0_11, oh0_12, oh0_13, oh0_14, oh0_15, oh0_16, oh0_17, oh0_18, oh0_19, oh0_20, oh0_21, oh0_22, oh0_23, oh0_24, oh0_25, oh0_26, oh0_27, oh0_28, oh0_29, oh0_30, oh0_31, oh0_32, .ref h0_lineDate, .ref h0_lineAge, .int v_lines, .ref h0_man, .ref h0_bestMan])), (h0_lineDate, .inl (cy 2, 8, .inl v_lineDate)), (h0_lineAge, .inl (cy 2, 8, .inl v_lineAge)), (h0_man, .inl (cy 2, 8, .inl v_man_25)), (h0_bestMan, .inl (cy 2, 8, .inl v_bestMan_25))] H → va_D A [(h0, .inr (9, [oh0_0, oh0_1, oh0_2, oh0_3, oh0_4, oh0_5, oh0_6, oh0_7, oh0_8, oh0_9, oh0_10, oh0_11, oh0_12, oh0_13, oh0_14, oh0_15, oh0_16, oh0_17, oh0_18, oh0_19, oh0_20, oh0_21, oh0_22, oh0_23, oh0_24, oh0_25, oh0_26, oh0_27, oh0_28, oh0_29, oh0_30, oh0_31, oh0_32, .ref h0_lineDate, .ref h0_lineAge, .int v_lines, .ref h0_man, .ref h0_bestMan])), (h0_lineDate, .inl (cy 2, 8, .inl v_lineDate)), (h0_lineAge, .inl (cy 2, 8, .inl v_lineAge)), (h0_man, .inl (cy 2, 8, .inl v_man_25)), (h0_bestMan, .inl (cy 2, 8, .inl v_bestMan_25))] → va_S A s.heap H locs → lv_has ls 5 [(0, .ref h0), (1, .int x1_25), (2, .int x2_25)] → (∀ (H : Heap) (locs : List Loc) (ls : Array Slot), va_P D vwCl [(h0, .inr (9, [oh0_0, oh0_1, oh0_2, oh0_3, oh0_4, oh0_5, oh0_6, oh0_7, oh0_8, oh0_9, oh0_10, oh0_11, oh0_12, oh0_13, oh0_14, oh0_15, oh0_16, oh0_17, oh0_18, oh0_19, oh0_20, oh0_21, oh0_22, oh0_23, oh0_24, oh0_25, oh0_26, oh0_27, oh0_28, oh0_29, oh0_30, oh0_31, oh0_32, .ref h0_lineDate, .ref h0_lineAge, .int v_lines, .ref h0_man, .ref h0_bestMan])), (h0_lineDate, .inl (cy 2, 8, .inl v_lineDate)), (h0_lineAge, .inl (cy 2, 8, .inl v_lineAge)), (h0_man, .inl (cy 2, 8, .inl v_man_e25)), (h0_bestMan, .inl (cy 2, 8, .inl v_bestMan_e25))] H → va_D A [(h0, .inr (9, [oh0_0, oh0_1, oh0_2, oh0_3, oh0_4, oh0_5, oh0_6, oh0_7, oh0_8, oh0_9, oh0_10, oh0_11, oh0_12, oh0_13, oh0_14, oh0_15, oh0_16, oh0_17, oh0_18, oh0_19, oh0_20, oh0_21, oh0_22, oh0_23, oh0_24, oh0_25, oh0_26, oh0_27, oh0_28, oh0_29, oh0_30, oh0_31, oh0_32, .ref h0_lineDate, .ref h0_lineAge, .int v_lines, .ref h0_man, .ref h0_bestMan])), (h0_lineDate, .inl (cy 2, 8, .inl v_lineDate)), (h0_lineAge, .inl (cy 2, 8, .inl v_lineAge)), (h0_man, .inl (cy 2, 8, .inl v_man_e25)), (h0_bestMan, .inl (cy 2, 8, .inl v_bestMan_e25))] → va_S A s.heap H locs → lv_has ls 5 [(1, .int e1_25)] → W p l e r9_findFewest s m args below meth c H locs 0 0 Q (F0 m 150 ls [])) → W p l e r9_findFewest s m args below meth c H locs 0 0 Q (F0 m 25 ls []) := by
      intro n
      induction n with
      | zero =>
        intro x1_25 x2_25 v_man_25 v_bestMan_25 e1_25 v_man_e25 v_bestMan_e25 H locs ls hM
        exact absurd hM (by simp [f9_findFewest_L25])
      | succ n ih =>
        intro x1_25 x2_25 v_man_25 v_bestMan_25 e1_25 v_man_e25 v_bestMan_e25 H locs ls hM hP hD hS hl K
        rw [f9_findFewest_L25] at hM
        refine lv_iload_n hx hb dX9_findFewest_25 rfl (lv_at hl 2 rfl) ?_
        refine lv_if_lt (tgt := 150) hx hb dX9_findFewest_26 (by decide) (fun c26 => ?_) (fun c26 => ?_)
        · have hM := g_pos c26 hM
          obtain ⟨rfl, rfl, rfl⟩ := si3 hM
          exact K _ _ _ hP hD hS (lv_sub hl [1] rfl)
        · have hM := g_neg c26 hM
          refine lv_aload_n hx hb dX9_findFewest_29 rfl (lv_at hl 0 rfl) ?_
          refine va_get (D := D) (ci := 9) (v := .ref h0_man) (C := RX9) (T := TX9) (N := 38) hx hb hts iX9 hown hK hP 0 rfl rfl 36 (by decide) k85 (fun _ h9 => h9) rfl dX9_findFewest_30 ?_
          refine lv_iload_n hx hb dX9_findFewest_33 rfl (lv_at hl 2 rfl) ?_
          refine lv_dup2_11 hx hb dX9_findFewest_34 rfl rfl ?_
          obtain ⟨h35, hM⟩ := gi_some hM
          refine va_iald hx hb hK hP 3 2 rfl rfl h35 dX9_findFewest_35 ?_
          refine lv_iconst (v := 1) hx hb dX9_findFewest_36 (by decide) ?_
          refine lv_iadd hx hb dX9_findFewest_37 ?_
          obtain ⟨h38, hM⟩ := gi_some hM
          refine va_iast hx hb hK hP hD hS 3 2 rfl rfl h38 dX9_findFewest_38 (fun H locs hP hD hS => ?_)
          have hP : va_P D vwCl [(h0, .inr (9, [oh0_0, oh0_1, oh0_2, oh0_3, oh0_4, oh0_5, oh0_6, oh0_7, oh0_8, oh0_9, oh0_10, oh0_11, oh0_12, oh0_13, oh0_14, oh0_15, oh0_16, oh0_17, oh0_18, oh0_19, oh0_20, oh0_21, oh0_22, oh0_23, oh0_24, oh0_25, oh0_26, oh0_27, oh0_28, oh0_29, oh0_30, oh0_31, oh0_32, .ref h0_lineDate, .ref h0_lineAge, .int v_lines, .ref h0_man, .ref h0_bestMan])), (h0_lineDate, .inl (cy 2, 8, .inl v_lineDate)), (h0_lineAge, .inl (cy 2, 8, .inl v_lineAge)), (h0_man, .inl (cy 2, 8, .inl (upd v_man_25 x2_25.toNatClampNeg ((v_man_25 x2_25.toNatClampNeg) + (1 : Int32))))), (h0_bestMan, .inl (cy 2, 8, .inl v_bestMan_25))] H := hP
          have hD : va_D A [(h0, .inr (9, [oh0_0, oh0_1, oh0_2, oh0_3, oh0_4, oh0_5, oh0_6, oh0_7, oh0_8, oh0_9, oh0_10, oh0_11, oh0_12, oh0_13, oh0_14, oh0_15, oh0_16, oh0_17, oh0_18, oh0_19, oh0_20, oh0_21, oh0_22, oh0_23, oh0_24, oh0_25, oh0_26, oh0_27, oh0_28, oh0_29, oh0_30, oh0_31, oh0_32, .ref h0_lineDate, .ref h0_lineAge, .int v_lines, .ref h0_man, .ref h0_bestMan])), (h0_lineDate, .inl (cy 2, 8, .inl v_lineDate)), (h0_lineAge, .inl (cy 2, 8, .inl v_lineAge)), (h0_man, .inl (cy 2, 8, .inl (upd v_man_25 x2_25.toNatClampNeg ((v_man_25 x2_25.toNatClampNeg) + (1 : Int32))))), (h0_bestMan, .inl (cy 2, 8, .inl v_bestMan_25))] := hD
          refine lv_aload_n hx hb dX9_findFewest_39 rfl (lv_at hl 0 rfl) ?_
          refine va_get (D := D) (ci := 9) (v := .ref h0_man) (C := RX9) (T := TX9) (N := 38) hx hb hts iX9 hown hK hP 0 rfl rfl 36 (by decide) k85 (fun _ h9 => h9) rfl dX9_findFewest_40 ?_
          refine lv_iload_n hx hb dX9_findFewest_43 rfl (lv_at hl 2 rfl) ?_
          obtain ⟨h44, hM⟩ := gi_some hM
          refine va_iald hx hb hK hP 3 2 rfl rfl h44 dX9_findFewest_44 ?_
          refine lv_aload_n hx hb dX9_findFewest_45 rfl (lv_at hl 0 rfl) ?_
          refine lv_iload_n hx hb dX9_findFewest_46 rfl (lv_at hl 2 rfl) ?_
          obtain ⟨r47, hc47, hM⟩ := ob1_some hM
          refine cl_vi (As := [.int x2_25]) (rest := [.int ((upd v_man_25 x2_25.toNatClampNeg ((v_man_25 x2_25.toNatClampNeg) + (1 : Int32))) x2_25.toNatClampNeg)]) (ci := 9) (q0 := 0) (wr := [(h0_lineDate, .inl (cy 2, 8, .inl v_lineDate)), (h0_lineAge, .inl (cy 2, 8, .inl v_lineAge)), (h0_bestMan, .inl (cy 2, 8, .inl v_bestMan_25))]) (ws2 := [(h0, .inr (9, [oh0_0, oh0_1, oh0_2, oh0_3, oh0_4, oh0_5, oh0_6, oh0_7, oh0_8, oh0_9, oh0_10, oh0_11, oh0_12, oh0_13, oh0_14, oh0_15, oh0_16, oh0_17, oh0_18, oh0_19, oh0_20, oh0_21, oh0_22, oh0_23, oh0_24, oh0_25, oh0_26, oh0_27, oh0_28, oh0_29, oh0_30, oh0_31, oh0_32, .ref h0_lineDate, .ref h0_lineAge, .int v_lines, .ref h0_man, .ref h0_bestMan])), (h0_lineDate, .inl (cy 2, 8, .inl v_lineDate)), (h0_lineAge, .inl (cy 2, 8, .inl v_lineAge)), (h0_man, .inl (cy 2, 8, .inl (upd v_man_25 x2_25.toNatClampNeg ((v_man_25 x2_25.toNatClampNeg) + (1 : Int32))))), (h0_bestMan, .inl (cy 2, 8, .inl v_bestMan_25))]) (isC := [0, 3]) (isR := [1, 2, 4]) (pm := [3, 0, 1, 4, 2]) hx hb hml hown hts (c9_manyIn l D cy N h0 h0_man oh0_0 oh0_1 oh0_2 oh0_3 oh0_4 oh0_5 oh0_6 oh0_7 oh0_8 oh0_9 oh0_10 oh0_11 oh0_12 oh0_13 oh0_14 oh0_15 oh0_16 oh0_17 oh0_18 oh0_19 oh0_20 oh0_21 oh0_22 oh0_23 oh0_24 oh0_25 oh0_26 oh0_27 oh0_28 oh0_29 oh0_30 oh0_31 oh0_32 (.ref h0_lineDate) (.ref h0_lineAge) (.int v_lines) (.ref h0_bestMan) x2_25 (upd v_man_25 x2_25.toNatClampNeg ((v_man_25 x2_25.toNatClampNeg) + (1 : Int32))) r47 hc47) (cwV 1 hts gX9_findFewest_X9_manyIn rfl rfl rfl (by decide +kernel) ⟨Nat.le_of_ble_eq_true rfl, Nat.le_of_ble_eq_true rfl⟩) hK hP hD hS hA rfl rfl rfl rfl rfl (by decide) rfl rfl rfl hl.1 (Nat.le_of_ble_eq_true rfl) dX9_findFewest_47 ⟨Nat.zero_le _, Nat.zero_le _⟩ rfl rfl (fun H locs hP hD hS => ?_)
          refine lv_icmp_le (tgt := 59) hx hb dX9_findFewest_50 (by decide) (fun c50 => ?_) (fun c50 => ?_)
          · have hM := g_pos c50 hM
            refine lv_aload_n hx hb dX9_findFewest_59 rfl (lv_at hl 0 rfl) ?_
            refine lv_iload_n hx hb dX9_findFewest_60 rfl (lv_at hl 2 rfl) ?_
            obtain ⟨r61, hc61, hM⟩ := ob1_some hM
            refine cl_vi (As := [.int x2_25]) (rest := []) (ci := 9) (q0 := 0) (wr := [(h0_bestMan, .inl (cy 2, 8, .inl v_bestMan_25))]) (ws2 := [(h0, .inr (9, [oh0_0, oh0_1, oh0_2, oh0_3, oh0_4, oh0_5, oh0_6, oh0_7, oh0_8, oh0_9, oh0_10, oh0_11, oh0_12, oh0_13, oh0_14, oh0_15, oh0_16, oh0_17, oh0_18, oh0_19, oh0_20, oh0_21, oh0_22, oh0_23, oh0_24, oh0_25, oh0_26, oh0_27, oh0_28, oh0_29, oh0_30, oh0_31, oh0_32, .ref h0_lineDate, .ref h0_lineAge, .int v_lines, .ref h0_man, .ref h0_bestMan])), (h0_lineDate, .inl (cy 2, 8, .inl v_lineDate)), (h0_lineAge, .inl (cy 2, 8, .inl v_lineAge)), (h0_man, .inl (cy 2, 8, .inl (upd v_man_25 x2_25.toNatClampNeg ((v_man_25 x2_25.toNatClampNeg) + (1 : Int32))))), (h0_bestMan, .inl (cy 2, 8, .inl v_bestMan_25))]) (isC := [0, 1, 2, 3]) (isR := [4]) (pm := [1, 2, 3, 4, 0]) hx hb hml hown hts (c9_mayBe l D cy N h0 h0_lineDate h0_lineAge h0_man oh0_0 oh0_1 oh0_2 oh0_3 oh0_4 oh0_5 oh0_6 oh0_7 oh0_8 oh0_9 oh0_10 oh0_11 oh0_12 oh0_13 oh0_14 oh0_15 oh0_16 oh0_17 oh0_18 oh0_19 oh0_20 oh0_21 oh0_22 oh0_23 oh0_24 oh0_25 oh0_26 oh0_27 oh0_28 oh0_29 oh0_30 oh0_31 oh0_32 (.int v_lines) (.ref h0_bestMan) x2_25 v_lineDate v_lineAge (upd v_man_25 x2_25.toNatClampNeg ((v_man_25 x2_25.toNatClampNeg) + (1 : Int32))) r61 hc61) (cwV 1 hts gX9_findFewest_X9_mayBe rfl rfl rfl (by decide +kernel) ⟨Nat.le_of_ble_eq_true rfl, Nat.le_of_ble_eq_true rfl⟩) hK hP hD hS hA rfl rfl rfl rfl rfl (by decide) rfl rfl rfl hl.1 (Nat.le_of_ble_eq_true rfl) dX9_findFewest_61 ⟨Nat.zero_le _, Nat.zero_le _⟩ rfl rfl (fun H locs hP hD hS => ?_)
            refine lv_if_eq (tgt := 25) hx hb dX9_findFewest_64 (by decide) (fun c64 => ?_) (fun c64 => ?_)
            · have hM := g_pos c64 hM
              exact ih x1_25 x2_25 (upd v_man_25 x2_25.toNatClampNeg ((v_man_25 x2_25.toNatClampNeg) + (1 : Int32))) v_bestMan_25 e1_25 v_man_e25 v_bestMan_e25 _ _ _ hM hP hD hS (lv_sub hl [0, 1, 2] rfl) K
            · have hM := g_neg c64 hM
              refine lv_iload_n hx hb dX9_findFewest_67 rfl (lv_at hl 2 rfl) ?_
              refine lv_aload_n hx hb dX9_findFewest_68 rfl (lv_at hl 0 rfl) ?_
              refine va_get (D := D) (ci := 9) (v := .int v_lines) (C := RX9) (T := TX9) (N := 38) hx hb hts iX9 hown hK hP 0 rfl rfl 35 (by decide) k165 (fun _ h9 => h9) rfl dX9_findFewest_69 ?_
              refine lv_iconst (v := 1) hx hb dX9_findFewest_72 (by decide) ?_
              refine lv_isub hx hb dX9_findFewest_73 ?_
              refine lv_icmp_ne (tgt := 137) hx hb dX9_findFewest_74 (by decide) (fun c74 => ?_) (fun c74 => ?_)
              · have hM := g_neg c74 hM
                refine lv_iinc (v := x2_25 + (1 : Int32)) (lv' := [(2, .int (x2_25 + (1 : Int32))), (0, .ref h0), (1, .int x1_25)]) hx hb dX9_findFewest_137 hl (k := 2) rfl rfl (by decide) rfl (fun ls hl => ?_)
                refine lv_aload_n hx hb dX9_findFewest_140 rfl (lv_at hl 1 rfl) ?_
                refine va_get (D := D) (ci := 9) (v := .ref h0_man) (C := RX9) (T := TX9) (N := 38) hx hb hts iX9 hown hK hP 0 rfl rfl 36 (by decide) k85 (fun _ h9 => h9) rfl dX9_findFewest_141 ?_
                refine lv_iload_n hx hb dX9_findFewest_144 rfl (lv_at hl 0 rfl) ?_
                refine lv_iconst (v := -1) hx hb dX9_findFewest_145 (by decide) ?_
                obtain ⟨h146, hM⟩ := gi_some hM
                refine va_iast hx hb hK hP hD hS 3 2 rfl rfl h146 dX9_findFewest_146 (fun H locs hP hD hS => ?_)
                have hP : va_P D vwCl [(h0, .inr (9, [oh0_0, oh0_1, oh0_2, oh0_3, oh0_4, oh0_5, oh0_6, oh0_7, oh0_8, oh0_9, oh0_10, oh0_11, oh0_12, oh0_13, oh0_14, oh0_15, oh0_16, oh0_17, oh0_18, oh0_19, oh0_20, oh0_21, oh0_22, oh0_23, oh0_24, oh0_25, oh0_26, oh0_27, oh0_28, oh0_29, oh0_30, oh0_31, oh0_32, .ref h0_lineDate, .ref h0_lineAge, .int v_lines, .ref h0_man, .ref h0_bestMan])), (h0_lineDate, .inl (cy 2, 8, .inl v_lineDate)), (h0_lineAge, .inl (cy 2, 8, .inl v_lineAge)), (h0_man, .inl (cy 2, 8, .inl (upd (upd v_man_25 x2_25.toNatClampNeg ((v_man_25 x2_25.toNatClampNeg) + (1 : Int32))) (x2_25 + (1 : Int32)).toNatClampNeg (-1 : Int32)))), (h0_bestMan, .inl (cy 2, 8, .inl v_bestMan_25))] H := hP
                have hD : va_D A [(h0, .inr (9, [oh0_0, oh0_1, oh0_2, oh0_3, oh0_4, oh0_5, oh0_6, oh0_7, oh0_8, oh0_9, oh0_10, oh0_11, oh0_12, oh0_13, oh0_14, oh0_15, oh0_16, oh0_17, oh0_18, oh0_19, oh0_20, oh0_21, oh0_22, oh0_23, oh0_24, oh0_25, oh0_26, oh0_27, oh0_28, oh0_29, oh0_30, oh0_31, oh0_32, .ref h0_lineDate, .ref h0_lineAge, .int v_lines, .ref h0_man, .ref h0_bestMan])), (h0_lineDate, .inl (cy 2, 8, .inl v_lineDate)), (h0_lineAge, .inl (cy 2, 8, .inl v_lineAge)), (h0_man, .inl (cy 2, 8, .inl (upd (upd v_man_25 x2_25.toNatClampNeg ((v_man_25 x2_25.toNatClampNeg) + (1 : Int32))) (x2_25 + (1 : Int32)).toNatClampNeg (-1 : Int32)))), (h0_bestMan, .inl (cy 2, 8, .inl v_bestMan_25))] := hD
                refine lv_goto (tgt := 25) hx hb dX9_findFewest_147 (by decide) ?_
                exact ih x1_25 (x2_25 + (1 : Int32)) (upd (upd v_man_25 x2_25.toNatClampNeg ((v_man_25 x2_25.toNatClampNeg) + (1 : Int32))) (x2_25 + (1 : Int32)).toNatClampNeg (-1 : Int32)) v_bestMan_25 e1_25 v_man_e25 v_bestMan_e25 _ _ _ hM hP hD hS (lv_sub hl [1, 2, 0] rfl) K
              · have hM := g_pos c74 hM
                refine lv_aload_n hx hb dX9_findFewest_77 rfl (lv_at hl 0 rfl) ?_
                refine lv_aload_n hx hb dX9_findFewest_78 rfl (lv_at hl 0 rfl) ?_
                refine va_get (D := D) (ci := 9) (v := .int v_lines) (C := RX9) (T := TX9) (N := 38) hx hb hts iX9 hown hK hP 0 rfl rfl 35 (by decide) k165 (fun _ h9 => h9) rfl dX9_findFewest_79 ?_
                obtain ⟨r82, hc82, hM⟩ := ob1_some hM
                refine cl_vi (As := [.int v_lines]) (rest := []) (ci := 9) (q0 := 0) (wr := [(h0_lineDate, .inl (cy 2, 8, .inl v_lineDate)), (h0_lineAge, .inl (cy 2, 8, .inl v_lineAge)), (h0_bestMan, .inl (cy 2, 8, .inl v_bestMan_25))]) (ws2 := [(h0, .inr (9, [oh0_0, oh0_1, oh0_2, oh0_3, oh0_4, oh0_5, oh0_6, oh0_7, oh0_8, oh0_9, oh0_10, oh0_11, oh0_12, oh0_13, oh0_14, oh0_15, oh0_16, oh0_17, oh0_18, oh0_19, oh0_20, oh0_21, oh0_22, oh0_23, oh0_24, oh0_25, oh0_26, oh0_27, oh0_28, oh0_29, oh0_30, oh0_31, oh0_32, .ref h0_lineDate, .ref h0_lineAge, .int v_lines, .ref h0_man, .ref h0_bestMan])), (h0_lineDate, .inl (cy 2, 8, .inl v_lineDate)), (h0_lineAge, .inl (cy 2, 8, .inl v_lineAge)), (h0_man, .inl (cy 2, 8, .inl (upd v_man_25 x2_25.toNatClampNeg ((v_man_25 x2_25.toNatClampNeg) + (1 : Int32))))), (h0_bestMan, .inl (cy 2, 8, .inl v_bestMan_25))]) (isC := [0, 3]) (isR := [1, 2, 4]) (pm := [3, 0, 1, 4, 2]) hx hb hml hown hts (c9_manyIn l D cy N h0 h0_man oh0_0 oh0_1 oh0_2 oh0_3 oh0_4 oh0_5 oh0_6 oh0_7 oh0_8 oh0_9 oh0_10 oh0_11 oh0_12 oh0_13 oh0_14 oh0_15 oh0_16 oh0_17 oh0_18 oh0_19 oh0_20 oh0_21 oh0_22 oh0_23 oh0_24 oh0_25 oh0_26 oh0_27 oh0_28 oh0_29 oh0_30 oh0_31 oh0_32 (.ref h0_lineDate) (.ref h0_lineAge) (.int v_lines) (.ref h0_bestMan) v_lines (upd v_man_25 x2_25.toNatClampNeg ((v_man_25 x2_25.toNatClampNeg) + (1 : Int32))) r82 hc82) (cwV 1 hts gX9_findFewest_X9_manyIn rfl rfl rfl (by decide +kernel) ⟨Nat.le_of_ble_eq_true rfl, Nat.le_of_ble_eq_true rfl⟩) hK hP hD hS hA rfl rfl rfl rfl rfl (by decide) rfl rfl rfl hl.1 (Nat.le_of_ble_eq_true rfl) dX9_findFewest_82 ⟨Nat.zero_le _, Nat.zero_le _⟩ rfl rfl (fun H locs hP hD hS => ?_)
                refine lv_istore_n (lv' := [(3, .int r82), (0, .ref h0), (1, .int x1_25), (2, .int x2_25)]) hx hb dX9_findFewest_85 rfl hl (by decide) rfl (fun ls hl => ?_)
                refine lv_iconst (v := 0) hx hb dX9_findFewest_86 (by decide) ?_
                refine lv_istore (lv' := [(4, .int (0 : Int32)), (3, .int r82), (0, .ref h0), (1, .int x1_25), (2, .int x2_25)]) hx hb dX9_findFewest_87 hl (by decide) rfl (fun ls hl => ?_)
                have L89 : ∀ (n : Nat) (x4_89 : Int32) (v_bestMan_89 : Nat → Int32) (v_bestMan_e89 : Nat → Int32) (H : Heap) (locs : List Loc) (ls : Array Slot), f9_findFewest_L89 N v_lines x1_25 x2_25 v_man_25 r82 n x4_89 v_bestMan_89 = some v_bestMan_e89 → va_P D vwCl [(h0, .inr (9, [oh0_0, oh0_1, oh0_2, oh0_3, oh0_4, oh0_5, oh0_6, oh0_7, oh0_8, oh0_9, oh0_10, oh0_11, oh0_12, oh0_13, oh0_14, oh0_15, oh0_16, oh0_17, oh0_18, oh0_19, oh0_20, oh0_21, oh0_22, oh0_23, oh0_24, oh0_25, oh0_26, oh0_27, oh0_28, oh0_29, oh0_30, oh0_31, oh0_32, .ref h0_lineDate, .ref h0_lineAge, .int v_lines, .ref h0_man, .ref h0_bestMan])), (h0_lineDate, .inl (cy 2, 8, .inl v_lineDate)), (h0_lineAge, .inl (cy 2, 8, .inl v_lineAge)), (h0_man, .inl (cy 2, 8, .inl (upd v_man_25 x2_25.toNatClampNeg ((v_man_25 x2_25.toNatClampNeg) + (1 : Int32))))), (h0_bestMan, .inl (cy 2, 8, .inl v_bestMan_89))] H → va_D A [(h0, .inr (9, [oh0_0, oh0_1, oh0_2, oh0_3, oh0_4, oh0_5, oh0_6, oh0_7, oh0_8, oh0_9, oh0_10, oh0_11, oh0_12, oh0_13, oh0_14, oh0_15, oh0_16, oh0_17, oh0_18, oh0_19, oh0_20, oh0_21, oh0_22, oh0_23, oh0_24, oh0_25, oh0_26, oh0_27, oh0_28, oh0_29, oh0_30, oh0_31, oh0_32, .ref h0_lineDate, .ref h0_lineAge, .int v_lines, .ref h0_man, .ref h0_bestMan])), (h0_lineDate, .inl (cy 2, 8, .inl v_lineDate)), (h0_lineAge, .inl (cy 2, 8, .inl v_lineAge)), (h0_man, .inl (cy 2, 8, .inl (upd v_man_25 x2_25.toNatClampNeg ((v_man_25 x2_25.toNatClampNeg) + (1 : Int32))))), (h0_bestMan, .inl (cy 2, 8, .inl v_bestMan_89))] → va_S A s.heap H locs → lv_has ls 5 [(0, .ref h0), (1, .int x1_25), (2, .int x2_25), (3, .int r82), (4, .int x4_89)] → (∀ (H : Heap) (locs : List Loc) (ls : Array Slot), va_P D vwCl [(h0, .inr (9, [oh0_0, oh0_1, oh0_2, oh0_3, oh0_4, oh0_5, oh0_6, oh0_7, oh0_8, oh0_9, oh0_10, oh0_11, oh0_12, oh0_13, oh0_14, oh0_15, oh0_16, oh0_17, oh0_18, oh0_19, oh0_20, oh0_21, oh0_22, oh0_23, oh0_24, oh0_25, oh0_26, oh0_27, oh0_28, oh0_29, oh0_30, oh0_31, oh0_32, .ref h0_lineDate, .ref h0_lineAge, .int v_lines, .ref h0_man, .ref h0_bestMan])), (h0_lineDate, .inl (cy 2, 8, .inl v_lineDate)), (h0_lineAge, .inl (cy 2, 8, .inl v_lineAge)), (h0_man, .inl (cy 2, 8, .inl (upd v_man_25 x2_25.toNatClampNeg ((v_man_25 x2_25.toNatClampNeg) + (1 : Int32))))), (h0_bestMan, .inl (cy 2, 8, .inl v_bestMan_e89))] H → va_D A [(h0, .inr (9, [oh0_0, oh0_1, oh0_2, oh0_3, oh0_4, oh0_5, oh0_6, oh0_7, oh0_8, oh0_9, oh0_10, oh0_11, oh0_12, oh0_13, oh0_14, oh0_15, oh0_16, oh0_17, oh0_18, oh0_19, oh0_20, oh0_21, oh0_22, oh0_23, oh0_24, oh0_25, oh0_26, oh0_27, oh0_28, oh0_29, oh0_30, oh0_31, oh0_32, .ref h0_lineDate, .ref h0_lineAge, .int v_lines, .ref h0_man, .ref h0_bestMan])), (h0_lineDate, .inl (cy 2, 8, .inl v_lineDate)), (h0_lineAge, .inl (cy 2, 8, .inl v_lineAge)), (h0_man, .inl (cy 2, 8, .inl (upd v_man_25 x2_25.toNatClampNeg ((v_man_25 x2_25.toNatClampNeg) + (1 : Int32))))), (h0_bestMan, .inl (cy 2, 8, .inl v_bestMan_e89))] → va_S A s.heap H locs → lv_has ls 5 [(0, .ref h0), (1, .int x1_25), (2, .int x2_25), (3, .int r82)] → W p l e r9_findFewest s m args below meth c H locs 0 0 Q (F0 m 123 ls [])) → W p l e r9_findFewest s m args below meth c H locs 0 0 Q (F0 m 89 ls []) := by
                  intro n
                  induction n with
                  | zero =>
                    intro x4_89 v_bestMan_89 v_bestMan_e89 H locs ls hM
                    exact absurd hM (by simp [f9_findFewest_L89])
                  | succ n ih =>
                    intro x4_89 v_bestMan_89 v_bestMan_e89 H locs ls hM hP hD hS hl K
                    rw [f9_findFewest_L89] at hM
                    refine lv_iload hx hb dX9_findFewest_89 (lv_at hl 4 rfl) ?_
                    refine lv_aload_n hx hb dX9_findFewest_91 rfl (lv_at hl 0 rfl) ?_
                    refine va_get (D := D) (ci := 9) (v := .int v_lines) (C := RX9) (T := TX9) (N := 38) hx hb hts iX9 hown hK hP 0 rfl rfl 35 (by decide) k165 (fun _ h9 => h9) rfl dX9_findFewest_92 ?_
                    refine lv_icmp_ge (tgt := 123) hx hb dX9_findFewest_95 (by decide) (fun c95 => ?_) (fun c95 => ?_)
                    · have hM := g_pos c95 hM
                      obtain rfl := si1 hM
                      exact K _ _ _ hP hD hS (lv_sub hl [0, 1, 2, 3] rfl)
                    · have hM := g_neg c95 hM
                      refine lv_iload_n hx hb dX9_findFewest_98 rfl (lv_at hl 3 rfl) ?_
                      refine lv_iload_n hx hb dX9_findFewest_99 rfl (lv_at hl 1 rfl) ?_
                      refine lv_icmp_ge (tgt := 123) hx hb dX9_findFewest_100 (by decide) (fun c100 => ?_) (fun c100 => ?_)
                      · have hM := g_pos c100 hM
                        obtain rfl := si1 hM
                        exact K _ _ _ hP hD hS (lv_sub hl [0, 1, 2, 3] rfl)
                      · have hM := g_neg c100 hM
                        refine lv_aload_n hx hb dX9_findFewest_103 rfl (lv_at hl 0 rfl) ?_
                        refine va_get (D := D) (ci := 9) (v := .ref h0_bestMan) (C := RX9) (T := TX9) (N := 38) hx hb hts iX9 hown hK hP 0 rfl rfl 37 (by decide) k88 (fun _ h9 => h9) rfl dX9_findFewest_104 ?_
                        refine lv_iload hx hb dX9_findFewest_107 (lv_at hl 4 rfl) ?_
                        refine lv_aload_n hx hb dX9_findFewest_109 rfl (lv_at hl 0 rfl) ?_
                        refine va_get (D := D) (ci := 9) (v := .ref h0_man) (C := RX9) (T := TX9) (N := 38) hx hb hts iX9 hown hK hP 0 rfl rfl 36 (by decide) k85 (fun _ h9 => h9) rfl dX9_findFewest_110 ?_
                        refine lv_iload hx hb dX9_findFewest_113 (lv_at hl 4 rfl) ?_
                        obtain ⟨h115, hM⟩ := gi_some hM
                        refine va_iald hx hb hK hP 3 2 rfl rfl h115 dX9_findFewest_115 ?_
                        obtain ⟨h116, hM⟩ := gi_some hM
                        refine va_iast hx hb hK hP hD hS 4 2 rfl rfl h116 dX9_findFewest_116 (fun H locs hP hD hS => ?_)
                        have hP : va_P D vwCl [(h0, .inr (9, [oh0_0, oh0_1, oh0_2, oh0_3, oh0_4, oh0_5, oh0_6, oh0_7, oh0_8, oh0_9, oh0_10, oh0_11, oh0_12, oh0_13, oh0_14, oh0_15, oh0_16, oh0_17, oh0_18, oh0_19, oh0_20, oh0_21, oh0_22, oh0_23, oh0_24, oh0_25, oh0_26, oh0_27, oh0_28, oh0_29, oh0_30, oh0_31, oh0_32, .ref h0_lineDate, .ref h0_lineAge, .int v_lines, .ref h0_man, .ref h0_bestMan])), (h0_lineDate, .inl (cy 2, 8, .inl v_lineDate)), (h0_lineAge, .inl (cy 2, 8, .inl v_lineAge)), (h0_man, .inl (cy 2, 8, .inl (upd v_man_25 x2_25.toNatClampNeg ((v_man_25 x2_25.toNatClampNeg) + (1 : Int32))))), (h0_bestMan, .inl (cy 2, 8, .inl (upd v_bestMan_89 x4_89.toNatClampNeg ((upd v_man_25 x2_25.toNatClampNeg ((v_man_25 x2_25.toNatClampNeg) + (1 : Int32))) x4_89.toNatClampNeg))))] H := hP
                        have hD : va_D A [(h0, .inr (9, [oh0_0, oh0_1, oh0_2, oh0_3, oh0_4, oh0_5, oh0_6, oh0_7, oh0_8, oh0_9, oh0_10, oh0_11, oh0_12, oh0_13, oh0_14, oh0_15, oh0_16, oh0_17, oh0_18, oh0_19, oh0_20, oh0_21, oh0_22, oh0_23, oh0_24, oh0_25, oh0_26, oh0_27, oh0_28, oh0_29, oh0_30, oh0_31, oh0_32, .ref h0_lineDate, .ref h0_lineAge, .int v_lines, .ref h0_man, .ref h0_bestMan])), (h0_lineDate, .inl (cy 2, 8, .inl v_lineDate)), (h0_lineAge, .inl (cy 2, 8, .inl v_lineAge)), (h0_man, .inl (cy 2, 8, .inl (upd v_man_25 x2_25.toNatClampNeg ((v_man_25 x2_25.toNatClampNeg) + (1 : Int32))))), (h0_bestMan, .inl (cy 2, 8, .inl (upd v_bestMan_89 x4_89.toNatClampNeg ((upd v_man_25 x2_25.toNatClampNeg ((v_man_25 x2_25.toNatClampNeg) + (1 : Int32))) x4_89.toNatClampNeg))))] := hD
                        refine lv_iinc (v := x4_89 + (1 : Int32)) (lv' := [(4, .int (x4_89 + (1 : Int32))), (0, .ref h0), (1, .int x1_25), (2, .int x2_25), (3, .int r82)]) hx hb dX9_findFewest_117 hl (k := 4) rfl rfl (by decide) rfl (fun ls hl => ?_)
                        refine lv_goto (tgt := 89) hx hb dX9_findFewest_120 (by decide) ?_
                        exact ih (x4_89 + (1 : Int32)) (upd v_bestMan_89 x4_89.toNatClampNeg ((upd v_man_25 x2_25.toNatClampNeg ((v_man_25 x2_25.toNatClampNeg) + (1 : Int32))) x4_89.toNatClampNeg)) v_bestMan_e89 _ _ _ hM hP hD hS (lv_sub hl [1, 2, 3, 4, 0] rfl) K
                obtain ⟨v_bestMan_e89, hL89, hM⟩ := ob1_some hM
                refine L89 N (0 : Int32) v_bestMan_25 v_bestMan_e89 _ _ _ hL89 hP hD hS (lv_sub hl [2, 3, 4, 1, 0] rfl) ?_
                intro H locs ls hP hD hS hl
                refine lv_iload_n hx hb dX9_findFewest_123 rfl (lv_at hl 3 rfl) ?_
                refine lv_iload_n hx hb dX9_findFewest_124 rfl (lv_at hl 1 rfl) ?_
                refine lv_icmp_ge (tgt := 132) hx hb dX9_findFewest_125 (by decide) (fun c125 => ?_) (fun c125 => ?_)
                · have hM := g_pos c125 hM
                  refine lv_iload_n hx hb dX9_findFewest_132 rfl (lv_at hl 1 rfl) ?_
                  refine lv_istore_n (lv' := [(1, .int x1_25), (0, .ref h0), (2, .int x2_25), (3, .int r82)]) hx hb dX9_findFewest_133 rfl hl (by decide) rfl (fun ls hl => ?_)
                  refine lv_goto (tgt := 25) hx hb dX9_findFewest_134 (by decide) ?_
                  exact ih x1_25 x2_25 (upd v_man_25 x2_25.toNatClampNeg ((v_man_25 x2_25.toNatClampNeg) + (1 : Int32))) v_bestMan_e89 e1_25 v_man_e25 v_bestMan_e25 _ _ _ hM hP hD hS (lv_sub hl [1, 0, 2] rfl) K
                · have hM := g_neg c125 hM
                  refine lv_iload_n hx hb dX9_findFewest_128 rfl (lv_at hl 3 rfl) ?_
                  refine lv_goto (tgt := 133) hx hb dX9_findFewest_129 (by decide) ?_
                  refine lv_istore_n (lv' := [(1, .int r82), (0, .ref h0), (2, .int x2_25), (3, .int r82)]) hx hb dX9_findFewest_133 rfl hl (by decide) rfl (fun ls hl => ?_)
                  refine lv_goto (tgt := 25) hx hb dX9_findFewest_134 (by decide) ?_
                  exact ih r82 x2_25 (upd v_man_25 x2_25.toNatClampNeg ((v_man_25 x2_25.toNatClampNeg) + (1 : Int32))) v_bestMan_e89 e1_25 v_man_e25 v_bestMan_e25 _ _ _ hM hP hD hS (lv_sub hl [1, 0, 2] rfl) K
          · have hM := g_neg c50 hM
            refine lv_iinc (v := x2_25 + (-1 : Int32)) (lv' := [(2, .int (x2_25 + (-1 : Int32))), (0, .ref h0), (1, .int x1_25)]) hx hb dX9_findFewest_53 hl (k := 2) rfl rfl (by decide) rfl (fun ls hl => ?_)
            refine lv_goto (tgt := 25) hx hb dX9_findFewest_56 (by decide) ?_
            exact ih x1_25 (x2_25 + (-1 : Int32)) (upd v_man_25 x2_25.toNatClampNeg ((v_man_25 x2_25.toNatClampNeg) + (1 : Int32))) v_bestMan_25 e1_25 v_man_e25 v_bestMan_e25 _ _ _ hM hP hD hS (lv_sub hl [1, 2, 0] rfl) K
    obtain ⟨e1_25, v_man_e25, v_bestMan_e25, hL25, hM⟩ := ob3_some hM
    refine L25 N (v_lines + (1 : Int32)) (0 : Int32) (upd v_man (0 : Int32).toNatClampNeg (-1 : Int32)) v_bestMan e1_25 v_man_e25 v_bestMan_e25 _ _ _ hL25 hP hD hS (lv_sub hl [2, 1, 0] rfl) ?_
    intro H locs ls hP hD hS hl
    refine lv_iload_n hx hb dX9_findFewest_150 rfl (lv_at hl 0 rfl) ?_
    obtain ⟨rfl, rfl, rfl⟩ := si3 hM
    exact hret _ _ _ _ _ dX9_findFewest_151 rfl rfl hP hD hS
  · have hM := g_pos c13 hM
    refine lv_iconst (v := 0) hx hb dX9_findFewest_16 (by decide) ?_
    obtain ⟨rfl, rfl, rfl⟩ := si3 hM
    exact hret _ _ _ _ _ dX9_findFewest_17 rfl rfl hP hD hS

-- ===== X9_fewest fewest (I)I =====
abbrev r9_fewest : Room := { frames := 4, cells := 0, slots := 0, locals := 93 }
def f9_fewest (N : Nat) (p1 : Int32) (v_lines : Int32) (v_lineDate : Nat → Int32) (v_lineAge : Nat → Int32) (v_man : Nat → Int32) (v_bestMan : Nat → Int32) : Option (Int32 × (Nat → Int32) × (Nat → Int32)) :=
  ob1 (f9_in N p1 (-1 : Int32) (v_lines - (1 : Int32))) fun r8 => if r8 = (0 : Int32) then (some ((-1000000002 : Int32), v_man, v_bestMan)) else (ob3 (f9_findFewest N v_lines v_lineDate v_lineAge v_man v_bestMan) fun r18 v_man_18 v_bestMan_18 => if p1 = (-1 : Int32) then (some (r18, v_man_18, v_bestMan_18)) else (gi p1 8 (some ((v_bestMan_18 p1.toNatClampNeg), v_man_18, v_bestMan_18))))
set_option maxHeartbeats 4000000 in
set_option maxRecDepth 100000 in
theorem c9_fewest (l : Launch) (D : va_G) (cy : Nat → ClassId) (N : Nat) (h0 h0_lineDate h0_lineAge h0_man h0_bestMan : Nat) (oh0_0 oh0_1 oh0_2 oh0_3 oh0_4 oh0_5 oh0_6 oh0_7 oh0_8 oh0_9 oh0_10 oh0_11 oh0_12 oh0_13 oh0_14 oh0_15 oh0_16 oh0_17 oh0_18 oh0_19 oh0_20 oh0_21 oh0_22 oh0_23 oh0_24 oh0_25 oh0_26 oh0_27 oh0_28 oh0_29 oh0_30 oh0_31 oh0_32 : Value) (p1 : Int32) (v_lines : Int32) (v_lineDate : Nat → Int32) (v_lineAge : Nat → Int32) (v_man : Nat → Int32) (v_bestMan : Nat → Int32) (r : Int32) (nv_man : Nat → Int32) (nv_bestMan : Nat → Int32) (hM : f9_fewest N p1 v_lines v_lineDate v_lineAge v_man v_bestMan = some (r, nv_man, nv_bestMan)) (sz : Nat) : CTi l yX9_fewest wsX9_fewest r9_fewest [.ref h0, .int p1] D cy sz [(h0, .inr (9, [oh0_0, oh0_1, oh0_2, oh0_3, oh0_4, oh0_5, oh0_6, oh0_7, oh0_8, oh0_9, oh0_10, oh0_11, oh0_12, oh0_13, oh0_14, oh0_15, oh0_16, oh0_17, oh0_18, oh0_19, oh0_20, oh0_21, oh0_22, oh0_23, oh0_24, oh0_25, oh0_26, oh0_27, oh0_28, oh0_29, oh0_30, oh0_31, oh0_32, .ref h0_lineDate, .ref h0_lineAge, .int v_lines, .ref h0_man, .ref h0_bestMan])), (h0_lineDate, .inl (cy 2, 8, .inl v_lineDate)), (h0_lineAge, .inl (cy 2, 8, .inl v_lineAge)), (h0_man, .inl (cy 2, 8, .inl v_man)), (h0_bestMan, .inl (cy 2, 8, .inl v_bestMan))] [(h0, .inr (9, [oh0_0, oh0_1, oh0_2, oh0_3, oh0_4, oh0_5, oh0_6, oh0_7, oh0_8, oh0_9, oh0_10, oh0_11, oh0_12, oh0_13, oh0_14, oh0_15, oh0_16, oh0_17, oh0_18, oh0_19, oh0_20, oh0_21, oh0_22, oh0_23, oh0_24, oh0_25, oh0_26, oh0_27, oh0_28, oh0_29, oh0_30, oh0_31, oh0_32, .ref h0_lineDate, .ref h0_lineAge, .int v_lines, .ref h0_man, .ref h0_bestMan])), (h0_lineDate, .inl (cy 2, 8, .inl v_lineDate)), (h0_lineAge, .inl (cy 2, 8, .inl v_lineAge)), (h0_man, .inl (cy 2, 8, .inl nv_man)), (h0_bestMan, .inl (cy 2, 8, .inl nv_bestMan))] r := by
  unfold f9_fewest at hM
  refine ct_oi (cc := cX9_fewest) (maxL := 3) (ty := .int) (by decide +kernel) rfl (Nat.le_of_ble_eq_true rfl) (lv0 := [(0, .ref h0), (1, .int p1)]) rfl ?_
  intro p e s m args below meth c A Q ls hx hb hts hown hml hK hP hD hS hA hret hl
  have hown : s.vm.findClass RX9 = some m.cls := hown
  have k165 := hts (.fieldLink RX9 165 "CaveYearsModel" "lines" "I") (List.mem_of_getElem? (i := 1) rfl)
  have iX9 := (fun w h => (List.mem_cons_of_mem _ (List.mem_append_right _ h)) : ∀ w ∈ wsX90, w ∈ wsX9_fewest)
  have k88 := hts (.fieldLink RX9 88 "CaveYearsModel" "bestMan" "[I") (List.mem_of_getElem? (i := 3) rfl)
  have k99 := hts (.constant RX9 99 (-1000000002)) (List.mem_of_getElem? (i := 2) rfl)
  refine lv_iload_n hx hb dX9_fewest_0 rfl (lv_at hl 1 rfl) ?_
  refine lv_iconst (v := -1) hx hb dX9_fewest_1 (by decide) ?_
  refine lv_aload_n hx hb dX9_fewest_2 rfl (lv_at hl 0 rfl) ?_
  refine va_get (D := D) (ci := 9) (v := .int v_lines) (C := RX9) (T := TX9) (N := 38) hx hb hts iX9 hown hK hP 0 rfl rfl 35 (by decide) k165 (fun _ h9 => h9) rfl dX9_fewest_3 ?_
  refine lv_iconst (v := 1) hx hb dX9_fewest_6 (by decide) ?_
  refine lv_isub hx hb dX9_fewest_7 ?_
  obtain ⟨r8, hc8, hM⟩ := ob1_some hM
  refine cl_si (As := [.int p1, .int (-1 : Int32), .int (v_lines - (1 : Int32))]) (rest := []) (wr := [(h0, .inr (9, [oh0_0, oh0_1, oh0_2, oh0_3, oh0_4, oh0_5, oh0_6, oh0_7, oh0_8, oh0_9, oh0_10, oh0_11, oh0_12, oh0_13, oh0_14, oh0_15, oh0_16, oh0_17, oh0_18, oh0_19, oh0_20, oh0_21, oh0_22, oh0_23, oh0_24, oh0_25, oh0_26, oh0_27, oh0_28, oh0_29, oh0_30, oh0_31, oh0_32, .ref h0_lineDate, .ref h0_lineAge, .int v_lines, .ref h0_man, .ref h0_bestMan])), (h0_lineDate, .inl (cy 2, 8, .inl v_lineDate)), (h0_lineAge, .inl (cy 2, 8, .inl v_lineAge)), (h0_man, .inl (cy 2, 8, .inl v_man)), (h0_bestMan, .inl (cy 2, 8, .inl v_bestMan))]) (ws2 := [(h0, .inr (9, [oh0_0, oh0_1, oh0_2, oh0_3, oh0_4, oh0_5, oh0_6, oh0_7, oh0_8, oh0_9, oh0_10, oh0_11, oh0_12, oh0_13, oh0_14, oh0_15, oh0_16, oh0_17, oh0_18, oh0_19, oh0_20, oh0_21, oh0_22, oh0_23, oh0_24, oh0_25, oh0_26, oh0_27, oh0_28, oh0_29, oh0_30, oh0_31, oh0_32, .ref h0_lineDate, .ref h0_lineAge, .int v_lines, .ref h0_man, .ref h0_bestMan])), (h0_lineDate, .inl (cy 2, 8, .inl v_lineDate)), (h0_lineAge, .inl (cy 2, 8, .inl v_lineAge)), (h0_man, .inl (cy 2, 8, .inl v_man)), (h0_bestMan, .inl (cy 2, 8, .inl v_bestMan))]) (isC := []) (isR := [0, 1, 2, 3, 4]) (pm := [0, 1, 2, 3, 4]) hx hb hml hown hts (c9_in l D cy N p1 (-1 : Int32) (v_lines - (1 : Int32)) r8 hc8) (va_cwS 3 hts gX9_fewest_X9_in rfl rfl rfl (by decide +kernel) ⟨Nat.le_of_ble_eq_true rfl, Nat.le_of_ble_eq_true rfl⟩) hK hP hD hS hA rfl rfl rfl (by decide) rfl rfl rfl hl.1 (Nat.le_of_ble_eq_true rfl) dX9_fewest_8 ⟨Nat.zero_le _, Nat.zero_le _⟩ rfl rfl (fun H locs hP hD hS => ?_)
  refine lv_if_ne (tgt := 17) hx hb dX9_fewest_11 (by decide) (fun c11 => ?_) (fun c11 => ?_)
  · have hM := g_neg c11 hM
    refine lv_aload_n hx hb dX9_fewest_17 rfl (lv_at hl 0 rfl) ?_
    obtain ⟨r18, v_man_18, v_bestMan_18, hc18, hM⟩ := ob3_some hM
    refine cl_vi (As := []) (rest := []) (ci := 9) (q0 := 0) (wr := []) (ws2 := [(h0, .inr (9, [oh0_0, oh0_1, oh0_2, oh0_3, oh0_4, oh0_5, oh0_6, oh0_7, oh0_8, oh0_9, oh0_10, oh0_11, oh0_12, oh0_13, oh0_14, oh0_15, oh0_16, oh0_17, oh0_18, oh0_19, oh0_20, oh0_21, oh0_22, oh0_23, oh0_24, oh0_25, oh0_26, oh0_27, oh0_28, oh0_29, oh0_30, oh0_31, oh0_32, .ref h0_lineDate, .ref h0_lineAge, .int v_lines, .ref h0_man, .ref h0_bestMan])), (h0_lineDate, .inl (cy 2, 8, .inl v_lineDate)), (h0_lineAge, .inl (cy 2, 8, .inl v_lineAge)), (h0_man, .inl (cy 2, 8, .inl v_man_18)), (h0_bestMan, .inl (cy 2, 8, .inl v_bestMan_18))]) (isC := [0, 1, 2, 3, 4]) (isR := []) (pm := [0, 1, 2, 3, 4]) hx hb hml hown hts (c9_findFewest l D cy N h0 h0_lineDate h0_lineAge h0_man h0_bestMan oh0_0 oh0_1 oh0_2 oh0_3 oh0_4 oh0_5 oh0_6 oh0_7 oh0_8 oh0_9 oh0_10 oh0_11 oh0_12 oh0_13 oh0_14 oh0_15 oh0_16 oh0_17 oh0_18 oh0_19 oh0_20 oh0_21 oh0_22 oh0_23 oh0_24 oh0_25 oh0_26 oh0_27 oh0_28 oh0_29 oh0_30 oh0_31 oh0_32 v_lines v_lineDate v_lineAge v_man v_bestMan r18 v_man_18 v_bestMan_18 hc18) (cwV 0 hts gX9_fewest_X9_findFewest rfl rfl rfl (by decide +kernel) ⟨Nat.le_of_ble_eq_true rfl, Nat.le_of_ble_eq_true rfl⟩) hK hP hD hS hA rfl rfl rfl rfl rfl (by decide) rfl rfl rfl hl.1 (Nat.le_of_ble_eq_true rfl) dX9_fewest_18 ⟨Nat.zero_le _, Nat.zero_le _⟩ rfl rfl (fun H locs hP hD hS => ?_)
    refine lv_istore_n (lv' := [(2, .int r18), (0, .ref h0), (1, .int p1)]) hx hb dX9_fewest_21 rfl hl (by decide) rfl (fun ls hl => ?_)
    refine lv_iload_n hx hb dX9_fewest_22 rfl (lv_at hl 2 rfl) ?_
    refine lv_iconst (v := -1) hx hb dX9_fewest_23 (by decide) ?_
    refine lv_icmp_ne (tgt := 31) hx hb dX9_fewest_24 (by decide) (fun c24 => ?_) (fun c24 => ?_)
    · have hM := g_neg c24 hM
      refine lv_aload_n hx hb dX9_fewest_31 rfl (lv_at hl 1 rfl) ?_
      refine va_get (D := D) (ci := 9) (v := .ref h0_bestMan) (C := RX9) (T := TX9) (N := 38) hx hb hts iX9 hown hK hP 0 rfl rfl 37 (by decide) k88 (fun _ h9 => h9) rfl dX9_fewest_32 ?_
      refine lv_iload_n hx hb dX9_fewest_35 rfl (lv_at hl 2 rfl) ?_
      obtain ⟨h36, hM⟩ := gi_some hM
      refine va_iald hx hb hK hP 4 2 rfl rfl h36 dX9_fewest_36 ?_
      obtain ⟨rfl, rfl, rfl⟩ := si3 hM
      exact hret _ _ _ _ _ dX9_fewest_37 rfl rfl hP hD hS
    · have hM := g_pos c24 hM
      refine lv_iload_n hx hb dX9_fewest_27 rfl (lv_at hl 0 rfl) ?_
      refine lv_goto (tgt := 37) hx hb dX9_fewest_28 (by decide) ?_
      obtain ⟨rfl, rfl, rfl⟩ := si3 hM
      exact hret _ _ _ _ _ dX9_fewest_37 rfl rfl hP hD hS
  · have hM := g_pos c11 hM
    refine lv_ldc (v := -1000000002) hx hb hown k99 dX9_fewest_14 ?_
    obtain ⟨rfl, rfl, rfl⟩ := si3 hM
    exact hret _ _ _ _ _ dX9_fewest_16 rfl rfl hP hD hS

-- ===== X9_tear tear ()I =====
abbrev r9_tear : Room := { frames := 0, cells := 0, slots := 0, locals := 0 }
def f9_tear (N : Nat) (v_tries : Int32) (v_lines : Int32) : Option (Int32 × Int32 × Int32) :=
  some ((v_tries + v_lines), (0 : Int32), (0 : Int32))
set_option maxHeartbeats 4000000 in
set_option maxRecDepth 100000 in
theorem c9_tear (l : Launch) (D : va_G) (cy : Nat → ClassId) (N : Nat) (h0 : Nat) (oh0_0 oh0_1 oh0_2 oh0_3 oh0_4 oh0_5 oh0_6 oh0_7 oh0_8 oh0_9 oh0_10 oh0_11 oh0_12 oh0_13 oh0_14 oh0_15 oh0_16 oh0_17 oh0_18 oh0_19 oh0_20 oh0_21 oh0_22 oh0_23 oh0_24 oh0_25 oh0_26 oh0_27 oh0_28 oh0_29 oh0_30 oh0_31 oh0_33 oh0_34 oh0_36 oh0_37 : Value) (v_tries : Int32) (v_lines : Int32) (r : Int32) (nv_tries : Int32) (nv_lines : Int32) (hM : f9_tear N v_tries v_lines = some (r, nv_tries, nv_lines)) (sz : Nat) : CTi l yX9_tear wsX9_tear r9_tear [.ref h0] D cy sz [(h0, .inr (9, [oh0_0, oh0_1, oh0_2, oh0_3, oh0_4, oh0_5, oh0_6, oh0_7, oh0_8, oh0_9, oh0_10, oh0_11, oh0_12, oh0_13, oh0_14, oh0_15, oh0_16, oh0_17, oh0_18, oh0_19, oh0_20, oh0_21, oh0_22, oh0_23, oh0_24, oh0_25, oh0_26, oh0_27, oh0_28, oh0_29, oh0_30, oh0_31, .int v_tries, oh0_33, oh0_34, .int v_lines, oh0_36, oh0_37]))] [(h0, .inr (9, [oh0_0, oh0_1, oh0_2, oh0_3, oh0_4, oh0_5, oh0_6, oh0_7, oh0_8, oh0_9, oh0_10, oh0_11, oh0_12, oh0_13, oh0_14, oh0_15, oh0_16, oh0_17, oh0_18, oh0_19, oh0_20, oh0_21, oh0_22, oh0_23, oh0_24, oh0_25, oh0_26, oh0_27, oh0_28, oh0_29, oh0_30, oh0_31, .int nv_tries, oh0_33, oh0_34, .int nv_lines, oh0_36, oh0_37]))] r := by
  unfold f9_tear at hM
  refine ct_oi (cc := cX9_tear) (maxL := 2) (ty := .int) (by decide +kernel) rfl (Nat.le_of_ble_eq_true rfl) (lv0 := [(0, .ref h0)]) rfl ?_
  intro p e s m args below meth c A Q ls hx hb hts hown hml hK hP hD hS hA hret hl
  have hown : s.vm.findClass RX9 = some m.cls := hown
  have k162 := hts (.fieldLink RX9 162 "CaveYearsModel" "tries" "I") (List.mem_of_getElem? (i := 1) rfl)
  have iX9 := (fun w h => (List.mem_cons_of_mem _ (List.mem_append_right _ h)) : ∀ w ∈ wsX90, w ∈ wsX9_tear)
  have k165 := hts (.fieldLink RX9 165 "CaveYearsModel" "lines" "I") (List.mem_of_getElem? (i := 2) rfl)
  refine lv_aload_n hx hb dX9_tear_0 rfl (lv_at hl 0 rfl) ?_
  refine va_get (D := D) (ci := 9) (v := .int v_tries) (C := RX9) (T := TX9) (N := 38) hx hb hts iX9 hown hK hP 0 rfl rfl 32 (by decide) k162 (fun _ h9 => h9) rfl dX9_tear_1 ?_
  refine lv_aload_n hx hb dX9_tear_4 rfl (lv_at hl 0 rfl) ?_
  refine va_get (D := D) (ci := 9) (v := .int v_lines) (C := RX9) (T := TX9) (N := 38) hx hb hts iX9 hown hK hP 0 rfl rfl 35 (by decide) k165 (fun _ h9 => h9) rfl dX9_tear_5 ?_
  refine lv_iadd hx hb dX9_tear_8 ?_
  refine lv_istore_n (lv' := [(1, .int (v_tries + v_lines)), (0, .ref h0)]) hx hb dX9_tear_9 rfl hl (by decide) rfl (fun ls hl => ?_)
  refine lv_aload_n hx hb dX9_tear_10 rfl (lv_at hl 1 rfl) ?_
  refine lv_iconst (v := 0) hx hb dX9_tear_11 (by decide) ?_
  refine va_put (D := D) (ci := 9) (v := .int (0 : Int32)) (ty := .int) (C := RX9) (T := TX9) (N := 38) hx hb hts iX9 tyX9 tyX9_ok nmX9 hown hK hP hD hS 0 rfl rfl 32 (by decide) k162 (fun _ h9 => h9) rfl (by decide +kernel) rfl rfl (Nat.le_of_ble_eq_true rfl) dX9_tear_12 (fun H locs hP hD hS => ?_)
  have hP : va_P D vwCl [(h0, .inr (9, [oh0_0, oh0_1, oh0_2, oh0_3, oh0_4, oh0_5, oh0_6, oh0_7, oh0_8, oh0_9, oh0_10, oh0_11, oh0_12, oh0_13, oh0_14, oh0_15, oh0_16, oh0_17, oh0_18, oh0_19, oh0_20, oh0_21, oh0_22, oh0_23, oh0_24, oh0_25, oh0_26, oh0_27, oh0_28, oh0_29, oh0_30, oh0_31, .int (0 : Int32), oh0_33, oh0_34, .int v_lines, oh0_36, oh0_37]))] H := hP
  have hD : va_D A [(h0, .inr (9, [oh0_0, oh0_1, oh0_2, oh0_3, oh0_4, oh0_5, oh0_6, oh0_7, oh0_8, oh0_9, oh0_10, oh0_11, oh0_12, oh0_13, oh0_14, oh0_15, oh0_16, oh0_17, oh0_18, oh0_19, oh0_20, oh0_21, oh0_22, oh0_23, oh0_24, oh0_25, oh0_26, oh0_27, oh0_28, oh0_29, oh0_30, oh0_31, .int (0 : Int32), oh0_33, oh0_34, .int v_lines, oh0_36, oh0_37]))] := hD
  refine lv_aload_n hx hb dX9_tear_15 rfl (lv_at hl 1 rfl) ?_
  refine lv_iconst (v := 0) hx hb dX9_tear_16 (by decide) ?_
  refine va_put (D := D) (ci := 9) (v := .int (0 : Int32)) (ty := .int) (C := RX9) (T := TX9) (N := 38) hx hb hts iX9 tyX9 tyX9_ok nmX9 hown hK hP hD hS 0 rfl rfl 35 (by decide) k165 (fun _ h9 => h9) rfl (by decide +kernel) rfl rfl (Nat.le_of_ble_eq_true rfl) dX9_tear_17 (fun H locs hP hD hS => ?_)
  have hP : va_P D vwCl [(h0, .inr (9, [oh0_0, oh0_1, oh0_2, oh0_3, oh0_4, oh0_5, oh0_6, oh0_7, oh0_8, oh0_9, oh0_10, oh0_11, oh0_12, oh0_13, oh0_14, oh0_15, oh0_16, oh0_17, oh0_18, oh0_19, oh0_20, oh0_21, oh0_22, oh0_23, oh0_24, oh0_25, oh0_26, oh0_27, oh0_28, oh0_29, oh0_30, oh0_31, .int (0 : Int32), oh0_33, oh0_34, .int (0 : Int32), oh0_36, oh0_37]))] H := hP
  have hD : va_D A [(h0, .inr (9, [oh0_0, oh0_1, oh0_2, oh0_3, oh0_4, oh0_5, oh0_6, oh0_7, oh0_8, oh0_9, oh0_10, oh0_11, oh0_12, oh0_13, oh0_14, oh0_15, oh0_16, oh0_17, oh0_18, oh0_19, oh0_20, oh0_21, oh0_22, oh0_23, oh0_24, oh0_25, oh0_26, oh0_27, oh0_28, oh0_29, oh0_30, oh0_31, .int (0 : Int32), oh0_33, oh0_34, .int (0 : Int32), oh0_36, oh0_37]))] := hD
  refine lv_iload_n hx hb dX9_tear_20 rfl (lv_at hl 0 rfl) ?_
  obtain ⟨rfl, rfl, rfl⟩ := si3 hM
  exact hret _ _ _ _ _ dX9_tear_21 rfl rfl hP hD hS

-- ===== X9_seed seed (I)I =====
abbrev r9_seed : Room := { frames := 0, cells := 0, slots := 0, locals := 0 }
def f9_seed (N : Nat) (p1 : Int32) (v_seed : Int32) : Option (Int32 × Int32) :=
  if (0 : Int32) ≤ p1 then (some (v_seed, p1)) else (some ((-1000000002 : Int32), v_seed))
set_option maxHeartbeats 4000000 in
set_option maxRecDepth 100000 in
theorem c9_seed (l : Launch) (D : va_G) (cy : Nat → ClassId) (N : Nat) (h0 : Nat) (oh0_1 oh0_2 oh0_3 oh0_4 oh0_5 oh0_6 oh0_7 oh0_8 oh0_9 oh0_10 oh0_11 oh0_12 oh0_13 oh0_14 oh0_15 oh0_16 oh0_17 oh0_18 oh0_19 oh0_20 oh0_21 oh0_22 oh0_23 oh0_24 oh0_25 oh0_26 oh0_27 oh0_28 oh0_29 oh0_30 oh0_31 oh0_32 oh0_33 oh0_34 oh0_35 oh0_36 oh0_37 : Value) (p1 : Int32) (v_seed : Int32) (r : Int32) (nv_seed : Int32) (hM : f9_seed N p1 v_seed = some (r, nv_seed)) (sz : Nat) : CTi l yX9_seed wsX9_seed r9_seed [.ref h0, .int p1] D cy sz [(h0, .inr (9, [.int v_seed, oh0_1, oh0_2, oh0_3, oh0_4, oh0_5, oh0_6, oh0_7, oh0_8, oh0_9, oh0_10, oh0_11, oh0_12, oh0_13, oh0_14, oh0_15, oh0_16, oh0_17, oh0_18, oh0_19, oh0_20, oh0_21, oh0_22, oh0_23, oh0_24, oh0_25, oh0_26, oh0_27, oh0_28, oh0_29, oh0_30, oh0_31, oh0_32, oh0_33, oh0_34, oh0_35, oh0_36, oh0_37]))] [(h0, .inr (9, [.int nv_seed, oh0_1, oh0_2, oh0_3, oh0_4, oh0_5, oh0_6, oh0_7, oh0_8, oh0_9, oh0_10, oh0_11, oh0_12, oh0_13, oh0_14, oh0_15, oh0_16, oh0_17, oh0_18, oh0_19, oh0_20, oh0_21, oh0_22, oh0_23, oh0_24, oh0_25, oh0_26, oh0_27, oh0_28, oh0_29, oh0_30, oh0_31, oh0_32, oh0_33, oh0_34, oh0_35, oh0_36, oh0_37]))] r := by
  unfold f9_seed at hM
  refine ct_oi (cc := cX9_seed) (maxL := 3) (ty := .int) (by decide +kernel) rfl (Nat.le_of_ble_eq_true rfl) (lv0 := [(0, .ref h0), (1, .int p1)]) rfl ?_
  intro p e s m args below meth c A Q ls hx hb hts hown hml hK hP hD hS hA hret hl
  have hown : s.vm.findClass RX9 = some m.cls := hown
  have k214 := hts (.fieldLink RX9 214 "CaveYearsModel" "seed" "I") (List.mem_of_getElem? (i := 2) rfl)
  have iX9 := (fun w h => (List.mem_cons_of_mem _ (List.mem_append_right _ h)) : ∀ w ∈ wsX90, w ∈ wsX9_seed)
  have k99 := hts (.constant RX9 99 (-1000000002)) (List.mem_of_getElem? (i := 1) rfl)
  refine lv_iload_n hx hb dX9_seed_0 rfl (lv_at hl 1 rfl) ?_
  refine lv_if_ge (tgt := 7) hx hb dX9_seed_1 (by decide) (fun c1 => ?_) (fun c1 => ?_)
  · have hM := g_pos c1 hM
    refine lv_aload_n hx hb dX9_seed_7 rfl (lv_at hl 0 rfl) ?_
    refine va_get (D := D) (ci := 9) (v := .int v_seed) (C := RX9) (T := TX9) (N := 38) hx hb hts iX9 hown hK hP 0 rfl rfl 0 (by decide) k214 (fun _ h9 => h9) rfl dX9_seed_8 ?_
    refine lv_istore_n (lv' := [(2, .int v_seed), (0, .ref h0), (1, .int p1)]) hx hb dX9_seed_11 rfl hl (by decide) rfl (fun ls hl => ?_)
    refine lv_aload_n hx hb dX9_seed_12 rfl (lv_at hl 1 rfl) ?_
    refine lv_iload_n hx hb dX9_seed_13 rfl (lv_at hl 2 rfl) ?_
    refine va_put (D := D) (ci := 9) (v := .int p1) (ty := .int) (C := RX9) (T := TX9) (N := 38) hx hb hts iX9 tyX9 tyX9_ok nmX9 hown hK hP hD hS 0 rfl rfl 0 (by decide) k214 (fun _ h9 => h9) rfl (by decide +kernel) rfl rfl (Nat.le_of_ble_eq_true rfl) dX9_seed_14 (fun H locs hP hD hS => ?_)
    have hP : va_P D vwCl [(h0, .inr (9, [.int p1, oh0_1, oh0_2, oh0_3, oh0_4, oh0_5, oh0_6, oh0_7, oh0_8, oh0_9, oh0_10, oh0_11, oh0_12, oh0_13, oh0_14, oh0_15, oh0_16, oh0_17, oh0_18, oh0_19, oh0_20, oh0_21, oh0_22, oh0_23, oh0_24, oh0_25, oh0_26, oh0_27, oh0_28, oh0_29, oh0_30, oh0_31, oh0_32, oh0_33, oh0_34, oh0_35, oh0_36, oh0_37]))] H := hP
    have hD : va_D A [(h0, .inr (9, [.int p1, oh0_1, oh0_2, oh0_3, oh0_4, oh0_5, oh0_6, oh0_7, oh0_8, oh0_9, oh0_10, oh0_11, oh0_12, oh0_13, oh0_14, oh0_15, oh0_16, oh0_17, oh0_18, oh0_19, oh0_20, oh0_21, oh0_22, oh0_23, oh0_24, oh0_25, oh0_26, oh0_27, oh0_28, oh0_29, oh0_30, oh0_31, oh0_32, oh0_33, oh0_34, oh0_35, oh0_36, oh0_37]))] := hD
    refine lv_iload_n hx hb dX9_seed_17 rfl (lv_at hl 0 rfl) ?_
    obtain ⟨rfl, rfl⟩ := si2 hM
    exact hret _ _ _ _ _ dX9_seed_18 rfl rfl hP hD hS
  · have hM := g_neg c1 hM
    refine lv_ldc (v := -1000000002) hx hb hown k99 dX9_seed_4 ?_
    obtain ⟨rfl, rfl⟩ := si2 hM
    exact hret _ _ _ _ _ dX9_seed_6 rfl rfl hP hD hS

-- ===== X9_copy copy (II)V =====
abbrev r9_copy : Room := { frames := 0, cells := 0, slots := 0, locals := 0 }
def f9_copy_L2 (N : Nat) (p1 : Int32) (p2 : Int32) : Nat → Int32 → (Nat → Int32) → Option (Nat → Int32)
  | 0, _, _ => none
  | n + 1, x3_2, v_now_2 => if (20 : Int32) ≤ x3_2 then (some v_now_2) else (gi (p1 + x3_2) 60 (gi (p2 + x3_2) 60 ((f9_copy_L2 N p1 p2 n) (x3_2 + (1 : Int32)) (upd v_now_2 (p2 + x3_2).toNatClampNeg (v_now_2 (p1 + x3_2).toNatClampNeg)))))
def f9_copy (N : Nat) (p1 : Int32) (p2 : Int32) (v_now : Nat → Int32) : Option (Nat → Int32) :=
  ob1 (f9_copy_L2 N p1 p2 N (0 : Int32) v_now) fun v_now_e2 => some v_now_e2
set_option maxHeartbeats 4000000 in
set_option maxRecDepth 100000 in
theorem c9_copy (l : Launch) (D : va_G) (cy : Nat → ClassId) (N : Nat) (h0 h0_now : Nat) (oh0_0 oh0_1 oh0_2 oh0_3 oh0_4 oh0_5 oh0_6 oh0_7 oh0_8 oh0_9 oh0_10 oh0_11 oh0_12 oh0_13 oh0_14 oh0_15 oh0_16 oh0_17 oh0_18 oh0_19 oh0_20 oh0_21 oh0_23 oh0_24 oh0_25 oh0_26 oh0_27 oh0_28 oh0_29 oh0_30 oh0_31 oh0_32 oh0_33 oh0_34 oh0_35 oh0_36 oh0_37 : Value) (p1 : Int32) (p2 : Int32) (v_now : Nat → Int32) (nv_now : Nat → Int32) (hM : f9_copy N p1 p2 v_now = some nv_now) (sz : Nat) : CTv l yX9_copy wsX9_copy r9_copy [.ref h0, .int p1, .int p2] D cy sz [(h0, .inr (9, [oh0_0, oh0_1, oh0_2, oh0_3, oh0_4, oh0_5, oh0_6, oh0_7, oh0_8, oh0_9, oh0_10, oh0_11, oh0_12, oh0_13, oh0_14, oh0_15, oh0_16, oh0_17, oh0_18, oh0_19, oh0_20, oh0_21, .ref h0_now, oh0_23, oh0_24, oh0_25, oh0_26, oh0_27, oh0_28, oh0_29, oh0_30, oh0_31, oh0_32, oh0_33, oh0_34, oh0_35, oh0_36, oh0_37])), (h0_now, .inl (cy 2, 60, .inl v_now))] [(h0, .inr (9, [oh0_0, oh0_1, oh0_2, oh0_3, oh0_4, oh0_5, oh0_6, oh0_7, oh0_8, oh0_9, oh0_10, oh0_11, oh0_12, oh0_13, oh0_14, oh0_15, oh0_16, oh0_17, oh0_18, oh0_19, oh0_20, oh0_21, .ref h0_now, oh0_23, oh0_24, oh0_25, oh0_26, oh0_27, oh0_28, oh0_29, oh0_30, oh0_31, oh0_32, oh0_33, oh0_34, oh0_35, oh0_36, oh0_37])), (h0_now, .inl (cy 2, 60, .inl nv_now))] := by
  unfold f9_copy at hM
  refine ct_ov (cc := cX9_copy) (maxL := 4)  (by decide +kernel) rfl (Nat.le_of_ble_eq_true rfl) (lv0 := [(0, .ref h0), (1, .int p1), (2, .int p2)]) rfl ?_
  intro p e s m args below meth c A Q ls hx hb hts hown hml hK hP hD hS hA hret hl
  have hown : s.vm.findClass RX9 = some m.cls := hown
  have k50 := hts (.fieldLink RX9 50 "CaveYearsModel" "now" "[I") (List.mem_of_getElem? (i := 1) rfl)
  have iX9 := (fun w h => (List.mem_cons_of_mem _ (List.mem_append_right _ h)) : ∀ w ∈ wsX90, w ∈ wsX9_copy)
  refine lv_iconst (v := 0) hx hb dX9_copy_0 (by decide) ?_
  refine lv_istore_n (lv' := [(3, .int (0 : Int32)), (0, .ref h0), (1, .int p1), (2, .int p2)]) hx hb dX9_copy_1 rfl hl (by decide) rfl (fun ls hl => ?_)
  have L2 : ∀ (n : Nat) (x3_2 : Int32) (v_now_2 : Nat → Int32) (v_now_e2 : Nat → Int32) (H : Heap) (locs : List Loc) (ls : Array Slot), f9_copy_L2 N p1 p2 n x3_2 v_now_2 = some v_now_e2 → va_P D vwCl [(h0, .inr (9, [oh0_0, oh0_1, oh0_2, oh0_3, oh0_4, oh0_5, oh0_6, oh0_7, oh0_8, oh0_9, oh0_10, oh0_11, oh0_12, oh0_13, oh0_14, oh0_15, oh0_16, oh0_17, oh0_18, oh0_19, oh0_20, oh0_21, .ref h0_now, oh0_23, oh0_24, oh0_25, oh0_26, oh0_27, oh0_28, oh0_29, oh0_30, oh0_31, oh0_32, oh0_33, oh0_34, oh0_35, oh0_36, oh0_37])), (h0_now, .inl (cy 2, 60, .inl v_now_2))] H → va_D A [(h0, .inr (9, [oh0_0, oh0_1, oh0_2, oh0_3, oh0_4, oh0_5, oh0_6, oh0_7, oh0_8, oh0_9, oh0_10, oh0_11, oh0_12, oh0_13, oh0_14, oh0_15, oh0_16, oh0_17, oh0_18, oh0_19, oh0_20, oh0_21, .ref h0_now, oh0_23, oh0_24, oh0_25, oh0_26, oh0_27, oh0_28, oh0_29, oh0_30, oh0_31, oh0_32, oh0_33, oh0_34, oh0_35, oh0_36, oh0_37])), (h0_now, .inl (cy 2, 60, .inl v_now_2))] → va_S A s.heap H locs → lv_has ls 4 [(0, .ref h0), (1, .int p1), (2, .int p2), (3, .int x3_2)] → (∀ (H : Heap) (locs : List Loc) (ls : Array Slot), va_P D vwCl [(h0, .inr (9, [oh0_0, oh0_1, oh0_2, oh0_3, oh0_4, oh0_5, oh0_6, oh0_7, oh0_8, oh0_9, oh0_10, oh0_11, oh0_12, oh0_13, oh0_14, oh0_15, oh0_16, oh0_17, oh0_18, oh0_19, oh0_20, oh0_21, .ref h0_now, oh0_23, oh0_24, oh0_25, oh0_26, oh0_27, oh0_28, oh0_29, oh0_30, oh0_31, oh0_32, oh0_33, oh0_34, oh0_35, oh0_36, oh0_37])), (h0_now, .inl (cy 2, 60, .inl v_now_e2))] H → va_D A [(h0, .inr (9, [oh0_0, oh0_1, oh0_2, oh0_3, oh0_4, oh0_5, oh0_6, oh0_7, oh0_8, oh0_9, oh0_10, oh0_11, oh0_12, oh0_13, oh0_14, oh0_15, oh0_16, oh0_17, oh0_18, oh0_19, oh0_20, oh0_21, .ref h0_now, oh0_23, oh0_24, oh0_25, oh0_26, oh0_27, oh0_28, oh0_29, oh0_30, oh0_31, oh0_32, oh0_33, oh0_34, oh0_35, oh0_36, oh0_37])), (h0_now, .inl (cy 2, 60, .inl v_now_e2))] → va_S A s.heap H locs → lv_has ls 4 [] → W p l e r9_copy s m args below meth c H locs 0 0 Q (F0 m 30 ls [])) → W p l e r9_copy s m args below meth c H locs 0 0 Q (F0 m 2 ls []) := by
    intro n
    induction n with
    | zero =>
      intro x3_2 v_now_2 v_now_e2 H locs ls hM
      exact absurd hM (by simp [f9_copy_L2])
    | succ n ih =>
      intro x3_2 v_now_2 v_now_e2 H locs ls hM hP hD hS hl K
      rw [f9_copy_L2] at hM
      refine lv_iload_n hx hb dX9_copy_2 rfl (lv_at hl 3 rfl) ?_
      refine lv_bipush (v := 20) hx hb dX9_copy_3 (by decide) ?_
      refine lv_icmp_ge (tgt := 30) hx hb dX9_copy_5 (by decide) (fun c5 => ?_) (fun c5 => ?_)
      · have hM := g_pos c5 hM
        obtain rfl := si1 hM
        exact K _ _ _ hP hD hS (lv_sub hl [] rfl)
      · have hM := g_neg c5 hM
        refine lv_aload_n hx hb dX9_copy_8 rfl (lv_at hl 0 rfl) ?_
        refine va_get (D := D) (ci := 9) (v := .ref h0_now) (C := RX9) (T := TX9) (N := 38) hx hb hts iX9 hown hK hP 0 rfl rfl 22 (by decide) k50 (fun _ h9 => h9) rfl dX9_copy_9 ?_
        refine lv_iload_n hx hb dX9_copy_12 rfl (lv_at hl 2 rfl) ?_
        refine lv_iload_n hx hb dX9_copy_13 rfl (lv_at hl 3 rfl) ?_
        refine lv_iadd hx hb dX9_copy_14 ?_
        refine lv_aload_n hx hb dX9_copy_15 rfl (lv_at hl 0 rfl) ?_
        refine va_get (D := D) (ci := 9) (v := .ref h0_now) (C := RX9) (T := TX9) (N := 38) hx hb hts iX9 hown hK hP 0 rfl rfl 22 (by decide) k50 (fun _ h9 => h9) rfl dX9_copy_16 ?_
        refine lv_iload_n hx hb dX9_copy_19 rfl (lv_at hl 1 rfl) ?_
        refine lv_iload_n hx hb dX9_copy_20 rfl (lv_at hl 3 rfl) ?_
        refine lv_iadd hx hb dX9_copy_21 ?_
        obtain ⟨h22, hM⟩ := gi_some hM
        refine va_iald hx hb hK hP 1 2 rfl rfl h22 dX9_copy_22 ?_
        obtain ⟨h23, hM⟩ := gi_some hM
        refine va_iast hx hb hK hP hD hS 1 2 rfl rfl h23 dX9_copy_23 (fun H locs hP hD hS => ?_)
        have hP : va_P D vwCl [(h0, .inr (9, [oh0_0, oh0_1, oh0_2, oh0_3, oh0_4, oh0_5, oh0_6, oh0_7, oh0_8, oh0_9, oh0_10, oh0_11, oh0_12, oh0_13, oh0_14, oh0_15, oh0_16, oh0_17, oh0_18, oh0_19, oh0_20, oh0_21, .ref h0_now, oh0_23, oh0_24, oh0_25, oh0_26, oh0_27, oh0_28, oh0_29, oh0_30, oh0_31, oh0_32, oh0_33, oh0_34, oh0_35, oh0_36, oh0_37])), (h0_now, .inl (cy 2, 60, .inl (upd v_now_2 (p2 + x3_2).toNatClampNeg (v_now_2 (p1 + x3_2).toNatClampNeg))))] H := hP
        have hD : va_D A [(h0, .inr (9, [oh0_0, oh0_1, oh0_2, oh0_3, oh0_4, oh0_5, oh0_6, oh0_7, oh0_8, oh0_9, oh0_10, oh0_11, oh0_12, oh0_13, oh0_14, oh0_15, oh0_16, oh0_17, oh0_18, oh0_19, oh0_20, oh0_21, .ref h0_now, oh0_23, oh0_24, oh0_25, oh0_26, oh0_27, oh0_28, oh0_29, oh0_30, oh0_31, oh0_32, oh0_33, oh0_34, oh0_35, oh0_36, oh0_37])), (h0_now, .inl (cy 2, 60, .inl (upd v_now_2 (p2 + x3_2).toNatClampNeg (v_now_2 (p1 + x3_2).toNatClampNeg))))] := hD
        refine lv_iinc (v := x3_2 + (1 : Int32)) (lv' := [(3, .int (x3_2 + (1 : Int32))), (0, .ref h0), (1, .int p1), (2, .int p2)]) hx hb dX9_copy_24 hl (k := 3) rfl rfl (by decide) rfl (fun ls hl => ?_)
        refine lv_goto (tgt := 2) hx hb dX9_copy_27 (by decide) ?_
        exact ih (x3_2 + (1 : Int32)) (upd v_now_2 (p2 + x3_2).toNatClampNeg (v_now_2 (p1 + x3_2).toNatClampNeg)) v_now_e2 _ _ _ hM hP hD hS (lv_sub hl [1, 2, 3, 0] rfl) K
  obtain ⟨v_now_e2, hL2, hM⟩ := ob1_some hM
  refine L2 N (0 : Int32) v_now v_now_e2 _ _ _ hL2 hP hD hS (lv_sub hl [1, 2, 3, 0] rfl) ?_
  intro H locs ls hP hD hS hl
  obtain rfl := si1 hM
  exact hret _ _ _ _ dX9_copy_30 hP hD hS

-- ===== X9_keep keep (I)I =====
abbrev r9_keep : Room := { frames := 1, cells := 0, slots := 0, locals := 23 }
def f9_keep (N : Nat) (p1 : Int32) (v_seed : Int32) (v_now : Nat → Int32) (v_isKept : Nat → Int32) : Option (Int32 × (Nat → Int32) × (Nat → Int32)) :=
  ob1 (f9_in N p1 (0 : Int32) (1 : Int32)) fun r3 => if r3 = (0 : Int32) then (some ((-1000000001 : Int32), v_now, v_isKept)) else (gi (19 : Int32) 60 (ob1 (f9_copy N (0 : Int32) ((20 : Int32) * ((1 : Int32) + p1)) (upd v_now (19 : Int32).toNatClampNeg v_seed)) fun v_now_31 => gi p1 2 (some ((1 : Int32), v_now_31, (upd v_isKept p1.toNatClampNeg (vp_nar .boolean (1 : Int32)))))))
set_option maxHeartbeats 4000000 in
set_option maxRecDepth 100000 in
theorem c9_keep (l : Launch) (D : va_G) (cy : Nat → ClassId) (N : Nat) (h0 h0_now h0_isKept : Nat) (oh0_1 oh0_2 oh0_3 oh0_4 oh0_5 oh0_6 oh0_7 oh0_8 oh0_9 oh0_10 oh0_11 oh0_12 oh0_13 oh0_14 oh0_15 oh0_16 oh0_17 oh0_18 oh0_19 oh0_20 oh0_21 oh0_24 oh0_25 oh0_26 oh0_27 oh0_28 oh0_29 oh0_30 oh0_31 oh0_32 oh0_33 oh0_34 oh0_35 oh0_36 oh0_37 : Value) (p1 : Int32) (v_seed : Int32) (v_now : Nat → Int32) (v_isKept : Nat → Int32) (r : Int32) (nv_now : Nat → Int32) (nv_isKept : Nat → Int32) (hM : f9_keep N p1 v_seed v_now v_isKept = some (r, nv_now, nv_isKept)) (sz : Nat) : CTi l yX9_keep wsX9_keep r9_keep [.ref h0, .int p1] D cy sz [(h0, .inr (9, [.int v_seed, oh0_1, oh0_2, oh0_3, oh0_4, oh0_5, oh0_6, oh0_7, oh0_8, oh0_9, oh0_10, oh0_11, oh0_12, oh0_13, oh0_14, oh0_15, oh0_16, oh0_17, oh0_18, oh0_19, oh0_20, oh0_21, .ref h0_now, .ref h0_isKept, oh0_24, oh0_25, oh0_26, oh0_27, oh0_28, oh0_29, oh0_30, oh0_31, oh0_32, oh0_33, oh0_34, oh0_35, oh0_36, oh0_37])), (h0_now, .inl (cy 2, 60, .inl v_now)), (h0_isKept, .inl (cy 4, 2, .inl v_isKept))] [(h0, .inr (9, [.int v_seed, oh0_1, oh0_2, oh0_3, oh0_4, oh0_5, oh0_6, oh0_7, oh0_8, oh0_9, oh0_10, oh0_11, oh0_12, oh0_13, oh0_14, oh0_15, oh0_16, oh0_17, oh0_18, oh0_19, oh0_20, oh0_21, .ref h0_now, .ref h0_isKept, oh0_24, oh0_25, oh0_26, oh0_27, oh0_28, oh0_29, oh0_30, oh0_31, oh0_32, oh0_33, oh0_34, oh0_35, oh0_36, oh0_37])), (h0_now, .inl (cy 2, 60, .inl nv_now)), (h0_isKept, .inl (cy 4, 2, .inl nv_isKept))] r := by
  unfold f9_keep at hM
  refine ct_oi (cc := cX9_keep) (maxL := 2) (ty := .int) (by decide +kernel) rfl (Nat.le_of_ble_eq_true rfl) (lv0 := [(0, .ref h0), (1, .int p1)]) rfl ?_
  intro p e s m args below meth c A Q ls hx hb hts hown hml hK hP hD hS hA hret hl
  have hown : s.vm.findClass RX9 = some m.cls := hown
  have k50 := hts (.fieldLink RX9 50 "CaveYearsModel" "now" "[I") (List.mem_of_getElem? (i := 2) rfl)
  have iX9 := (fun w h => (List.mem_cons_of_mem _ (List.mem_append_right _ h)) : ∀ w ∈ wsX90, w ∈ wsX9_keep)
  have k214 := hts (.fieldLink RX9 214 "CaveYearsModel" "seed" "I") (List.mem_of_getElem? (i := 3) rfl)
  have k53 := hts (.fieldLink RX9 53 "CaveYearsModel" "isKept" "[Z") (List.mem_of_getElem? (i := 4) rfl)
  have k180 := hts (.constant RX9 180 (-1000000001)) (List.mem_of_getElem? (i := 1) rfl)
  refine lv_iload_n hx hb dX9_keep_0 rfl (lv_at hl 1 rfl) ?_
  refine lv_iconst (v := 0) hx hb dX9_keep_1 (by decide) ?_
  refine lv_iconst (v := 1) hx hb dX9_keep_2 (by decide) ?_
  obtain ⟨r3, hc3, hM⟩ := ob1_some hM
  refine cl_si (As := [.int p1, .int (0 : Int32), .int (1 : Int32)]) (rest := []) (wr := [(h0, .inr (9, [.int v_seed, oh0_1, oh0_2, oh0_3, oh0_4, oh0_5, oh0_6, oh0_7, oh0_8, oh0_9, oh0_10, oh0_11, oh0_12, oh0_13, oh0_14, oh0_15, oh0_16, oh0_17, oh0_18, oh0_19, oh0_20, oh0_21, .ref h0_now, .ref h0_isKept, oh0_24, oh0_25, oh0_26, oh0_27, oh0_28, oh0_29, oh0_30, oh0_31, oh0_32, oh0_33, oh0_34, oh0_35, oh0_36, oh0_37])), (h0_now, .inl (cy 2, 60, .inl v_now)), (h0_isKept, .inl (cy 4, 2, .inl v_isKept))]) (ws2 := [(h0, .inr (9, [.int v_seed, oh0_1, oh0_2, oh0_3, oh0_4, oh0_5, oh0_6, oh0_7, oh0_8, oh0_9, oh0_10, oh0_11, oh0_12, oh0_13, oh0_14, oh0_15, oh0_16, oh0_17, oh0_18, oh0_19, oh0_20, oh0_21, .ref h0_now, .ref h0_isKept, oh0_24, oh0_25, oh0_26, oh0_27, oh0_28, oh0_29, oh0_30, oh0_31, oh0_32, oh0_33, oh0_34, oh0_35, oh0_36, oh0_37])), (h0_now, .inl (cy 2, 60, .inl v_now)), (h0_isKept, .inl (cy 4, 2, .inl v_isKept))]) (isC := []) (isR := [0, 1, 2]) (pm := [0, 1, 2]) hx hb hml hown hts (c9_in l D cy N p1 (0 : Int32) (1 : Int32) r3 hc3) (va_cwS 3 hts gX9_keep_X9_in rfl rfl rfl (by decide +kernel) ⟨Nat.le_of_ble_eq_true rfl, Nat.le_of_ble_eq_true rfl⟩) hK hP hD hS hA rfl rfl rfl (by decide) rfl rfl rfl hl.1 (Nat.le_of_ble_eq_true rfl) dX9_keep_3 ⟨Nat.zero_le _, Nat.zero_le _⟩ rfl rfl (fun H locs hP hD hS => ?_)
  refine lv_if_ne (tgt := 12) hx hb dX9_keep_6 (by decide) (fun c6 => ?_) (fun c6 => ?_)
  · have hM := g_neg c6 hM
    refine lv_aload_n hx hb dX9_keep_12 rfl (lv_at hl 0 rfl) ?_
    refine va_get (D := D) (ci := 9) (v := .ref h0_now) (C := RX9) (T := TX9) (N := 38) hx hb hts iX9 hown hK hP 0 rfl rfl 22 (by decide) k50 (fun _ h9 => h9) rfl dX9_keep_13 ?_
    refine lv_bipush (v := 19) hx hb dX9_keep_16 (by decide) ?_
    refine lv_aload_n hx hb dX9_keep_18 rfl (lv_at hl 0 rfl) ?_
    refine va_get (D := D) (ci := 9) (v := .int v_seed) (C := RX9) (T := TX9) (N := 38) hx hb hts iX9 hown hK hP 0 rfl rfl 0 (by decide) k214 (fun _ h9 => h9) rfl dX9_keep_19 ?_
    obtain ⟨h22, hM⟩ := gi_some hM
    refine va_iast hx hb hK hP hD hS 1 2 rfl rfl h22 dX9_keep_22 (fun H locs hP hD hS => ?_)
    have hP : va_P D vwCl [(h0, .inr (9, [.int v_seed, oh0_1, oh0_2, oh0_3, oh0_4, oh0_5, oh0_6, oh0_7, oh0_8, oh0_9, oh0_10, oh0_11, oh0_12, oh0_13, oh0_14, oh0_15, oh0_16, oh0_17, oh0_18, oh0_19, oh0_20, oh0_21, .ref h0_now, .ref h0_isKept, oh0_24, oh0_25, oh0_26, oh0_27, oh0_28, oh0_29, oh0_30, oh0_31, oh0_32, oh0_33, oh0_34, oh0_35, oh0_36, oh0_37])), (h0_now, .inl (cy 2, 60, .inl (upd v_now (19 : Int32).toNatClampNeg v_seed))), (h0_isKept, .inl (cy 4, 2, .inl v_isKept))] H := hP
    have hD : va_D A [(h0, .inr (9, [.int v_seed, oh0_1, oh0_2, oh0_3, oh0_4, oh0_5, oh0_6, oh0_7, oh0_8, oh0_9, oh0_10, oh0_11, oh0_12, oh0_13, oh0_14, oh0_15, oh0_16, oh0_17, oh0_18, oh0_19, oh0_20, oh0_21, .ref h0_now, .ref h0_isKept, oh0_24, oh0_25, oh0_26, oh0_27, oh0_28, oh0_29, oh0_30, oh0_31, oh0_32, oh0_33, oh0_34, oh0_35, oh0_36, oh0_37])), (h0_now, .inl (cy 2, 60, .inl (upd v_now (19 : Int32).toNatClampNeg v_seed))), (h0_isKept, .inl (cy 4, 2, .inl v_isKept))] := hD
    refine lv_aload_n hx hb dX9_keep_23 rfl (lv_at hl 0 rfl) ?_
    refine lv_iconst (v := 0) hx hb dX9_keep_24 (by decide) ?_
    refine lv_bipush (v := 20) hx hb dX9_keep_25 (by decide) ?_
    refine lv_iconst (v := 1) hx hb dX9_keep_27 (by decide) ?_
    refine lv_iload_n hx hb dX9_keep_28 rfl (lv_at hl 1 rfl) ?_
    refine lv_iadd hx hb dX9_keep_29 ?_
    refine lv_imul hx hb dX9_keep_30 ?_
    obtain ⟨v_now_31, hc31, hM⟩ := ob1_some hM
    refine cl_vv (As := [.int (0 : Int32), .int ((20 : Int32) * ((1 : Int32) + p1))]) (rest := []) (ci := 9) (q0 := 0) (wr := [(h0_isKept, .inl (cy 4, 2, .inl v_isKept))]) (ws2 := [(h0, .inr (9, [.int v_seed, oh0_1, oh0_2, oh0_3, oh0_4, oh0_5, oh0_6, oh0_7, oh0_8, oh0_9, oh0_10, oh0_11, oh0_12, oh0_13, oh0_14, oh0_15, oh0_16, oh0_17, oh0_18, oh0_19, oh0_20, oh0_21, .ref h0_now, .ref h0_isKept, oh0_24, oh0_25, oh0_26, oh0_27, oh0_28, oh0_29, oh0_30, oh0_31, oh0_32, oh0_33, oh0_34, oh0_35, oh0_36, oh0_37])), (h0_now, .inl (cy 2, 60, .inl v_now_31)), (h0_isKept, .inl (cy 4, 2, .inl v_isKept))]) (isC := [0, 1]) (isR := [2]) (pm := [1, 2, 0]) hx hb hml hown hts (c9_copy l D cy N h0 h0_now (.int v_seed) oh0_1 oh0_2 oh0_3 oh0_4 oh0_5 oh0_6 oh0_7 oh0_8 oh0_9 oh0_10 oh0_11 oh0_12 oh0_13 oh0_14 oh0_15 oh0_16 oh0_17 oh0_18 oh0_19 oh0_20 oh0_21 (.ref h0_isKept) oh0_24 oh0_25 oh0_26 oh0_27 oh0_28 oh0_29 oh0_30 oh0_31 oh0_32 oh0_33 oh0_34 oh0_35 oh0_36 oh0_37 (0 : Int32) ((20 : Int32) * ((1 : Int32) + p1)) (upd v_now (19 : Int32).toNatClampNeg v_seed) v_now_31 hc31) (cwV 2 hts gX9_keep_X9_copy rfl rfl rfl (by decide +kernel) ⟨Nat.le_of_ble_eq_true rfl, Nat.le_of_ble_eq_true rfl⟩) hK hP hD hS hA rfl rfl rfl rfl rfl (by decide) rfl rfl rfl hl.1 (Nat.le_of_ble_eq_true rfl) dX9_keep_31 ⟨Nat.zero_le _, Nat.zero_le _⟩ rfl rfl (fun H locs hP hD hS => ?_)
    refine lv_aload_n hx hb dX9_keep_34 rfl (lv_at hl 0 rfl) ?_
    refine va_get (D := D) (ci := 9) (v := .ref h0_isKept) (C := RX9) (T := TX9) (N := 38) hx hb hts iX9 hown hK hP 0 rfl rfl 23 (by decide) k53 (fun _ h9 => h9) rfl dX9_keep_35 ?_
    refine lv_iload_n hx hb dX9_keep_38 rfl (lv_at hl 1 rfl) ?_
    refine lv_iconst (v := 1) hx hb dX9_keep_39 (by decide) ?_
    obtain ⟨h40, hM⟩ := gi_some hM
    refine va_zast hx hb hK hP hD hS 2 4 rfl rfl h40 dX9_keep_40 (fun H locs hP hD hS => ?_)
    have hP : va_P D vwCl [(h0, .inr (9, [.int v_seed, oh0_1, oh0_2, oh0_3, oh0_4, oh0_5, oh0_6, oh0_7, oh0_8, oh0_9, oh0_10, oh0_11, oh0_12, oh0_13, oh0_14, oh0_15, oh0_16, oh0_17, oh0_18, oh0_19, oh0_20, oh0_21, .ref h0_now, .ref h0_isKept, oh0_24, oh0_25, oh0_26, oh0_27, oh0_28, oh0_29, oh0_30, oh0_31, oh0_32, oh0_33, oh0_34, oh0_35, oh0_36, oh0_37])), (h0_now, .inl (cy 2, 60, .inl v_now_31)), (h0_isKept, .inl (cy 4, 2, .inl (upd v_isKept p1.toNatClampNeg (vp_nar .boolean (1 : Int32)))))] H := hP
    have hD : va_D A [(h0, .inr (9, [.int v_seed, oh0_1, oh0_2, oh0_3, oh0_4, oh0_5, oh0_6, oh0_7, oh0_8, oh0_9, oh0_10, oh0_11, oh0_12, oh0_13, oh0_14, oh0_15, oh0_16, oh0_17, oh0_18, oh0_19, oh0_20, oh0_21, .ref h0_now, .ref h0_isKept, oh0_24, oh0_25, oh0_26, oh0_27, oh0_28, oh0_29, oh0_30, oh0_31, oh0_32, oh0_33, oh0_34, oh0_35, oh0_36, oh0_37])), (h0_now, .inl (cy 2, 60, .inl v_now_31)), (h0_isKept, .inl (cy 4, 2, .inl (upd v_isKept p1.toNatClampNeg (vp_nar .boolean (1 : Int32)))))] := hD
    refine lv_iconst (v := 1) hx hb dX9_keep_41 (by decide) ?_
    obtain ⟨rfl, rfl, rfl⟩ := si3 hM
    exact hret _ _ _ _ _ dX9_keep_42 rfl rfl hP hD hS
  · have hM := g_pos c6 hM
    refine lv_ldc (v := -1000000001) hx hb hown k180 dX9_keep_9 ?_
    obtain ⟨rfl, rfl, rfl⟩ := si3 hM
    exact hret _ _ _ _ _ dX9_keep_11 rfl rfl hP hD hS

-- ===== X9_goBack goBack (I)I =====
abbrev r9_goBack : Room := { frames := 1, cells := 0, slots := 0, locals := 23 }
def f9_goBack (N : Nat) (p1 : Int32) (v_seed : Int32) (v_now : Nat → Int32) (v_isKept : Nat → Int32) : Option (Int32 × Int32 × (Nat → Int32)) :=
  ob1 (f9_in N p1 (0 : Int32) (1 : Int32)) fun r3 => if r3 = (0 : Int32) then (some ((-1000000001 : Int32), v_seed, v_now)) else (gi p1 2 (if (v_isKept p1.toNatClampNeg) = (0 : Int32) then (some ((-1000000003 : Int32), v_seed, v_now)) else (ob1 (f9_copy N ((20 : Int32) * ((1 : Int32) + p1)) (0 : Int32) v_now) fun v_now_32 => gi (19 : Int32) 60 (some ((1 : Int32), (v_now_32 (19 : Int32).toNatClampNeg), v_now_32)))))
set_option maxHeartbeats 4000000 in
set_option maxRecDepth 100000 in
theorem c9_goBack (l : Launch) (D : va_G) (cy : Nat → ClassId) (N : Nat) (h0 h0_now h0_isKept : Nat) (oh0_1 oh0_2 oh0_3 oh0_4 oh0_5 oh0_6 oh0_7 oh0_8 oh0_9 oh0_10 oh0_11 oh0_12 oh0_13 oh0_14 oh0_15 oh0_16 oh0_17 oh0_18 oh0_19 oh0_20 oh0_21 oh0_24 oh0_25 oh0_26 oh0_27 oh0_28 oh0_29 oh0_30 oh0_31 oh0_32 oh0_33 oh0_34 oh0_35 oh0_36 oh0_37 : Value) (p1 : Int32) (v_seed : Int32) (v_now : Nat → Int32) (v_isKept : Nat → Int32) (r : Int32) (nv_seed : Int32) (nv_now : Nat → Int32) (hM : f9_goBack N p1 v_seed v_now v_isKept = some (r, nv_seed, nv_now)) (sz : Nat) : CTi l yX9_goBack wsX9_goBack r9_goBack [.ref h0, .int p1] D cy sz [(h0, .inr (9, [.int v_seed, oh0_1, oh0_2, oh0_3, oh0_4, oh0_5, oh0_6, oh0_7, oh0_8, oh0_9, oh0_10, oh0_11, oh0_12, oh0_13, oh0_14, oh0_15, oh0_16, oh0_17, oh0_18, oh0_19, oh0_20, oh0_21, .ref h0_now, .ref h0_isKept, oh0_24, oh0_25, oh0_26, oh0_27, oh0_28, oh0_29, oh0_30, oh0_31, oh0_32, oh0_33, oh0_34, oh0_35, oh0_36, oh0_37])), (h0_now, .inl (cy 2, 60, .inl v_now)), (h0_isKept, .inl (cy 4, 2, .inl v_isKept))] [(h0, .inr (9, [.int nv_seed, oh0_1, oh0_2, oh0_3, oh0_4, oh0_5, oh0_6, oh0_7, oh0_8, oh0_9, oh0_10, oh0_11, oh0_12, oh0_13, oh0_14, oh0_15, oh0_16, oh0_17, oh0_18, oh0_19, oh0_20, oh0_21, .ref h0_now, .ref h0_isKept, oh0_24, oh0_25, oh0_26, oh0_27, oh0_28, oh0_29, oh0_30, oh0_31, oh0_32, oh0_33, oh0_34, oh0_35, oh0_36, oh0_37])), (h0_now, .inl (cy 2, 60, .inl nv_now)), (h0_isKept, .inl (cy 4, 2, .inl v_isKept))] r := by
  unfold f9_goBack at hM
  refine ct_oi (cc := cX9_goBack) (maxL := 2) (ty := .int) (by decide +kernel) rfl (Nat.le_of_ble_eq_true rfl) (lv0 := [(0, .ref h0), (1, .int p1)]) rfl ?_
  intro p e s m args below meth c A Q ls hx hb hts hown hml hK hP hD hS hA hret hl
  have hown : s.vm.findClass RX9 = some m.cls := hown
  have k53 := hts (.fieldLink RX9 53 "CaveYearsModel" "isKept" "[Z") (List.mem_of_getElem? (i := 2) rfl)
  have iX9 := (fun w h => (List.mem_cons_of_mem _ (List.mem_append_right _ h)) : ∀ w ∈ wsX90, w ∈ wsX9_goBack)
  have k50 := hts (.fieldLink RX9 50 "CaveYearsModel" "now" "[I") (List.mem_of_getElem? (i := 4) rfl)
  have k214 := hts (.fieldLink RX9 214 "CaveYearsModel" "seed" "I") (List.mem_of_getElem? (i := 5) rfl)
  have k197 := hts (.constant RX9 197 (-1000000003)) (List.mem_of_getElem? (i := 3) rfl)
  have k180 := hts (.constant RX9 180 (-1000000001)) (List.mem_of_getElem? (i := 1) rfl)
  refine lv_iload_n hx hb dX9_goBack_0 rfl (lv_at hl 1 rfl) ?_
  refine lv_iconst (v := 0) hx hb dX9_goBack_1 (by decide) ?_
  refine lv_iconst (v := 1) hx hb dX9_goBack_2 (by decide) ?_
  obtain ⟨r3, hc3, hM⟩ := ob1_some hM
  refine cl_si (As := [.int p1, .int (0 : Int32), .int (1 : Int32)]) (rest := []) (wr := [(h0, .inr (9, [.int v_seed, oh0_1, oh0_2, oh0_3, oh0_4, oh0_5, oh0_6, oh0_7, oh0_8, oh0_9, oh0_10, oh0_11, oh0_12, oh0_13, oh0_14, oh0_15, oh0_16, oh0_17, oh0_18, oh0_19, oh0_20, oh0_21, .ref h0_now, .ref h0_isKept, oh0_24, oh0_25, oh0_26, oh0_27, oh0_28, oh0_29, oh0_30, oh0_31, oh0_32, oh0_33, oh0_34, oh0_35, oh0_36, oh0_37])), (h0_now, .inl (cy 2, 60, .inl v_now)), (h0_isKept, .inl (cy 4, 2, .inl v_isKept))]) (ws2 := [(h0, .inr (9, [.int v_seed, oh0_1, oh0_2, oh0_3, oh0_4, oh0_5, oh0_6, oh0_7, oh0_8, oh0_9, oh0_10, oh0_11, oh0_12, oh0_13, oh0_14, oh0_15, oh0_16, oh0_17, oh0_18, oh0_19, oh0_20, oh0_21, .ref h0_now, .ref h0_isKept, oh0_24, oh0_25, oh0_26, oh0_27, oh0_28, oh0_29, oh0_30, oh0_31, oh0_32, oh0_33, oh0_34, oh0_35, oh0_36, oh0_37])), (h0_now, .inl (cy 2, 60, .inl v_now)), (h0_isKept, .inl (cy 4, 2, .inl v_isKept))]) (isC := []) (isR := [0, 1, 2]) (pm := [0, 1, 2]) hx hb hml hown hts (c9_in l D cy N p1 (0 : Int32) (1 : Int32) r3 hc3) (va_cwS 3 hts gX9_goBack_X9_in rfl rfl rfl (by decide +kernel) ⟨Nat.le_of_ble_eq_true rfl, Nat.le_of_ble_eq_true rfl⟩) hK hP hD hS hA rfl rfl rfl (by decide) rfl rfl rfl hl.1 (Nat.le_of_ble_eq_true rfl) dX9_goBack_3 ⟨Nat.zero_le _, Nat.zero_le _⟩ rfl rfl (fun H locs hP hD hS => ?_)
  refine lv_if_ne (tgt := 12) hx hb dX9_goBack_6 (by decide) (fun c6 => ?_) (fun c6 => ?_)
  · have hM := g_neg c6 hM
    refine lv_aload_n hx hb dX9_goBack_12 rfl (lv_at hl 0 rfl) ?_
    refine va_get (D := D) (ci := 9) (v := .ref h0_isKept) (C := RX9) (T := TX9) (N := 38) hx hb hts iX9 hown hK hP 0 rfl rfl 23 (by decide) k53 (fun _ h9 => h9) rfl dX9_goBack_13 ?_
    refine lv_iload_n hx hb dX9_goBack_16 rfl (lv_at hl 1 rfl) ?_
    obtain ⟨h17, hM⟩ := gi_some hM
    refine va_zald hx hb hK hP 2 4 rfl rfl h17 dX9_goBack_17 ?_
    refine lv_if_ne (tgt := 24) hx hb dX9_goBack_18 (by decide) (fun c18 => ?_) (fun c18 => ?_)
    · have hM := g_neg c18 hM
      refine lv_aload_n hx hb dX9_goBack_24 rfl (lv_at hl 0 rfl) ?_
      refine lv_bipush (v := 20) hx hb dX9_goBack_25 (by decide) ?_
      refine lv_iconst (v := 1) hx hb dX9_goBack_27 (by decide) ?_
      refine lv_iload_n hx hb dX9_goBack_28 rfl (lv_at hl 1 rfl) ?_
      refine lv_iadd hx hb dX9_goBack_29 ?_
      refine lv_imul hx hb dX9_goBack_30 ?_
      refine lv_iconst (v := 0) hx hb dX9_goBack_31 (by decide) ?_
      obtain ⟨v_now_32, hc32, hM⟩ := ob1_some hM
      refine cl_vv (As := [.int ((20 : Int32) * ((1 : Int32) + p1)), .int (0 : Int32)]) (rest := []) (ci := 9) (q0 := 0) (wr := [(h0_isKept, .inl (cy 4, 2, .inl v_isKept))]) (ws2 := [(h0, .inr (9, [.int v_seed, oh0_1, oh0_2, oh0_3, oh0_4, oh0_5, oh0_6, oh0_7, oh0_8, oh0_9, oh0_10, oh0_11, oh0_12, oh0_13, oh0_14, oh0_15, oh0_16, oh0_17, oh0_18, oh0_19, oh0_20, oh0_21, .ref h0_now, .ref h0_isKept, oh0_24, oh0_25, oh0_26, oh0_27, oh0_28, oh0_29, oh0_30, oh0_31, oh0_32, oh0_33, oh0_34, oh0_35, oh0_36, oh0_37])), (h0_now, .inl (cy 2, 60, .inl v_now_32)), (h0_isKept, .inl (cy 4, 2, .inl v_isKept))]) (isC := [0, 1]) (isR := [2]) (pm := [1, 2, 0]) hx hb hml hown hts (c9_copy l D cy N h0 h0_now (.int v_seed) oh0_1 oh0_2 oh0_3 oh0_4 oh0_5 oh0_6 oh0_7 oh0_8 oh0_9 oh0_10 oh0_11 oh0_12 oh0_13 oh0_14 oh0_15 oh0_16 oh0_17 oh0_18 oh0_19 oh0_20 oh0_21 (.ref h0_isKept) oh0_24 oh0_25 oh0_26 oh0_27 oh0_28 oh0_29 oh0_30 oh0_31 oh0_32 oh0_33 oh0_34 oh0_35 oh0_36 oh0_37 ((20 : Int32) * ((1 : Int32) + p1)) (0 : Int32) v_now v_now_32 hc32) (cwV 2 hts gX9_goBack_X9_copy rfl rfl rfl (by decide +kernel) ⟨Nat.le_of_ble_eq_true rfl, Nat.le_of_ble_eq_true rfl⟩) hK hP hD hS hA rfl rfl rfl rfl rfl (by decide) rfl rfl rfl hl.1 (Nat.le_of_ble_eq_true rfl) dX9_goBack_32 ⟨Nat.zero_le _, Nat.zero_le _⟩ rfl rfl (fun H locs hP hD hS => ?_)
      refine lv_aload_n hx hb dX9_goBack_35 rfl (lv_at hl 0 rfl) ?_
      refine lv_aload_n hx hb dX9_goBack_36 rfl (lv_at hl 0 rfl) ?_
      refine va_get (D := D) (ci := 9) (v := .ref h0_now) (C := RX9) (T := TX9) (N := 38) hx hb hts iX9 hown hK hP 0 rfl rfl 22 (by decide) k50 (fun _ h9 => h9) rfl dX9_goBack_37 ?_
      refine lv_bipush (v := 19) hx hb dX9_goBack_40 (by decide) ?_
      obtain ⟨h42, hM⟩ := gi_some hM
      refine va_iald hx hb hK hP 1 2 rfl rfl h42 dX9_goBack_42 ?_
      refine va_put (D := D) (ci := 9) (v := .int (v_now_32 (19 : Int32).toNatClampNeg)) (ty := .int) (C := RX9) (T := TX9) (N := 38) hx hb hts iX9 tyX9 tyX9_ok nmX9 hown hK hP hD hS 0 rfl rfl 0 (by decide) k214 (fun _ h9 => h9) rfl (by decide +kernel) rfl rfl (Nat.le_of_ble_eq_true rfl) dX9_goBack_43 (fun H locs hP hD hS => ?_)
      have hP : va_P D vwCl [(h0, .inr (9, [.int (v_now_32 (19 : Int32).toNatClampNeg), oh0_1, oh0_2, oh0_3, oh0_4, oh0_5, oh0_6, oh0_7, oh0_8, oh0_9, oh0_10, oh0_11, oh0_12, oh0_13, oh0_14, oh0_15, oh0_16, oh0_17, oh0_18, oh0_19, oh0_20, oh0_21, .ref h0_now, .ref h0_isKept, oh0_24, oh0_25, oh0_26, oh0_27, oh0_28, oh0_29, oh0_30, oh0_31, oh0_32, oh0_33, oh0_34, oh0_35, oh0_36, oh0_37])), (h0_now, .inl (cy 2, 60, .inl v_now_32)), (h0_isKept, .inl (cy 4, 2, .inl v_isKept))] H := hP
      have hD : va_D A [(h0, .inr (9, [.int (v_now_32 (19 : Int32).toNatClampNeg), oh0_1, oh0_2, oh0_3, oh0_4, oh0_5, oh0_6, oh0_7, oh0_8, oh0_9, oh0_10, oh0_11, oh0_12, oh0_13, oh0_14, oh0_15, oh0_16, oh0_17, oh0_18, oh0_19, oh0_20, oh0_21, .ref h0_now, .ref h0_isKept, oh0_24, oh0_25, oh0_26, oh0_27, oh0_28, oh0_29, oh0_30, oh0_31, oh0_32, oh0_33, oh0_34, oh0_35, oh0_36, oh0_37])), (h0_now, .inl (cy 2, 60, .inl v_now_32)), (h0_isKept, .inl (cy 4, 2, .inl v_isKept))] := hD
      refine lv_iconst (v := 1) hx hb dX9_goBack_46 (by decide) ?_
      obtain ⟨rfl, rfl, rfl⟩ := si3 hM
      exact hret _ _ _ _ _ dX9_goBack_47 rfl rfl hP hD hS
    · have hM := g_pos c18 hM
      refine lv_ldc (v := -1000000003) hx hb hown k197 dX9_goBack_21 ?_
      obtain ⟨rfl, rfl, rfl⟩ := si3 hM
      exact hret _ _ _ _ _ dX9_goBack_23 rfl rfl hP hD hS
  · have hM := g_pos c6 hM
    refine lv_ldc (v := -1000000001) hx hb hown k180 dX9_goBack_9 ?_
    obtain ⟨rfl, rfl, rfl⟩ := si3 hM
    exact hret _ _ _ _ _ dX9_goBack_11 rfl rfl hP hD hS

-- ===== X9_feed feed (IJ)I =====
abbrev r9_feed : Room := { frames := 1, cells := 0, slots := 0, locals := 22 }
def f9_feed_L33 (N : Nat) (p2 : Int64) : Nat → Int32 → Int32 → (Nat → Int32) → Option (Int32 × (Nat → Int32))
  | 0, _, _, _ => none
  | n + 1, x4_33, v_typed_33, v_text_33 => if x4_33 < (0 : Int32) then (some (v_typed_33, v_text_33)) else (gi v_typed_33 500 ((f9_feed_L33 N p2 n) (x4_33 + (-1 : Int32)) (v_typed_33 + (1 : Int32)) (upd v_text_33 v_typed_33.toNatClampNeg (vp_nar .byte ((((p2 >>> (((8 : Int32) * x4_33).toInt64 &&& 63)) &&& (255 : Int64)).toInt32).toInt8.toInt32)))))
def f9_feed (N : Nat) (p1 : Int32) (p2 : Int64) (v_typed : Int32) (v_text : Nat → Int32) : Option (Int32 × Int32 × (Nat → Int32)) :=
  ob1 (f9_in N p1 (1 : Int32) (8 : Int32)) fun r4 => if r4 = (0 : Int32) then (some ((-1000000002 : Int32), v_typed, v_text)) else (if (v_typed + p1) ≤ (500 : Int32) then (ob2 (f9_feed_L33 N p2 N (p1 - (1 : Int32)) v_typed v_text) fun v_typed_e33 v_text_e33 => some (v_typed_e33, v_typed_e33, v_text_e33)) else (some ((-1000000004 : Int32), v_typed, v_text)))
set_option maxHeartbeats 4000000 in
set_option maxRecDepth 100000 in
theorem c9_feed (l : Launch) (D : va_G) (cy : Nat → ClassId) (N : Nat) (h0 h0_text : Nat) (oh0_0 oh0_3 oh0_4 oh0_5 oh0_6 oh0_7 oh0_8 oh0_9 oh0_10 oh0_11 oh0_12 oh0_13 oh0_14 oh0_15 oh0_16 oh0_17 oh0_18 oh0_19 oh0_20 oh0_21 oh0_22 oh0_23 oh0_24 oh0_25 oh0_26 oh0_27 oh0_28 oh0_29 oh0_30 oh0_31 oh0_32 oh0_33 oh0_34 oh0_35 oh0_36 oh0_37 : Value) (p1 : Int32) (p2 : Int64) (v_typed : Int32) (v_text : Nat → Int32) (r : Int32) (nv_typed : Int32) (nv_text : Nat → Int32) (hM : f9_feed N p1 p2 v_typed v_text = some (r, nv_typed, nv_text)) (sz : Nat) : CTi l yX9_feed wsX9_feed r9_feed [.ref h0, .int p1, .long p2] D cy sz [(h0, .inr (9, [oh0_0, .ref h0_text, .int v_typed, oh0_3, oh0_4, oh0_5, oh0_6, oh0_7, oh0_8, oh0_9, oh0_10, oh0_11, oh0_12, oh0_13, oh0_14, oh0_15, oh0_16, oh0_17, oh0_18, oh0_19, oh0_20, oh0_21, oh0_22, oh0_23, oh0_24, oh0_25, oh0_26, oh0_27, oh0_28, oh0_29, oh0_30, oh0_31, oh0_32, oh0_33, oh0_34, oh0_35, oh0_36, oh0_37])), (h0_text, .inl (cy 0, 500, .inl v_text))] [(h0, .inr (9, [oh0_0, .ref h0_text, .int nv_typed, oh0_3, oh0_4, oh0_5, oh0_6, oh0_7, oh0_8, oh0_9, oh0_10, oh0_11, oh0_12, oh0_13, oh0_14, oh0_15, oh0_16, oh0_17, oh0_18, oh0_19, oh0_20, oh0_21, oh0_22, oh0_23, oh0_24, oh0_25, oh0_26, oh0_27, oh0_28, oh0_29, oh0_30, oh0_31, oh0_32, oh0_33, oh0_34, oh0_35, oh0_36, oh0_37])), (h0_text, .inl (cy 0, 500, .inl nv_text))] r := by
  unfold f9_feed at hM
  refine ct_oi (cc := cX9_feed) (maxL := 5) (ty := .int) (by decide +kernel) rfl (Nat.le_of_ble_eq_true rfl) (lv0 := [(0, .ref h0), (1, .int p1), (2, .long p2)]) rfl ?_
  intro p e s m args below meth c A Q ls hx hb hts hown hml hK hP hD hS hA hret hl
  have hown : s.vm.findClass RX9 = some m.cls := hown
  have k100 := hts (.fieldLink RX9 100 "CaveYearsModel" "typed" "I") (List.mem_of_getElem? (i := 2) rfl)
  have iX9 := (fun w h => (List.mem_cons_of_mem _ (List.mem_append_right _ h)) : ∀ w ∈ wsX90, w ∈ wsX9_feed)
  have k7 := hts (.fieldLink RX9 7 "CaveYearsModel" "text" "[B") (List.mem_of_getElem? (i := 4) rfl)
  have k104 := hts (.constantLong RX9 104 (255)) (List.mem_of_getElem? (i := 5) rfl)
  have k103 := hts (.constant RX9 103 (-1000000004)) (List.mem_of_getElem? (i := 3) rfl)
  have k99 := hts (.constant RX9 99 (-1000000002)) (List.mem_of_getElem? (i := 1) rfl)
  refine lv_iload_n hx hb dX9_feed_0 rfl (lv_at hl 1 rfl) ?_
  refine lv_iconst (v := 1) hx hb dX9_feed_1 (by decide) ?_
  refine lv_bipush (v := 8) hx hb dX9_feed_2 (by decide) ?_
  obtain ⟨r4, hc4, hM⟩ := ob1_some hM
  refine cl_si (As := [.int p1, .int (1 : Int32), .int (8 : Int32)]) (rest := []) (wr := [(h0, .inr (9, [oh0_0, .ref h0_text, .int v_typed, oh0_3, oh0_4, oh0_5, oh0_6, oh0_7, oh0_8, oh0_9, oh0_10, oh0_11, oh0_12, oh0_13, oh0_14, oh0_15, oh0_16, oh0_17, oh0_18, oh0_19, oh0_20, oh0_21, oh0_22, oh0_23, oh0_24, oh0_25, oh0_26, oh0_27, oh0_28, oh0_29, oh0_30, oh0_31, oh0_32, oh0_33, oh0_34, oh0_35, oh0_36, oh0_37])), (h0_text, .inl (cy 0, 500, .inl v_text))]) (ws2 := [(h0, .inr (9, [oh0_0, .ref h0_text, .int v_typed, oh0_3, oh0_4, oh0_5, oh0_6, oh0_7, oh0_8, oh0_9, oh0_10, oh0_11, oh0_12, oh0_13, oh0_14, oh0_15, oh0_16, oh0_17, oh0_18, oh0_19, oh0_20, oh0_21, oh0_22, oh0_23, oh0_24, oh0_25, oh0_26, oh0_27, oh0_28, oh0_29, oh0_30, oh0_31, oh0_32, oh0_33, oh0_34, oh0_35, oh0_36, oh0_37])), (h0_text, .inl (cy 0, 500, .inl v_text))]) (isC := []) (isR := [0, 1]) (pm := [0, 1]) hx hb hml hown hts (c9_in l D cy N p1 (1 : Int32) (8 : Int32) r4 hc4) (va_cwS 3 hts gX9_feed_X9_in rfl rfl rfl (by decide +kernel) ⟨Nat.le_of_ble_eq_true rfl, Nat.le_of_ble_eq_true rfl⟩) hK hP hD hS hA rfl rfl rfl (by decide) rfl rfl rfl hl.1 (Nat.le_of_ble_eq_true rfl) dX9_feed_4 ⟨Nat.zero_le _, Nat.zero_le _⟩ rfl rfl (fun H locs hP hD hS => ?_)
  refine lv_if_ne (tgt := 13) hx hb dX9_feed_7 (by decide) (fun c7 => ?_) (fun c7 => ?_)
  · have hM := g_neg c7 hM
    refine lv_aload_n hx hb dX9_feed_13 rfl (lv_at hl 0 rfl) ?_
    refine va_get (D := D) (ci := 9) (v := .int v_typed) (C := RX9) (T := TX9) (N := 38) hx hb hts iX9 hown hK hP 0 rfl rfl 2 (by decide) k100 (fun _ h9 => h9) rfl dX9_feed_14 ?_
    refine lv_iload_n hx hb dX9_feed_17 rfl (lv_at hl 1 rfl) ?_
    refine lv_iadd hx hb dX9_feed_18 ?_
    refine lv_sipush (v := 500) hx hb dX9_feed_19 (by decide) ?_
    refine lv_icmp_le (tgt := 28) hx hb dX9_feed_22 (by decide) (fun c22 => ?_) (fun c22 => ?_)
    · have hM := g_pos c22 hM
      refine lv_iload_n hx hb dX9_feed_28 rfl (lv_at hl 1 rfl) ?_
      refine lv_iconst (v := 1) hx hb dX9_feed_29 (by decide) ?_
      refine lv_isub hx hb dX9_feed_30 ?_
      refine lv_istore (lv' := [(4, .int (p1 - (1 : Int32))), (0, .ref h0), (1, .int p1), (2, .long p2)]) hx hb dX9_feed_31 hl (by decide) rfl (fun ls hl => ?_)
      have L33 : ∀ (n : Nat) (x4_33 : Int32) (v_typed_33 : Int32) (v_text_33 : Nat → Int32) (v_typed_e33 : Int32) (v_text_e33 : Nat → Int32) (H : Heap) (locs : List Loc) (ls : Array Slot), f9_feed_L33 N p2 n x4_33 v_typed_33 v_text_33 = some (v_typed_e33, v_text_e33) → va_P D vwCl [(h0, .inr (9, [oh0_0, .ref h0_text, .int v_typed_33, oh0_3, oh0_4, oh0_5, oh0_6, oh0_7, oh0_8, oh0_9, oh0_10, oh0_11, oh0_12, oh0_13, oh0_14, oh0_15, oh0_16, oh0_17, oh0_18, oh0_19, oh0_20, oh0_21, oh0_22, oh0_23, oh0_24, oh0_25, oh0_26, oh0_27, oh0_28, oh0_29, oh0_30, oh0_31, oh0_32, oh0_33, oh0_34, oh0_35, oh0_36, oh0_37])), (h0_text, .inl (cy 0, 500, .inl v_text_33))] H → va_D A [(h0, .inr (9, [oh0_0, .ref h0_text, .int v_typed_33, oh0_3, oh0_4, oh0_5, oh0_6, oh0_7, oh0_8, oh0_9, oh0_10, oh0_11, oh0_12, oh0_13, oh0_14, oh0_15, oh0_16, oh0_17, oh0_18, oh0_19, oh0_20, oh0_21, oh0_22, oh0_23, oh0_24, oh0_25, oh0_26, oh0_27, oh0_28, oh0_29, oh0_30, oh0_31, oh0_32, oh0_33, oh0_34, oh0_35, oh0_36, oh0_37])), (h0_text, .inl (cy 0, 500, .inl v_text_33))] → va_S A s.heap H locs → lv_has ls 5 [(0, .ref h0), (2, .long p2), (4, .int x4_33)] → (∀ (H : Heap) (locs : List Loc) (ls : Array Slot), va_P D vwCl [(h0, .inr (9, [oh0_0, .ref h0_text, .int v_typed_e33, oh0_3, oh0_4, oh0_5, oh0_6, oh0_7, oh0_8, oh0_9, oh0_10, oh0_11, oh0_12, oh0_13, oh0_14, oh0_15, oh0_16, oh0_17, oh0_18, oh0_19, oh0_20, oh0_21, oh0_22, oh0_23, oh0_24, oh0_25, oh0_26, oh0_27, oh0_28, oh0_29, oh0_30, oh0_31, oh0_32, oh0_33, oh0_34, oh0_35, oh0_36, oh0_37])), (h0_text, .inl (cy 0, 500, .inl v_text_e33))] H → va_D A [(h0, .inr (9, [oh0_0, .ref h0_text, .int v_typed_e33, oh0_3, oh0_4, oh0_5, oh0_6, oh0_7, oh0_8, oh0_9, oh0_10, oh0_11, oh0_12, oh0_13, oh0_14, oh0_15, oh0_16, oh0_17, oh0_18, oh0_19, oh0_20, oh0_21, oh0_22, oh0_23, oh0_24, oh0_25, oh0_26, oh0_27, oh0_28, oh0_29, oh0_30, oh0_31, oh0_32, oh0_33, oh0_34, oh0_35, oh0_36, oh0_37])), (h0_text, .inl (cy 0, 500, .inl v_text_e33))] → va_S A s.heap H locs → lv_has ls 5 [(0, .ref h0)] → W p l e r9_feed s m args below meth c H locs 0 0 Q (F0 m 76 ls [])) → W p l e r9_feed s m args below meth c H locs 0 0 Q (F0 m 33 ls []) := by
        intro n
        induction n with
        | zero =>
          intro x4_33 v_typed_33 v_text_33 v_typed_e33 v_text_e33 H locs ls hM
          exact absurd hM (by simp [f9_feed_L33])
        | succ n ih =>
          intro x4_33 v_typed_33 v_text_33 v_typed_e33 v_text_e33 H locs ls hM hP hD hS hl K
          rw [f9_feed_L33] at hM
          refine lv_iload hx hb dX9_feed_33 (lv_at hl 2 rfl) ?_
          refine lv_if_lt (tgt := 76) hx hb dX9_feed_35 (by decide) (fun c35 => ?_) (fun c35 => ?_)
          · have hM := g_pos c35 hM
            obtain ⟨rfl, rfl⟩ := si2 hM
            exact K _ _ _ hP hD hS (lv_sub hl [0] rfl)
          · have hM := g_neg c35 hM
            refine lv_aload_n hx hb dX9_feed_38 rfl (lv_at hl 0 rfl) ?_
            refine va_get (D := D) (ci := 9) (v := .ref h0_text) (C := RX9) (T := TX9) (N := 38) hx hb hts iX9 hown hK hP 0 rfl rfl 1 (by decide) k7 (fun _ h9 => h9) rfl dX9_feed_39 ?_
            refine lv_aload_n hx hb dX9_feed_42 rfl (lv_at hl 0 rfl) ?_
            refine va_get (D := D) (ci := 9) (v := .int v_typed_33) (C := RX9) (T := TX9) (N := 38) hx hb hts iX9 hown hK hP 0 rfl rfl 2 (by decide) k100 (fun _ h9 => h9) rfl dX9_feed_43 ?_
            refine lv_lload_n hx hb dX9_feed_46 rfl (lv_at hl 1 rfl) ?_
            refine lv_bipush (v := 8) hx hb dX9_feed_47 (by decide) ?_
            refine lv_iload hx hb dX9_feed_49 (lv_at hl 2 rfl) ?_
            refine lv_imul hx hb dX9_feed_51 ?_
            refine lv_lshr (v := (p2 >>> (((8 : Int32) * x4_33).toInt64 &&& 63))) hx hb dX9_feed_52 rfl ?_
            refine lv_ldc2 (v := 255) hx hb hown k104 dX9_feed_53 ?_
            refine lv_land hx hb dX9_feed_56 ?_
            refine lv_l2i (v := ((p2 >>> (((8 : Int32) * x4_33).toInt64 &&& 63)) &&& (255 : Int64)).toInt32) hx hb dX9_feed_57 rfl ?_
            refine lv_i2b (v := (((p2 >>> (((8 : Int32) * x4_33).toInt64 &&& 63)) &&& (255 : Int64)).toInt32).toInt8.toInt32) hx hb dX9_feed_58 rfl ?_
            obtain ⟨h59, hM⟩ := gi_some hM
            refine va_bast hx hb hK hP hD hS 1 0 rfl rfl h59 dX9_feed_59 (fun H locs hP hD hS => ?_)
            have hP : va_P D vwCl [(h0, .inr (9, [oh0_0, .ref h0_text, .int v_typed_33, oh0_3, oh0_4, oh0_5, oh0_6, oh0_7, oh0_8, oh0_9, oh0_10, oh0_11, oh0_12, oh0_13, oh0_14, oh0_15, oh0_16, oh0_17, oh0_18, oh0_19, oh0_20, oh0_21, oh0_22, oh0_23, oh0_24, oh0_25, oh0_26, oh0_27, oh0_28, oh0_29, oh0_30, oh0_31, oh0_32, oh0_33, oh0_34, oh0_35, oh0_36, oh0_37])), (h0_text, .inl (cy 0, 500, .inl (upd v_text_33 v_typed_33.toNatClampNeg (vp_nar .byte ((((p2 >>> (((8 : Int32) * x4_33).toInt64 &&& 63)) &&& (255 : Int64)).toInt32).toInt8.toInt32)))))] H := hP
            have hD : va_D A [(h0, .inr (9, [oh0_0, .ref h0_text, .int v_typed_33, oh0_3, oh0_4, oh0_5, oh0_6, oh0_7, oh0_8, oh0_9, oh0_10, oh0_11, oh0_12, oh0_13, oh0_14, oh0_15, oh0_16, oh0_17, oh0_18, oh0_19, oh0_20, oh0_21, oh0_22, oh0_23, oh0_24, oh0_25, oh0_26, oh0_27, oh0_28, oh0_29, oh0_30, oh0_31, oh0_32, oh0_33, oh0_34, oh0_35, oh0_36, oh0_37])), (h0_text, .inl (cy 0, 500, .inl (upd v_text_33 v_typed_33.toNatClampNeg (vp_nar .byte ((((p2 >>> (((8 : Int32) * x4_33).toInt64 &&& 63)) &&& (255 : Int64)).toInt32).toInt8.toInt32)))))] := hD
            refine lv_aload_n hx hb dX9_feed_60 rfl (lv_at hl 0 rfl) ?_
            refine lv_dup hx hb dX9_feed_61 rfl ?_
            refine va_get (D := D) (ci := 9) (v := .int v_typed_33) (C := RX9) (T := TX9) (N := 38) hx hb hts iX9 hown hK hP 0 rfl rfl 2 (by decide) k100 (fun _ h9 => h9) rfl dX9_feed_62 ?_
            refine lv_iconst (v := 1) hx hb dX9_feed_65 (by decide) ?_
            refine lv_iadd hx hb dX9_feed_66 ?_
            refine va_put (D := D) (ci := 9) (v := .int (v_typed_33 + (1 : Int32))) (ty := .int) (C := RX9) (T := TX9) (N := 38) hx hb hts iX9 tyX9 tyX9_ok nmX9 hown hK hP hD hS 0 rfl rfl 2 (by decide) k100 (fun _ h9 => h9) rfl (by decide +kernel) rfl rfl (Nat.le_of_ble_eq_true rfl) dX9_feed_67 (fun H locs hP hD hS => ?_)
            have hP : va_P D vwCl [(h0, .inr (9, [oh0_0, .ref h0_text, .int (v_typed_33 + (1 : Int32)), oh0_3, oh0_4, oh0_5, oh0_6, oh0_7, oh0_8, oh0_9, oh0_10, oh0_11, oh0_12, oh0_13, oh0_14, oh0_15, oh0_16, oh0_17, oh0_18, oh0_19, oh0_20, oh0_21, oh0_22, oh0_23, oh0_24, oh0_25, oh0_26, oh0_27, oh0_28, oh0_29, oh0_30, oh0_31, oh0_32, oh0_33, oh0_34, oh0_35, oh0_36, oh0_37])), (h0_text, .inl (cy 0, 500, .inl (upd v_text_33 v_typed_33.toNatClampNeg (vp_nar .byte ((((p2 >>> (((8 : Int32) * x4_33).toInt64 &&& 63)) &&& (255 : Int64)).toInt32).toInt8.toInt32)))))] H := hP
            have hD : va_D A [(h0, .inr (9, [oh0_0, .ref h0_text, .int (v_typed_33 + (1 : Int32)), oh0_3, oh0_4, oh0_5, oh0_6, oh0_7, oh0_8, oh0_9, oh0_10, oh0_11, oh0_12, oh0_13, oh0_14, oh0_15, oh0_16, oh0_17, oh0_18, oh0_19, oh0_20, oh0_21, oh0_22, oh0_23, oh0_24, oh0_25, oh0_26, oh0_27, oh0_28, oh0_29, oh0_30, oh0_31, oh0_32, oh0_33, oh0_34, oh0_35, oh0_36, oh0_37])), (h0_text, .inl (cy 0, 500, .inl (upd v_text_33 v_typed_33.toNatClampNeg (vp_nar .byte ((((p2 >>> (((8 : Int32) * x4_33).toInt64 &&& 63)) &&& (255 : Int64)).toInt32).toInt8.toInt32)))))] := hD
            refine lv_iinc (v := x4_33 + (-1 : Int32)) (lv' := [(4, .int (x4_33 + (-1 : Int32))), (0, .ref h0), (2, .long p2)]) hx hb dX9_feed_70 hl (k := 2) rfl rfl (by decide) rfl (fun ls hl => ?_)
            refine lv_goto (tgt := 33) hx hb dX9_feed_73 (by decide) ?_
            exact ih (x4_33 + (-1 : Int32)) (v_typed_33 + (1 : Int32)) (upd v_text_33 v_typed_33.toNatClampNeg (vp_nar .byte ((((p2 >>> (((8 : Int32) * x4_33).toInt64 &&& 63)) &&& (255 : Int64)).toInt32).toInt8.toInt32))) v_typed_e33 v_text_e33 _ _ _ hM hP hD hS (lv_sub hl [1, 2, 0] rfl) K
      obtain ⟨v_typed_e33, v_text_e33, hL33, hM⟩ := ob2_some hM
      refine L33 N (p1 - (1 : Int32)) v_typed v_text v_typed_e33 v_text_e33 _ _ _ hL33 hP hD hS (lv_sub hl [1, 3, 0] rfl) ?_
      intro H locs ls hP hD hS hl
      refine lv_aload_n hx hb dX9_feed_76 rfl (lv_at hl 0 rfl) ?_
      refine va_get (D := D) (ci := 9) (v := .int v_typed_e33) (C := RX9) (T := TX9) (N := 38) hx hb hts iX9 hown hK hP 0 rfl rfl 2 (by decide) k100 (fun _ h9 => h9) rfl dX9_feed_77 ?_
      obtain ⟨rfl, rfl, rfl⟩ := si3 hM
      exact hret _ _ _ _ _ dX9_feed_80 rfl rfl hP hD hS
    · have hM := g_neg c22 hM
      refine lv_ldc (v := -1000000004) hx hb hown k103 dX9_feed_25 ?_
      obtain ⟨rfl, rfl, rfl⟩ := si3 hM
      exact hret _ _ _ _ _ dX9_feed_27 rfl rfl hP hD hS
  · have hM := g_pos c7 hM
    refine lv_ldc (v := -1000000002) hx hb hown k99 dX9_feed_10 ?_
    obtain ⟨rfl, rfl, rfl⟩ := si3 hM
    exact hret _ _ _ _ _ dX9_feed_12 rfl rfl hP hD hS
