-- ===== X9_findSpans findSpans (I)V =====
abbrev r9_findSpans : Room := { frames := 1, cells := 0, slots := 0, locals := 22 }
def f9_findSpans_J121 (N : Nat) (v_mostTime_10 : Nat → Int32) (x5_44 : Int32) (x6_44 : Int32) (r65 : Int32) (rec44 : Int32 → Int32 → Int32 → Option (Int32 × Int32)) (s0_121 : Int32) : Option (Int32 × Int32) :=
  gi r65 287 (if (v_mostTime_10 r65.toNatClampNeg) ≤ x5_44 then (rec44 s0_121 x5_44 (x6_44 + (1 : Int32))) else (gi r65 287 (rec44 s0_121 (v_mostTime_10 r65.toNatClampNeg) (x6_44 + (1 : Int32)))))
def f9_findSpans_L44 (N : Nat) (v_parts : Nat → Int32) (v_ways : Nat → Int32) (x2_2 : Int32) (x3_10 : Int32) (v_leastTime_10 : Nat → Int32) (v_mostTime_10 : Nat → Int32) : Nat → Int32 → Int32 → Int32 → Option (Int32 × Int32)
  | 0, _, _, _ => none
  | n + 1, x4_44, x5_44, x6_44 => gi (0 : Int32) 2 (if (v_parts (0 : Int32).toNatClampNeg) ≤ x6_44 then (some (x4_44, x5_44)) else (if x2_2 ≤ (1 : Int32) then (some (x4_44, x5_44)) else (ob1 (f9_index N (x2_2 - (1 : Int32)) x6_44) fun r65 => ob1 (f9_isStep N x3_10 x6_44 v_ways) fun r74 => if r74 = (0 : Int32) then ((f9_findSpans_L44 N v_parts v_ways x2_2 x3_10 v_leastTime_10 v_mostTime_10 n) x4_44 x5_44 (x6_44 + (1 : Int32))) else (gi r65 287 (if (v_mostTime_10 r65.toNatClampNeg) = (-1 : Int32) then ((f9_findSpans_L44 N v_parts v_ways x2_2 x3_10 v_leastTime_10 v_mostTime_10 n) x4_44 x5_44 (x6_44 + (1 : Int32))) else (if x4_44 = (-1 : Int32) then (gi r65 287 (f9_findSpans_J121 N v_mostTime_10 x5_44 x6_44 r65 (f9_findSpans_L44 N v_parts v_ways x2_2 x3_10 v_leastTime_10 v_mostTime_10 n) (v_leastTime_10 r65.toNatClampNeg))) else (gi r65 287 (if x4_44 ≤ (v_leastTime_10 r65.toNatClampNeg) then (f9_findSpans_J121 N v_mostTime_10 x5_44 x6_44 r65 (f9_findSpans_L44 N v_parts v_ways x2_2 x3_10 v_leastTime_10 v_mostTime_10 n) x4_44) else (gi r65 287 (f9_findSpans_J121 N v_mostTime_10 x5_44 x6_44 r65 (f9_findSpans_L44 N v_parts v_ways x2_2 x3_10 v_leastTime_10 v_mostTime_10 n) (v_leastTime_10 r65.toNatClampNeg)))))))))))
def f9_findSpans_J183 (N : Nat) (v_rates : Nat → Int32) (x2_2 : Int32) (x3_10 : Int32) (v_leastTime_10 : Nat → Int32) (v_mostTime_10 : Nat → Int32) (e5_44 : Int32) (rec10 : Int32 → (Nat → Int32) → (Nat → Int32) → Option ((Nat → Int32) × (Nat → Int32))) (s0_183 : Int32) (s1_183 : Int32) : Option ((Nat → Int32) × (Nat → Int32)) :=
  gi s1_183 287 (ob1 (f9_index N x2_2 x3_10) fun r190 => if e5_44 = (-1 : Int32) then (gi r190 287 (rec10 (x3_10 + (1 : Int32)) (upd v_leastTime_10 s1_183.toNatClampNeg s0_183) (upd v_mostTime_10 r190.toNatClampNeg (-1 : Int32)))) else (gi x3_10 14 (gi r190 287 (rec10 (x3_10 + (1 : Int32)) (upd v_leastTime_10 s1_183.toNatClampNeg s0_183) (upd v_mostTime_10 r190.toNatClampNeg (e5_44 + (v_rates x3_10.toNatClampNeg)))))))
def f9_findSpans_J35 (N : Nat) (v_parts : Nat → Int32) (v_rates : Nat → Int32) (v_ways : Nat → Int32) (x2_2 : Int32) (x3_10 : Int32) (v_leastTime_10 : Nat → Int32) (v_mostTime_10 : Nat → Int32) (rec10 : Int32 → (Nat → Int32) → (Nat → Int32) → Option ((Nat → Int32) × (Nat → Int32))) (s0_35 : Int32) : Option ((Nat → Int32) × (Nat → Int32)) :=
  ob2 (f9_findSpans_L44 N v_parts v_ways x2_2 x3_10 v_leastTime_10 v_mostTime_10 N s0_35 s0_35 (0 : Int32)) fun e4_44 e5_44 => ob1 (f9_index N x2_2 x3_10) fun r161 => if e5_44 = (-1 : Int32) then (f9_findSpans_J183 N v_rates x2_2 x3_10 v_leastTime_10 v_mostTime_10 e5_44 rec10 (-1 : Int32) r161) else (gi x3_10 14 (f9_findSpans_J183 N v_rates x2_2 x3_10 v_leastTime_10 v_mostTime_10 e5_44 rec10 (e4_44 + (v_rates x3_10.toNatClampNeg)) r161))
def f9_findSpans_L10 (N : Nat) (p1 : Int32) (v_parts : Nat → Int32) (v_rates : Nat → Int32) (v_ways : Nat → Int32) (x2_2 : Int32) : Nat → Int32 → (Nat → Int32) → (Nat → Int32) → Option ((Nat → Int32) × (Nat → Int32))
  | 0, _, _, _ => none
  | n + 1, x3_10, v_leastTime_10, v_mostTime_10 => gi (0 : Int32) 2 (if (v_parts (0 : Int32).toNatClampNeg) ≤ x3_10 then (some (v_leastTime_10, v_mostTime_10)) else (if x2_2 = (1 : Int32) then (if x3_10 = p1 then (f9_findSpans_J35 N v_parts v_rates v_ways x2_2 x3_10 v_leastTime_10 v_mostTime_10 (f9_findSpans_L10 N p1 v_parts v_rates v_ways x2_2 n) (0 : Int32)) else (f9_findSpans_J35 N v_parts v_rates v_ways x2_2 x3_10 v_leastTime_10 v_mostTime_10 (f9_findSpans_L10 N p1 v_parts v_rates v_ways x2_2 n) (-1 : Int32))) else (f9_findSpans_J35 N v_parts v_rates v_ways x2_2 x3_10 v_leastTime_10 v_mostTime_10 (f9_findSpans_L10 N p1 v_parts v_rates v_ways x2_2 n) (-1 : Int32))))
def f9_findSpans_L2 (N : Nat) (p1 : Int32) (v_parts : Nat → Int32) (v_rates : Nat → Int32) (v_ways : Nat → Int32) : Nat → Int32 → (Nat → Int32) → (Nat → Int32) → Option ((Nat → Int32) × (Nat → Int32))
  | 0, _, _, _ => none
  | n + 1, x2_2, v_leastTime_2, v_mostTime_2 => if (40 : Int32) < x2_2 then (some (v_leastTime_2, v_mostTime_2)) else (ob2 (f9_findSpans_L10 N p1 v_parts v_rates v_ways x2_2 N (0 : Int32) v_leastTime_2 v_mostTime_2) fun v_leastTime_e10 v_mostTime_e10 => (f9_findSpans_L2 N p1 v_parts v_rates v_ways n) (x2_2 + (1 : Int32)) v_leastTime_e10 v_mostTime_e10)
def f9_findSpans (N : Nat) (p1 : Int32) (v_parts : Nat → Int32) (v_rates : Nat → Int32) (v_ways : Nat → Int32) (v_leastTime : Nat → Int32) (v_mostTime : Nat → Int32) : Option ((Nat → Int32) × (Nat → Int32)) :=
  ob2 (f9_findSpans_L2 N p1 v_parts v_rates v_ways N (1 : Int32) v_leastTime v_mostTime) fun v_leastTime_e2 v_mostTime_e2 => some (v_leastTime_e2, v_mostTime_e2)
set_option maxHeartbeats 4000000 in
set_option maxRecDepth 100000 in
theorem c9_findSpans (l : Launch) (D : va_G) (cy : Nat → ClassId) (N : Nat) (h0 h0_parts h0_rates h0_ways h0_leastTime h0_mostTime : Nat) (oh0_0 oh0_1 oh0_2 oh0_6 oh0_7 oh0_8 oh0_9 oh0_10 oh0_11 oh0_12 oh0_13 oh0_14 oh0_15 oh0_16 oh0_17 oh0_18 oh0_19 oh0_20 oh0_21 oh0_22 oh0_23 oh0_24 oh0_25 oh0_28 oh0_29 oh0_30 oh0_31 oh0_32 oh0_33 oh0_34 oh0_35 oh0_36 oh0_37 : Value) (p1 : Int32) (v_parts : Nat → Int32) (v_rates : Nat → Int32) (v_ways : Nat → Int32) (v_leastTime : Nat → Int32) (v_mostTime : Nat → Int32) (nv_leastTime : Nat → Int32) (nv_mostTime : Nat → Int32) (hM : f9_findSpans N p1 v_parts v_rates v_ways v_leastTime v_mostTime = some (nv_leastTime, nv_mostTime)) (sz : Nat) : CTv l yX9_findSpans wsX9_findSpans r9_findSpans [.ref h0, .int p1] D cy sz [(h0, .inr (9, [oh0_0, oh0_1, oh0_2, .ref h0_parts, .ref h0_rates, .ref h0_ways, oh0_6, oh0_7, oh0_8, oh0_9, oh0_10, oh0_11, oh0_12, oh0_13, oh0_14, oh0_15, oh0_16, oh0_17, oh0_18, oh0_19, oh0_20, oh0_21, oh0_22, oh0_23, oh0_24, oh0_25, .ref h0_leastTime, .ref h0_mostTime, oh0_28, oh0_29, oh0_30, oh0_31, oh0_32, oh0_33, oh0_34, oh0_35, oh0_36, oh0_37])), (h0_parts, .inl (cy 2, 2, .inl v_parts)), (h0_rates, .inl (cy 2, 14, .inl v_rates)), (h0_ways, .inl (cy 2, 14, .inl v_ways)), (h0_leastTime, .inl (cy 2, 287, .inl v_leastTime)), (h0_mostTime, .inl (cy 2, 287, .inl v_mostTime))] [(h0, .inr (9, [oh0_0, oh0_1, oh0_2, .ref h0_parts, .ref h0_rates, .ref h0_ways, oh0_6, oh0_7, oh0_8, oh0_9, oh0_10, oh0_11, oh0_12, oh0_13, oh0_14, oh0_15, oh0_16, oh0_17, oh0_18, oh0_19, oh0_20, oh0_21, oh0_22, oh0_23, oh0_24, oh0_25, .ref h0_leastTime, .ref h0_mostTime, oh0_28, oh0_29, oh0_30, oh0_31, oh0_32, oh0_33, oh0_34, oh0_35, oh0_36, oh0_37])), (h0_parts, .inl (cy 2, 2, .inl v_parts)), (h0_rates, .inl (cy 2, 14, .inl v_rates)), (h0_ways, .inl (cy 2, 14, .inl v_ways)), (h0_leastTime, .inl (cy 2, 287, .inl nv_leastTime)), (h0_mostTime, .inl (cy 2, 287, .inl nv_mostTime))] := by
  unfold f9_findSpans at hM
  refine ct_ov (cc := cX9_findSpans) (maxL := 8)  (by decide +kernel) rfl (Nat.le_of_ble_eq_true rfl) (lv0 := [(0, .ref h0), (1, .int p1)]) rfl ?_
  intro p e s m args below meth c A Q ls hx hb hts hown hml hK hP hD hS hA hret hl
  have hown : s.vm.findClass RX9 = some m.cls := hown
  have k13 := hts (.fieldLink RX9 13 "CaveYearsModel" "parts" "[I") (List.mem_of_getElem? (i := 1) (by decide +kernel))
  have iX9 := (fun w h => (List.mem_cons_of_mem _ (List.mem_append_right _ h)) : ∀ w ∈ wsX90, w ∈ wsX9_findSpans)
  have k63 := hts (.fieldLink RX9 63 "CaveYearsModel" "mostTime" "[I") (List.mem_of_getElem? (i := 2) (by decide +kernel))
  have k60 := hts (.fieldLink RX9 60 "CaveYearsModel" "leastTime" "[I") (List.mem_of_getElem? (i := 3) (by decide +kernel))
  have k17 := hts (.fieldLink RX9 17 "CaveYearsModel" "rates" "[I") (List.mem_of_getElem? (i := 4) (by decide +kernel))
  refine lv_iconst (v := 1) hx hb dX9_findSpans_0 (by decide) ?_
  refine lv_istore_n (lv' := [(2, .int (1 : Int32)), (0, .ref h0), (1, .int p1)]) hx hb dX9_findSpans_1 rfl hl (by decide) rfl (fun ls hl => ?_)
  have L2 : ∀ (n : Nat) (x2_2 : Int32) (v_leastTime_2 : Nat → Int32) (v_mostTime_2 : Nat → Int32) (v_leastTime_e2 : Nat → Int32) (v_mostTime_e2 : Nat → Int32) (H : Heap) (locs : List Loc) (ls : Array Slot), f9_findSpans_L2 N p1 v_parts v_rates v_ways n x2_2 v_leastTime_2 v_mostTime_2 = some (v_leastTime_e2, v_mostTime_e2) → va_P D vwCl [(h0, .inr (9, [oh0_0, oh0_1, oh0_2, .ref h0_parts, .ref h0_rates, .ref h0_ways, oh0_6, oh0_7, oh0_8, oh0_9, oh0_10, oh0_11, oh0_12, oh0_13, oh0_14, oh0_15, oh0_16, oh0_17, oh0_18, oh0_19, oh0_20, oh0_21, oh0_22, oh0_23, oh0_24, oh0_25, .ref h0_leastTime, .ref h0_mostTime, oh0_28, oh0_29, oh0_30, oh0_31, oh0_32, oh0_33, oh0_34, oh0_35, oh0_36, oh0_37])), (h0_parts, .inl (cy 2, 2, .inl v_parts)), (h0_rates, .inl (cy 2, 14, .inl v_rates)), (h0_ways, .inl (cy 2, 14, .inl v_ways)), (h0_leastTime, .inl (cy 2, 287, .inl v_leastTime_2)), (h0_mostTime, .inl (cy 2, 287, .inl v_mostTime_2))] H → va_D A [(h0, .inr (9, [oh0_0, oh0_1, oh0_2, .ref h0_parts, .ref h0_rates, .ref h0_ways, oh0_6, oh0_7, oh0_8, oh0_9, oh0_10, oh0_11, oh0_12, oh0_13, oh0_14, oh0_15, oh0_16, oh0_17, oh0_18, oh0_19, oh0_20, oh0_21, oh0_22, oh0_23, oh0_24, oh0_25, .ref h0_leastTime, .ref h0_mostTime, oh0_28, oh0_29, oh0_30, oh0_31, oh0_32, oh0_33, oh0_34, oh0_35, oh0_36, oh0_37])), (h0_parts, .inl (cy 2, 2, .inl v_parts)), (h0_rates, .inl (cy 2, 14, .inl v_rates)), (h0_ways, .inl (cy 2, 14, .inl v_ways)), (h0_leastTime, .inl (cy 2, 287, .inl v_leastTime_2)), (h0_mostTime, .inl (cy 2, 287, .inl v_mostTime_2))] → va_S A s.heap H locs → lv_has ls 8 [(0, .ref h0), (1, .int p1), (2, .int x2_2)] → (∀ (H : Heap) (locs : List Loc) (ls : Array Slot), va_P D vwCl [(h0, .inr (9, [oh0_0, oh0_1, oh0_2, .ref h0_parts, .ref h0_rates, .ref h0_ways, oh0_6, oh0_7, oh0_8, oh0_9, oh0_10, oh0_11, oh0_12, oh0_13, oh0_14, oh0_15, oh0_16, oh0_17, oh0_18, oh0_19, oh0_20, oh0_21, oh0_22, oh0_23, oh0_24, oh0_25, .ref h0_leastTime, .ref h0_mostTime, oh0_28, oh0_29, oh0_30, oh0_31, oh0_32, oh0_33, oh0_34, oh0_35, oh0_36, oh0_37])), (h0_parts, .inl (cy 2, 2, .inl v_parts)), (h0_rates, .inl (cy 2, 14, .inl v_rates)), (h0_ways, .inl (cy 2, 14, .inl v_ways)), (h0_leastTime, .inl (cy 2, 287, .inl v_leastTime_e2)), (h0_mostTime, .inl (cy 2, 287, .inl v_mostTime_e2))] H → va_D A [(h0, .inr (9, [oh0_0, oh0_1, oh0_2, .ref h0_parts, .ref h0_rates, .ref h0_ways, oh0_6, oh0_7, oh0_8, oh0_9, oh0_10, oh0_11, oh0_12, oh0_13, oh0_14, oh0_15, oh0_16, oh0_17, oh0_18, oh0_19, oh0_20, oh0_21, oh0_22, oh0_23, oh0_24, oh0_25, .ref h0_leastTime, .ref h0_mostTime, oh0_28, oh0_29, oh0_30, oh0_31, oh0_32, oh0_33, oh0_34, oh0_35, oh0_36, oh0_37])), (h0_parts, .inl (cy 2, 2, .inl v_parts)), (h0_rates, .inl (cy 2, 14, .inl v_rates)), (h0_ways, .inl (cy 2, 14, .inl v_ways)), (h0_leastTime, .inl (cy 2, 287, .inl v_leastTime_e2)), (h0_mostTime, .inl (cy 2, 287, .inl v_mostTime_e2))] → va_S A s.heap H locs → lv_has ls 8 [] → W p l e r9_findSpans s m args below meth c H locs 0 0 Q (F0 m 225 ls [])) → W p l e r9_findSpans s m args below meth c H locs 0 0 Q (F0 m 2 ls []) := by
    intro n2
    induction n2 with
    | zero =>
      intro x2_2 v_leastTime_2 v_mostTime_2 v_leastTime_e2 v_mostTime_e2 H locs ls hM
      exact absurd hM (by simp [f9_findSpans_L2])
    | succ n2 ih2 =>
      intro x2_2 v_leastTime_2 v_mostTime_2 v_leastTime_e2 v_mostTime_e2 H locs ls hM hP hD hS hl K
      rw [f9_findSpans_L2] at hM
      refine lv_iload_n hx hb dX9_findSpans_2 rfl (lv_at hl 2 rfl) ?_
      refine lv_bipush (v := 40) hx hb dX9_findSpans_3 (by decide) ?_
      refine lv_icmp_gt (tgt := 225) hx hb dX9_findSpans_5 (by decide) (fun c5 => ?_) (fun c5 => ?_)
      · have hM := g_pos c5 hM
        obtain ⟨rfl, rfl⟩ := si2 hM
        exact K _ _ _ hP hD hS (lv_sub hl [] rfl)
      · have hM := g_neg c5 hM
        refine lv_iconst (v := 0) hx hb dX9_findSpans_8 (by decide) ?_
        refine lv_istore_n (lv' := [(3, .int (0 : Int32)), (0, .ref h0), (1, .int p1), (2, .int x2_2)]) hx hb dX9_findSpans_9 rfl hl (by decide) rfl (fun ls hl => ?_)
        have L10 : ∀ (n : Nat) (x3_10 : Int32) (v_leastTime_10 : Nat → Int32) (v_mostTime_10 : Nat → Int32) (v_leastTime_e10 : Nat → Int32) (v_mostTime_e10 : Nat → Int32) (H : Heap) (locs : List Loc) (ls : Array Slot), f9_findSpans_L10 N p1 v_parts v_rates v_ways x2_2 n x3_10 v_leastTime_10 v_mostTime_10 = some (v_leastTime_e10, v_mostTime_e10) → va_P D vwCl [(h0, .inr (9, [oh0_0, oh0_1, oh0_2, .ref h0_parts, .ref h0_rates, .ref h0_ways, oh0_6, oh0_7, oh0_8, oh0_9, oh0_10, oh0_11, oh0_12, oh0_13, oh0_14, oh0_15, oh0_16, oh0_17, oh0_18, oh0_19, oh0_20, oh0_21, oh0_22, oh0_23, oh0_24, oh0_25, .ref h0_leastTime, .ref h0_mostTime, oh0_28, oh0_29, oh0_30, oh0_31, oh0_32, oh0_33, oh0_34, oh0_35, oh0_36, oh0_37])), (h0_parts, .inl (cy 2, 2, .inl v_parts)), (h0_rates, .inl (cy 2, 14, .inl v_rates)), (h0_ways, .inl (cy 2, 14, .inl v_ways)), (h0_leastTime, .inl (cy 2, 287, .inl v_leastTime_10)), (h0_mostTime, .inl (cy 2, 287, .inl v_mostTime_10))] H → va_D A [(h0, .inr (9, [oh0_0, oh0_1, oh0_2, .ref h0_parts, .ref h0_rates, .ref h0_ways, oh0_6, oh0_7, oh0_8, oh0_9, oh0_10, oh0_11, oh0_12, oh0_13, oh0_14, oh0_15, oh0_16, oh0_17, oh0_18, oh0_19, oh0_20, oh0_21, oh0_22, oh0_23, oh0_24, oh0_25, .ref h0_leastTime, .ref h0_mostTime, oh0_28, oh0_29, oh0_30, oh0_31, oh0_32, oh0_33, oh0_34, oh0_35, oh0_36, oh0_37])), (h0_parts, .inl (cy 2, 2, .inl v_parts)), (h0_rates, .inl (cy 2, 14, .inl v_rates)), (h0_ways, .inl (cy 2, 14, .inl v_ways)), (h0_leastTime, .inl (cy 2, 287, .inl v_leastTime_10)), (h0_mostTime, .inl (cy 2, 287, .inl v_mostTime_10))] → va_S A s.heap H locs → lv_has ls 8 [(0, .ref h0), (1, .int p1), (2, .int x2_2), (3, .int x3_10)] → (∀ (H : Heap) (locs : List Loc) (ls : Array Slot), va_P D vwCl [(h0, .inr (9, [oh0_0, oh0_1, oh0_2, .ref h0_parts, .ref h0_rates, .ref h0_ways, oh0_6, oh0_7, oh0_8, oh0_9, oh0_10, oh0_11, oh0_12, oh0_13, oh0_14, oh0_15, oh0_16, oh0_17, oh0_18, oh0_19, oh0_20, oh0_21, oh0_22, oh0_23, oh0_24, oh0_25, .ref h0_leastTime, .ref h0_mostTime, oh0_28, oh0_29, oh0_30, oh0_31, oh0_32, oh0_33, oh0_34, oh0_35, oh0_36, oh0_37])), (h0_parts, .inl (cy 2, 2, .inl v_parts)), (h0_rates, .inl (cy 2, 14, .inl v_rates)), (h0_ways, .inl (cy 2, 14, .inl v_ways)), (h0_leastTime, .inl (cy 2, 287, .inl v_leastTime_e10)), (h0_mostTime, .inl (cy 2, 287, .inl v_mostTime_e10))] H → va_D A [(h0, .inr (9, [oh0_0, oh0_1, oh0_2, .ref h0_parts, .ref h0_rates, .ref h0_ways, oh0_6, oh0_7, oh0_8, oh0_9, oh0_10, oh0_11, oh0_12, oh0_13, oh0_14, oh0_15, oh0_16, oh0_17, oh0_18, oh0_19, oh0_20, oh0_21, oh0_22, oh0_23, oh0_24, oh0_25, .ref h0_leastTime, .ref h0_mostTime, oh0_28, oh0_29, oh0_30, oh0_31, oh0_32, oh0_33, oh0_34, oh0_35, oh0_36, oh0_37])), (h0_parts, .inl (cy 2, 2, .inl v_parts)), (h0_rates, .inl (cy 2, 14, .inl v_rates)), (h0_ways, .inl (cy 2, 14, .inl v_ways)), (h0_leastTime, .inl (cy 2, 287, .inl v_leastTime_e10)), (h0_mostTime, .inl (cy 2, 287, .inl v_mostTime_e10))] → va_S A s.heap H locs → lv_has ls 8 [(0, .ref h0), (1, .int p1), (2, .int x2_2)] → W p l e r9_findSpans s m args below meth c H locs 0 0 Q (F0 m 219 ls [])) → W p l e r9_findSpans s m args below meth c H locs 0 0 Q (F0 m 10 ls []) := by
          intro n10
          induction n10 with
          | zero =>
            intro x3_10 v_leastTime_10 v_mostTime_10 v_leastTime_e10 v_mostTime_e10 H locs ls hM
            exact absurd hM (by simp [f9_findSpans_L10])
          | succ n10 ih10 =>
            intro x3_10 v_leastTime_10 v_mostTime_10 v_leastTime_e10 v_mostTime_e10 H locs ls hM hP hD hS hl K
            rw [f9_findSpans_L10] at hM
            refine lv_iload_n hx hb dX9_findSpans_10 rfl (lv_at hl 3 rfl) ?_
            refine lv_aload_n hx hb dX9_findSpans_11 rfl (lv_at hl 0 rfl) ?_
            refine va_get (D := D) (ci := 9) (v := .ref h0_parts) (C := RX9) (T := TX9) (N := 38) hx hb hts iX9 hown hK hP 0 rfl rfl 3 (by decide) k13 (fun _ h9 => h9) rfl dX9_findSpans_12 ?_
            refine lv_iconst (v := 0) hx hb dX9_findSpans_15 (by decide) ?_
            obtain ⟨h16, hM⟩ := gi_some hM
            refine va_iald hx hb hK hP 1 2 rfl rfl h16 dX9_findSpans_16 ?_
            refine lv_icmp_ge (tgt := 219) hx hb dX9_findSpans_17 (by decide) (fun c17 => ?_) (fun c17 => ?_)
            · have hM := g_pos c17 hM
              obtain ⟨rfl, rfl⟩ := si2 hM
              exact K _ _ _ hP hD hS (lv_sub hl [0, 1, 2] rfl)
            · have hM := g_neg c17 hM
              refine lv_iload_n hx hb dX9_findSpans_20 rfl (lv_at hl 2 rfl) ?_
              refine lv_iconst (v := 1) hx hb dX9_findSpans_21 (by decide) ?_
              have K35 : ∀ (s0_35 : Int32) (H : Heap) (locs : List Loc) (ls : Array Slot), f9_findSpans_J35 N v_parts v_rates v_ways x2_2 x3_10 v_leastTime_10 v_mostTime_10 (f9_findSpans_L10 N p1 v_parts v_rates v_ways x2_2 n10) s0_35 = some (v_leastTime_e10, v_mostTime_e10) → va_P D vwCl [(h0, .inr (9, [oh0_0, oh0_1, oh0_2, .ref h0_parts, .ref h0_rates, .ref h0_ways, oh0_6, oh0_7, oh0_8, oh0_9, oh0_10, oh0_11, oh0_12, oh0_13, oh0_14, oh0_15, oh0_16, oh0_17, oh0_18, oh0_19, oh0_20, oh0_21, oh0_22, oh0_23, oh0_24, oh0_25, .ref h0_leastTime, .ref h0_mostTime, oh0_28, oh0_29, oh0_30, oh0_31, oh0_32, oh0_33, oh0_34, oh0_35, oh0_36, oh0_37])), (h0_parts, .inl (cy 2, 2, .inl v_parts)), (h0_rates, .inl (cy 2, 14, .inl v_rates)), (h0_ways, .inl (cy 2, 14, .inl v_ways)), (h0_leastTime, .inl (cy 2, 287, .inl v_leastTime_10)), (h0_mostTime, .inl (cy 2, 287, .inl v_mostTime_10))] H → va_D A [(h0, .inr (9, [oh0_0, oh0_1, oh0_2, .ref h0_parts, .ref h0_rates, .ref h0_ways, oh0_6, oh0_7, oh0_8, oh0_9, oh0_10, oh0_11, oh0_12, oh0_13, oh0_14, oh0_15, oh0_16, oh0_17, oh0_18, oh0_19, oh0_20, oh0_21, oh0_22, oh0_23, oh0_24, oh0_25, .ref h0_leastTime, .ref h0_mostTime, oh0_28, oh0_29, oh0_30, oh0_31, oh0_32, oh0_33, oh0_34, oh0_35, oh0_36, oh0_37])), (h0_parts, .inl (cy 2, 2, .inl v_parts)), (h0_rates, .inl (cy 2, 14, .inl v_rates)), (h0_ways, .inl (cy 2, 14, .inl v_ways)), (h0_leastTime, .inl (cy 2, 287, .inl v_leastTime_10)), (h0_mostTime, .inl (cy 2, 287, .inl v_mostTime_10))] → va_S A s.heap H locs → lv_has ls 8 [(0, .ref h0), (1, .int p1), (2, .int x2_2), (3, .int x3_10)] → W p l e r9_findSpans s m args below meth c H locs 0 0 Q (F0 m 35 ls [.int s0_35]) := by
                intro s0_35 H locs ls hM hP hD hS hl
                unfold f9_findSpans_J35 at hM
                refine lv_istore (lv' := [(4, .int s0_35), (0, .ref h0), (1, .int p1), (2, .int x2_2), (3, .int x3_10)]) hx hb dX9_findSpans_35 hl (by decide) rfl (fun ls hl => ?_)
                refine lv_iload hx hb dX9_findSpans_37 (lv_at hl 0 rfl) ?_
                refine lv_istore (lv' := [(5, .int s0_35), (4, .int s0_35), (0, .ref h0), (1, .int p1), (2, .int x2_2), (3, .int x3_10)]) hx hb dX9_findSpans_39 hl (by decide) rfl (fun ls hl => ?_)
                refine lv_iconst (v := 0) hx hb dX9_findSpans_41 (by decide) ?_
                refine lv_istore (lv' := [(6, .int (0 : Int32)), (5, .int s0_35), (4, .int s0_35), (0, .ref h0), (1, .int p1), (2, .int x2_2), (3, .int x3_10)]) hx hb dX9_findSpans_42 hl (by decide) rfl (fun ls hl => ?_)
                have L44 : ∀ (n : Nat) (x4_44 : Int32) (x5_44 : Int32) (x6_44 : Int32) (e4_44 : Int32) (e5_44 : Int32) (H : Heap) (locs : List Loc) (ls : Array Slot), f9_findSpans_L44 N v_parts v_ways x2_2 x3_10 v_leastTime_10 v_mostTime_10 n x4_44 x5_44 x6_44 = some (e4_44, e5_44) → va_P D vwCl [(h0, .inr (9, [oh0_0, oh0_1, oh0_2, .ref h0_parts, .ref h0_rates, .ref h0_ways, oh0_6, oh0_7, oh0_8, oh0_9, oh0_10, oh0_11, oh0_12, oh0_13, oh0_14, oh0_15, oh0_16, oh0_17, oh0_18, oh0_19, oh0_20, oh0_21, oh0_22, oh0_23, oh0_24, oh0_25, .ref h0_leastTime, .ref h0_mostTime, oh0_28, oh0_29, oh0_30, oh0_31, oh0_32, oh0_33, oh0_34, oh0_35, oh0_36, oh0_37])), (h0_parts, .inl (cy 2, 2, .inl v_parts)), (h0_rates, .inl (cy 2, 14, .inl v_rates)), (h0_ways, .inl (cy 2, 14, .inl v_ways)), (h0_leastTime, .inl (cy 2, 287, .inl v_leastTime_10)), (h0_mostTime, .inl (cy 2, 287, .inl v_mostTime_10))] H → va_D A [(h0, .inr (9, [oh0_0, oh0_1, oh0_2, .ref h0_parts, .ref h0_rates, .ref h0_ways, oh0_6, oh0_7, oh0_8, oh0_9, oh0_10, oh0_11, oh0_12, oh0_13, oh0_14, oh0_15, oh0_16, oh0_17, oh0_18, oh0_19, oh0_20, oh0_21, oh0_22, oh0_23, oh0_24, oh0_25, .ref h0_leastTime, .ref h0_mostTime, oh0_28, oh0_29, oh0_30, oh0_31, oh0_32, oh0_33, oh0_34, oh0_35, oh0_36, oh0_37])), (h0_parts, .inl (cy 2, 2, .inl v_parts)), (h0_rates, .inl (cy 2, 14, .inl v_rates)), (h0_ways, .inl (cy 2, 14, .inl v_ways)), (h0_leastTime, .inl (cy 2, 287, .inl v_leastTime_10)), (h0_mostTime, .inl (cy 2, 287, .inl v_mostTime_10))] → va_S A s.heap H locs → lv_has ls 8 [(0, .ref h0), (1, .int p1), (2, .int x2_2), (3, .int x3_10), (4, .int x4_44), (5, .int x5_44), (6, .int x6_44)] → (∀ (H : Heap) (locs : List Loc) (ls : Array Slot), va_P D vwCl [(h0, .inr (9, [oh0_0, oh0_1, oh0_2, .ref h0_parts, .ref h0_rates, .ref h0_ways, oh0_6, oh0_7, oh0_8, oh0_9, oh0_10, oh0_11, oh0_12, oh0_13, oh0_14, oh0_15, oh0_16, oh0_17, oh0_18, oh0_19, oh0_20, oh0_21, oh0_22, oh0_23, oh0_24, oh0_25, .ref h0_leastTime, .ref h0_mostTime, oh0_28, oh0_29, oh0_30, oh0_31, oh0_32, oh0_33, oh0_34, oh0_35, oh0_36, oh0_37])), (h0_parts, .inl (cy 2, 2, .inl v_parts)), (h0_rates, .inl (cy 2, 14, .inl v_rates)), (h0_ways, .inl (cy 2, 14, .inl v_ways)), (h0_leastTime, .inl (cy 2, 287, .inl v_leastTime_10)), (h0_mostTime, .inl (cy 2, 287, .inl v_mostTime_10))] H → va_D A [(h0, .inr (9, [oh0_0, oh0_1, oh0_2, .ref h0_parts, .ref h0_rates, .ref h0_ways, oh0_6, oh0_7, oh0_8, oh0_9, oh0_10, oh0_11, oh0_12, oh0_13, oh0_14, oh0_15, oh0_16, oh0_17, oh0_18, oh0_19, oh0_20, oh0_21, oh0_22, oh0_23, oh0_24, oh0_25, .ref h0_leastTime, .ref h0_mostTime, oh0_28, oh0_29, oh0_30, oh0_31, oh0_32, oh0_33, oh0_34, oh0_35, oh0_36, oh0_37])), (h0_parts, .inl (cy 2, 2, .inl v_parts)), (h0_rates, .inl (cy 2, 14, .inl v_rates)), (h0_ways, .inl (cy 2, 14, .inl v_ways)), (h0_leastTime, .inl (cy 2, 287, .inl v_leastTime_10)), (h0_mostTime, .inl (cy 2, 287, .inl v_mostTime_10))] → va_S A s.heap H locs → lv_has ls 8 [(0, .ref h0), (1, .int p1), (2, .int x2_2), (3, .int x3_10), (4, .int e4_44), (5, .int e5_44)] → W p l e r9_findSpans s m args below meth c H locs 0 0 Q (F0 m 155 ls [])) → W p l e r9_findSpans s m args below meth c H locs 0 0 Q (F0 m 44 ls []) := by
                  intro n44
                  induction n44 with
                  | zero =>
                    intro x4_44 x5_44 x6_44 e4_44 e5_44 H locs ls hM
                    exact absurd hM (by simp [f9_findSpans_L44])
                  | succ n44 ih44 =>
                    intro x4_44 x5_44 x6_44 e4_44 e5_44 H locs ls hM hP hD hS hl K
                    rw [f9_findSpans_L44] at hM
                    refine lv_iload hx hb dX9_findSpans_44 (lv_at hl 6 rfl) ?_
                    refine lv_aload_n hx hb dX9_findSpans_46 rfl (lv_at hl 0 rfl) ?_
                    refine va_get (D := D) (ci := 9) (v := .ref h0_parts) (C := RX9) (T := TX9) (N := 38) hx hb hts iX9 hown hK hP 0 rfl rfl 3 (by decide) k13 (fun _ h9 => h9) rfl dX9_findSpans_47 ?_
                    refine lv_iconst (v := 0) hx hb dX9_findSpans_50 (by decide) ?_
                    obtain ⟨h51, hM⟩ := gi_some hM
                    refine va_iald hx hb hK hP 1 2 rfl rfl h51 dX9_findSpans_51 ?_
                    refine lv_icmp_ge (tgt := 155) hx hb dX9_findSpans_52 (by decide) (fun c52 => ?_) (fun c52 => ?_)
                    · have hM := g_pos c52 hM
                      obtain ⟨rfl, rfl⟩ := si2 hM
                      exact K _ _ _ hP hD hS (lv_sub hl [0, 1, 2, 3, 4, 5] rfl)
                    · have hM := g_neg c52 hM
                      refine lv_iload_n hx hb dX9_findSpans_55 rfl (lv_at hl 2 rfl) ?_
                      refine lv_iconst (v := 1) hx hb dX9_findSpans_56 (by decide) ?_
                      refine lv_icmp_le (tgt := 155) hx hb dX9_findSpans_57 (by decide) (fun c57 => ?_) (fun c57 => ?_)
                      · have hM := g_pos c57 hM
                        obtain ⟨rfl, rfl⟩ := si2 hM
                        exact K _ _ _ hP hD hS (lv_sub hl [0, 1, 2, 3, 4, 5] rfl)
                      · have hM := g_neg c57 hM
                        refine lv_iload_n hx hb dX9_findSpans_60 rfl (lv_at hl 2 rfl) ?_
                        refine lv_iconst (v := 1) hx hb dX9_findSpans_61 (by decide) ?_
                        refine lv_isub hx hb dX9_findSpans_62 ?_
                        refine lv_iload hx hb dX9_findSpans_63 (lv_at hl 6 rfl) ?_
                        obtain ⟨r65, hc65, hM⟩ := ob1_some hM
                        refine cl_si (As := [.int (x2_2 - (1 : Int32)), .int x6_44]) (rest := []) (wr := [(h0, .inr (9, [oh0_0, oh0_1, oh0_2, .ref h0_parts, .ref h0_rates, .ref h0_ways, oh0_6, oh0_7, oh0_8, oh0_9, oh0_10, oh0_11, oh0_12, oh0_13, oh0_14, oh0_15, oh0_16, oh0_17, oh0_18, oh0_19, oh0_20, oh0_21, oh0_22, oh0_23, oh0_24, oh0_25, .ref h0_leastTime, .ref h0_mostTime, oh0_28, oh0_29, oh0_30, oh0_31, oh0_32, oh0_33, oh0_34, oh0_35, oh0_36, oh0_37])), (h0_parts, .inl (cy 2, 2, .inl v_parts)), (h0_rates, .inl (cy 2, 14, .inl v_rates)), (h0_ways, .inl (cy 2, 14, .inl v_ways)), (h0_leastTime, .inl (cy 2, 287, .inl v_leastTime_10)), (h0_mostTime, .inl (cy 2, 287, .inl v_mostTime_10))]) (ws2 := [(h0, .inr (9, [oh0_0, oh0_1, oh0_2, .ref h0_parts, .ref h0_rates, .ref h0_ways, oh0_6, oh0_7, oh0_8, oh0_9, oh0_10, oh0_11, oh0_12, oh0_13, oh0_14, oh0_15, oh0_16, oh0_17, oh0_18, oh0_19, oh0_20, oh0_21, oh0_22, oh0_23, oh0_24, oh0_25, .ref h0_leastTime, .ref h0_mostTime, oh0_28, oh0_29, oh0_30, oh0_31, oh0_32, oh0_33, oh0_34, oh0_35, oh0_36, oh0_37])), (h0_parts, .inl (cy 2, 2, .inl v_parts)), (h0_rates, .inl (cy 2, 14, .inl v_rates)), (h0_ways, .inl (cy 2, 14, .inl v_ways)), (h0_leastTime, .inl (cy 2, 287, .inl v_leastTime_10)), (h0_mostTime, .inl (cy 2, 287, .inl v_mostTime_10))]) (isC := []) (isR := [0, 1, 2, 3, 4, 5]) (pm := [0, 1, 2, 3, 4, 5]) hx hb hml hown hts (c9_index l D cy N (x2_2 - (1 : Int32)) x6_44 r65 hc65) (va_cwS 2 hts gX9_findSpans_X9_index rfl rfl rfl (by decide +kernel) ⟨Nat.le_of_ble_eq_true rfl, Nat.le_of_ble_eq_true rfl⟩) hK hP hD hS hA rfl rfl rfl (by decide) rfl rfl rfl hl.1 (Nat.le_of_ble_eq_true rfl) dX9_findSpans_65 ⟨Nat.zero_le _, Nat.zero_le _⟩ rfl rfl (fun H locs hP hD hS => ?_)
                        refine lv_istore (lv' := [(7, .int r65), (0, .ref h0), (1, .int p1), (2, .int x2_2), (3, .int x3_10), (4, .int x4_44), (5, .int x5_44), (6, .int x6_44)]) hx hb dX9_findSpans_68 hl (by decide) rfl (fun ls hl => ?_)
                        refine lv_aload_n hx hb dX9_findSpans_70 rfl (lv_at hl 1 rfl) ?_
                        refine lv_iload_n hx hb dX9_findSpans_71 rfl (lv_at hl 4 rfl) ?_
                        refine lv_iload hx hb dX9_findSpans_72 (lv_at hl 7 rfl) ?_
                        obtain ⟨r74, hc74, hM⟩ := ob1_some hM
                        refine cl_vi (As := [.int x3_10, .int x6_44]) (rest := []) (ci := 9) (q0 := 0) (wr := [(h0_parts, .inl (cy 2, 2, .inl v_parts)), (h0_rates, .inl (cy 2, 14, .inl v_rates)), (h0_leastTime, .inl (cy 2, 287, .inl v_leastTime_10)), (h0_mostTime, .inl (cy 2, 287, .inl v_mostTime_10))]) (ws2 := [(h0, .inr (9, [oh0_0, oh0_1, oh0_2, .ref h0_parts, .ref h0_rates, .ref h0_ways, oh0_6, oh0_7, oh0_8, oh0_9, oh0_10, oh0_11, oh0_12, oh0_13, oh0_14, oh0_15, oh0_16, oh0_17, oh0_18, oh0_19, oh0_20, oh0_21, oh0_22, oh0_23, oh0_24, oh0_25, .ref h0_leastTime, .ref h0_mostTime, oh0_28, oh0_29, oh0_30, oh0_31, oh0_32, oh0_33, oh0_34, oh0_35, oh0_36, oh0_37])), (h0_parts, .inl (cy 2, 2, .inl v_parts)), (h0_rates, .inl (cy 2, 14, .inl v_rates)), (h0_ways, .inl (cy 2, 14, .inl v_ways)), (h0_leastTime, .inl (cy 2, 287, .inl v_leastTime_10)), (h0_mostTime, .inl (cy 2, 287, .inl v_mostTime_10))]) (isC := [0, 3]) (isR := [1, 2, 4, 5]) (pm := [4, 0, 1, 5, 2, 3]) hx hb hml hown hts (c9_isStep l D cy N h0 h0_ways oh0_0 oh0_1 oh0_2 (.ref h0_parts) (.ref h0_rates) oh0_6 oh0_7 oh0_8 oh0_9 oh0_10 oh0_11 oh0_12 oh0_13 oh0_14 oh0_15 oh0_16 oh0_17 oh0_18 oh0_19 oh0_20 oh0_21 oh0_22 oh0_23 oh0_24 oh0_25 (.ref h0_leastTime) (.ref h0_mostTime) oh0_28 oh0_29 oh0_30 oh0_31 oh0_32 oh0_33 oh0_34 oh0_35 oh0_36 oh0_37 x3_10 x6_44 v_ways r74 hc74) (cwV 2 hts gX9_findSpans_X9_isStep rfl rfl rfl (by decide +kernel) ⟨Nat.le_of_ble_eq_true rfl, Nat.le_of_ble_eq_true rfl⟩) hK hP hD hS hA rfl rfl rfl rfl rfl (by decide) rfl rfl rfl hl.1 (Nat.le_of_ble_eq_true rfl) dX9_findSpans_74 ⟨Nat.zero_le _, Nat.zero_le _⟩ rfl rfl (fun H locs hP hD hS => ?_)
                        refine lv_if_eq (tgt := 149) hx hb dX9_findSpans_77 (by decide) (fun c77 => ?_) (fun c77 => ?_)
                        · have hM := g_pos c77 hM
                          refine lv_iinc (v := x6_44 + (1 : Int32)) (lv' := [(6, .int (x6_44 + (1 : Int32))), (7, .int r65), (0, .ref h0), (1, .int p1), (2, .int x2_2), (3, .int x3_10), (4, .int x4_44), (5, .int x5_44)]) hx hb dX9_findSpans_149 hl (k := 7) rfl rfl (by decide) rfl (fun ls hl => ?_)
                          refine lv_goto (tgt := 44) hx hb dX9_findSpans_152 (by decide) ?_
                          exact ih44 x4_44 x5_44 (x6_44 + (1 : Int32)) e4_44 e5_44 _ _ _ hM hP hD hS (lv_sub hl [2, 3, 4, 5, 6, 7, 0] rfl) K
                        · have hM := g_neg c77 hM
                          refine lv_aload_n hx hb dX9_findSpans_80 rfl (lv_at hl 1 rfl) ?_
                          refine va_get (D := D) (ci := 9) (v := .ref h0_mostTime) (C := RX9) (T := TX9) (N := 38) hx hb hts iX9 hown hK hP 0 rfl rfl 27 (by decide) k63 (fun _ h9 => h9) rfl dX9_findSpans_81 ?_
                          refine lv_iload hx hb dX9_findSpans_84 (lv_at hl 0 rfl) ?_
                          obtain ⟨h86, hM⟩ := gi_some hM
                          refine va_iald hx hb hK hP 5 2 rfl rfl h86 dX9_findSpans_86 ?_
                          refine lv_iconst (v := -1) hx hb dX9_findSpans_87 (by decide) ?_
                          refine lv_icmp_eq (tgt := 149) hx hb dX9_findSpans_88 (by decide) (fun c88 => ?_) (fun c88 => ?_)
                          · have hM := g_pos c88 hM
                            refine lv_iinc (v := x6_44 + (1 : Int32)) (lv' := [(6, .int (x6_44 + (1 : Int32))), (7, .int r65), (0, .ref h0), (1, .int p1), (2, .int x2_2), (3, .int x3_10), (4, .int x4_44), (5, .int x5_44)]) hx hb dX9_findSpans_149 hl (k := 7) rfl rfl (by decide) rfl (fun ls hl => ?_)
                            refine lv_goto (tgt := 44) hx hb dX9_findSpans_152 (by decide) ?_
                            exact ih44 x4_44 x5_44 (x6_44 + (1 : Int32)) e4_44 e5_44 _ _ _ hM hP hD hS (lv_sub hl [2, 3, 4, 5, 6, 7, 0] rfl) K
                          · have hM := g_neg c88 hM
                            refine lv_iload hx hb dX9_findSpans_91 (lv_at hl 5 rfl) ?_
                            refine lv_iconst (v := -1) hx hb dX9_findSpans_93 (by decide) ?_
                            have K121 : ∀ (s0_121 : Int32) (H : Heap) (locs : List Loc) (ls : Array Slot), f9_findSpans_J121 N v_mostTime_10 x5_44 x6_44 r65 (f9_findSpans_L44 N v_parts v_ways x2_2 x3_10 v_leastTime_10 v_mostTime_10 n44) s0_121 = some (e4_44, e5_44) → va_P D vwCl [(h0, .inr (9, [oh0_0, oh0_1, oh0_2, .ref h0_parts, .ref h0_rates, .ref h0_ways, oh0_6, oh0_7, oh0_8, oh0_9, oh0_10, oh0_11, oh0_12, oh0_13, oh0_14, oh0_15, oh0_16, oh0_17, oh0_18, oh0_19, oh0_20, oh0_21, oh0_22, oh0_23, oh0_24, oh0_25, .ref h0_leastTime, .ref h0_mostTime, oh0_28, oh0_29, oh0_30, oh0_31, oh0_32, oh0_33, oh0_34, oh0_35, oh0_36, oh0_37])), (h0_parts, .inl (cy 2, 2, .inl v_parts)), (h0_rates, .inl (cy 2, 14, .inl v_rates)), (h0_ways, .inl (cy 2, 14, .inl v_ways)), (h0_leastTime, .inl (cy 2, 287, .inl v_leastTime_10)), (h0_mostTime, .inl (cy 2, 287, .inl v_mostTime_10))] H → va_D A [(h0, .inr (9, [oh0_0, oh0_1, oh0_2, .ref h0_parts, .ref h0_rates, .ref h0_ways, oh0_6, oh0_7, oh0_8, oh0_9, oh0_10, oh0_11, oh0_12, oh0_13, oh0_14, oh0_15, oh0_16, oh0_17, oh0_18, oh0_19, oh0_20, oh0_21, oh0_22, oh0_23, oh0_24, oh0_25, .ref h0_leastTime, .ref h0_mostTime, oh0_28, oh0_29, oh0_30, oh0_31, oh0_32, oh0_33, oh0_34, oh0_35, oh0_36, oh0_37])), (h0_parts, .inl (cy 2, 2, .inl v_parts)), (h0_rates, .inl (cy 2, 14, .inl v_rates)), (h0_ways, .inl (cy 2, 14, .inl v_ways)), (h0_leastTime, .inl (cy 2, 287, .inl v_leastTime_10)), (h0_mostTime, .inl (cy 2, 287, .inl v_mostTime_10))] → va_S A s.heap H locs → lv_has ls 8 [(0, .ref h0), (1, .int p1), (2, .int x2_2), (3, .int x3_10), (5, .int x5_44), (6, .int x6_44), (7, .int r65)] → W p l e r9_findSpans s m args below meth c H locs 0 0 Q (F0 m 121 ls [.int s0_121]) := by
                              intro s0_121 H locs ls hM hP hD hS hl
                              unfold f9_findSpans_J121 at hM
                              refine lv_istore (lv' := [(4, .int s0_121), (0, .ref h0), (1, .int p1), (2, .int x2_2), (3, .int x3_10), (5, .int x5_44), (6, .int x6_44), (7, .int r65)]) hx hb dX9_findSpans_121 hl (by decide) rfl (fun ls hl => ?_)
                              refine lv_aload_n hx hb dX9_findSpans_123 rfl (lv_at hl 1 rfl) ?_
                              refine va_get (D := D) (ci := 9) (v := .ref h0_mostTime) (C := RX9) (T := TX9) (N := 38) hx hb hts iX9 hown hK hP 0 rfl rfl 27 (by decide) k63 (fun _ h9 => h9) rfl dX9_findSpans_124 ?_
                              refine lv_iload hx hb dX9_findSpans_127 (lv_at hl 7 rfl) ?_
                              obtain ⟨h129, hM⟩ := gi_some hM
                              refine va_iald hx hb hK hP 5 2 rfl rfl h129 dX9_findSpans_129 ?_
                              refine lv_iload hx hb dX9_findSpans_130 (lv_at hl 5 rfl) ?_
                              refine lv_icmp_le (tgt := 145) hx hb dX9_findSpans_132 (by decide) (fun c132 => ?_) (fun c132 => ?_)
                              · have hM := g_pos c132 hM
                                refine lv_iload hx hb dX9_findSpans_145 (lv_at hl 5 rfl) ?_
                                refine lv_istore (lv' := [(5, .int x5_44), (4, .int s0_121), (0, .ref h0), (1, .int p1), (2, .int x2_2), (3, .int x3_10), (6, .int x6_44), (7, .int r65)]) hx hb dX9_findSpans_147 hl (by decide) rfl (fun ls hl => ?_)
                                refine lv_iinc (v := x6_44 + (1 : Int32)) (lv' := [(6, .int (x6_44 + (1 : Int32))), (5, .int x5_44), (4, .int s0_121), (0, .ref h0), (1, .int p1), (2, .int x2_2), (3, .int x3_10), (7, .int r65)]) hx hb dX9_findSpans_149 hl (k := 6) rfl rfl (by decide) rfl (fun ls hl => ?_)
                                refine lv_goto (tgt := 44) hx hb dX9_findSpans_152 (by decide) ?_
                                exact ih44 s0_121 x5_44 (x6_44 + (1 : Int32)) e4_44 e5_44 _ _ _ hM hP hD hS (lv_sub hl [3, 4, 5, 6, 2, 1, 0] rfl) K
                              · have hM := g_neg c132 hM
                                refine lv_aload_n hx hb dX9_findSpans_135 rfl (lv_at hl 1 rfl) ?_
                                refine va_get (D := D) (ci := 9) (v := .ref h0_mostTime) (C := RX9) (T := TX9) (N := 38) hx hb hts iX9 hown hK hP 0 rfl rfl 27 (by decide) k63 (fun _ h9 => h9) rfl dX9_findSpans_136 ?_
                                refine lv_iload hx hb dX9_findSpans_139 (lv_at hl 7 rfl) ?_
                                obtain ⟨h141, hM⟩ := gi_some hM
                                refine va_iald hx hb hK hP 5 2 rfl rfl h141 dX9_findSpans_141 ?_
                                refine lv_goto (tgt := 147) hx hb dX9_findSpans_142 (by decide) ?_
                                refine lv_istore (lv' := [(5, .int (v_mostTime_10 r65.toNatClampNeg)), (4, .int s0_121), (0, .ref h0), (1, .int p1), (2, .int x2_2), (3, .int x3_10), (6, .int x6_44), (7, .int r65)]) hx hb dX9_findSpans_147 hl (by decide) rfl (fun ls hl => ?_)
                                refine lv_iinc (v := x6_44 + (1 : Int32)) (lv' := [(6, .int (x6_44 + (1 : Int32))), (5, .int (v_mostTime_10 r65.toNatClampNeg)), (4, .int s0_121), (0, .ref h0), (1, .int p1), (2, .int x2_2), (3, .int x3_10), (7, .int r65)]) hx hb dX9_findSpans_149 hl (k := 6) rfl rfl (by decide) rfl (fun ls hl => ?_)
                                refine lv_goto (tgt := 44) hx hb dX9_findSpans_152 (by decide) ?_
                                exact ih44 s0_121 (v_mostTime_10 r65.toNatClampNeg) (x6_44 + (1 : Int32)) e4_44 e5_44 _ _ _ hM hP hD hS (lv_sub hl [3, 4, 5, 6, 2, 1, 0] rfl) K
                            refine lv_icmp_eq (tgt := 109) hx hb dX9_findSpans_94 (by decide) (fun c94 => ?_) (fun c94 => ?_)
                            · have hM := g_pos c94 hM
                              refine lv_aload_n hx hb dX9_findSpans_109 rfl (lv_at hl 1 rfl) ?_
                              refine va_get (D := D) (ci := 9) (v := .ref h0_leastTime) (C := RX9) (T := TX9) (N := 38) hx hb hts iX9 hown hK hP 0 rfl rfl 26 (by decide) k60 (fun _ h9 => h9) rfl dX9_findSpans_110 ?_
                              refine lv_iload hx hb dX9_findSpans_113 (lv_at hl 0 rfl) ?_
                              obtain ⟨h115, hM⟩ := gi_some hM
                              refine va_iald hx hb hK hP 4 2 rfl rfl h115 dX9_findSpans_115 ?_
                              refine lv_goto (tgt := 121) hx hb dX9_findSpans_116 (by decide) ?_
                              exact K121 (v_leastTime_10 r65.toNatClampNeg) _ _ _ hM hP hD hS (lv_sub hl [1, 2, 3, 4, 6, 7, 0] rfl)
                            · have hM := g_neg c94 hM
                              refine lv_aload_n hx hb dX9_findSpans_97 rfl (lv_at hl 1 rfl) ?_
                              refine va_get (D := D) (ci := 9) (v := .ref h0_leastTime) (C := RX9) (T := TX9) (N := 38) hx hb hts iX9 hown hK hP 0 rfl rfl 26 (by decide) k60 (fun _ h9 => h9) rfl dX9_findSpans_98 ?_
                              refine lv_iload hx hb dX9_findSpans_101 (lv_at hl 0 rfl) ?_
                              obtain ⟨h103, hM⟩ := gi_some hM
                              refine va_iald hx hb hK hP 4 2 rfl rfl h103 dX9_findSpans_103 ?_
                              refine lv_iload hx hb dX9_findSpans_104 (lv_at hl 5 rfl) ?_
                              refine lv_icmp_ge (tgt := 119) hx hb dX9_findSpans_106 (by decide) (fun c106 => ?_) (fun c106 => ?_)
                              · have hM := g_pos c106 hM
                                refine lv_iload hx hb dX9_findSpans_119 (lv_at hl 5 rfl) ?_
                                exact K121 x4_44 _ _ _ hM hP hD hS (lv_sub hl [1, 2, 3, 4, 6, 7, 0] rfl)
                              · have hM := g_neg c106 hM
                                refine lv_aload_n hx hb dX9_findSpans_109 rfl (lv_at hl 1 rfl) ?_
                                refine va_get (D := D) (ci := 9) (v := .ref h0_leastTime) (C := RX9) (T := TX9) (N := 38) hx hb hts iX9 hown hK hP 0 rfl rfl 26 (by decide) k60 (fun _ h9 => h9) rfl dX9_findSpans_110 ?_
                                refine lv_iload hx hb dX9_findSpans_113 (lv_at hl 0 rfl) ?_
                                obtain ⟨h115, hM⟩ := gi_some hM
                                refine va_iald hx hb hK hP 4 2 rfl rfl h115 dX9_findSpans_115 ?_
                                refine lv_goto (tgt := 121) hx hb dX9_findSpans_116 (by decide) ?_
                                exact K121 (v_leastTime_10 r65.toNatClampNeg) _ _ _ hM hP hD hS (lv_sub hl [1, 2, 3, 4, 6, 7, 0] rfl)
                obtain ⟨e4_44, e5_44, hL44, hM⟩ := ob2_some hM
                refine L44 N s0_35 s0_35 (0 : Int32) e4_44 e5_44 _ _ _ hL44 hP hD hS (lv_sub hl [3, 4, 5, 6, 2, 1, 0] rfl) ?_
                intro H locs ls hP hD hS hl
                refine lv_aload_n hx hb dX9_findSpans_155 rfl (lv_at hl 0 rfl) ?_
                refine va_get (D := D) (ci := 9) (v := .ref h0_leastTime) (C := RX9) (T := TX9) (N := 38) hx hb hts iX9 hown hK hP 0 rfl rfl 26 (by decide) k60 (fun _ h9 => h9) rfl dX9_findSpans_156 ?_
                refine lv_iload_n hx hb dX9_findSpans_159 rfl (lv_at hl 2 rfl) ?_
                refine lv_iload_n hx hb dX9_findSpans_160 rfl (lv_at hl 3 rfl) ?_
                obtain ⟨r161, hc161, hM⟩ := ob1_some hM
                refine cl_si (As := [.int x2_2, .int x3_10]) (rest := [.ref h0_leastTime]) (wr := [(h0, .inr (9, [oh0_0, oh0_1, oh0_2, .ref h0_parts, .ref h0_rates, .ref h0_ways, oh0_6, oh0_7, oh0_8, oh0_9, oh0_10, oh0_11, oh0_12, oh0_13, oh0_14, oh0_15, oh0_16, oh0_17, oh0_18, oh0_19, oh0_20, oh0_21, oh0_22, oh0_23, oh0_24, oh0_25, .ref h0_leastTime, .ref h0_mostTime, oh0_28, oh0_29, oh0_30, oh0_31, oh0_32, oh0_33, oh0_34, oh0_35, oh0_36, oh0_37])), (h0_parts, .inl (cy 2, 2, .inl v_parts)), (h0_rates, .inl (cy 2, 14, .inl v_rates)), (h0_ways, .inl (cy 2, 14, .inl v_ways)), (h0_leastTime, .inl (cy 2, 287, .inl v_leastTime_10)), (h0_mostTime, .inl (cy 2, 287, .inl v_mostTime_10))]) (ws2 := [(h0, .inr (9, [oh0_0, oh0_1, oh0_2, .ref h0_parts, .ref h0_rates, .ref h0_ways, oh0_6, oh0_7, oh0_8, oh0_9, oh0_10, oh0_11, oh0_12, oh0_13, oh0_14, oh0_15, oh0_16, oh0_17, oh0_18, oh0_19, oh0_20, oh0_21, oh0_22, oh0_23, oh0_24, oh0_25, .ref h0_leastTime, .ref h0_mostTime, oh0_28, oh0_29, oh0_30, oh0_31, oh0_32, oh0_33, oh0_34, oh0_35, oh0_36, oh0_37])), (h0_parts, .inl (cy 2, 2, .inl v_parts)), (h0_rates, .inl (cy 2, 14, .inl v_rates)), (h0_ways, .inl (cy 2, 14, .inl v_ways)), (h0_leastTime, .inl (cy 2, 287, .inl v_leastTime_10)), (h0_mostTime, .inl (cy 2, 287, .inl v_mostTime_10))]) (isC := []) (isR := [0, 1, 2, 3, 4, 5]) (pm := [0, 1, 2, 3, 4, 5]) hx hb hml hown hts (c9_index l D cy N x2_2 x3_10 r161 hc161) (va_cwS 2 hts gX9_findSpans_X9_index rfl rfl rfl (by decide +kernel) ⟨Nat.le_of_ble_eq_true rfl, Nat.le_of_ble_eq_true rfl⟩) hK hP hD hS hA rfl rfl rfl (by decide) rfl rfl rfl hl.1 (Nat.le_of_ble_eq_true rfl) dX9_findSpans_161 ⟨Nat.zero_le _, Nat.zero_le _⟩ rfl rfl (fun H locs hP hD hS => ?_)
                refine lv_iload hx hb dX9_findSpans_164 (lv_at hl 5 rfl) ?_
                refine lv_iconst (v := -1) hx hb dX9_findSpans_166 (by decide) ?_
                have K183 : ∀ (s0_183 : Int32) (s1_183 : Int32) (H : Heap) (locs : List Loc) (ls : Array Slot), f9_findSpans_J183 N v_rates x2_2 x3_10 v_leastTime_10 v_mostTime_10 e5_44 (f9_findSpans_L10 N p1 v_parts v_rates v_ways x2_2 n10) s0_183 s1_183 = some (v_leastTime_e10, v_mostTime_e10) → va_P D vwCl [(h0, .inr (9, [oh0_0, oh0_1, oh0_2, .ref h0_parts, .ref h0_rates, .ref h0_ways, oh0_6, oh0_7, oh0_8, oh0_9, oh0_10, oh0_11, oh0_12, oh0_13, oh0_14, oh0_15, oh0_16, oh0_17, oh0_18, oh0_19, oh0_20, oh0_21, oh0_22, oh0_23, oh0_24, oh0_25, .ref h0_leastTime, .ref h0_mostTime, oh0_28, oh0_29, oh0_30, oh0_31, oh0_32, oh0_33, oh0_34, oh0_35, oh0_36, oh0_37])), (h0_parts, .inl (cy 2, 2, .inl v_parts)), (h0_rates, .inl (cy 2, 14, .inl v_rates)), (h0_ways, .inl (cy 2, 14, .inl v_ways)), (h0_leastTime, .inl (cy 2, 287, .inl v_leastTime_10)), (h0_mostTime, .inl (cy 2, 287, .inl v_mostTime_10))] H → va_D A [(h0, .inr (9, [oh0_0, oh0_1, oh0_2, .ref h0_parts, .ref h0_rates, .ref h0_ways, oh0_6, oh0_7, oh0_8, oh0_9, oh0_10, oh0_11, oh0_12, oh0_13, oh0_14, oh0_15, oh0_16, oh0_17, oh0_18, oh0_19, oh0_20, oh0_21, oh0_22, oh0_23, oh0_24, oh0_25, .ref h0_leastTime, .ref h0_mostTime, oh0_28, oh0_29, oh0_30, oh0_31, oh0_32, oh0_33, oh0_34, oh0_35, oh0_36, oh0_37])), (h0_parts, .inl (cy 2, 2, .inl v_parts)), (h0_rates, .inl (cy 2, 14, .inl v_rates)), (h0_ways, .inl (cy 2, 14, .inl v_ways)), (h0_leastTime, .inl (cy 2, 287, .inl v_leastTime_10)), (h0_mostTime, .inl (cy 2, 287, .inl v_mostTime_10))] → va_S A s.heap H locs → lv_has ls 8 [(0, .ref h0), (1, .int p1), (2, .int x2_2), (3, .int x3_10), (5, .int e5_44)] → W p l e r9_findSpans s m args below meth c H locs 0 0 Q (F0 m 183 ls [.int s0_183, .int s1_183, .ref h0_leastTime]) := by
                  intro s0_183 s1_183 H locs ls hM hP hD hS hl
                  unfold f9_findSpans_J183 at hM
                  obtain ⟨h183, hM⟩ := gi_some hM
                  refine va_iast hx hb hK hP hD hS 4 2 rfl rfl h183 dX9_findSpans_183 (fun H locs hP hD hS => ?_)
                  have hP : va_P D vwCl [(h0, .inr (9, [oh0_0, oh0_1, oh0_2, .ref h0_parts, .ref h0_rates, .ref h0_ways, oh0_6, oh0_7, oh0_8, oh0_9, oh0_10, oh0_11, oh0_12, oh0_13, oh0_14, oh0_15, oh0_16, oh0_17, oh0_18, oh0_19, oh0_20, oh0_21, oh0_22, oh0_23, oh0_24, oh0_25, .ref h0_leastTime, .ref h0_mostTime, oh0_28, oh0_29, oh0_30, oh0_31, oh0_32, oh0_33, oh0_34, oh0_35, oh0_36, oh0_37])), (h0_parts, .inl (cy 2, 2, .inl v_parts)), (h0_rates, .inl (cy 2, 14, .inl v_rates)), (h0_ways, .inl (cy 2, 14, .inl v_ways)), (h0_leastTime, .inl (cy 2, 287, .inl (upd v_leastTime_10 s1_183.toNatClampNeg s0_183))), (h0_mostTime, .inl (cy 2, 287, .inl v_mostTime_10))] H := hP
                  have hD : va_D A [(h0, .inr (9, [oh0_0, oh0_1, oh0_2, .ref h0_parts, .ref h0_rates, .ref h0_ways, oh0_6, oh0_7, oh0_8, oh0_9, oh0_10, oh0_11, oh0_12, oh0_13, oh0_14, oh0_15, oh0_16, oh0_17, oh0_18, oh0_19, oh0_20, oh0_21, oh0_22, oh0_23, oh0_24, oh0_25, .ref h0_leastTime, .ref h0_mostTime, oh0_28, oh0_29, oh0_30, oh0_31, oh0_32, oh0_33, oh0_34, oh0_35, oh0_36, oh0_37])), (h0_parts, .inl (cy 2, 2, .inl v_parts)), (h0_rates, .inl (cy 2, 14, .inl v_rates)), (h0_ways, .inl (cy 2, 14, .inl v_ways)), (h0_leastTime, .inl (cy 2, 287, .inl (upd v_leastTime_10 s1_183.toNatClampNeg s0_183))), (h0_mostTime, .inl (cy 2, 287, .inl v_mostTime_10))] := hD
                  refine lv_aload_n hx hb dX9_findSpans_184 rfl (lv_at hl 0 rfl) ?_
                  refine va_get (D := D) (ci := 9) (v := .ref h0_mostTime) (C := RX9) (T := TX9) (N := 38) hx hb hts iX9 hown hK hP 0 rfl rfl 27 (by decide) k63 (fun _ h9 => h9) rfl dX9_findSpans_185 ?_
                  refine lv_iload_n hx hb dX9_findSpans_188 rfl (lv_at hl 2 rfl) ?_
                  refine lv_iload_n hx hb dX9_findSpans_189 rfl (lv_at hl 3 rfl) ?_
                  obtain ⟨r190, hc190, hM⟩ := ob1_some hM
                  refine cl_si (As := [.int x2_2, .int x3_10]) (rest := [.ref h0_mostTime]) (wr := [(h0, .inr (9, [oh0_0, oh0_1, oh0_2, .ref h0_parts, .ref h0_rates, .ref h0_ways, oh0_6, oh0_7, oh0_8, oh0_9, oh0_10, oh0_11, oh0_12, oh0_13, oh0_14, oh0_15, oh0_16, oh0_17, oh0_18, oh0_19, oh0_20, oh0_21, oh0_22, oh0_23, oh0_24, oh0_25, .ref h0_leastTime, .ref h0_mostTime, oh0_28, oh0_29, oh0_30, oh0_31, oh0_32, oh0_33, oh0_34, oh0_35, oh0_36, oh0_37])), (h0_parts, .inl (cy 2, 2, .inl v_parts)), (h0_rates, .inl (cy 2, 14, .inl v_rates)), (h0_ways, .inl (cy 2, 14, .inl v_ways)), (h0_leastTime, .inl (cy 2, 287, .inl (upd v_leastTime_10 s1_183.toNatClampNeg s0_183))), (h0_mostTime, .inl (cy 2, 287, .inl v_mostTime_10))]) (ws2 := [(h0, .inr (9, [oh0_0, oh0_1, oh0_2, .ref h0_parts, .ref h0_rates, .ref h0_ways, oh0_6, oh0_7, oh0_8, oh0_9, oh0_10, oh0_11, oh0_12, oh0_13, oh0_14, oh0_15, oh0_16, oh0_17, oh0_18, oh0_19, oh0_20, oh0_21, oh0_22, oh0_23, oh0_24, oh0_25, .ref h0_leastTime, .ref h0_mostTime, oh0_28, oh0_29, oh0_30, oh0_31, oh0_32, oh0_33, oh0_34, oh0_35, oh0_36, oh0_37])), (h0_parts, .inl (cy 2, 2, .inl v_parts)), (h0_rates, .inl (cy 2, 14, .inl v_rates)), (h0_ways, .inl (cy 2, 14, .inl v_ways)), (h0_leastTime, .inl (cy 2, 287, .inl (upd v_leastTime_10 s1_183.toNatClampNeg s0_183))), (h0_mostTime, .inl (cy 2, 287, .inl v_mostTime_10))]) (isC := []) (isR := [0, 1, 2, 3, 4, 5]) (pm := [0, 1, 2, 3, 4, 5]) hx hb hml hown hts (c9_index l D cy N x2_2 x3_10 r190 hc190) (va_cwS 2 hts gX9_findSpans_X9_index rfl rfl rfl (by decide +kernel) ⟨Nat.le_of_ble_eq_true rfl, Nat.le_of_ble_eq_true rfl⟩) hK hP hD hS hA rfl rfl rfl (by decide) rfl rfl rfl hl.1 (Nat.le_of_ble_eq_true rfl) dX9_findSpans_190 ⟨Nat.zero_le _, Nat.zero_le _⟩ rfl rfl (fun H locs hP hD hS => ?_)
                  refine lv_iload hx hb dX9_findSpans_193 (lv_at hl 4 rfl) ?_
                  refine lv_iconst (v := -1) hx hb dX9_findSpans_195 (by decide) ?_
                  refine lv_icmp_ne (tgt := 203) hx hb dX9_findSpans_196 (by decide) (fun c196 => ?_) (fun c196 => ?_)
                  · have hM := g_neg c196 hM
                    refine lv_iload hx hb dX9_findSpans_203 (lv_at hl 4 rfl) ?_
                    refine lv_aload_n hx hb dX9_findSpans_205 rfl (lv_at hl 0 rfl) ?_
                    refine va_get (D := D) (ci := 9) (v := .ref h0_rates) (C := RX9) (T := TX9) (N := 38) hx hb hts iX9 hown hK hP 0 rfl rfl 4 (by decide) k17 (fun _ h9 => h9) rfl dX9_findSpans_206 ?_
                    refine lv_iload_n hx hb dX9_findSpans_209 rfl (lv_at hl 3 rfl) ?_
                    obtain ⟨h210, hM⟩ := gi_some hM
                    refine va_iald hx hb hK hP 2 2 rfl rfl h210 dX9_findSpans_210 ?_
                    refine lv_iadd hx hb dX9_findSpans_211 ?_
                    obtain ⟨h212, hM⟩ := gi_some hM
                    refine va_iast hx hb hK hP hD hS 5 2 rfl rfl h212 dX9_findSpans_212 (fun H locs hP hD hS => ?_)
                    have hP : va_P D vwCl [(h0, .inr (9, [oh0_0, oh0_1, oh0_2, .ref h0_parts, .ref h0_rates, .ref h0_ways, oh0_6, oh0_7, oh0_8, oh0_9, oh0_10, oh0_11, oh0_12, oh0_13, oh0_14, oh0_15, oh0_16, oh0_17, oh0_18, oh0_19, oh0_20, oh0_21, oh0_22, oh0_23, oh0_24, oh0_25, .ref h0_leastTime, .ref h0_mostTime, oh0_28, oh0_29, oh0_30, oh0_31, oh0_32, oh0_33, oh0_34, oh0_35, oh0_36, oh0_37])), (h0_parts, .inl (cy 2, 2, .inl v_parts)), (h0_rates, .inl (cy 2, 14, .inl v_rates)), (h0_ways, .inl (cy 2, 14, .inl v_ways)), (h0_leastTime, .inl (cy 2, 287, .inl (upd v_leastTime_10 s1_183.toNatClampNeg s0_183))), (h0_mostTime, .inl (cy 2, 287, .inl (upd v_mostTime_10 r190.toNatClampNeg (e5_44 + (v_rates x3_10.toNatClampNeg)))))] H := hP
                    have hD : va_D A [(h0, .inr (9, [oh0_0, oh0_1, oh0_2, .ref h0_parts, .ref h0_rates, .ref h0_ways, oh0_6, oh0_7, oh0_8, oh0_9, oh0_10, oh0_11, oh0_12, oh0_13, oh0_14, oh0_15, oh0_16, oh0_17, oh0_18, oh0_19, oh0_20, oh0_21, oh0_22, oh0_23, oh0_24, oh0_25, .ref h0_leastTime, .ref h0_mostTime, oh0_28, oh0_29, oh0_30, oh0_31, oh0_32, oh0_33, oh0_34, oh0_35, oh0_36, oh0_37])), (h0_parts, .inl (cy 2, 2, .inl v_parts)), (h0_rates, .inl (cy 2, 14, .inl v_rates)), (h0_ways, .inl (cy 2, 14, .inl v_ways)), (h0_leastTime, .inl (cy 2, 287, .inl (upd v_leastTime_10 s1_183.toNatClampNeg s0_183))), (h0_mostTime, .inl (cy 2, 287, .inl (upd v_mostTime_10 r190.toNatClampNeg (e5_44 + (v_rates x3_10.toNatClampNeg)))))] := hD
                    refine lv_iinc (v := x3_10 + (1 : Int32)) (lv' := [(3, .int (x3_10 + (1 : Int32))), (0, .ref h0), (1, .int p1), (2, .int x2_2), (5, .int e5_44)]) hx hb dX9_findSpans_213 hl (k := 3) rfl rfl (by decide) rfl (fun ls hl => ?_)
                    refine lv_goto (tgt := 10) hx hb dX9_findSpans_216 (by decide) ?_
                    exact ih10 (x3_10 + (1 : Int32)) (upd v_leastTime_10 s1_183.toNatClampNeg s0_183) (upd v_mostTime_10 r190.toNatClampNeg (e5_44 + (v_rates x3_10.toNatClampNeg))) v_leastTime_e10 v_mostTime_e10 _ _ _ hM hP hD hS (lv_sub hl [1, 2, 3, 0] rfl) K
                  · have hM := g_pos c196 hM
                    refine lv_iconst (v := -1) hx hb dX9_findSpans_199 (by decide) ?_
                    refine lv_goto (tgt := 212) hx hb dX9_findSpans_200 (by decide) ?_
                    obtain ⟨h212, hM⟩ := gi_some hM
                    refine va_iast hx hb hK hP hD hS 5 2 rfl rfl h212 dX9_findSpans_212 (fun H locs hP hD hS => ?_)
                    have hP : va_P D vwCl [(h0, .inr (9, [oh0_0, oh0_1, oh0_2, .ref h0_parts, .ref h0_rates, .ref h0_ways, oh0_6, oh0_7, oh0_8, oh0_9, oh0_10, oh0_11, oh0_12, oh0_13, oh0_14, oh0_15, oh0_16, oh0_17, oh0_18, oh0_19, oh0_20, oh0_21, oh0_22, oh0_23, oh0_24, oh0_25, .ref h0_leastTime, .ref h0_mostTime, oh0_28, oh0_29, oh0_30, oh0_31, oh0_32, oh0_33, oh0_34, oh0_35, oh0_36, oh0_37])), (h0_parts, .inl (cy 2, 2, .inl v_parts)), (h0_rates, .inl (cy 2, 14, .inl v_rates)), (h0_ways, .inl (cy 2, 14, .inl v_ways)), (h0_leastTime, .inl (cy 2, 287, .inl (upd v_leastTime_10 s1_183.toNatClampNeg s0_183))), (h0_mostTime, .inl (cy 2, 287, .inl (upd v_mostTime_10 r190.toNatClampNeg (-1 : Int32))))] H := hP
                    have hD : va_D A [(h0, .inr (9, [oh0_0, oh0_1, oh0_2, .ref h0_parts, .ref h0_rates, .ref h0_ways, oh0_6, oh0_7, oh0_8, oh0_9, oh0_10, oh0_11, oh0_12, oh0_13, oh0_14, oh0_15, oh0_16, oh0_17, oh0_18, oh0_19, oh0_20, oh0_21, oh0_22, oh0_23, oh0_24, oh0_25, .ref h0_leastTime, .ref h0_mostTime, oh0_28, oh0_29, oh0_30, oh0_31, oh0_32, oh0_33, oh0_34, oh0_35, oh0_36, oh0_37])), (h0_parts, .inl (cy 2, 2, .inl v_parts)), (h0_rates, .inl (cy 2, 14, .inl v_rates)), (h0_ways, .inl (cy 2, 14, .inl v_ways)), (h0_leastTime, .inl (cy 2, 287, .inl (upd v_leastTime_10 s1_183.toNatClampNeg s0_183))), (h0_mostTime, .inl (cy 2, 287, .inl (upd v_mostTime_10 r190.toNatClampNeg (-1 : Int32))))] := hD
                    refine lv_iinc (v := x3_10 + (1 : Int32)) (lv' := [(3, .int (x3_10 + (1 : Int32))), (0, .ref h0), (1, .int p1), (2, .int x2_2), (5, .int e5_44)]) hx hb dX9_findSpans_213 hl (k := 3) rfl rfl (by decide) rfl (fun ls hl => ?_)
                    refine lv_goto (tgt := 10) hx hb dX9_findSpans_216 (by decide) ?_
                    exact ih10 (x3_10 + (1 : Int32)) (upd v_leastTime_10 s1_183.toNatClampNeg s0_183) (upd v_mostTime_10 r190.toNatClampNeg (-1 : Int32)) v_leastTime_e10 v_mostTime_e10 _ _ _ hM hP hD hS (lv_sub hl [1, 2, 3, 0] rfl) K
                refine lv_icmp_ne (tgt := 174) hx hb dX9_findSpans_167 (by decide) (fun c167 => ?_) (fun c167 => ?_)
                · have hM := g_neg c167 hM
                  refine lv_iload hx hb dX9_findSpans_174 (lv_at hl 4 rfl) ?_
                  refine lv_aload_n hx hb dX9_findSpans_176 rfl (lv_at hl 0 rfl) ?_
                  refine va_get (D := D) (ci := 9) (v := .ref h0_rates) (C := RX9) (T := TX9) (N := 38) hx hb hts iX9 hown hK hP 0 rfl rfl 4 (by decide) k17 (fun _ h9 => h9) rfl dX9_findSpans_177 ?_
                  refine lv_iload_n hx hb dX9_findSpans_180 rfl (lv_at hl 3 rfl) ?_
                  obtain ⟨h181, hM⟩ := gi_some hM
                  refine va_iald hx hb hK hP 2 2 rfl rfl h181 dX9_findSpans_181 ?_
                  refine lv_iadd hx hb dX9_findSpans_182 ?_
                  exact K183 (e4_44 + (v_rates x3_10.toNatClampNeg)) r161 _ _ _ hM hP hD hS (lv_sub hl [0, 1, 2, 3, 5] rfl)
                · have hM := g_pos c167 hM
                  refine lv_iconst (v := -1) hx hb dX9_findSpans_170 (by decide) ?_
                  refine lv_goto (tgt := 183) hx hb dX9_findSpans_171 (by decide) ?_
                  exact K183 (-1 : Int32) r161 _ _ _ hM hP hD hS (lv_sub hl [0, 1, 2, 3, 5] rfl)
              refine lv_icmp_ne (tgt := 34) hx hb dX9_findSpans_22 (by decide) (fun c22 => ?_) (fun c22 => ?_)
              · have hM := g_neg c22 hM
                refine lv_iconst (v := -1) hx hb dX9_findSpans_34 (by decide) ?_
                exact K35 (-1 : Int32) _ _ _ hM hP hD hS (lv_sub hl [0, 1, 2, 3] rfl)
              · have hM := g_pos c22 hM
                refine lv_iload_n hx hb dX9_findSpans_25 rfl (lv_at hl 3 rfl) ?_
                refine lv_iload_n hx hb dX9_findSpans_26 rfl (lv_at hl 1 rfl) ?_
                refine lv_icmp_ne (tgt := 34) hx hb dX9_findSpans_27 (by decide) (fun c27 => ?_) (fun c27 => ?_)
                · have hM := g_neg c27 hM
                  refine lv_iconst (v := -1) hx hb dX9_findSpans_34 (by decide) ?_
                  exact K35 (-1 : Int32) _ _ _ hM hP hD hS (lv_sub hl [0, 1, 2, 3] rfl)
                · have hM := g_pos c27 hM
                  refine lv_iconst (v := 0) hx hb dX9_findSpans_30 (by decide) ?_
                  refine lv_goto (tgt := 35) hx hb dX9_findSpans_31 (by decide) ?_
                  exact K35 (0 : Int32) _ _ _ hM hP hD hS (lv_sub hl [0, 1, 2, 3] rfl)
        obtain ⟨v_leastTime_e10, v_mostTime_e10, hL10, hM⟩ := ob2_some hM
        refine L10 N (0 : Int32) v_leastTime_2 v_mostTime_2 v_leastTime_e10 v_mostTime_e10 _ _ _ hL10 hP hD hS (lv_sub hl [1, 2, 3, 0] rfl) ?_
        intro H locs ls hP hD hS hl
        refine lv_iinc (v := x2_2 + (1 : Int32)) (lv' := [(2, .int (x2_2 + (1 : Int32))), (0, .ref h0), (1, .int p1)]) hx hb dX9_findSpans_219 hl (k := 2) rfl rfl (by decide) rfl (fun ls hl => ?_)
        refine lv_goto (tgt := 2) hx hb dX9_findSpans_222 (by decide) ?_
        exact ih2 (x2_2 + (1 : Int32)) v_leastTime_e10 v_mostTime_e10 v_leastTime_e2 v_mostTime_e2 _ _ _ hM hP hD hS (lv_sub hl [1, 2, 0] rfl) K
  obtain ⟨v_leastTime_e2, v_mostTime_e2, hL2, hM⟩ := ob2_some hM
  refine L2 N (1 : Int32) v_leastTime v_mostTime v_leastTime_e2 v_mostTime_e2 _ _ _ hL2 hP hD hS (lv_sub hl [1, 2, 0] rfl) ?_
  intro H locs ls hP hD hS hl
  obtain ⟨rfl, rfl⟩ := si2 hM
  exact hret _ _ _ _ dX9_findSpans_225 hP hD hS
