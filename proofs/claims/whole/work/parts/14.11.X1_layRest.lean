-- ===== X1_layRest layRest (LCaveYears$Cave;IIII)V =====
abbrev r1_layRest : Room := { frames := 3, cells := 0, slots := 0, locals := 65 }
def f1_layRest_L3 (N : Nat) (p5 : Int32) : Nat → Int32 → (Nat → Int64) → Option (Nat → Int64)
  | 0, _, _ => none
  | n + 1, x6_3, v_rest_3 => if p5 ≤ x6_3 then (some v_rest_3) else (if (94 : Int32) ≤ x6_3 then (some v_rest_3) else (gi x6_3 94 ((f1_layRest_L3 N p5 n) (x6_3 + (1 : Int32)) (vp_updL v_rest_3 x6_3.toNatClampNeg (0 : Int64)))))
def f1_layRest_L105 (N : Nat) (p3 : Int32) (p5 : Int32) (v_times : Nat → Nat → Int64) (x6_52 : Int32) : Nat → Int32 → (Nat → Int64) → Option (Nat → Int64)
  | 0, _, _ => none
  | n + 1, x8_105, v_rest_105 => if p5 ≤ x8_105 then (some v_rest_105) else (if (94 : Int32) ≤ x8_105 then (some v_rest_105) else (gi x8_105 94 (gi x8_105 94 (gi x8_105 94 ((f1_layRest_L105 N p3 p5 v_times x6_52 n) (x8_105 + (1 : Int32)) (vp_updL v_rest_105 x8_105.toNatClampNeg ((v_rest_105 x8_105.toNatClampNeg) ||| ((v_times (((p3 - (1 : Int32)) * (7 : Int32)) + x6_52).toNatClampNeg) x8_105.toNatClampNeg))))))))
def f1_layRest_L52 (N : Nat) (p3 : Int32) (p4 : Int32) (p5 : Int32) (v_times : Nat → Nat → Int64) (w1_parts : Int32) (w1_near : Nat → Int32) : Nat → Int32 → (Nat → Int64) → Option (Nat → Int64)
  | 0, _, _ => none
  | n + 1, x6_52, v_rest_52 => if (7 : Int32) ≤ x6_52 then (some v_rest_52) else (if p3 ≤ (1 : Int32) then ((f1_layRest_L52 N p3 p4 p5 v_times w1_parts w1_near n) (x6_52 + (1 : Int32)) v_rest_52) else (ob1 (f0_mayFollow N p4 x6_52 w1_parts w1_near) fun r69 => if r69 = (0 : Int32) then ((f1_layRest_L52 N p3 p4 p5 v_times w1_parts w1_near n) (x6_52 + (1 : Int32)) v_rest_52) else (ob1 (f1_isRow N (p3 - (1 : Int32)) x6_52) fun r80 => if r80 = (0 : Int32) then ((f1_layRest_L52 N p3 p4 p5 v_times w1_parts w1_near n) (x6_52 + (1 : Int32)) v_rest_52) else (gi (((p3 - (1 : Int32)) * (7 : Int32)) + x6_52) 287 (ob1 (f1_layRest_L105 N p3 p5 v_times x6_52 N (0 : Int32) v_rest_52) fun v_rest_e105 => (f1_layRest_L52 N p3 p4 p5 v_times w1_parts w1_near n) (x6_52 + (1 : Int32)) v_rest_e105)))))
def f1_layRest (N : Nat) (p2 : Int32) (p3 : Int32) (p4 : Int32) (p5 : Int32) (v_times : Nat → Nat → Int64) (v_rest : Nat → Int64) (w1_parts : Int32) (w1_near : Nat → Int32) : Option (Nat → Int64) :=
  ob1 (f1_layRest_L3 N p5 N (0 : Int32) v_rest) fun v_rest_e3 => if p3 = (1 : Int32) then (if p4 = p2 then (gi (0 : Int32) 94 (ob1 (f1_layRest_L52 N p3 p4 p5 v_times w1_parts w1_near N (0 : Int32) (vp_updL v_rest_e3 (0 : Int32).toNatClampNeg (1 : Int64))) fun v_rest_e52 => some v_rest_e52)) else (ob1 (f1_layRest_L52 N p3 p4 p5 v_times w1_parts w1_near N (0 : Int32) v_rest_e3) fun v_rest_e52 => some v_rest_e52)) else (ob1 (f1_layRest_L52 N p3 p4 p5 v_times w1_parts w1_near N (0 : Int32) v_rest_e3) fun v_rest_e52 => some v_rest_e52)
set_option maxHeartbeats 4000000 in
set_option maxRecDepth 100000 in
theorem c1_layRest (l : Launch) (D : va_G) (cy : Nat → ClassId) (N : Nat) (rh0_times : Nat → Nat) (h0 h0_times h0_rest g1 g1_near : Nat) (og1_1 og1_2 og1_3 og1_4 og1_5 og1_6 og1_7 og1_9 og1_10 og1_11 og1_12 : Value) (p2 : Int32) (p3 : Int32) (p4 : Int32) (p5 : Int32) (v_times : Nat → Nat → Int64) (v_rest : Nat → Int64) (w1_parts : Int32) (w1_near : Nat → Int32) (nv_rest : Nat → Int64) (hM : f1_layRest N p2 p3 p4 p5 v_times v_rest w1_parts w1_near = some nv_rest) (sz : Nat) : CTv l yX1_layRest wsX1_layRest r1_layRest [.ref h0, .ref g1, .int p2, .int p3, .int p4, .int p5] D cy sz ([(h0, .inr (1, [.ref h0_times, .ref h0_rest])), (h0_times, .inl (cy 6, 287, gO 287 rh0_times)), (h0_rest, .inl (cy 3, 94, .inr (.inl v_rest))), (g1, .inr (0, [.int w1_parts, og1_1, og1_2, og1_3, og1_4, og1_5, og1_6, og1_7, .ref g1_near, og1_9, og1_10, og1_11, og1_12])), (g1_near, .inl (cy 2, 7, .inl w1_near))] ++ (gWL rh0_times 287 94 (cy 3) v_times)) ([(h0, .inr (1, [.ref h0_times, .ref h0_rest])), (h0_times, .inl (cy 6, 287, gO 287 rh0_times)), (h0_rest, .inl (cy 3, 94, .inr (.inl nv_rest))), (g1, .inr (0, [.int w1_parts, og1_1, og1_2, og1_3, og1_4, og1_5, og1_6, og1_7, .ref g1_near, og1_9, og1_10, og1_11, og1_12])), (g1_near, .inl (cy 2, 7, .inl w1_near))] ++ (gWL rh0_times 287 94 (cy 3) v_times)) := by
  unfold f1_layRest at hM
  refine ct_ov (cc := cX1_layRest) (maxL := 9)  (by decide +kernel) rfl (Nat.le_of_ble_eq_true rfl) (lv0 := [(0, .ref h0), (1, .ref g1), (2, .int p2), (3, .int p3), (4, .int p4), (5, .int p5)]) rfl ?_
  intro p e s m args below meth c A Q ls hx hb hts hown hml hK hP hD hS hA hret hl
  have hown : s.vm.findClass RX1 = some m.cls := hown
  have k16 := hts (.fieldLink RX1 16 "CaveYears$ExactTimes" "rest" "[J") (List.mem_of_getElem? (i := 1) rfl)
  have iX1 := (fun w h => (List.mem_cons_of_mem _ (List.mem_append_left _ (List.mem_append_right _ h))) : ∀ w ∈ wsX10, w ∈ wsX1_layRest)
  have k13 := hts (.fieldLink RX1 13 "CaveYears$ExactTimes" "times" "[[J") (List.mem_of_getElem? (i := 2) rfl)
  refine lv_iconst (v := 0) hx hb dX1_layRest_0 (by decide) ?_
  refine lv_istore (lv' := [(6, .int (0 : Int32)), (0, .ref h0), (1, .ref g1), (2, .int p2), (3, .int p3), (4, .int p4), (5, .int p5)]) hx hb dX1_layRest_1 hl (by decide) rfl (fun ls hl => ?_)
  have L3 : ∀ (n : Nat) (x6_3 : Int32) (v_rest_3 : Nat → Int64) (v_rest_e3 : Nat → Int64) (H : Heap) (locs : List Loc) (ls : Array Slot), f1_layRest_L3 N p5 n x6_3 v_rest_3 = some v_rest_e3 → va_P D vwCl ([(h0, .inr (1, [.ref h0_times, .ref h0_rest])), (h0_times, .inl (cy 6, 287, gO 287 rh0_times)), (h0_rest, .inl (cy 3, 94, .inr (.inl v_rest_3))), (g1, .inr (0, [.int w1_parts, og1_1, og1_2, og1_3, og1_4, og1_5, og1_6, og1_7, .ref g1_near, og1_9, og1_10, og1_11, og1_12])), (g1_near, .inl (cy 2, 7, .inl w1_near))] ++ (gWL rh0_times 287 94 (cy 3) v_times)) H → va_D A ([(h0, .inr (1, [.ref h0_times, .ref h0_rest])), (h0_times, .inl (cy 6, 287, gO 287 rh0_times)), (h0_rest, .inl (cy 3, 94, .inr (.inl v_rest_3))), (g1, .inr (0, [.int w1_parts, og1_1, og1_2, og1_3, og1_4, og1_5, og1_6, og1_7, .ref g1_near, og1_9, og1_10, og1_11, og1_12])), (g1_near, .inl (cy 2, 7, .inl w1_near))] ++ (gWL rh0_times 287 94 (cy 3) v_times)) → va_S A s.heap H locs → lv_has ls 9 [(0, .ref h0), (1, .ref g1), (2, .int p2), (3, .int p3), (4, .int p4), (5, .int p5), (6, .int x6_3)] → (∀ (H : Heap) (locs : List Loc) (ls : Array Slot), va_P D vwCl ([(h0, .inr (1, [.ref h0_times, .ref h0_rest])), (h0_times, .inl (cy 6, 287, gO 287 rh0_times)), (h0_rest, .inl (cy 3, 94, .inr (.inl v_rest_e3))), (g1, .inr (0, [.int w1_parts, og1_1, og1_2, og1_3, og1_4, og1_5, og1_6, og1_7, .ref g1_near, og1_9, og1_10, og1_11, og1_12])), (g1_near, .inl (cy 2, 7, .inl w1_near))] ++ (gWL rh0_times 287 94 (cy 3) v_times)) H → va_D A ([(h0, .inr (1, [.ref h0_times, .ref h0_rest])), (h0_times, .inl (cy 6, 287, gO 287 rh0_times)), (h0_rest, .inl (cy 3, 94, .inr (.inl v_rest_e3))), (g1, .inr (0, [.int w1_parts, og1_1, og1_2, og1_3, og1_4, og1_5, og1_6, og1_7, .ref g1_near, og1_9, og1_10, og1_11, og1_12])), (g1_near, .inl (cy 2, 7, .inl w1_near))] ++ (gWL rh0_times 287 94 (cy 3) v_times)) → va_S A s.heap H locs → lv_has ls 9 [(0, .ref h0), (1, .ref g1), (2, .int p2), (3, .int p3), (4, .int p4), (5, .int p5)] → W p l e r1_layRest s m args below meth c H locs 0 0 Q (F0 m 31 ls [])) → W p l e r1_layRest s m args below meth c H locs 0 0 Q (F0 m 3 ls []) := by
    intro n
    induction n with
    | zero =>
      intro x6_3 v_rest_3 v_rest_e3 H locs ls hM
      exact absurd hM (by simp [f1_layRest_L3])
    | succ n ih =>
      intro x6_3 v_rest_3 v_rest_e3 H locs ls hM hP hD hS hl K
      rw [f1_layRest_L3] at hM
      refine lv_iload hx hb dX1_layRest_3 (lv_at hl 6 rfl) ?_
      refine lv_iload hx hb dX1_layRest_5 (lv_at hl 5 rfl) ?_
      refine lv_icmp_ge (tgt := 31) hx hb dX1_layRest_7 (by decide) (fun c7 => ?_) (fun c7 => ?_)
      · have hM := g_pos c7 hM
        obtain rfl := si1 hM
        exact K _ _ _ hP hD hS (lv_sub hl [0, 1, 2, 3, 4, 5] rfl)
      · have hM := g_neg c7 hM
        refine lv_iload hx hb dX1_layRest_10 (lv_at hl 6 rfl) ?_
        refine lv_bipush (v := 94) hx hb dX1_layRest_12 (by decide) ?_
        refine lv_icmp_ge (tgt := 31) hx hb dX1_layRest_14 (by decide) (fun c14 => ?_) (fun c14 => ?_)
        · have hM := g_pos c14 hM
          obtain rfl := si1 hM
          exact K _ _ _ hP hD hS (lv_sub hl [0, 1, 2, 3, 4, 5] rfl)
        · have hM := g_neg c14 hM
          refine lv_aload_n hx hb dX1_layRest_17 rfl (lv_at hl 0 rfl) ?_
          refine va_get (D := D) (ci := 1) (v := .ref h0_rest) (C := RX1) (T := TX1) (N := 2) hx hb hts iX1 hown hK hP 0 rfl rfl 1 (by decide) k16 (fun _ h9 => h9) rfl dX1_layRest_18 ?_
          refine lv_iload hx hb dX1_layRest_21 (lv_at hl 6 rfl) ?_
          refine lv_lconst (v := 0) hx hb dX1_layRest_23 (by decide) ?_
          obtain ⟨h24, hM⟩ := gi_some hM
          refine va_last hx hb hK hP hD hS 2 3 rfl rfl h24 dX1_layRest_24 (fun H locs hP hD hS => ?_)
          have hP : va_P D vwCl ([(h0, .inr (1, [.ref h0_times, .ref h0_rest])), (h0_times, .inl (cy 6, 287, gO 287 rh0_times)), (h0_rest, .inl (cy 3, 94, .inr (.inl (vp_updL v_rest_3 x6_3.toNatClampNeg (0 : Int64))))), (g1, .inr (0, [.int w1_parts, og1_1, og1_2, og1_3, og1_4, og1_5, og1_6, og1_7, .ref g1_near, og1_9, og1_10, og1_11, og1_12])), (g1_near, .inl (cy 2, 7, .inl w1_near))] ++ (gWL rh0_times 287 94 (cy 3) v_times)) H := hP
          have hD : va_D A ([(h0, .inr (1, [.ref h0_times, .ref h0_rest])), (h0_times, .inl (cy 6, 287, gO 287 rh0_times)), (h0_rest, .inl (cy 3, 94, .inr (.inl (vp_updL v_rest_3 x6_3.toNatClampNeg (0 : Int64))))), (g1, .inr (0, [.int w1_parts, og1_1, og1_2, og1_3, og1_4, og1_5, og1_6, og1_7, .ref g1_near, og1_9, og1_10, og1_11, og1_12])), (g1_near, .inl (cy 2, 7, .inl w1_near))] ++ (gWL rh0_times 287 94 (cy 3) v_times)) := hD
          refine lv_iinc (v := x6_3 + (1 : Int32)) (lv' := [(6, .int (x6_3 + (1 : Int32))), (0, .ref h0), (1, .ref g1), (2, .int p2), (3, .int p3), (4, .int p4), (5, .int p5)]) hx hb dX1_layRest_25 hl (k := 6) rfl rfl (by decide) rfl (fun ls hl => ?_)
          refine lv_goto (tgt := 3) hx hb dX1_layRest_28 (by decide) ?_
          exact ih (x6_3 + (1 : Int32)) (vp_updL v_rest_3 x6_3.toNatClampNeg (0 : Int64)) v_rest_e3 _ _ _ hM hP hD hS (lv_sub hl [1, 2, 3, 4, 5, 6, 0] rfl) K
  obtain ⟨v_rest_e3, hL3, hM⟩ := ob1_some hM
  refine L3 N (0 : Int32) v_rest v_rest_e3 _ _ _ hL3 hP hD hS (lv_sub hl [1, 2, 3, 4, 5, 6, 0] rfl) ?_
  intro H locs ls hP hD hS hl
  refine lv_iload_n hx hb dX1_layRest_31 rfl (lv_at hl 3 rfl) ?_
  refine lv_iconst (v := 1) hx hb dX1_layRest_32 (by decide) ?_
  refine lv_icmp_ne (tgt := 49) hx hb dX1_layRest_33 (by decide) (fun c33 => ?_) (fun c33 => ?_)
  · have hM := g_neg c33 hM
    refine lv_iconst (v := 0) hx hb dX1_layRest_49 (by decide) ?_
    refine lv_istore (lv' := [(6, .int (0 : Int32)), (0, .ref h0), (1, .ref g1), (2, .int p2), (3, .int p3), (4, .int p4), (5, .int p5)]) hx hb dX1_layRest_50 hl (by decide) rfl (fun ls hl => ?_)
    have L52 : ∀ (n : Nat) (x6_52 : Int32) (v_rest_52 : Nat → Int64) (v_rest_e52 : Nat → Int64) (H : Heap) (locs : List Loc) (ls : Array Slot), f1_layRest_L52 N p3 p4 p5 v_times w1_parts w1_near n x6_52 v_rest_52 = some v_rest_e52 → va_P D vwCl ([(h0, .inr (1, [.ref h0_times, .ref h0_rest])), (h0_times, .inl (cy 6, 287, gO 287 rh0_times)), (h0_rest, .inl (cy 3, 94, .inr (.inl v_rest_52))), (g1, .inr (0, [.int w1_parts, og1_1, og1_2, og1_3, og1_4, og1_5, og1_6, og1_7, .ref g1_near, og1_9, og1_10, og1_11, og1_12])), (g1_near, .inl (cy 2, 7, .inl w1_near))] ++ (gWL rh0_times 287 94 (cy 3) v_times)) H → va_D A ([(h0, .inr (1, [.ref h0_times, .ref h0_rest])), (h0_times, .inl (cy 6, 287, gO 287 rh0_times)), (h0_rest, .inl (cy 3, 94, .inr (.inl v_rest_52))), (g1, .inr (0, [.int w1_parts, og1_1, og1_2, og1_3, og1_4, og1_5, og1_6, og1_7, .ref g1_near, og1_9, og1_10, og1_11, og1_12])), (g1_near, .inl (cy 2, 7, .inl w1_near))] ++ (gWL rh0_times 287 94 (cy 3) v_times)) → va_S A s.heap H locs → lv_has ls 9 [(0, .ref h0), (1, .ref g1), (3, .int p3), (4, .int p4), (5, .int p5), (6, .int x6_52)] → (∀ (H : Heap) (locs : List Loc) (ls : Array Slot), va_P D vwCl ([(h0, .inr (1, [.ref h0_times, .ref h0_rest])), (h0_times, .inl (cy 6, 287, gO 287 rh0_times)), (h0_rest, .inl (cy 3, 94, .inr (.inl v_rest_e52))), (g1, .inr (0, [.int w1_parts, og1_1, og1_2, og1_3, og1_4, og1_5, og1_6, og1_7, .ref g1_near, og1_9, og1_10, og1_11, og1_12])), (g1_near, .inl (cy 2, 7, .inl w1_near))] ++ (gWL rh0_times 287 94 (cy 3) v_times)) H → va_D A ([(h0, .inr (1, [.ref h0_times, .ref h0_rest])), (h0_times, .inl (cy 6, 287, gO 287 rh0_times)), (h0_rest, .inl (cy 3, 94, .inr (.inl v_rest_e52))), (g1, .inr (0, [.int w1_parts, og1_1, og1_2, og1_3, og1_4, og1_5, og1_6, og1_7, .ref g1_near, og1_9, og1_10, og1_11, og1_12])), (g1_near, .inl (cy 2, 7, .inl w1_near))] ++ (gWL rh0_times 287 94 (cy 3) v_times)) → va_S A s.heap H locs → lv_has ls 9 [] → W p l e r1_layRest s m args below meth c H locs 0 0 Q (F0 m 146 ls [])) → W p l e r1_layRest s m args below meth c H locs 0 0 Q (F0 m 52 ls []) := by
      intro n
      induction n with
      | zero =>
        intro x6_52 v_rest_52 v_rest_e52 H locs ls hM
        exact absurd hM (by simp [f1_layRest_L52])
      | succ n ih =>
        intro x6_52 v_rest_52 v_rest_e52 H locs ls hM hP hD hS hl K
        rw [f1_layRest_L52] at hM
        refine lv_iload hx hb dX1_layRest_52 (lv_at hl 5 rfl) ?_
        refine lv_bipush (v := 7) hx hb dX1_layRest_54 (by decide) ?_
        refine lv_icmp_ge (tgt := 146) hx hb dX1_layRest_56 (by decide) (fun c56 => ?_) (fun c56 => ?_)
        · have hM := g_pos c56 hM
          obtain rfl := si1 hM
          exact K _ _ _ hP hD hS (lv_sub hl [] rfl)
        · have hM := g_neg c56 hM
          refine lv_iload_n hx hb dX1_layRest_59 rfl (lv_at hl 2 rfl) ?_
          refine lv_iconst (v := 1) hx hb dX1_layRest_60 (by decide) ?_
          refine lv_icmp_le (tgt := 140) hx hb dX1_layRest_61 (by decide) (fun c61 => ?_) (fun c61 => ?_)
          · have hM := g_pos c61 hM
            refine lv_iinc (v := x6_52 + (1 : Int32)) (lv' := [(6, .int (x6_52 + (1 : Int32))), (0, .ref h0), (1, .ref g1), (3, .int p3), (4, .int p4), (5, .int p5)]) hx hb dX1_layRest_140 hl (k := 5) rfl rfl (by decide) rfl (fun ls hl => ?_)
            refine lv_goto (tgt := 52) hx hb dX1_layRest_143 (by decide) ?_
            exact ih (x6_52 + (1 : Int32)) v_rest_52 v_rest_e52 _ _ _ hM hP hD hS (lv_sub hl [1, 2, 3, 4, 5, 0] rfl) K
          · have hM := g_neg c61 hM
            refine lv_aload_n hx hb dX1_layRest_64 rfl (lv_at hl 1 rfl) ?_
            refine lv_iload hx hb dX1_layRest_65 (lv_at hl 3 rfl) ?_
            refine lv_iload hx hb dX1_layRest_67 (lv_at hl 5 rfl) ?_
            obtain ⟨r69, hc69, hM⟩ := ob1_some hM
            refine cg_vi (As := [.int p4, .int x6_52]) (rest := []) (ci := 0) (q0 := 3) (wr := ([(h0, .inr (1, [.ref h0_times, .ref h0_rest])), (h0_times, .inl (cy 6, 287, gO 287 rh0_times)), (h0_rest, .inl (cy 3, 94, .inr (.inl v_rest_52)))] ++ (gWL rh0_times 287 94 (cy 3) v_times))) (ws2 := ([(h0, .inr (1, [.ref h0_times, .ref h0_rest])), (h0_times, .inl (cy 6, 287, gO 287 rh0_times)), (h0_rest, .inl (cy 3, 94, .inr (.inl v_rest_52))), (g1, .inr (0, [.int w1_parts, og1_1, og1_2, og1_3, og1_4, og1_5, og1_6, og1_7, .ref g1_near, og1_9, og1_10, og1_11, og1_12])), (g1_near, .inl (cy 2, 7, .inl w1_near))] ++ (gWL rh0_times 287 94 (cy 3) v_times))) hx hb hml hown hts (c0_mayFollow l D cy N g1 g1_near og1_1 og1_2 og1_3 og1_4 og1_5 og1_6 og1_7 og1_9 og1_10 og1_11 og1_12 p4 x6_52 w1_parts w1_near r69 hc69) (cwV 2 hts gX1_layRest_X0_mayFollow rfl rfl rfl (by decide +kernel) ⟨Nat.le_of_ble_eq_true rfl, Nat.le_of_ble_eq_true rfl⟩) hK hP hD hS hA rfl rfl (pm_Q (pm_x [0, 1, 2, 3, 4] rfl rfl)) (pm_Q (pm_x [0, 1, 2, 3, 4] rfl rfl)).symm rfl rfl hl.1 (Nat.le_of_ble_eq_true rfl) dX1_layRest_69 ⟨Nat.zero_le _, Nat.zero_le _⟩ (fun H locs hP hD hS => ?_)
            refine lv_if_eq (tgt := 140) hx hb dX1_layRest_72 (by decide) (fun c72 => ?_) (fun c72 => ?_)
            · have hM := g_pos c72 hM
              refine lv_iinc (v := x6_52 + (1 : Int32)) (lv' := [(6, .int (x6_52 + (1 : Int32))), (0, .ref h0), (1, .ref g1), (3, .int p3), (4, .int p4), (5, .int p5)]) hx hb dX1_layRest_140 hl (k := 5) rfl rfl (by decide) rfl (fun ls hl => ?_)
              refine lv_goto (tgt := 52) hx hb dX1_layRest_143 (by decide) ?_
              exact ih (x6_52 + (1 : Int32)) v_rest_52 v_rest_e52 _ _ _ hM hP hD hS (lv_sub hl [1, 2, 3, 4, 5, 0] rfl) K
            · have hM := g_neg c72 hM
              refine lv_iload_n hx hb dX1_layRest_75 rfl (lv_at hl 2 rfl) ?_
              refine lv_iconst (v := 1) hx hb dX1_layRest_76 (by decide) ?_
              refine lv_isub hx hb dX1_layRest_77 ?_
              refine lv_iload hx hb dX1_layRest_78 (lv_at hl 5 rfl) ?_
              obtain ⟨r80, hc80, hM⟩ := ob1_some hM
              refine cg_si (As := [.int (p3 - (1 : Int32)), .int x6_52]) (rest := []) (wr := ([(h0, .inr (1, [.ref h0_times, .ref h0_rest])), (h0_times, .inl (cy 6, 287, gO 287 rh0_times)), (h0_rest, .inl (cy 3, 94, .inr (.inl v_rest_52))), (g1, .inr (0, [.int w1_parts, og1_1, og1_2, og1_3, og1_4, og1_5, og1_6, og1_7, .ref g1_near, og1_9, og1_10, og1_11, og1_12])), (g1_near, .inl (cy 2, 7, .inl w1_near))] ++ (gWL rh0_times 287 94 (cy 3) v_times))) (ws2 := ([(h0, .inr (1, [.ref h0_times, .ref h0_rest])), (h0_times, .inl (cy 6, 287, gO 287 rh0_times)), (h0_rest, .inl (cy 3, 94, .inr (.inl v_rest_52))), (g1, .inr (0, [.int w1_parts, og1_1, og1_2, og1_3, og1_4, og1_5, og1_6, og1_7, .ref g1_near, og1_9, og1_10, og1_11, og1_12])), (g1_near, .inl (cy 2, 7, .inl w1_near))] ++ (gWL rh0_times 287 94 (cy 3) v_times))) hx hb hml hown hts (c1_isRow l D cy N (p3 - (1 : Int32)) x6_52 r80 hc80) (va_cwS 2 hts gX1_layRest_X1_isRow rfl rfl rfl (by decide +kernel) ⟨Nat.le_of_ble_eq_true rfl, Nat.le_of_ble_eq_true rfl⟩) hK hP hD hS hA (pm_Q (pm_x [0, 1, 2, 3, 4] rfl rfl)) (pm_Q (pm_x [0, 1, 2, 3, 4] rfl rfl)).symm rfl rfl hl.1 (Nat.le_of_ble_eq_true rfl) dX1_layRest_80 ⟨Nat.zero_le _, Nat.zero_le _⟩ (fun H locs hP hD hS => ?_)
              refine lv_if_eq (tgt := 140) hx hb dX1_layRest_83 (by decide) (fun c83 => ?_) (fun c83 => ?_)
              · have hM := g_pos c83 hM
                refine lv_iinc (v := x6_52 + (1 : Int32)) (lv' := [(6, .int (x6_52 + (1 : Int32))), (0, .ref h0), (1, .ref g1), (3, .int p3), (4, .int p4), (5, .int p5)]) hx hb dX1_layRest_140 hl (k := 5) rfl rfl (by decide) rfl (fun ls hl => ?_)
                refine lv_goto (tgt := 52) hx hb dX1_layRest_143 (by decide) ?_
                exact ih (x6_52 + (1 : Int32)) v_rest_52 v_rest_e52 _ _ _ hM hP hD hS (lv_sub hl [1, 2, 3, 4, 5, 0] rfl) K
              · have hM := g_neg c83 hM
                refine lv_aload_n hx hb dX1_layRest_86 rfl (lv_at hl 0 rfl) ?_
                refine va_get (D := D) (ci := 1) (v := .ref h0_times) (C := RX1) (T := TX1) (N := 2) hx hb hts iX1 hown hK hP 0 rfl rfl 0 (by decide) k13 (fun _ h9 => h9) rfl dX1_layRest_87 ?_
                refine lv_iload_n hx hb dX1_layRest_90 rfl (lv_at hl 2 rfl) ?_
                refine lv_iconst (v := 1) hx hb dX1_layRest_91 (by decide) ?_
                refine lv_isub hx hb dX1_layRest_92 ?_
                refine lv_bipush (v := 7) hx hb dX1_layRest_93 (by decide) ?_
                refine lv_imul hx hb dX1_layRest_95 ?_
                refine lv_iload hx hb dX1_layRest_96 (lv_at hl 5 rfl) ?_
                refine lv_iadd hx hb dX1_layRest_98 ?_
                obtain ⟨h99, hM⟩ := gi_some hM
                refine wv_aald hx hb hK hP 1 6 rfl rfl h99 dX1_layRest_99 ?_
                refine lv_astore (lv' := [(7, .ref (rh0_times (((p3 - (1 : Int32)) * (7 : Int32)) + x6_52).toNatClampNeg)), (0, .ref h0), (1, .ref g1), (3, .int p3), (4, .int p4), (5, .int p5), (6, .int x6_52)]) hx hb dX1_layRest_100 hl (by decide) rfl (fun ls hl => ?_)
                refine lv_iconst (v := 0) hx hb dX1_layRest_102 (by decide) ?_
                refine lv_istore (lv' := [(8, .int (0 : Int32)), (7, .ref (rh0_times (((p3 - (1 : Int32)) * (7 : Int32)) + x6_52).toNatClampNeg)), (0, .ref h0), (1, .ref g1), (3, .int p3), (4, .int p4), (5, .int p5), (6, .int x6_52)]) hx hb dX1_layRest_103 hl (by decide) rfl (fun ls hl => ?_)
                have L105 : ∀ (n : Nat) (x8_105 : Int32) (v_rest_105 : Nat → Int64) (v_rest_e105 : Nat → Int64) (H : Heap) (locs : List Loc) (ls : Array Slot), f1_layRest_L105 N p3 p5 v_times x6_52 n x8_105 v_rest_105 = some v_rest_e105 → va_P D vwCl ([(h0, .inr (1, [.ref h0_times, .ref h0_rest])), (h0_times, .inl (cy 6, 287, gO 287 rh0_times)), (h0_rest, .inl (cy 3, 94, .inr (.inl v_rest_105))), (g1, .inr (0, [.int w1_parts, og1_1, og1_2, og1_3, og1_4, og1_5, og1_6, og1_7, .ref g1_near, og1_9, og1_10, og1_11, og1_12])), (g1_near, .inl (cy 2, 7, .inl w1_near))] ++ (gWL rh0_times 287 94 (cy 3) v_times)) H → va_D A ([(h0, .inr (1, [.ref h0_times, .ref h0_rest])), (h0_times, .inl (cy 6, 287, gO 287 rh0_times)), (h0_rest, .inl (cy 3, 94, .inr (.inl v_rest_105))), (g1, .inr (0, [.int w1_parts, og1_1, og1_2, og1_3, og1_4, og1_5, og1_6, og1_7, .ref g1_near, og1_9, og1_10, og1_11, og1_12])), (g1_near, .inl (cy 2, 7, .inl w1_near))] ++ (gWL rh0_times 287 94 (cy 3) v_times)) → va_S A s.heap H locs → lv_has ls 9 [(0, .ref h0), (1, .ref g1), (3, .int p3), (4, .int p4), (5, .int p5), (6, .int x6_52), (7, .ref (rh0_times (((p3 - (1 : Int32)) * (7 : Int32)) + x6_52).toNatClampNeg)), (8, .int x8_105)] → (∀ (H : Heap) (locs : List Loc) (ls : Array Slot), va_P D vwCl ([(h0, .inr (1, [.ref h0_times, .ref h0_rest])), (h0_times, .inl (cy 6, 287, gO 287 rh0_times)), (h0_rest, .inl (cy 3, 94, .inr (.inl v_rest_e105))), (g1, .inr (0, [.int w1_parts, og1_1, og1_2, og1_3, og1_4, og1_5, og1_6, og1_7, .ref g1_near, og1_9, og1_10, og1_11, og1_12])), (g1_near, .inl (cy 2, 7, .inl w1_near))] ++ (gWL rh0_times 287 94 (cy 3) v_times)) H → va_D A ([(h0, .inr (1, [.ref h0_times, .ref h0_rest])), (h0_times, .inl (cy 6, 287, gO 287 rh0_times)), (h0_rest, .inl (cy 3, 94, .inr (.inl v_rest_e105))), (g1, .inr (0, [.int w1_parts, og1_1, og1_2, og1_3, og1_4, og1_5, og1_6, og1_7, .ref g1_near, og1_9, og1_10, og1_11, og1_12])), (g1_near, .inl (cy 2, 7, .inl w1_near))] ++ (gWL rh0_times 287 94 (cy 3) v_times)) → va_S A s.heap H locs → lv_has ls 9 [(0, .ref h0), (1, .ref g1), (3, .int p3), (4, .int p4), (5, .int p5), (6, .int x6_52)] → W p l e r1_layRest s m args below meth c H locs 0 0 Q (F0 m 140 ls [])) → W p l e r1_layRest s m args below meth c H locs 0 0 Q (F0 m 105 ls []) := by
                  intro n
                  induction n with
                  | zero =>
                    intro x8_105 v_rest_105 v_rest_e105 H locs ls hM
                    exact absurd hM (by simp [f1_layRest_L105])
                  | succ n ih =>
                    intro x8_105 v_rest_105 v_rest_e105 H locs ls hM hP hD hS hl K
                    rw [f1_layRest_L105] at hM
                    refine lv_iload hx hb dX1_layRest_105 (lv_at hl 7 rfl) ?_
                    refine lv_iload hx hb dX1_layRest_107 (lv_at hl 4 rfl) ?_
                    refine lv_icmp_ge (tgt := 140) hx hb dX1_layRest_109 (by decide) (fun c109 => ?_) (fun c109 => ?_)
                    · have hM := g_pos c109 hM
                      obtain rfl := si1 hM
                      exact K _ _ _ hP hD hS (lv_sub hl [0, 1, 2, 3, 4, 5] rfl)
                    · have hM := g_neg c109 hM
                      refine lv_iload hx hb dX1_layRest_112 (lv_at hl 7 rfl) ?_
                      refine lv_bipush (v := 94) hx hb dX1_layRest_114 (by decide) ?_
                      refine lv_icmp_ge (tgt := 140) hx hb dX1_layRest_116 (by decide) (fun c116 => ?_) (fun c116 => ?_)
                      · have hM := g_pos c116 hM
                        obtain rfl := si1 hM
                        exact K _ _ _ hP hD hS (lv_sub hl [0, 1, 2, 3, 4, 5] rfl)
                      · have hM := g_neg c116 hM
                        refine lv_aload_n hx hb dX1_layRest_119 rfl (lv_at hl 0 rfl) ?_
                        refine va_get (D := D) (ci := 1) (v := .ref h0_rest) (C := RX1) (T := TX1) (N := 2) hx hb hts iX1 hown hK hP 0 rfl rfl 1 (by decide) k16 (fun _ h9 => h9) rfl dX1_layRest_120 ?_
                        refine lv_iload hx hb dX1_layRest_123 (lv_at hl 7 rfl) ?_
                        refine lv_dup2_11 hx hb dX1_layRest_125 rfl rfl ?_
                        obtain ⟨h126, hM⟩ := gi_some hM
                        refine va_lald hx hb hK hP 2 3 rfl rfl h126 dX1_layRest_126 ?_
                        refine lv_aload hx hb dX1_layRest_127 (lv_at hl 6 rfl) ?_
                        refine lv_iload hx hb dX1_layRest_129 (lv_at hl 7 rfl) ?_
                        obtain ⟨h131, hM⟩ := gi_some hM
                        refine wv_lald hx hb hK hP 3 (gWL_rowS h99) rfl h131 dX1_layRest_131 ?_
                        refine lv_lor hx hb dX1_layRest_132 ?_
                        obtain ⟨h133, hM⟩ := gi_some hM
                        refine va_last hx hb hK hP hD hS 2 3 rfl rfl h133 dX1_layRest_133 (fun H locs hP hD hS => ?_)
                        have hP : va_P D vwCl ([(h0, .inr (1, [.ref h0_times, .ref h0_rest])), (h0_times, .inl (cy 6, 287, gO 287 rh0_times)), (h0_rest, .inl (cy 3, 94, .inr (.inl (vp_updL v_rest_105 x8_105.toNatClampNeg ((v_rest_105 x8_105.toNatClampNeg) ||| ((v_times (((p3 - (1 : Int32)) * (7 : Int32)) + x6_52).toNatClampNeg) x8_105.toNatClampNeg)))))), (g1, .inr (0, [.int w1_parts, og1_1, og1_2, og1_3, og1_4, og1_5, og1_6, og1_7, .ref g1_near, og1_9, og1_10, og1_11, og1_12])), (g1_near, .inl (cy 2, 7, .inl w1_near))] ++ (gWL rh0_times 287 94 (cy 3) v_times)) H := hP
                        have hD : va_D A ([(h0, .inr (1, [.ref h0_times, .ref h0_rest])), (h0_times, .inl (cy 6, 287, gO 287 rh0_times)), (h0_rest, .inl (cy 3, 94, .inr (.inl (vp_updL v_rest_105 x8_105.toNatClampNeg ((v_rest_105 x8_105.toNatClampNeg) ||| ((v_times (((p3 - (1 : Int32)) * (7 : Int32)) + x6_52).toNatClampNeg) x8_105.toNatClampNeg)))))), (g1, .inr (0, [.int w1_parts, og1_1, og1_2, og1_3, og1_4, og1_5, og1_6, og1_7, .ref g1_near, og1_9, og1_10, og1_11, og1_12])), (g1_near, .inl (cy 2, 7, .inl w1_near))] ++ (gWL rh0_times 287 94 (cy 3) v_times)) := hD
                        refine lv_iinc (v := x8_105 + (1 : Int32)) (lv' := [(8, .int (x8_105 + (1 : Int32))), (0, .ref h0), (1, .ref g1), (3, .int p3), (4, .int p4), (5, .int p5), (6, .int x6_52), (7, .ref (rh0_times (((p3 - (1 : Int32)) * (7 : Int32)) + x6_52).toNatClampNeg))]) hx hb dX1_layRest_134 hl (k := 7) rfl rfl (by decide) rfl (fun ls hl => ?_)
                        refine lv_goto (tgt := 105) hx hb dX1_layRest_137 (by decide) ?_
                        exact ih (x8_105 + (1 : Int32)) (vp_updL v_rest_105 x8_105.toNatClampNeg ((v_rest_105 x8_105.toNatClampNeg) ||| ((v_times (((p3 - (1 : Int32)) * (7 : Int32)) + x6_52).toNatClampNeg) x8_105.toNatClampNeg))) v_rest_e105 _ _ _ hM hP hD hS (lv_sub hl [1, 2, 3, 4, 5, 6, 7, 0] rfl) K
                obtain ⟨v_rest_e105, hL105, hM⟩ := ob1_some hM
                refine L105 N (0 : Int32) v_rest_52 v_rest_e105 _ _ _ hL105 hP hD hS (lv_sub hl [2, 3, 4, 5, 6, 7, 1, 0] rfl) ?_
                intro H locs ls hP hD hS hl
                refine lv_iinc (v := x6_52 + (1 : Int32)) (lv' := [(6, .int (x6_52 + (1 : Int32))), (0, .ref h0), (1, .ref g1), (3, .int p3), (4, .int p4), (5, .int p5)]) hx hb dX1_layRest_140 hl (k := 5) rfl rfl (by decide) rfl (fun ls hl => ?_)
                refine lv_goto (tgt := 52) hx hb dX1_layRest_143 (by decide) ?_
                exact ih (x6_52 + (1 : Int32)) v_rest_e105 v_rest_e52 _ _ _ hM hP hD hS (lv_sub hl [1, 2, 3, 4, 5, 0] rfl) K
    obtain ⟨v_rest_e52, hL52, hM⟩ := ob1_some hM
    refine L52 N (0 : Int32) v_rest_e3 v_rest_e52 _ _ _ hL52 hP hD hS (lv_sub hl [1, 2, 4, 5, 6, 0] rfl) ?_
    intro H locs ls hP hD hS hl
    obtain rfl := si1 hM
    exact hret _ _ _ _ dX1_layRest_146 hP hD hS
  · have hM := g_pos c33 hM
    refine lv_iload hx hb dX1_layRest_36 (lv_at hl 4 rfl) ?_
    refine lv_iload_n hx hb dX1_layRest_38 rfl (lv_at hl 2 rfl) ?_
    refine lv_icmp_ne (tgt := 49) hx hb dX1_layRest_39 (by decide) (fun c39 => ?_) (fun c39 => ?_)
    · have hM := g_neg c39 hM
      refine lv_iconst (v := 0) hx hb dX1_layRest_49 (by decide) ?_
      refine lv_istore (lv' := [(6, .int (0 : Int32)), (0, .ref h0), (1, .ref g1), (2, .int p2), (3, .int p3), (4, .int p4), (5, .int p5)]) hx hb dX1_layRest_50 hl (by decide) rfl (fun ls hl => ?_)
      have L52 : ∀ (n : Nat) (x6_52 : Int32) (v_rest_52 : Nat → Int64) (v_rest_e52 : Nat → Int64) (H : Heap) (locs : List Loc) (ls : Array Slot), f1_layRest_L52 N p3 p4 p5 v_times w1_parts w1_near n x6_52 v_rest_52 = some v_rest_e52 → va_P D vwCl ([(h0, .inr (1, [.ref h0_times, .ref h0_rest])), (h0_times, .inl (cy 6, 287, gO 287 rh0_times)), (h0_rest, .inl (cy 3, 94, .inr (.inl v_rest_52))), (g1, .inr (0, [.int w1_parts, og1_1, og1_2, og1_3, og1_4, og1_5, og1_6, og1_7, .ref g1_near, og1_9, og1_10, og1_11, og1_12])), (g1_near, .inl (cy 2, 7, .inl w1_near))] ++ (gWL rh0_times 287 94 (cy 3) v_times)) H → va_D A ([(h0, .inr (1, [.ref h0_times, .ref h0_rest])), (h0_times, .inl (cy 6, 287, gO 287 rh0_times)), (h0_rest, .inl (cy 3, 94, .inr (.inl v_rest_52))), (g1, .inr (0, [.int w1_parts, og1_1, og1_2, og1_3, og1_4, og1_5, og1_6, og1_7, .ref g1_near, og1_9, og1_10, og1_11, og1_12])), (g1_near, .inl (cy 2, 7, .inl w1_near))] ++ (gWL rh0_times 287 94 (cy 3) v_times)) → va_S A s.heap H locs → lv_has ls 9 [(0, .ref h0), (1, .ref g1), (3, .int p3), (4, .int p4), (5, .int p5), (6, .int x6_52)] → (∀ (H : Heap) (locs : List Loc) (ls : Array Slot), va_P D vwCl ([(h0, .inr (1, [.ref h0_times, .ref h0_rest])), (h0_times, .inl (cy 6, 287, gO 287 rh0_times)), (h0_rest, .inl (cy 3, 94, .inr (.inl v_rest_e52))), (g1, .inr (0, [.int w1_parts, og1_1, og1_2, og1_3, og1_4, og1_5, og1_6, og1_7, .ref g1_near, og1_9, og1_10, og1_11, og1_12])), (g1_near, .inl (cy 2, 7, .inl w1_near))] ++ (gWL rh0_times 287 94 (cy 3) v_times)) H → va_D A ([(h0, .inr (1, [.ref h0_times, .ref h0_rest])), (h0_times, .inl (cy 6, 287, gO 287 rh0_times)), (h0_rest, .inl (cy 3, 94, .inr (.inl v_rest_e52))), (g1, .inr (0, [.int w1_parts, og1_1, og1_2, og1_3, og1_4, og1_5, og1_6, og1_7, .ref g1_near, og1_9, og1_10, og1_11, og1_12])), (g1_near, .inl (cy 2, 7, .inl w1_near))] ++ (gWL rh0_times 287 94 (cy 3) v_times)) → va_S A s.heap H locs → lv_has ls 9 [] → W p l e r1_layRest s m args below meth c H locs 0 0 Q (F0 m 146 ls [])) → W p l e r1_layRest s m args below meth c H locs 0 0 Q (F0 m 52 ls []) := by
        intro n
        induction n with
        | zero =>
          intro x6_52 v_rest_52 v_rest_e52 H locs ls hM
          exact absurd hM (by simp [f1_layRest_L52])
        | succ n ih =>
          intro x6_52 v_rest_52 v_rest_e52 H locs ls hM hP hD hS hl K
          rw [f1_layRest_L52] at hM
          refine lv_iload hx hb dX1_layRest_52 (lv_at hl 5 rfl) ?_
          refine lv_bipush (v := 7) hx hb dX1_layRest_54 (by decide) ?_
          refine lv_icmp_ge (tgt := 146) hx hb dX1_layRest_56 (by decide) (fun c56 => ?_) (fun c56 => ?_)
          · have hM := g_pos c56 hM
            obtain rfl := si1 hM
            exact K _ _ _ hP hD hS (lv_sub hl [] rfl)
          · have hM := g_neg c56 hM
            refine lv_iload_n hx hb dX1_layRest_59 rfl (lv_at hl 2 rfl) ?_
            refine lv_iconst (v := 1) hx hb dX1_layRest_60 (by decide) ?_
            refine lv_icmp_le (tgt := 140) hx hb dX1_layRest_61 (by decide) (fun c61 => ?_) (fun c61 => ?_)
            · have hM := g_pos c61 hM
              refine lv_iinc (v := x6_52 + (1 : Int32)) (lv' := [(6, .int (x6_52 + (1 : Int32))), (0, .ref h0), (1, .ref g1), (3, .int p3), (4, .int p4), (5, .int p5)]) hx hb dX1_layRest_140 hl (k := 5) rfl rfl (by decide) rfl (fun ls hl => ?_)
              refine lv_goto (tgt := 52) hx hb dX1_layRest_143 (by decide) ?_
              exact ih (x6_52 + (1 : Int32)) v_rest_52 v_rest_e52 _ _ _ hM hP hD hS (lv_sub hl [1, 2, 3, 4, 5, 0] rfl) K
            · have hM := g_neg c61 hM
              refine lv_aload_n hx hb dX1_layRest_64 rfl (lv_at hl 1 rfl) ?_
              refine lv_iload hx hb dX1_layRest_65 (lv_at hl 3 rfl) ?_
              refine lv_iload hx hb dX1_layRest_67 (lv_at hl 5 rfl) ?_
              obtain ⟨r69, hc69, hM⟩ := ob1_some hM
              refine cg_vi (As := [.int p4, .int x6_52]) (rest := []) (ci := 0) (q0 := 3) (wr := ([(h0, .inr (1, [.ref h0_times, .ref h0_rest])), (h0_times, .inl (cy 6, 287, gO 287 rh0_times)), (h0_rest, .inl (cy 3, 94, .inr (.inl v_rest_52)))] ++ (gWL rh0_times 287 94 (cy 3) v_times))) (ws2 := ([(h0, .inr (1, [.ref h0_times, .ref h0_rest])), (h0_times, .inl (cy 6, 287, gO 287 rh0_times)), (h0_rest, .inl (cy 3, 94, .inr (.inl v_rest_52))), (g1, .inr (0, [.int w1_parts, og1_1, og1_2, og1_3, og1_4, og1_5, og1_6, og1_7, .ref g1_near, og1_9, og1_10, og1_11, og1_12])), (g1_near, .inl (cy 2, 7, .inl w1_near))] ++ (gWL rh0_times 287 94 (cy 3) v_times))) hx hb hml hown hts (c0_mayFollow l D cy N g1 g1_near og1_1 og1_2 og1_3 og1_4 og1_5 og1_6 og1_7 og1_9 og1_10 og1_11 og1_12 p4 x6_52 w1_parts w1_near r69 hc69) (cwV 2 hts gX1_layRest_X0_mayFollow rfl rfl rfl (by decide +kernel) ⟨Nat.le_of_ble_eq_true rfl, Nat.le_of_ble_eq_true rfl⟩) hK hP hD hS hA rfl rfl (pm_Q (pm_x [0, 1, 2, 3, 4] rfl rfl)) (pm_Q (pm_x [0, 1, 2, 3, 4] rfl rfl)).symm rfl rfl hl.1 (Nat.le_of_ble_eq_true rfl) dX1_layRest_69 ⟨Nat.zero_le _, Nat.zero_le _⟩ (fun H locs hP hD hS => ?_)
              refine lv_if_eq (tgt := 140) hx hb dX1_layRest_72 (by decide) (fun c72 => ?_) (fun c72 => ?_)
              · have hM := g_pos c72 hM
                refine lv_iinc (v := x6_52 + (1 : Int32)) (lv' := [(6, .int (x6_52 + (1 : Int32))), (0, .ref h0), (1, .ref g1), (3, .int p3), (4, .int p4), (5, .int p5)]) hx hb dX1_layRest_140 hl (k := 5) rfl rfl (by decide) rfl (fun ls hl => ?_)
                refine lv_goto (tgt := 52) hx hb dX1_layRest_143 (by decide) ?_
                exact ih (x6_52 + (1 : Int32)) v_rest_52 v_rest_e52 _ _ _ hM hP hD hS (lv_sub hl [1, 2, 3, 4, 5, 0] rfl) K
              · have hM := g_neg c72 hM
                refine lv_iload_n hx hb dX1_layRest_75 rfl (lv_at hl 2 rfl) ?_
                refine lv_iconst (v := 1) hx hb dX1_layRest_76 (by decide) ?_
                refine lv_isub hx hb dX1_layRest_77 ?_
                refine lv_iload hx hb dX1_layRest_78 (lv_at hl 5 rfl) ?_
                obtain ⟨r80, hc80, hM⟩ := ob1_some hM
                refine cg_si (As := [.int (p3 - (1 : Int32)), .int x6_52]) (rest := []) (wr := ([(h0, .inr (1, [.ref h0_times, .ref h0_rest])), (h0_times, .inl (cy 6, 287, gO 287 rh0_times)), (h0_rest, .inl (cy 3, 94, .inr (.inl v_rest_52))), (g1, .inr (0, [.int w1_parts, og1_1, og1_2, og1_3, og1_4, og1_5, og1_6, og1_7, .ref g1_near, og1_9, og1_10, og1_11, og1_12])), (g1_near, .inl (cy 2, 7, .inl w1_near))] ++ (gWL rh0_times 287 94 (cy 3) v_times))) (ws2 := ([(h0, .inr (1, [.ref h0_times, .ref h0_rest])), (h0_times, .inl (cy 6, 287, gO 287 rh0_times)), (h0_rest, .inl (cy 3, 94, .inr (.inl v_rest_52))), (g1, .inr (0, [.int w1_parts, og1_1, og1_2, og1_3, og1_4, og1_5, og1_6, og1_7, .ref g1_near, og1_9, og1_10, og1_11, og1_12])), (g1_near, .inl (cy 2, 7, .inl w1_near))] ++ (gWL rh0_times 287 94 (cy 3) v_times))) hx hb hml hown hts (c1_isRow l D cy N (p3 - (1 : Int32)) x6_52 r80 hc80) (va_cwS 2 hts gX1_layRest_X1_isRow rfl rfl rfl (by decide +kernel) ⟨Nat.le_of_ble_eq_true rfl, Nat.le_of_ble_eq_true rfl⟩) hK hP hD hS hA (pm_Q (pm_x [0, 1, 2, 3, 4] rfl rfl)) (pm_Q (pm_x [0, 1, 2, 3, 4] rfl rfl)).symm rfl rfl hl.1 (Nat.le_of_ble_eq_true rfl) dX1_layRest_80 ⟨Nat.zero_le _, Nat.zero_le _⟩ (fun H locs hP hD hS => ?_)
                refine lv_if_eq (tgt := 140) hx hb dX1_layRest_83 (by decide) (fun c83 => ?_) (fun c83 => ?_)
                · have hM := g_pos c83 hM
                  refine lv_iinc (v := x6_52 + (1 : Int32)) (lv' := [(6, .int (x6_52 + (1 : Int32))), (0, .ref h0), (1, .ref g1), (3, .int p3), (4, .int p4), (5, .int p5)]) hx hb dX1_layRest_140 hl (k := 5) rfl rfl (by decide) rfl (fun ls hl => ?_)
                  refine lv_goto (tgt := 52) hx hb dX1_layRest_143 (by decide) ?_
                  exact ih (x6_52 + (1 : Int32)) v_rest_52 v_rest_e52 _ _ _ hM hP hD hS (lv_sub hl [1, 2, 3, 4, 5, 0] rfl) K
                · have hM := g_neg c83 hM
                  refine lv_aload_n hx hb dX1_layRest_86 rfl (lv_at hl 0 rfl) ?_
                  refine va_get (D := D) (ci := 1) (v := .ref h0_times) (C := RX1) (T := TX1) (N := 2) hx hb hts iX1 hown hK hP 0 rfl rfl 0 (by decide) k13 (fun _ h9 => h9) rfl dX1_layRest_87 ?_
                  refine lv_iload_n hx hb dX1_layRest_90 rfl (lv_at hl 2 rfl) ?_
                  refine lv_iconst (v := 1) hx hb dX1_layRest_91 (by decide) ?_
                  refine lv_isub hx hb dX1_layRest_92 ?_
                  refine lv_bipush (v := 7) hx hb dX1_layRest_93 (by decide) ?_
                  refine lv_imul hx hb dX1_layRest_95 ?_
                  refine lv_iload hx hb dX1_layRest_96 (lv_at hl 5 rfl) ?_
                  refine lv_iadd hx hb dX1_layRest_98 ?_
                  obtain ⟨h99, hM⟩ := gi_some hM
                  refine wv_aald hx hb hK hP 1 6 rfl rfl h99 dX1_layRest_99 ?_
                  refine lv_astore (lv' := [(7, .ref (rh0_times (((p3 - (1 : Int32)) * (7 : Int32)) + x6_52).toNatClampNeg)), (0, .ref h0), (1, .ref g1), (3, .int p3), (4, .int p4), (5, .int p5), (6, .int x6_52)]) hx hb dX1_layRest_100 hl (by decide) rfl (fun ls hl => ?_)
                  refine lv_iconst (v := 0) hx hb dX1_layRest_102 (by decide) ?_
                  refine lv_istore (lv' := [(8, .int (0 : Int32)), (7, .ref (rh0_times (((p3 - (1 : Int32)) * (7 : Int32)) + x6_52).toNatClampNeg)), (0, .ref h0), (1, .ref g1), (3, .int p3), (4, .int p4), (5, .int p5), (6, .int x6_52)]) hx hb dX1_layRest_103 hl (by decide) rfl (fun ls hl => ?_)
                  have L105 : ∀ (n : Nat) (x8_105 : Int32) (v_rest_105 : Nat → Int64) (v_rest_e105 : Nat → Int64) (H : Heap) (locs : List Loc) (ls : Array Slot), f1_layRest_L105 N p3 p5 v_times x6_52 n x8_105 v_rest_105 = some v_rest_e105 → va_P D vwCl ([(h0, .inr (1, [.ref h0_times, .ref h0_rest])), (h0_times, .inl (cy 6, 287, gO 287 rh0_times)), (h0_rest, .inl (cy 3, 94, .inr (.inl v_rest_105))), (g1, .inr (0, [.int w1_parts, og1_1, og1_2, og1_3, og1_4, og1_5, og1_6, og1_7, .ref g1_near, og1_9, og1_10, og1_11, og1_12])), (g1_near, .inl (cy 2, 7, .inl w1_near))] ++ (gWL rh0_times 287 94 (cy 3) v_times)) H → va_D A ([(h0, .inr (1, [.ref h0_times, .ref h0_rest])), (h0_times, .inl (cy 6, 287, gO 287 rh0_times)), (h0_rest, .inl (cy 3, 94, .inr (.inl v_rest_105))), (g1, .inr (0, [.int w1_parts, og1_1, og1_2, og1_3, og1_4, og1_5, og1_6, og1_7, .ref g1_near, og1_9, og1_10, og1_11, og1_12])), (g1_near, .inl (cy 2, 7, .inl w1_near))] ++ (gWL rh0_times 287 94 (cy 3) v_times)) → va_S A s.heap H locs → lv_has ls 9 [(0, .ref h0), (1, .ref g1), (3, .int p3), (4, .int p4), (5, .int p5), (6, .int x6_52), (7, .ref (rh0_times (((p3 - (1 : Int32)) * (7 : Int32)) + x6_52).toNatClampNeg)), (8, .int x8_105)] → (∀ (H : Heap) (locs : List Loc) (ls : Array Slot), va_P D vwCl ([(h0, .inr (1, [.ref h0_times, .ref h0_rest])), (h0_times, .inl (cy 6, 287, gO 287 rh0_times)), (h0_rest, .inl (cy 3, 94, .inr (.inl v_rest_e105))), (g1, .inr (0, [.int w1_parts, og1_1, og1_2, og1_3, og1_4, og1_5, og1_6, og1_7, .ref g1_near, og1_9, og1_10, og1_11, og1_12])), (g1_near, .inl (cy 2, 7, .inl w1_near))] ++ (gWL rh0_times 287 94 (cy 3) v_times)) H → va_D A ([(h0, .inr (1, [.ref h0_times, .ref h0_rest])), (h0_times, .inl (cy 6, 287, gO 287 rh0_times)), (h0_rest, .inl (cy 3, 94, .inr (.inl v_rest_e105))), (g1, .inr (0, [.int w1_parts, og1_1, og1_2, og1_3, og1_4, og1_5, og1_6, og1_7, .ref g1_near, og1_9, og1_10, og1_11, og1_12])), (g1_near, .inl (cy 2, 7, .inl w1_near))] ++ (gWL rh0_times 287 94 (cy 3) v_times)) → va_S A s.heap H locs → lv_has ls 9 [(0, .ref h0), (1, .ref g1), (3, .int p3), (4, .int p4), (5, .int p5), (6, .int x6_52)] → W p l e r1_layRest s m args below meth c H locs 0 0 Q (F0 m 140 ls [])) → W p l e r1_layRest s m args below meth c H locs 0 0 Q (F0 m 105 ls []) := by
                    intro n
                    induction n with
                    | zero =>
                      intro x8_105 v_rest_105 v_rest_e105 H locs ls hM
                      exact absurd hM (by simp [f1_layRest_L105])
                    | succ n ih =>
                      intro x8_105 v_rest_105 v_rest_e105 H locs ls hM hP hD hS hl K
                      rw [f1_layRest_L105] at hM
                      refine lv_iload hx hb dX1_layRest_105 (lv_at hl 7 rfl) ?_
                      refine lv_iload hx hb dX1_layRest_107 (lv_at hl 4 rfl) ?_
                      refine lv_icmp_ge (tgt := 140) hx hb dX1_layRest_109 (by decide) (fun c109 => ?_) (fun c109 => ?_)
                      · have hM := g_pos c109 hM
                        obtain rfl := si1 hM
                        exact K _ _ _ hP hD hS (lv_sub hl [0, 1, 2, 3, 4, 5] rfl)
                      · have hM := g_neg c109 hM
                        refine lv_iload hx hb dX1_layRest_112 (lv_at hl 7 rfl) ?_
                        refine lv_bipush (v := 94) hx hb dX1_layRest_114 (by decide) ?_
                        refine lv_icmp_ge (tgt := 140) hx hb dX1_layRest_116 (by decide) (fun c116 => ?_) (fun c116 => ?_)
                        · have hM := g_pos c116 hM
                          obtain rfl := si1 hM
                          exact K _ _ _ hP hD hS (lv_sub hl [0, 1, 2, 3, 4, 5] rfl)
                        · have hM := g_neg c116 hM
                          refine lv_aload_n hx hb dX1_layRest_119 rfl (lv_at hl 0 rfl) ?_
                          refine va_get (D := D) (ci := 1) (v := .ref h0_rest) (C := RX1) (T := TX1) (N := 2) hx hb hts iX1 hown hK hP 0 rfl rfl 1 (by decide) k16 (fun _ h9 => h9) rfl dX1_layRest_120 ?_
                          refine lv_iload hx hb dX1_layRest_123 (lv_at hl 7 rfl) ?_
                          refine lv_dup2_11 hx hb dX1_layRest_125 rfl rfl ?_
                          obtain ⟨h126, hM⟩ := gi_some hM
                          refine va_lald hx hb hK hP 2 3 rfl rfl h126 dX1_layRest_126 ?_
                          refine lv_aload hx hb dX1_layRest_127 (lv_at hl 6 rfl) ?_
                          refine lv_iload hx hb dX1_layRest_129 (lv_at hl 7 rfl) ?_
                          obtain ⟨h131, hM⟩ := gi_some hM
                          refine wv_lald hx hb hK hP 3 (gWL_rowS h99) rfl h131 dX1_layRest_131 ?_
                          refine lv_lor hx hb dX1_layRest_132 ?_
                          obtain ⟨h133, hM⟩ := gi_some hM
                          refine va_last hx hb hK hP hD hS 2 3 rfl rfl h133 dX1_layRest_133 (fun H locs hP hD hS => ?_)
                          have hP : va_P D vwCl ([(h0, .inr (1, [.ref h0_times, .ref h0_rest])), (h0_times, .inl (cy 6, 287, gO 287 rh0_times)), (h0_rest, .inl (cy 3, 94, .inr (.inl (vp_updL v_rest_105 x8_105.toNatClampNeg ((v_rest_105 x8_105.toNatClampNeg) ||| ((v_times (((p3 - (1 : Int32)) * (7 : Int32)) + x6_52).toNatClampNeg) x8_105.toNatClampNeg)))))), (g1, .inr (0, [.int w1_parts, og1_1, og1_2, og1_3, og1_4, og1_5, og1_6, og1_7, .ref g1_near, og1_9, og1_10, og1_11, og1_12])), (g1_near, .inl (cy 2, 7, .inl w1_near))] ++ (gWL rh0_times 287 94 (cy 3) v_times)) H := hP
                          have hD : va_D A ([(h0, .inr (1, [.ref h0_times, .ref h0_rest])), (h0_times, .inl (cy 6, 287, gO 287 rh0_times)), (h0_rest, .inl (cy 3, 94, .inr (.inl (vp_updL v_rest_105 x8_105.toNatClampNeg ((v_rest_105 x8_105.toNatClampNeg) ||| ((v_times (((p3 - (1 : Int32)) * (7 : Int32)) + x6_52).toNatClampNeg) x8_105.toNatClampNeg)))))), (g1, .inr (0, [.int w1_parts, og1_1, og1_2, og1_3, og1_4, og1_5, og1_6, og1_7, .ref g1_near, og1_9, og1_10, og1_11, og1_12])), (g1_near, .inl (cy 2, 7, .inl w1_near))] ++ (gWL rh0_times 287 94 (cy 3) v_times)) := hD
                          refine lv_iinc (v := x8_105 + (1 : Int32)) (lv' := [(8, .int (x8_105 + (1 : Int32))), (0, .ref h0), (1, .ref g1), (3, .int p3), (4, .int p4), (5, .int p5), (6, .int x6_52), (7, .ref (rh0_times (((p3 - (1 : Int32)) * (7 : Int32)) + x6_52).toNatClampNeg))]) hx hb dX1_layRest_134 hl (k := 7) rfl rfl (by decide) rfl (fun ls hl => ?_)
                          refine lv_goto (tgt := 105) hx hb dX1_layRest_137 (by decide) ?_
                          exact ih (x8_105 + (1 : Int32)) (vp_updL v_rest_105 x8_105.toNatClampNeg ((v_rest_105 x8_105.toNatClampNeg) ||| ((v_times (((p3 - (1 : Int32)) * (7 : Int32)) + x6_52).toNatClampNeg) x8_105.toNatClampNeg))) v_rest_e105 _ _ _ hM hP hD hS (lv_sub hl [1, 2, 3, 4, 5, 6, 7, 0] rfl) K
                  obtain ⟨v_rest_e105, hL105, hM⟩ := ob1_some hM
                  refine L105 N (0 : Int32) v_rest_52 v_rest_e105 _ _ _ hL105 hP hD hS (lv_sub hl [2, 3, 4, 5, 6, 7, 1, 0] rfl) ?_
                  intro H locs ls hP hD hS hl
                  refine lv_iinc (v := x6_52 + (1 : Int32)) (lv' := [(6, .int (x6_52 + (1 : Int32))), (0, .ref h0), (1, .ref g1), (3, .int p3), (4, .int p4), (5, .int p5)]) hx hb dX1_layRest_140 hl (k := 5) rfl rfl (by decide) rfl (fun ls hl => ?_)
                  refine lv_goto (tgt := 52) hx hb dX1_layRest_143 (by decide) ?_
                  exact ih (x6_52 + (1 : Int32)) v_rest_e105 v_rest_e52 _ _ _ hM hP hD hS (lv_sub hl [1, 2, 3, 4, 5, 0] rfl) K
      obtain ⟨v_rest_e52, hL52, hM⟩ := ob1_some hM
      refine L52 N (0 : Int32) v_rest_e3 v_rest_e52 _ _ _ hL52 hP hD hS (lv_sub hl [1, 2, 4, 5, 6, 0] rfl) ?_
      intro H locs ls hP hD hS hl
      obtain rfl := si1 hM
      exact hret _ _ _ _ dX1_layRest_146 hP hD hS
    · have hM := g_pos c39 hM
      refine lv_aload_n hx hb dX1_layRest_42 rfl (lv_at hl 0 rfl) ?_
      refine va_get (D := D) (ci := 1) (v := .ref h0_rest) (C := RX1) (T := TX1) (N := 2) hx hb hts iX1 hown hK hP 0 rfl rfl 1 (by decide) k16 (fun _ h9 => h9) rfl dX1_layRest_43 ?_
      refine lv_iconst (v := 0) hx hb dX1_layRest_46 (by decide) ?_
      refine lv_lconst (v := 1) hx hb dX1_layRest_47 (by decide) ?_
      obtain ⟨h48, hM⟩ := gi_some hM
      refine va_last hx hb hK hP hD hS 2 3 rfl rfl h48 dX1_layRest_48 (fun H locs hP hD hS => ?_)
      have hP : va_P D vwCl ([(h0, .inr (1, [.ref h0_times, .ref h0_rest])), (h0_times, .inl (cy 6, 287, gO 287 rh0_times)), (h0_rest, .inl (cy 3, 94, .inr (.inl (vp_updL v_rest_e3 (0 : Int32).toNatClampNeg (1 : Int64))))), (g1, .inr (0, [.int w1_parts, og1_1, og1_2, og1_3, og1_4, og1_5, og1_6, og1_7, .ref g1_near, og1_9, og1_10, og1_11, og1_12])), (g1_near, .inl (cy 2, 7, .inl w1_near))] ++ (gWL rh0_times 287 94 (cy 3) v_times)) H := hP
      have hD : va_D A ([(h0, .inr (1, [.ref h0_times, .ref h0_rest])), (h0_times, .inl (cy 6, 287, gO 287 rh0_times)), (h0_rest, .inl (cy 3, 94, .inr (.inl (vp_updL v_rest_e3 (0 : Int32).toNatClampNeg (1 : Int64))))), (g1, .inr (0, [.int w1_parts, og1_1, og1_2, og1_3, og1_4, og1_5, og1_6, og1_7, .ref g1_near, og1_9, og1_10, og1_11, og1_12])), (g1_near, .inl (cy 2, 7, .inl w1_near))] ++ (gWL rh0_times 287 94 (cy 3) v_times)) := hD
      refine lv_iconst (v := 0) hx hb dX1_layRest_49 (by decide) ?_
      refine lv_istore (lv' := [(6, .int (0 : Int32)), (0, .ref h0), (1, .ref g1), (2, .int p2), (3, .int p3), (4, .int p4), (5, .int p5)]) hx hb dX1_layRest_50 hl (by decide) rfl (fun ls hl => ?_)
      have L52 : ∀ (n : Nat) (x6_52 : Int32) (v_rest_52 : Nat → Int64) (v_rest_e52 : Nat → Int64) (H : Heap) (locs : List Loc) (ls : Array Slot), f1_layRest_L52 N p3 p4 p5 v_times w1_parts w1_near n x6_52 v_rest_52 = some v_rest_e52 → va_P D vwCl ([(h0, .inr (1, [.ref h0_times, .ref h0_rest])), (h0_times, .inl (cy 6, 287, gO 287 rh0_times)), (h0_rest, .inl (cy 3, 94, .inr (.inl v_rest_52))), (g1, .inr (0, [.int w1_parts, og1_1, og1_2, og1_3, og1_4, og1_5, og1_6, og1_7, .ref g1_near, og1_9, og1_10, og1_11, og1_12])), (g1_near, .inl (cy 2, 7, .inl w1_near))] ++ (gWL rh0_times 287 94 (cy 3) v_times)) H → va_D A ([(h0, .inr (1, [.ref h0_times, .ref h0_rest])), (h0_times, .inl (cy 6, 287, gO 287 rh0_times)), (h0_rest, .inl (cy 3, 94, .inr (.inl v_rest_52))), (g1, .inr (0, [.int w1_parts, og1_1, og1_2, og1_3, og1_4, og1_5, og1_6, og1_7, .ref g1_near, og1_9, og1_10, og1_11, og1_12])), (g1_near, .inl (cy 2, 7, .inl w1_near))] ++ (gWL rh0_times 287 94 (cy 3) v_times)) → va_S A s.heap H locs → lv_has ls 9 [(0, .ref h0), (1, .ref g1), (3, .int p3), (4, .int p4), (5, .int p5), (6, .int x6_52)] → (∀ (H : Heap) (locs : List Loc) (ls : Array Slot), va_P D vwCl ([(h0, .inr (1, [.ref h0_times, .ref h0_rest])), (h0_times, .inl (cy 6, 287, gO 287 rh0_times)), (h0_rest, .inl (cy 3, 94, .inr (.inl v_rest_e52))), (g1, .inr (0, [.int w1_parts, og1_1, og1_2, og1_3, og1_4, og1_5, og1_6, og1_7, .ref g1_near, og1_9, og1_10, og1_11, og1_12])), (g1_near, .inl (cy 2, 7, .inl w1_near))] ++ (gWL rh0_times 287 94 (cy 3) v_times)) H → va_D A ([(h0, .inr (1, [.ref h0_times, .ref h0_rest])), (h0_times, .inl (cy 6, 287, gO 287 rh0_times)), (h0_rest, .inl (cy 3, 94, .inr (.inl v_rest_e52))), (g1, .inr (0, [.int w1_parts, og1_1, og1_2, og1_3, og1_4, og1_5, og1_6, og1_7, .ref g1_near, og1_9, og1_10, og1_11, og1_12])), (g1_near, .inl (cy 2, 7, .inl w1_near))] ++ (gWL rh0_times 287 94 (cy 3) v_times)) → va_S A s.heap H locs → lv_has ls 9 [] → W p l e r1_layRest s m args below meth c H locs 0 0 Q (F0 m 146 ls [])) → W p l e r1_layRest s m args below meth c H locs 0 0 Q (F0 m 52 ls []) := by
        intro n
        induction n with
        | zero =>
          intro x6_52 v_rest_52 v_rest_e52 H locs ls hM
          exact absurd hM (by simp [f1_layRest_L52])
        | succ n ih =>
          intro x6_52 v_rest_52 v_rest_e52 H locs ls hM hP hD hS hl K
          rw [f1_layRest_L52] at hM
          refine lv_iload hx hb dX1_layRest_52 (lv_at hl 5 rfl) ?_
          refine lv_bipush (v := 7) hx hb dX1_layRest_54 (by decide) ?_
          refine lv_icmp_ge (tgt := 146) hx hb dX1_layRest_56 (by decide) (fun c56 => ?_) (fun c56 => ?_)
          · have hM := g_pos c56 hM
            obtain rfl := si1 hM
            exact K _ _ _ hP hD hS (lv_sub hl [] rfl)
          · have hM := g_neg c56 hM
            refine lv_iload_n hx hb dX1_layRest_59 rfl (lv_at hl 2 rfl) ?_
            refine lv_iconst (v := 1) hx hb dX1_layRest_60 (by decide) ?_
            refine lv_icmp_le (tgt := 140) hx hb dX1_layRest_61 (by decide) (fun c61 => ?_) (fun c61 => ?_)
            · have hM := g_pos c61 hM
              refine lv_iinc (v := x6_52 + (1 : Int32)) (lv' := [(6, .int (x6_52 + (1 : Int32))), (0, .ref h0), (1, .ref g1), (3, .int p3), (4, .int p4), (5, .int p5)]) hx hb dX1_layRest_140 hl (k := 5) rfl rfl (by decide) rfl (fun ls hl => ?_)
              refine lv_goto (tgt := 52) hx hb dX1_layRest_143 (by decide) ?_
              exact ih (x6_52 + (1 : Int32)) v_rest_52 v_rest_e52 _ _ _ hM hP hD hS (lv_sub hl [1, 2, 3, 4, 5, 0] rfl) K
            · have hM := g_neg c61 hM
              refine lv_aload_n hx hb dX1_layRest_64 rfl (lv_at hl 1 rfl) ?_
              refine lv_iload hx hb dX1_layRest_65 (lv_at hl 3 rfl) ?_
              refine lv_iload hx hb dX1_layRest_67 (lv_at hl 5 rfl) ?_
              obtain ⟨r69, hc69, hM⟩ := ob1_some hM
              refine cg_vi (As := [.int p4, .int x6_52]) (rest := []) (ci := 0) (q0 := 3) (wr := ([(h0, .inr (1, [.ref h0_times, .ref h0_rest])), (h0_times, .inl (cy 6, 287, gO 287 rh0_times)), (h0_rest, .inl (cy 3, 94, .inr (.inl v_rest_52)))] ++ (gWL rh0_times 287 94 (cy 3) v_times))) (ws2 := ([(h0, .inr (1, [.ref h0_times, .ref h0_rest])), (h0_times, .inl (cy 6, 287, gO 287 rh0_times)), (h0_rest, .inl (cy 3, 94, .inr (.inl v_rest_52))), (g1, .inr (0, [.int w1_parts, og1_1, og1_2, og1_3, og1_4, og1_5, og1_6, og1_7, .ref g1_near, og1_9, og1_10, og1_11, og1_12])), (g1_near, .inl (cy 2, 7, .inl w1_near))] ++ (gWL rh0_times 287 94 (cy 3) v_times))) hx hb hml hown hts (c0_mayFollow l D cy N g1 g1_near og1_1 og1_2 og1_3 og1_4 og1_5 og1_6 og1_7 og1_9 og1_10 og1_11 og1_12 p4 x6_52 w1_parts w1_near r69 hc69) (cwV 2 hts gX1_layRest_X0_mayFollow rfl rfl rfl (by decide +kernel) ⟨Nat.le_of_ble_eq_true rfl, Nat.le_of_ble_eq_true rfl⟩) hK hP hD hS hA rfl rfl (pm_Q (pm_x [0, 1, 2, 3, 4] rfl rfl)) (pm_Q (pm_x [0, 1, 2, 3, 4] rfl rfl)).symm rfl rfl hl.1 (Nat.le_of_ble_eq_true rfl) dX1_layRest_69 ⟨Nat.zero_le _, Nat.zero_le _⟩ (fun H locs hP hD hS => ?_)
              refine lv_if_eq (tgt := 140) hx hb dX1_layRest_72 (by decide) (fun c72 => ?_) (fun c72 => ?_)
              · have hM := g_pos c72 hM
                refine lv_iinc (v := x6_52 + (1 : Int32)) (lv' := [(6, .int (x6_52 + (1 : Int32))), (0, .ref h0), (1, .ref g1), (3, .int p3), (4, .int p4), (5, .int p5)]) hx hb dX1_layRest_140 hl (k := 5) rfl rfl (by decide) rfl (fun ls hl => ?_)
                refine lv_goto (tgt := 52) hx hb dX1_layRest_143 (by decide) ?_
                exact ih (x6_52 + (1 : Int32)) v_rest_52 v_rest_e52 _ _ _ hM hP hD hS (lv_sub hl [1, 2, 3, 4, 5, 0] rfl) K
              · have hM := g_neg c72 hM
                refine lv_iload_n hx hb dX1_layRest_75 rfl (lv_at hl 2 rfl) ?_
                refine lv_iconst (v := 1) hx hb dX1_layRest_76 (by decide) ?_
                refine lv_isub hx hb dX1_layRest_77 ?_
                refine lv_iload hx hb dX1_layRest_78 (lv_at hl 5 rfl) ?_
                obtain ⟨r80, hc80, hM⟩ := ob1_some hM
                refine cg_si (As := [.int (p3 - (1 : Int32)), .int x6_52]) (rest := []) (wr := ([(h0, .inr (1, [.ref h0_times, .ref h0_rest])), (h0_times, .inl (cy 6, 287, gO 287 rh0_times)), (h0_rest, .inl (cy 3, 94, .inr (.inl v_rest_52))), (g1, .inr (0, [.int w1_parts, og1_1, og1_2, og1_3, og1_4, og1_5, og1_6, og1_7, .ref g1_near, og1_9, og1_10, og1_11, og1_12])), (g1_near, .inl (cy 2, 7, .inl w1_near))] ++ (gWL rh0_times 287 94 (cy 3) v_times))) (ws2 := ([(h0, .inr (1, [.ref h0_times, .ref h0_rest])), (h0_times, .inl (cy 6, 287, gO 287 rh0_times)), (h0_rest, .inl (cy 3, 94, .inr (.inl v_rest_52))), (g1, .inr (0, [.int w1_parts, og1_1, og1_2, og1_3, og1_4, og1_5, og1_6, og1_7, .ref g1_near, og1_9, og1_10, og1_11, og1_12])), (g1_near, .inl (cy 2, 7, .inl w1_near))] ++ (gWL rh0_times 287 94 (cy 3) v_times))) hx hb hml hown hts (c1_isRow l D cy N (p3 - (1 : Int32)) x6_52 r80 hc80) (va_cwS 2 hts gX1_layRest_X1_isRow rfl rfl rfl (by decide +kernel) ⟨Nat.le_of_ble_eq_true rfl, Nat.le_of_ble_eq_true rfl⟩) hK hP hD hS hA (pm_Q (pm_x [0, 1, 2, 3, 4] rfl rfl)) (pm_Q (pm_x [0, 1, 2, 3, 4] rfl rfl)).symm rfl rfl hl.1 (Nat.le_of_ble_eq_true rfl) dX1_layRest_80 ⟨Nat.zero_le _, Nat.zero_le _⟩ (fun H locs hP hD hS => ?_)
                refine lv_if_eq (tgt := 140) hx hb dX1_layRest_83 (by decide) (fun c83 => ?_) (fun c83 => ?_)
                · have hM := g_pos c83 hM
                  refine lv_iinc (v := x6_52 + (1 : Int32)) (lv' := [(6, .int (x6_52 + (1 : Int32))), (0, .ref h0), (1, .ref g1), (3, .int p3), (4, .int p4), (5, .int p5)]) hx hb dX1_layRest_140 hl (k := 5) rfl rfl (by decide) rfl (fun ls hl => ?_)
                  refine lv_goto (tgt := 52) hx hb dX1_layRest_143 (by decide) ?_
                  exact ih (x6_52 + (1 : Int32)) v_rest_52 v_rest_e52 _ _ _ hM hP hD hS (lv_sub hl [1, 2, 3, 4, 5, 0] rfl) K
                · have hM := g_neg c83 hM
                  refine lv_aload_n hx hb dX1_layRest_86 rfl (lv_at hl 0 rfl) ?_
                  refine va_get (D := D) (ci := 1) (v := .ref h0_times) (C := RX1) (T := TX1) (N := 2) hx hb hts iX1 hown hK hP 0 rfl rfl 0 (by decide) k13 (fun _ h9 => h9) rfl dX1_layRest_87 ?_
                  refine lv_iload_n hx hb dX1_layRest_90 rfl (lv_at hl 2 rfl) ?_
                  refine lv_iconst (v := 1) hx hb dX1_layRest_91 (by decide) ?_
                  refine lv_isub hx hb dX1_layRest_92 ?_
                  refine lv_bipush (v := 7) hx hb dX1_layRest_93 (by decide) ?_
                  refine lv_imul hx hb dX1_layRest_95 ?_
                  refine lv_iload hx hb dX1_layRest_96 (lv_at hl 5 rfl) ?_
                  refine lv_iadd hx hb dX1_layRest_98 ?_
                  obtain ⟨h99, hM⟩ := gi_some hM
                  refine wv_aald hx hb hK hP 1 6 rfl rfl h99 dX1_layRest_99 ?_
                  refine lv_astore (lv' := [(7, .ref (rh0_times (((p3 - (1 : Int32)) * (7 : Int32)) + x6_52).toNatClampNeg)), (0, .ref h0), (1, .ref g1), (3, .int p3), (4, .int p4), (5, .int p5), (6, .int x6_52)]) hx hb dX1_layRest_100 hl (by decide) rfl (fun ls hl => ?_)
                  refine lv_iconst (v := 0) hx hb dX1_layRest_102 (by decide) ?_
                  refine lv_istore (lv' := [(8, .int (0 : Int32)), (7, .ref (rh0_times (((p3 - (1 : Int32)) * (7 : Int32)) + x6_52).toNatClampNeg)), (0, .ref h0), (1, .ref g1), (3, .int p3), (4, .int p4), (5, .int p5), (6, .int x6_52)]) hx hb dX1_layRest_103 hl (by decide) rfl (fun ls hl => ?_)
                  have L105 : ∀ (n : Nat) (x8_105 : Int32) (v_rest_105 : Nat → Int64) (v_rest_e105 : Nat → Int64) (H : Heap) (locs : List Loc) (ls : Array Slot), f1_layRest_L105 N p3 p5 v_times x6_52 n x8_105 v_rest_105 = some v_rest_e105 → va_P D vwCl ([(h0, .inr (1, [.ref h0_times, .ref h0_rest])), (h0_times, .inl (cy 6, 287, gO 287 rh0_times)), (h0_rest, .inl (cy 3, 94, .inr (.inl v_rest_105))), (g1, .inr (0, [.int w1_parts, og1_1, og1_2, og1_3, og1_4, og1_5, og1_6, og1_7, .ref g1_near, og1_9, og1_10, og1_11, og1_12])), (g1_near, .inl (cy 2, 7, .inl w1_near))] ++ (gWL rh0_times 287 94 (cy 3) v_times)) H → va_D A ([(h0, .inr (1, [.ref h0_times, .ref h0_rest])), (h0_times, .inl (cy 6, 287, gO 287 rh0_times)), (h0_rest, .inl (cy 3, 94, .inr (.inl v_rest_105))), (g1, .inr (0, [.int w1_parts, og1_1, og1_2, og1_3, og1_4, og1_5, og1_6, og1_7, .ref g1_near, og1_9, og1_10, og1_11, og1_12])), (g1_near, .inl (cy 2, 7, .inl w1_near))] ++ (gWL rh0_times 287 94 (cy 3) v_times)) → va_S A s.heap H locs → lv_has ls 9 [(0, .ref h0), (1, .ref g1), (3, .int p3), (4, .int p4), (5, .int p5), (6, .int x6_52), (7, .ref (rh0_times (((p3 - (1 : Int32)) * (7 : Int32)) + x6_52).toNatClampNeg)), (8, .int x8_105)] → (∀ (H : Heap) (locs : List Loc) (ls : Array Slot), va_P D vwCl ([(h0, .inr (1, [.ref h0_times, .ref h0_rest])), (h0_times, .inl (cy 6, 287, gO 287 rh0_times)), (h0_rest, .inl (cy 3, 94, .inr (.inl v_rest_e105))), (g1, .inr (0, [.int w1_parts, og1_1, og1_2, og1_3, og1_4, og1_5, og1_6, og1_7, .ref g1_near, og1_9, og1_10, og1_11, og1_12])), (g1_near, .inl (cy 2, 7, .inl w1_near))] ++ (gWL rh0_times 287 94 (cy 3) v_times)) H → va_D A ([(h0, .inr (1, [.ref h0_times, .ref h0_rest])), (h0_times, .inl (cy 6, 287, gO 287 rh0_times)), (h0_rest, .inl (cy 3, 94, .inr (.inl v_rest_e105))), (g1, .inr (0, [.int w1_parts, og1_1, og1_2, og1_3, og1_4, og1_5, og1_6, og1_7, .ref g1_near, og1_9, og1_10, og1_11, og1_12])), (g1_near, .inl (cy 2, 7, .inl w1_near))] ++ (gWL rh0_times 287 94 (cy 3) v_times)) → va_S A s.heap H locs → lv_has ls 9 [(0, .ref h0), (1, .ref g1), (3, .int p3), (4, .int p4), (5, .int p5), (6, .int x6_52)] → W p l e r1_layRest s m args below meth c H locs 0 0 Q (F0 m 140 ls [])) → W p l e r1_layRest s m args below meth c H locs 0 0 Q (F0 m 105 ls []) := by
                    intro n
                    induction n with
                    | zero =>
                      intro x8_105 v_rest_105 v_rest_e105 H locs ls hM
                      exact absurd hM (by simp [f1_layRest_L105])
                    | succ n ih =>
                      intro x8_105 v_rest_105 v_rest_e105 H locs ls hM hP hD hS hl K
                      rw [f1_layRest_L105] at hM
                      refine lv_iload hx hb dX1_layRest_105 (lv_at hl 7 rfl) ?_
                      refine lv_iload hx hb dX1_layRest_107 (lv_at hl 4 rfl) ?_
                      refine lv_icmp_ge (tgt := 140) hx hb dX1_layRest_109 (by decide) (fun c109 => ?_) (fun c109 => ?_)
                      · have hM := g_pos c109 hM
                        obtain rfl := si1 hM
                        exact K _ _ _ hP hD hS (lv_sub hl [0, 1, 2, 3, 4, 5] rfl)
                      · have hM := g_neg c109 hM
                        refine lv_iload hx hb dX1_layRest_112 (lv_at hl 7 rfl) ?_
                        refine lv_bipush (v := 94) hx hb dX1_layRest_114 (by decide) ?_
                        refine lv_icmp_ge (tgt := 140) hx hb dX1_layRest_116 (by decide) (fun c116 => ?_) (fun c116 => ?_)
                        · have hM := g_pos c116 hM
                          obtain rfl := si1 hM
                          exact K _ _ _ hP hD hS (lv_sub hl [0, 1, 2, 3, 4, 5] rfl)
                        · have hM := g_neg c116 hM
                          refine lv_aload_n hx hb dX1_layRest_119 rfl (lv_at hl 0 rfl) ?_
                          refine va_get (D := D) (ci := 1) (v := .ref h0_rest) (C := RX1) (T := TX1) (N := 2) hx hb hts iX1 hown hK hP 0 rfl rfl 1 (by decide) k16 (fun _ h9 => h9) rfl dX1_layRest_120 ?_
                          refine lv_iload hx hb dX1_layRest_123 (lv_at hl 7 rfl) ?_
                          refine lv_dup2_11 hx hb dX1_layRest_125 rfl rfl ?_
                          obtain ⟨h126, hM⟩ := gi_some hM
                          refine va_lald hx hb hK hP 2 3 rfl rfl h126 dX1_layRest_126 ?_
                          refine lv_aload hx hb dX1_layRest_127 (lv_at hl 6 rfl) ?_
                          refine lv_iload hx hb dX1_layRest_129 (lv_at hl 7 rfl) ?_
                          obtain ⟨h131, hM⟩ := gi_some hM
                          refine wv_lald hx hb hK hP 3 (gWL_rowS h99) rfl h131 dX1_layRest_131 ?_
                          refine lv_lor hx hb dX1_layRest_132 ?_
                          obtain ⟨h133, hM⟩ := gi_some hM
                          refine va_last hx hb hK hP hD hS 2 3 rfl rfl h133 dX1_layRest_133 (fun H locs hP hD hS => ?_)
                          have hP : va_P D vwCl ([(h0, .inr (1, [.ref h0_times, .ref h0_rest])), (h0_times, .inl (cy 6, 287, gO 287 rh0_times)), (h0_rest, .inl (cy 3, 94, .inr (.inl (vp_updL v_rest_105 x8_105.toNatClampNeg ((v_rest_105 x8_105.toNatClampNeg) ||| ((v_times (((p3 - (1 : Int32)) * (7 : Int32)) + x6_52).toNatClampNeg) x8_105.toNatClampNeg)))))), (g1, .inr (0, [.int w1_parts, og1_1, og1_2, og1_3, og1_4, og1_5, og1_6, og1_7, .ref g1_near, og1_9, og1_10, og1_11, og1_12])), (g1_near, .inl (cy 2, 7, .inl w1_near))] ++ (gWL rh0_times 287 94 (cy 3) v_times)) H := hP
                          have hD : va_D A ([(h0, .inr (1, [.ref h0_times, .ref h0_rest])), (h0_times, .inl (cy 6, 287, gO 287 rh0_times)), (h0_rest, .inl (cy 3, 94, .inr (.inl (vp_updL v_rest_105 x8_105.toNatClampNeg ((v_rest_105 x8_105.toNatClampNeg) ||| ((v_times (((p3 - (1 : Int32)) * (7 : Int32)) + x6_52).toNatClampNeg) x8_105.toNatClampNeg)))))), (g1, .inr (0, [.int w1_parts, og1_1, og1_2, og1_3, og1_4, og1_5, og1_6, og1_7, .ref g1_near, og1_9, og1_10, og1_11, og1_12])), (g1_near, .inl (cy 2, 7, .inl w1_near))] ++ (gWL rh0_times 287 94 (cy 3) v_times)) := hD
                          refine lv_iinc (v := x8_105 + (1 : Int32)) (lv' := [(8, .int (x8_105 + (1 : Int32))), (0, .ref h0), (1, .ref g1), (3, .int p3), (4, .int p4), (5, .int p5), (6, .int x6_52), (7, .ref (rh0_times (((p3 - (1 : Int32)) * (7 : Int32)) + x6_52).toNatClampNeg))]) hx hb dX1_layRest_134 hl (k := 7) rfl rfl (by decide) rfl (fun ls hl => ?_)
                          refine lv_goto (tgt := 105) hx hb dX1_layRest_137 (by decide) ?_
                          exact ih (x8_105 + (1 : Int32)) (vp_updL v_rest_105 x8_105.toNatClampNeg ((v_rest_105 x8_105.toNatClampNeg) ||| ((v_times (((p3 - (1 : Int32)) * (7 : Int32)) + x6_52).toNatClampNeg) x8_105.toNatClampNeg))) v_rest_e105 _ _ _ hM hP hD hS (lv_sub hl [1, 2, 3, 4, 5, 6, 7, 0] rfl) K
                  obtain ⟨v_rest_e105, hL105, hM⟩ := ob1_some hM
                  refine L105 N (0 : Int32) v_rest_52 v_rest_e105 _ _ _ hL105 hP hD hS (lv_sub hl [2, 3, 4, 5, 6, 7, 1, 0] rfl) ?_
                  intro H locs ls hP hD hS hl
                  refine lv_iinc (v := x6_52 + (1 : Int32)) (lv' := [(6, .int (x6_52 + (1 : Int32))), (0, .ref h0), (1, .ref g1), (3, .int p3), (4, .int p4), (5, .int p5)]) hx hb dX1_layRest_140 hl (k := 5) rfl rfl (by decide) rfl (fun ls hl => ?_)
                  refine lv_goto (tgt := 52) hx hb dX1_layRest_143 (by decide) ?_
                  exact ih (x6_52 + (1 : Int32)) v_rest_e105 v_rest_e52 _ _ _ hM hP hD hS (lv_sub hl [1, 2, 3, 4, 5, 0] rfl) K
      obtain ⟨v_rest_e52, hL52, hM⟩ := ob1_some hM
      refine L52 N (0 : Int32) (vp_updL v_rest_e3 (0 : Int32).toNatClampNeg (1 : Int64)) v_rest_e52 _ _ _ hL52 hP hD hS (lv_sub hl [1, 2, 4, 5, 6, 0] rfl) ?_
      intro H locs ls hP hD hS hl
      obtain rfl := si1 hM
      exact hret _ _ _ _ dX1_layRest_146 hP hD hS
