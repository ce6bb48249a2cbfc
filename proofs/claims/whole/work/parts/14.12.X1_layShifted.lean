-- ===== X1_layShifted layShifted (IIII)V =====
abbrev r1_layShifted : Room := { frames := 1, cells := 0, slots := 0, locals := 21 }
def f1_layShifted_J79 (N : Nat) (p1 : Int32) (p2 : Int32) (p3 : Int32) (v_rest : Nat → Int64) (x8_41 : Int32) (v_times_41 : Nat → Nat → Int64) (rec41 : Int32 → (Nat → Nat → Int64) → Option (Nat → Nat → Int64)) (s0_79 : Int64) : Option (Nat → Nat → Int64) :=
  if (p3 - p3 / (64 : Int32) * (64 : Int32)) ≤ (0 : Int32) then (gi x8_41 94 (rec41 (x8_41 + (1 : Int32)) (upM v_times_41 ((p1 * (7 : Int32)) + p2).toNatClampNeg (vp_updL (v_times_41 ((p1 * (7 : Int32)) + p2).toNatClampNeg) x8_41.toNatClampNeg s0_79)))) else (if x8_41 ≤ (p3 / (64 : Int32)) then (gi x8_41 94 (rec41 (x8_41 + (1 : Int32)) (upM v_times_41 ((p1 * (7 : Int32)) + p2).toNatClampNeg (vp_updL (v_times_41 ((p1 * (7 : Int32)) + p2).toNatClampNeg) x8_41.toNatClampNeg s0_79)))) else (gi ((x8_41 - (p3 / (64 : Int32))) - (1 : Int32)) 94 (gi x8_41 94 (rec41 (x8_41 + (1 : Int32)) (upM v_times_41 ((p1 * (7 : Int32)) + p2).toNatClampNeg (vp_updL (v_times_41 ((p1 * (7 : Int32)) + p2).toNatClampNeg) x8_41.toNatClampNeg (s0_79 ||| (((v_rest ((x8_41 - (p3 / (64 : Int32))) - (1 : Int32)).toNatClampNeg).toUInt64 >>> (((64 : Int32) - (p3 - p3 / (64 : Int32) * (64 : Int32))).toInt64.toUInt64 &&& Int64.toUInt64 63)).toInt64))))))))
def f1_layShifted_L41 (N : Nat) (p1 : Int32) (p2 : Int32) (p3 : Int32) (p4 : Int32) (v_rest : Nat → Int64) : Nat → Int32 → (Nat → Nat → Int64) → Option (Nat → Nat → Int64)
  | 0, _, _ => none
  | n + 1, x8_41, v_times_41 => if p4 ≤ x8_41 then (some v_times_41) else (if (94 : Int32) ≤ x8_41 then (some v_times_41) else (if x8_41 < (p3 / (64 : Int32)) then (f1_layShifted_J79 N p1 p2 p3 v_rest x8_41 v_times_41 (f1_layShifted_L41 N p1 p2 p3 p4 v_rest n) (0 : Int64)) else (gi (x8_41 - (p3 / (64 : Int32))) 94 (f1_layShifted_J79 N p1 p2 p3 v_rest x8_41 v_times_41 (f1_layShifted_L41 N p1 p2 p3 p4 v_rest n) ((v_rest (x8_41 - (p3 / (64 : Int32))).toNatClampNeg) <<< ((p3 - p3 / (64 : Int32) * (64 : Int32)).toInt64 &&& 63))))))
def f1_layShifted (N : Nat) (p1 : Int32) (p2 : Int32) (p3 : Int32) (p4 : Int32) (v_times : Nat → Nat → Int64) (v_rest : Nat → Int64) : Option (Nat → Nat → Int64) :=
  ob1 (f1_isRow N p1 p2) fun r2 => if r2 = (0 : Int32) then (some v_times) else (if (0 : Int32) ≤ p3 then (gi ((p1 * (7 : Int32)) + p2) 287 (ob1 (f1_layShifted_L41 N p1 p2 p3 p4 v_rest N (0 : Int32) v_times) fun v_times_e41 => some v_times_e41)) else (some v_times))
set_option maxHeartbeats 4000000 in
set_option maxRecDepth 100000 in
theorem c1_layShifted (l : Launch) (D : va_G) (cy : Nat → ClassId) (N : Nat) (rh0_times : Nat → Nat) (h0 h0_times h0_rest : Nat) (p1 : Int32) (p2 : Int32) (p3 : Int32) (p4 : Int32) (v_times : Nat → Nat → Int64) (v_rest : Nat → Int64) (nv_times : Nat → Nat → Int64) (hM : f1_layShifted N p1 p2 p3 p4 v_times v_rest = some nv_times) (sz : Nat) : CTv l yX1_layShifted wsX1_layShifted r1_layShifted [.ref h0, .int p1, .int p2, .int p3, .int p4] D cy sz ([(h0, .inr (1, [.ref h0_times, .ref h0_rest])), (h0_times, .inl (cy 6, 287, gO 287 rh0_times)), (h0_rest, .inl (cy 3, 94, .inr (.inl v_rest)))] ++ (gWL rh0_times 287 94 (cy 3) v_times)) ([(h0, .inr (1, [.ref h0_times, .ref h0_rest])), (h0_times, .inl (cy 6, 287, gO 287 rh0_times)), (h0_rest, .inl (cy 3, 94, .inr (.inl v_rest)))] ++ (gWL rh0_times 287 94 (cy 3) nv_times)) := by
  unfold f1_layShifted at hM
  refine ct_ov (cc := cX1_layShifted) (maxL := 11)  (by decide +kernel) rfl (Nat.le_of_ble_eq_true rfl) (lv0 := [(0, .ref h0), (1, .int p1), (2, .int p2), (3, .int p3), (4, .int p4)]) rfl ?_
  intro p e s m args below meth c A Q ls hx hb hts hown hml hK hP hD hS hA hret hl
  have hown : s.vm.findClass RX1 = some m.cls := hown
  have k13 := hts (.fieldLink RX1 13 "CaveYears$ExactTimes" "times" "[[J") (List.mem_of_getElem? (i := 1) rfl)
  have iX1 := (fun w h => (List.mem_cons_of_mem _ (List.mem_append_right _ h)) : ∀ w ∈ wsX10, w ∈ wsX1_layShifted)
  have k16 := hts (.fieldLink RX1 16 "CaveYears$ExactTimes" "rest" "[J") (List.mem_of_getElem? (i := 2) rfl)
  refine lv_iload_n hx hb dX1_layShifted_0 rfl (lv_at hl 1 rfl) ?_
  refine lv_iload_n hx hb dX1_layShifted_1 rfl (lv_at hl 2 rfl) ?_
  obtain ⟨r2, hc2, hM⟩ := ob1_some hM
  refine cg_si (As := [.int p1, .int p2]) (rest := []) (wr := ([(h0, .inr (1, [.ref h0_times, .ref h0_rest])), (h0_times, .inl (cy 6, 287, gO 287 rh0_times)), (h0_rest, .inl (cy 3, 94, .inr (.inl v_rest)))] ++ (gWL rh0_times 287 94 (cy 3) v_times))) (ws2 := ([(h0, .inr (1, [.ref h0_times, .ref h0_rest])), (h0_times, .inl (cy 6, 287, gO 287 rh0_times)), (h0_rest, .inl (cy 3, 94, .inr (.inl v_rest)))] ++ (gWL rh0_times 287 94 (cy 3) v_times))) hx hb hml hown hts (c1_isRow l D cy N p1 p2 r2 hc2) (va_cwS 2 hts gX1_layShifted_X1_isRow rfl rfl rfl (by decide +kernel) ⟨Nat.le_of_ble_eq_true rfl, Nat.le_of_ble_eq_true rfl⟩) hK hP hD hS hA (pm_Q (pm_x [0, 1, 2] rfl rfl)) (pm_Q (pm_x [0, 1, 2] rfl rfl)).symm rfl rfl hl.1 (Nat.le_of_ble_eq_true rfl) dX1_layShifted_2 ⟨Nat.zero_le _, Nat.zero_le _⟩ (fun H locs hP hD hS => ?_)
  refine lv_if_eq (tgt := 12) hx hb dX1_layShifted_5 (by decide) (fun c5 => ?_) (fun c5 => ?_)
  · have hM := g_pos c5 hM
    obtain rfl := si1 hM
    exact hret _ _ _ _ dX1_layShifted_12 hP hD hS
  · have hM := g_neg c5 hM
    refine lv_iload_n hx hb dX1_layShifted_8 rfl (lv_at hl 3 rfl) ?_
    refine lv_if_ge (tgt := 13) hx hb dX1_layShifted_9 (by decide) (fun c9 => ?_) (fun c9 => ?_)
    · have hM := g_pos c9 hM
      refine lv_aload_n hx hb dX1_layShifted_13 rfl (lv_at hl 0 rfl) ?_
      refine va_get (D := D) (ci := 1) (v := .ref h0_times) (C := RX1) (T := TX1) (N := 2) hx hb hts iX1 hown hK hP 0 rfl rfl 0 (by decide) k13 (fun _ h9 => h9) rfl dX1_layShifted_14 ?_
      refine lv_iload_n hx hb dX1_layShifted_17 rfl (lv_at hl 1 rfl) ?_
      refine lv_bipush (v := 7) hx hb dX1_layShifted_18 (by decide) ?_
      refine lv_imul hx hb dX1_layShifted_20 ?_
      refine lv_iload_n hx hb dX1_layShifted_21 rfl (lv_at hl 2 rfl) ?_
      refine lv_iadd hx hb dX1_layShifted_22 ?_
      obtain ⟨h23, hM⟩ := gi_some hM
      refine wv_aald hx hb hK hP 1 6 rfl rfl h23 dX1_layShifted_23 ?_
      refine lv_astore (lv' := [(5, .ref (rh0_times ((p1 * (7 : Int32)) + p2).toNatClampNeg)), (0, .ref h0), (1, .int p1), (2, .int p2), (3, .int p3), (4, .int p4)]) hx hb dX1_layShifted_24 hl (by decide) rfl (fun ls hl => ?_)
      refine lv_iload_n hx hb dX1_layShifted_26 rfl (lv_at hl 4 rfl) ?_
      refine lv_bipush (v := 64) hx hb dX1_layShifted_27 (by decide) ?_
      refine lv_idiv hx hb dX1_layShifted_29 (by decide) ?_
      refine lv_istore (lv' := [(6, .int (p3 / (64 : Int32))), (5, .ref (rh0_times ((p1 * (7 : Int32)) + p2).toNatClampNeg)), (0, .ref h0), (1, .int p1), (2, .int p2), (3, .int p3), (4, .int p4)]) hx hb dX1_layShifted_30 hl (by decide) rfl (fun ls hl => ?_)
      refine lv_iload_n hx hb dX1_layShifted_32 rfl (lv_at hl 5 rfl) ?_
      refine lv_bipush (v := 64) hx hb dX1_layShifted_33 (by decide) ?_
      refine lv_irem hx hb dX1_layShifted_35 (by decide) ?_
      refine lv_istore (lv' := [(7, .int (p3 - p3 / (64 : Int32) * (64 : Int32))), (6, .int (p3 / (64 : Int32))), (5, .ref (rh0_times ((p1 * (7 : Int32)) + p2).toNatClampNeg)), (0, .ref h0), (1, .int p1), (2, .int p2), (3, .int p3), (4, .int p4)]) hx hb dX1_layShifted_36 hl (by decide) rfl (fun ls hl => ?_)
      refine lv_iconst (v := 0) hx hb dX1_layShifted_38 (by decide) ?_
      refine lv_istore (lv' := [(8, .int (0 : Int32)), (7, .int (p3 - p3 / (64 : Int32) * (64 : Int32))), (6, .int (p3 / (64 : Int32))), (5, .ref (rh0_times ((p1 * (7 : Int32)) + p2).toNatClampNeg)), (0, .ref h0), (1, .int p1), (2, .int p2), (3, .int p3), (4, .int p4)]) hx hb dX1_layShifted_39 hl (by decide) rfl (fun ls hl => ?_)
      have L41 : ∀ (n : Nat) (x8_41 : Int32) (v_times_41 : Nat → Nat → Int64) (v_times_e41 : Nat → Nat → Int64) (H : Heap) (locs : List Loc) (ls : Array Slot), f1_layShifted_L41 N p1 p2 p3 p4 v_rest n x8_41 v_times_41 = some v_times_e41 → va_P D vwCl ([(h0, .inr (1, [.ref h0_times, .ref h0_rest])), (h0_times, .inl (cy 6, 287, gO 287 rh0_times)), (h0_rest, .inl (cy 3, 94, .inr (.inl v_rest)))] ++ (gWL rh0_times 287 94 (cy 3) v_times_41)) H → va_D A ([(h0, .inr (1, [.ref h0_times, .ref h0_rest])), (h0_times, .inl (cy 6, 287, gO 287 rh0_times)), (h0_rest, .inl (cy 3, 94, .inr (.inl v_rest)))] ++ (gWL rh0_times 287 94 (cy 3) v_times_41)) → va_S A s.heap H locs → lv_has ls 11 [(0, .ref h0), (4, .int p4), (5, .ref (rh0_times ((p1 * (7 : Int32)) + p2).toNatClampNeg)), (6, .int (p3 / (64 : Int32))), (7, .int (p3 - p3 / (64 : Int32) * (64 : Int32))), (8, .int x8_41)] → (∀ (H : Heap) (locs : List Loc) (ls : Array Slot), va_P D vwCl ([(h0, .inr (1, [.ref h0_times, .ref h0_rest])), (h0_times, .inl (cy 6, 287, gO 287 rh0_times)), (h0_rest, .inl (cy 3, 94, .inr (.inl v_rest)))] ++ (gWL rh0_times 287 94 (cy 3) v_times_e41)) H → va_D A ([(h0, .inr (1, [.ref h0_times, .ref h0_rest])), (h0_times, .inl (cy 6, 287, gO 287 rh0_times)), (h0_rest, .inl (cy 3, 94, .inr (.inl v_rest)))] ++ (gWL rh0_times 287 94 (cy 3) v_times_e41)) → va_S A s.heap H locs → lv_has ls 11 [] → W p l e r1_layShifted s m args below meth c H locs 0 0 Q (F0 m 129 ls [])) → W p l e r1_layShifted s m args below meth c H locs 0 0 Q (F0 m 41 ls []) := by
        intro n
        induction n with
        | zero =>
          intro x8_41 v_times_41 v_times_e41 H locs ls hM
          exact absurd hM (by simp [f1_layShifted_L41])
        | succ n ih =>
          intro x8_41 v_times_41 v_times_e41 H locs ls hM hP hD hS hl K
          rw [f1_layShifted_L41] at hM
          refine lv_iload hx hb dX1_layShifted_41 (lv_at hl 5 rfl) ?_
          refine lv_iload hx hb dX1_layShifted_43 (lv_at hl 1 rfl) ?_
          refine lv_icmp_ge (tgt := 129) hx hb dX1_layShifted_45 (by decide) (fun c45 => ?_) (fun c45 => ?_)
          · have hM := g_pos c45 hM
            obtain rfl := si1 hM
            exact K _ _ _ hP hD hS (lv_sub hl [] rfl)
          · have hM := g_neg c45 hM
            refine lv_iload hx hb dX1_layShifted_48 (lv_at hl 5 rfl) ?_
            refine lv_bipush (v := 94) hx hb dX1_layShifted_50 (by decide) ?_
            refine lv_icmp_ge (tgt := 129) hx hb dX1_layShifted_52 (by decide) (fun c52 => ?_) (fun c52 => ?_)
            · have hM := g_pos c52 hM
              obtain rfl := si1 hM
              exact K _ _ _ hP hD hS (lv_sub hl [] rfl)
            · have hM := g_neg c52 hM
              refine lv_iload hx hb dX1_layShifted_55 (lv_at hl 5 rfl) ?_
              refine lv_iload hx hb dX1_layShifted_57 (lv_at hl 3 rfl) ?_
              have K79 : ∀ (s0_79 : Int64) (H : Heap) (locs : List Loc) (ls : Array Slot), f1_layShifted_J79 N p1 p2 p3 v_rest x8_41 v_times_41 (f1_layShifted_L41 N p1 p2 p3 p4 v_rest n) s0_79 = some v_times_e41 → va_P D vwCl ([(h0, .inr (1, [.ref h0_times, .ref h0_rest])), (h0_times, .inl (cy 6, 287, gO 287 rh0_times)), (h0_rest, .inl (cy 3, 94, .inr (.inl v_rest)))] ++ (gWL rh0_times 287 94 (cy 3) v_times_41)) H → va_D A ([(h0, .inr (1, [.ref h0_times, .ref h0_rest])), (h0_times, .inl (cy 6, 287, gO 287 rh0_times)), (h0_rest, .inl (cy 3, 94, .inr (.inl v_rest)))] ++ (gWL rh0_times 287 94 (cy 3) v_times_41)) → va_S A s.heap H locs → lv_has ls 11 [(0, .ref h0), (4, .int p4), (5, .ref (rh0_times ((p1 * (7 : Int32)) + p2).toNatClampNeg)), (6, .int (p3 / (64 : Int32))), (7, .int (p3 - p3 / (64 : Int32) * (64 : Int32))), (8, .int x8_41)] → W p l e r1_layShifted s m args below meth c H locs 0 0 Q (F0 m 79 ls [.long s0_79]) := by
                intro s0_79 H locs ls hM hP hD hS hl
                unfold f1_layShifted_J79 at hM
                refine lv_lstore (lv' := [(9, .long s0_79), (0, .ref h0), (4, .int p4), (5, .ref (rh0_times ((p1 * (7 : Int32)) + p2).toNatClampNeg)), (6, .int (p3 / (64 : Int32))), (7, .int (p3 - p3 / (64 : Int32) * (64 : Int32))), (8, .int x8_41)]) hx hb dX1_layShifted_79 hl (by decide) rfl (fun ls hl => ?_)
                refine lv_iload hx hb dX1_layShifted_81 (lv_at hl 5 rfl) ?_
                refine lv_if_le (tgt := 116) hx hb dX1_layShifted_83 (by decide) (fun c83 => ?_) (fun c83 => ?_)
                · have hM := g_pos c83 hM
                  refine lv_aload hx hb dX1_layShifted_116 (lv_at hl 3 rfl) ?_
                  refine lv_iload hx hb dX1_layShifted_118 (lv_at hl 6 rfl) ?_
                  refine lv_lload hx hb dX1_layShifted_120 (lv_at hl 0 rfl) ?_
                  obtain ⟨h122, hM⟩ := gi_some hM
                  refine wv_last hx hb hK hP hD hS 3 (gWL_rowS h23) rfl h122 dX1_layShifted_122 (fun H locs hP hD hS => ?_)
                  have hP : va_P D vwCl ([(h0, .inr (1, [.ref h0_times, .ref h0_rest])), (h0_times, .inl (cy 6, 287, gO 287 rh0_times)), (h0_rest, .inl (cy 3, 94, .inr (.inl v_rest)))] ++ (gWL rh0_times 287 94 (cy 3) (upM v_times_41 ((p1 * (7 : Int32)) + p2).toNatClampNeg (vp_updL (v_times_41 ((p1 * (7 : Int32)) + p2).toNatClampNeg) x8_41.toNatClampNeg s0_79)))) H := hP
                  have hD : va_D A ([(h0, .inr (1, [.ref h0_times, .ref h0_rest])), (h0_times, .inl (cy 6, 287, gO 287 rh0_times)), (h0_rest, .inl (cy 3, 94, .inr (.inl v_rest)))] ++ (gWL rh0_times 287 94 (cy 3) (upM v_times_41 ((p1 * (7 : Int32)) + p2).toNatClampNeg (vp_updL (v_times_41 ((p1 * (7 : Int32)) + p2).toNatClampNeg) x8_41.toNatClampNeg s0_79)))) := hD
                  refine lv_iinc (v := x8_41 + (1 : Int32)) (lv' := [(8, .int (x8_41 + (1 : Int32))), (9, .long s0_79), (0, .ref h0), (4, .int p4), (5, .ref (rh0_times ((p1 * (7 : Int32)) + p2).toNatClampNeg)), (6, .int (p3 / (64 : Int32))), (7, .int (p3 - p3 / (64 : Int32) * (64 : Int32)))]) hx hb dX1_layShifted_123 hl (k := 6) rfl rfl (by decide) rfl (fun ls hl => ?_)
                  refine lv_goto (tgt := 41) hx hb dX1_layShifted_126 (by decide) ?_
                  exact ih (x8_41 + (1 : Int32)) (upM v_times_41 ((p1 * (7 : Int32)) + p2).toNatClampNeg (vp_updL (v_times_41 ((p1 * (7 : Int32)) + p2).toNatClampNeg) x8_41.toNatClampNeg s0_79)) v_times_e41 _ _ _ hM hP hD hS (lv_sub hl [2, 3, 4, 5, 6, 0] rfl) K
                · have hM := g_neg c83 hM
                  refine lv_iload hx hb dX1_layShifted_86 (lv_at hl 6 rfl) ?_
                  refine lv_iload hx hb dX1_layShifted_88 (lv_at hl 4 rfl) ?_
                  refine lv_icmp_le (tgt := 116) hx hb dX1_layShifted_90 (by decide) (fun c90 => ?_) (fun c90 => ?_)
                  · have hM := g_pos c90 hM
                    refine lv_aload hx hb dX1_layShifted_116 (lv_at hl 3 rfl) ?_
                    refine lv_iload hx hb dX1_layShifted_118 (lv_at hl 6 rfl) ?_
                    refine lv_lload hx hb dX1_layShifted_120 (lv_at hl 0 rfl) ?_
                    obtain ⟨h122, hM⟩ := gi_some hM
                    refine wv_last hx hb hK hP hD hS 3 (gWL_rowS h23) rfl h122 dX1_layShifted_122 (fun H locs hP hD hS => ?_)
                    have hP : va_P D vwCl ([(h0, .inr (1, [.ref h0_times, .ref h0_rest])), (h0_times, .inl (cy 6, 287, gO 287 rh0_times)), (h0_rest, .inl (cy 3, 94, .inr (.inl v_rest)))] ++ (gWL rh0_times 287 94 (cy 3) (upM v_times_41 ((p1 * (7 : Int32)) + p2).toNatClampNeg (vp_updL (v_times_41 ((p1 * (7 : Int32)) + p2).toNatClampNeg) x8_41.toNatClampNeg s0_79)))) H := hP
                    have hD : va_D A ([(h0, .inr (1, [.ref h0_times, .ref h0_rest])), (h0_times, .inl (cy 6, 287, gO 287 rh0_times)), (h0_rest, .inl (cy 3, 94, .inr (.inl v_rest)))] ++ (gWL rh0_times 287 94 (cy 3) (upM v_times_41 ((p1 * (7 : Int32)) + p2).toNatClampNeg (vp_updL (v_times_41 ((p1 * (7 : Int32)) + p2).toNatClampNeg) x8_41.toNatClampNeg s0_79)))) := hD
                    refine lv_iinc (v := x8_41 + (1 : Int32)) (lv' := [(8, .int (x8_41 + (1 : Int32))), (9, .long s0_79), (0, .ref h0), (4, .int p4), (5, .ref (rh0_times ((p1 * (7 : Int32)) + p2).toNatClampNeg)), (6, .int (p3 / (64 : Int32))), (7, .int (p3 - p3 / (64 : Int32) * (64 : Int32)))]) hx hb dX1_layShifted_123 hl (k := 6) rfl rfl (by decide) rfl (fun ls hl => ?_)
                    refine lv_goto (tgt := 41) hx hb dX1_layShifted_126 (by decide) ?_
                    exact ih (x8_41 + (1 : Int32)) (upM v_times_41 ((p1 * (7 : Int32)) + p2).toNatClampNeg (vp_updL (v_times_41 ((p1 * (7 : Int32)) + p2).toNatClampNeg) x8_41.toNatClampNeg s0_79)) v_times_e41 _ _ _ hM hP hD hS (lv_sub hl [2, 3, 4, 5, 6, 0] rfl) K
                  · have hM := g_neg c90 hM
                    refine lv_lload hx hb dX1_layShifted_93 (lv_at hl 0 rfl) ?_
                    refine lv_aload_n hx hb dX1_layShifted_95 rfl (lv_at hl 1 rfl) ?_
                    refine va_get (D := D) (ci := 1) (v := .ref h0_rest) (C := RX1) (T := TX1) (N := 2) hx hb hts iX1 hown hK hP 0 rfl rfl 1 (by decide) k16 (fun _ h9 => h9) rfl dX1_layShifted_96 ?_
                    refine lv_iload hx hb dX1_layShifted_99 (lv_at hl 6 rfl) ?_
                    refine lv_iload hx hb dX1_layShifted_101 (lv_at hl 4 rfl) ?_
                    refine lv_isub hx hb dX1_layShifted_103 ?_
                    refine lv_iconst (v := 1) hx hb dX1_layShifted_104 (by decide) ?_
                    refine lv_isub hx hb dX1_layShifted_105 ?_
                    obtain ⟨h106, hM⟩ := gi_some hM
                    refine va_lald hx hb hK hP 2 3 rfl rfl h106 dX1_layShifted_106 ?_
                    refine lv_bipush (v := 64) hx hb dX1_layShifted_107 (by decide) ?_
                    refine lv_iload hx hb dX1_layShifted_109 (lv_at hl 5 rfl) ?_
                    refine lv_isub hx hb dX1_layShifted_111 ?_
                    refine lv_lushr (v := ((v_rest ((x8_41 - (p3 / (64 : Int32))) - (1 : Int32)).toNatClampNeg).toUInt64 >>> (((64 : Int32) - (p3 - p3 / (64 : Int32) * (64 : Int32))).toInt64.toUInt64 &&& Int64.toUInt64 63)).toInt64) hx hb dX1_layShifted_112 rfl ?_
                    refine lv_lor hx hb dX1_layShifted_113 ?_
                    refine lv_lstore (lv' := [(9, .long (s0_79 ||| (((v_rest ((x8_41 - (p3 / (64 : Int32))) - (1 : Int32)).toNatClampNeg).toUInt64 >>> (((64 : Int32) - (p3 - p3 / (64 : Int32) * (64 : Int32))).toInt64.toUInt64 &&& Int64.toUInt64 63)).toInt64))), (0, .ref h0), (4, .int p4), (5, .ref (rh0_times ((p1 * (7 : Int32)) + p2).toNatClampNeg)), (6, .int (p3 / (64 : Int32))), (7, .int (p3 - p3 / (64 : Int32) * (64 : Int32))), (8, .int x8_41)]) hx hb dX1_layShifted_114 hl (by decide) rfl (fun ls hl => ?_)
                    refine lv_aload hx hb dX1_layShifted_116 (lv_at hl 3 rfl) ?_
                    refine lv_iload hx hb dX1_layShifted_118 (lv_at hl 6 rfl) ?_
                    refine lv_lload hx hb dX1_layShifted_120 (lv_at hl 0 rfl) ?_
                    obtain ⟨h122, hM⟩ := gi_some hM
                    refine wv_last hx hb hK hP hD hS 3 (gWL_rowS h23) rfl h122 dX1_layShifted_122 (fun H locs hP hD hS => ?_)
                    have hP : va_P D vwCl ([(h0, .inr (1, [.ref h0_times, .ref h0_rest])), (h0_times, .inl (cy 6, 287, gO 287 rh0_times)), (h0_rest, .inl (cy 3, 94, .inr (.inl v_rest)))] ++ (gWL rh0_times 287 94 (cy 3) (upM v_times_41 ((p1 * (7 : Int32)) + p2).toNatClampNeg (vp_updL (v_times_41 ((p1 * (7 : Int32)) + p2).toNatClampNeg) x8_41.toNatClampNeg (s0_79 ||| (((v_rest ((x8_41 - (p3 / (64 : Int32))) - (1 : Int32)).toNatClampNeg).toUInt64 >>> (((64 : Int32) - (p3 - p3 / (64 : Int32) * (64 : Int32))).toInt64.toUInt64 &&& Int64.toUInt64 63)).toInt64)))))) H := hP
                    have hD : va_D A ([(h0, .inr (1, [.ref h0_times, .ref h0_rest])), (h0_times, .inl (cy 6, 287, gO 287 rh0_times)), (h0_rest, .inl (cy 3, 94, .inr (.inl v_rest)))] ++ (gWL rh0_times 287 94 (cy 3) (upM v_times_41 ((p1 * (7 : Int32)) + p2).toNatClampNeg (vp_updL (v_times_41 ((p1 * (7 : Int32)) + p2).toNatClampNeg) x8_41.toNatClampNeg (s0_79 ||| (((v_rest ((x8_41 - (p3 / (64 : Int32))) - (1 : Int32)).toNatClampNeg).toUInt64 >>> (((64 : Int32) - (p3 - p3 / (64 : Int32) * (64 : Int32))).toInt64.toUInt64 &&& Int64.toUInt64 63)).toInt64)))))) := hD
                    refine lv_iinc (v := x8_41 + (1 : Int32)) (lv' := [(8, .int (x8_41 + (1 : Int32))), (9, .long (s0_79 ||| (((v_rest ((x8_41 - (p3 / (64 : Int32))) - (1 : Int32)).toNatClampNeg).toUInt64 >>> (((64 : Int32) - (p3 - p3 / (64 : Int32) * (64 : Int32))).toInt64.toUInt64 &&& Int64.toUInt64 63)).toInt64))), (0, .ref h0), (4, .int p4), (5, .ref (rh0_times ((p1 * (7 : Int32)) + p2).toNatClampNeg)), (6, .int (p3 / (64 : Int32))), (7, .int (p3 - p3 / (64 : Int32) * (64 : Int32)))]) hx hb dX1_layShifted_123 hl (k := 6) rfl rfl (by decide) rfl (fun ls hl => ?_)
                    refine lv_goto (tgt := 41) hx hb dX1_layShifted_126 (by decide) ?_
                    exact ih (x8_41 + (1 : Int32)) (upM v_times_41 ((p1 * (7 : Int32)) + p2).toNatClampNeg (vp_updL (v_times_41 ((p1 * (7 : Int32)) + p2).toNatClampNeg) x8_41.toNatClampNeg (s0_79 ||| (((v_rest ((x8_41 - (p3 / (64 : Int32))) - (1 : Int32)).toNatClampNeg).toUInt64 >>> (((64 : Int32) - (p3 - p3 / (64 : Int32) * (64 : Int32))).toInt64.toUInt64 &&& Int64.toUInt64 63)).toInt64)))) v_times_e41 _ _ _ hM hP hD hS (lv_sub hl [2, 3, 4, 5, 6, 0] rfl) K
              refine lv_icmp_lt (tgt := 78) hx hb dX1_layShifted_59 (by decide) (fun c59 => ?_) (fun c59 => ?_)
              · have hM := g_pos c59 hM
                refine lv_lconst (v := 0) hx hb dX1_layShifted_78 (by decide) ?_
                exact K79 (0 : Int64) _ _ _ hM hP hD hS (lv_sub hl [0, 1, 2, 3, 4, 5] rfl)
              · have hM := g_neg c59 hM
                refine lv_aload_n hx hb dX1_layShifted_62 rfl (lv_at hl 0 rfl) ?_
                refine va_get (D := D) (ci := 1) (v := .ref h0_rest) (C := RX1) (T := TX1) (N := 2) hx hb hts iX1 hown hK hP 0 rfl rfl 1 (by decide) k16 (fun _ h9 => h9) rfl dX1_layShifted_63 ?_
                refine lv_iload hx hb dX1_layShifted_66 (lv_at hl 5 rfl) ?_
                refine lv_iload hx hb dX1_layShifted_68 (lv_at hl 3 rfl) ?_
                refine lv_isub hx hb dX1_layShifted_70 ?_
                obtain ⟨h71, hM⟩ := gi_some hM
                refine va_lald hx hb hK hP 2 3 rfl rfl h71 dX1_layShifted_71 ?_
                refine lv_iload hx hb dX1_layShifted_72 (lv_at hl 4 rfl) ?_
                refine lv_lshl (v := ((v_rest (x8_41 - (p3 / (64 : Int32))).toNatClampNeg) <<< ((p3 - p3 / (64 : Int32) * (64 : Int32)).toInt64 &&& 63))) hx hb dX1_layShifted_74 rfl ?_
                refine lv_goto (tgt := 79) hx hb dX1_layShifted_75 (by decide) ?_
                exact K79 ((v_rest (x8_41 - (p3 / (64 : Int32))).toNatClampNeg) <<< ((p3 - p3 / (64 : Int32) * (64 : Int32)).toInt64 &&& 63)) _ _ _ hM hP hD hS (lv_sub hl [0, 1, 2, 3, 4, 5] rfl)
      obtain ⟨v_times_e41, hL41, hM⟩ := ob1_some hM
      refine L41 N (0 : Int32) v_times v_times_e41 _ _ _ hL41 hP hD hS (lv_sub hl [4, 8, 3, 2, 1, 0] rfl) ?_
      intro H locs ls hP hD hS hl
      obtain rfl := si1 hM
      exact hret _ _ _ _ dX1_layShifted_129 hP hD hS
    · have hM := g_neg c9 hM
      obtain rfl := si1 hM
      exact hret _ _ _ _ dX1_layShifted_12 hP hD hS
