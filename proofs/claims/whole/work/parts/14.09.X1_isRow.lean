-- ===== X1_isRow isRow (II)Z =====
abbrev r1_isRow : Room := { frames := 0, cells := 0, slots := 0, locals := 0 }
def f1_isRow (N : Nat) (p1 : Int32) (p2 : Int32) : Option Int32 :=
  if p1 < (1 : Int32) then (some (0 : Int32)) else (if (40 : Int32) < p1 then (some (0 : Int32)) else (if p2 < (0 : Int32) then (some (0 : Int32)) else (if (7 : Int32) ≤ p2 then (some (0 : Int32)) else (some (1 : Int32)))))
set_option maxHeartbeats 4000000 in
set_option maxRecDepth 100000 in
theorem c1_isRow (l : Launch) (D : va_G) (cy : Nat → ClassId) (N : Nat) (p1 : Int32) (p2 : Int32) (r : Int32) (hM : f1_isRow N p1 p2 = some r) (sz : Nat) : CTi l yX1_isRow wsX1_isRow r1_isRow [.int p1, .int p2] D cy sz [] [] r := by
  unfold f1_isRow at hM
  refine ct_oi (cc := cX1_isRow) (maxL := 2) (ty := .boolean) (by decide +kernel) rfl (Nat.le_of_ble_eq_true rfl) (lv0 := [(0, .int p1), (1, .int p2)]) rfl ?_
  intro p e s m args below meth c A Q ls hx hb hts hown hml hK hP hD hS hA hret hl
  have hown : s.vm.findClass RX1 = some m.cls := hown
  refine lv_iload_n hx hb dX1_isRow_0 rfl (lv_at hl 0 rfl) ?_
  refine lv_iconst (v := 1) hx hb dX1_isRow_1 (by decide) ?_
  refine lv_icmp_lt (tgt := 25) hx hb dX1_isRow_2 (by decide) (fun c2 => ?_) (fun c2 => ?_)
  · have hM := g_pos c2 hM
    refine lv_iconst (v := 0) hx hb dX1_isRow_25 (by decide) ?_
    obtain rfl := si1 hM
    exact hret _ _ _ _ _ dX1_isRow_26 rfl rfl hP hD hS
  · have hM := g_neg c2 hM
    refine lv_iload_n hx hb dX1_isRow_5 rfl (lv_at hl 0 rfl) ?_
    refine lv_bipush (v := 40) hx hb dX1_isRow_6 (by decide) ?_
    refine lv_icmp_gt (tgt := 25) hx hb dX1_isRow_8 (by decide) (fun c8 => ?_) (fun c8 => ?_)
    · have hM := g_pos c8 hM
      refine lv_iconst (v := 0) hx hb dX1_isRow_25 (by decide) ?_
      obtain rfl := si1 hM
      exact hret _ _ _ _ _ dX1_isRow_26 rfl rfl hP hD hS
    · have hM := g_neg c8 hM
      refine lv_iload_n hx hb dX1_isRow_11 rfl (lv_at hl 1 rfl) ?_
      refine lv_if_lt (tgt := 25) hx hb dX1_isRow_12 (by decide) (fun c12 => ?_) (fun c12 => ?_)
      · have hM := g_pos c12 hM
        refine lv_iconst (v := 0) hx hb dX1_isRow_25 (by decide) ?_
        obtain rfl := si1 hM
        exact hret _ _ _ _ _ dX1_isRow_26 rfl rfl hP hD hS
      · have hM := g_neg c12 hM
        refine lv_iload_n hx hb dX1_isRow_15 rfl (lv_at hl 1 rfl) ?_
        refine lv_bipush (v := 7) hx hb dX1_isRow_16 (by decide) ?_
        refine lv_icmp_ge (tgt := 25) hx hb dX1_isRow_18 (by decide) (fun c18 => ?_) (fun c18 => ?_)
        · have hM := g_pos c18 hM
          refine lv_iconst (v := 0) hx hb dX1_isRow_25 (by decide) ?_
          obtain rfl := si1 hM
          exact hret _ _ _ _ _ dX1_isRow_26 rfl rfl hP hD hS
        · have hM := g_neg c18 hM
          refine lv_iconst (v := 1) hx hb dX1_isRow_21 (by decide) ?_
          refine lv_goto (tgt := 26) hx hb dX1_isRow_22 (by decide) ?_
          obtain rfl := si1 hM
          exact hret _ _ _ _ _ dX1_isRow_26 rfl rfl hP hD hS
