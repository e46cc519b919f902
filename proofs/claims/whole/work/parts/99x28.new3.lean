/-! constructors -/
def nw_7 (ca : Nat → ClassId) (h0 : Nat) (g : Nat → Nat) : va_W := [(h0, .inr (7, [.ref (g 0), .int 0, .int 60, .int 0, .int 0, .int 0, .int 0, .int 0])), ((g 0), .inl (ca 0, 8, .inl (fun _ => 0)))]
set_option maxHeartbeats 4000000 in
theorem nM_7 (l : Launch) (D : va_G) (ca : Nat → ClassId) (h0 : Nat) : ∀ sz, Met l yX7_init (.code yX7_init cX7_init 1 none :: ti_T) (xrm 1 1 8) (va_Pc (.ref h0 :: []) (xB D ca [(h0, .inr (7, [.null, .int 0, .int 0, .int 0, .int 0, .int 0, .int 0, .int 0]))] sz)) (xQ D (nw_7 ca h0) (va_A [(h0, .inr (7, [.null, .int 0, .int 0, .int 0, .int 0, .int 0, .int 0, .int 0]))] sz)) 1 8 (va_A [(h0, .inr (7, [.null, .int 0, .int 0, .int 0, .int 0, .int 0, .int 0, .int 0]))] sz) := by
  refine x_met (by decide) rfl ?_
  intro p e s m below meth c A C hAO hin hr hlk hP hD hS
  have C : lw_Cx p s m _ c cX7_init 1 RX7 D ca A := C
  have hx := C.1
  have hb := C.2.1
  have hl := lv_entry ([.ref h0]) (n := 1) (Nat.le_of_ble_eq_true rfl)
  rw [lg_entry_eq]
  generalize (lg_sl ([.ref h0]) ++ List.replicate (1 - (lg_sl ([.ref h0])).length) Slot.unset).toArray = ls at hl ⊢
  have hl : lv_has ls 1 [(0, .ref h0)] := hl
  refine lv_aload_n hx hb dX7_init_0 rfl (lv_at hl 0 rfl) ?_
  refine x_obj C hl.1 xw_ol_7 xw_oi xw_oc (Nat.le_of_ble_eq_true rfl) (Nat.le_of_ble_eq_true rfl) dX7_init_1 ?_
  refine lv_aload_n hx hb dX7_init_4 rfl (lv_at hl 0 rfl) ?_
  refine lv_bipush (v := 8) hx hb dX7_init_5 (by decide) ?_
  refine x_newa (a0 := (8, .inl (fun _ => 0))) (atype := .int) (ty := .int) C hP hD hS rfl xw_a_int 0 rfl (fun _ => rfl) (by decide) (by decide) (by decide) (Nat.le_of_ble_eq_true rfl) (Nat.le_of_ble_eq_true rfl) dX7_init_7 (fun q1 H hP hD hS => ?_)
  have hP : va_P D vwCl [(h0, .inr (7, [.null, .int 0, .int 0, .int 0, .int 0, .int 0, .int 0, .int 0])), (q1, .inl (ca 0, 8, .inl (fun _ => 0)))] H := hP
  have hD : va_D A [(h0, .inr (7, [.null, .int 0, .int 0, .int 0, .int 0, .int 0, .int 0, .int 0])), (q1, .inl (ca 0, 8, .inl (fun _ => 0)))] := hD
  refine x_put (v := .ref q1) C hin hP hD hS rfl 0 rfl 0 (by decide) xw_f_7_9 rfl (tyX7_ok 0 (by decide)) rfl rfl (Nat.le_of_ble_eq_true rfl) dX7_init_9 (fun H locs hP hD hS => ?_)
  have hP : va_P D vwCl [(h0, .inr (7, [.ref q1, .int 0, .int 0, .int 0, .int 0, .int 0, .int 0, .int 0])), (q1, .inl (ca 0, 8, .inl (fun _ => 0)))] H := hP
  have hD : va_D A [(h0, .inr (7, [.ref q1, .int 0, .int 0, .int 0, .int 0, .int 0, .int 0, .int 0])), (q1, .inl (ca 0, 8, .inl (fun _ => 0)))] := hD
  refine lv_aload_n hx hb dX7_init_12 rfl (lv_at hl 0 rfl) ?_
  refine lv_bipush (v := 60) hx hb dX7_init_13 (by decide) ?_
  refine x_put (v := .int 60) C hin hP hD hS rfl 0 rfl 2 (by decide) xw_f_7_15 rfl (tyX7_ok 2 (by decide)) rfl rfl (Nat.le_of_ble_eq_true rfl) dX7_init_15 (fun H locs hP hD hS => ?_)
  have hP : va_P D vwCl [(h0, .inr (7, [.ref q1, .int 0, .int 60, .int 0, .int 0, .int 0, .int 0, .int 0])), (q1, .inl (ca 0, 8, .inl (fun _ => 0)))] H := hP
  have hD : va_D A [(h0, .inr (7, [.ref q1, .int 0, .int 60, .int 0, .int 0, .int 0, .int 0, .int 0])), (q1, .inl (ca 0, 8, .inl (fun _ => 0)))] := hD
  exact x_ret C hr hlk (fun k => [q1].getD k 0) (Nat.le_of_ble_eq_true rfl) (Nat.le_of_ble_eq_true rfl) hP hD hS dX7_init_18
def nw_4 (ca : Nat → ClassId) (h0 : Nat) (g : Nat → Nat) : va_W := [(h0, .inr (4, [.ref (g 0), .int 0])), ((g 0), .inl (ca 4, 8, .inr (.inl (fun _ => 0))))]
set_option maxHeartbeats 4000000 in
theorem nM_4 (l : Launch) (D : va_G) (ca : Nat → ClassId) (h0 : Nat) : ∀ sz, Met l yX4_init (.code yX4_init cX4_init 1 none :: ti_T) (xrm 1 1 8) (va_Pc (.ref h0 :: []) (xB D ca [(h0, .inr (4, [.null, .int 0]))] sz)) (xQ D (nw_4 ca h0) (va_A [(h0, .inr (4, [.null, .int 0]))] sz)) 1 8 (va_A [(h0, .inr (4, [.null, .int 0]))] sz) := by
  refine x_met (by decide) rfl ?_
  intro p e s m below meth c A C hAO hin hr hlk hP hD hS
  have C : lw_Cx p s m _ c cX4_init 1 RX4 D ca A := C
  have hx := C.1
  have hb := C.2.1
  have hl := lv_entry ([.ref h0]) (n := 1) (Nat.le_of_ble_eq_true rfl)
  rw [lg_entry_eq]
  generalize (lg_sl ([.ref h0]) ++ List.replicate (1 - (lg_sl ([.ref h0])).length) Slot.unset).toArray = ls at hl ⊢
  have hl : lv_has ls 1 [(0, .ref h0)] := hl
  refine lv_aload_n hx hb dX4_init_0 rfl (lv_at hl 0 rfl) ?_
  refine x_obj C hl.1 xw_ol_4 xw_oi xw_oc (Nat.le_of_ble_eq_true rfl) (Nat.le_of_ble_eq_true rfl) dX4_init_1 ?_
  refine lv_aload_n hx hb dX4_init_4 rfl (lv_at hl 0 rfl) ?_
  refine lv_bipush (v := 8) hx hb dX4_init_5 (by decide) ?_
  refine x_newa (a0 := (8, .inr (.inl (fun _ => 0)))) (atype := .long) (ty := .long) C hP hD hS rfl xw_a_long 4 rfl (fun _ => rfl) (by decide) (by decide) (by decide) (Nat.le_of_ble_eq_true rfl) (Nat.le_of_ble_eq_true rfl) dX4_init_7 (fun q1 H hP hD hS => ?_)
  have hP : va_P D vwCl [(h0, .inr (4, [.null, .int 0])), (q1, .inl (ca 4, 8, .inr (.inl (fun _ => 0))))] H := hP
  have hD : va_D A [(h0, .inr (4, [.null, .int 0])), (q1, .inl (ca 4, 8, .inr (.inl (fun _ => 0))))] := hD
  refine x_put (v := .ref q1) C hin hP hD hS rfl 0 rfl 0 (by decide) xw_f_4_9 rfl (tyX4_ok 0 (by decide)) rfl rfl (Nat.le_of_ble_eq_true rfl) dX4_init_9 (fun H locs hP hD hS => ?_)
  have hP : va_P D vwCl [(h0, .inr (4, [.ref q1, .int 0])), (q1, .inl (ca 4, 8, .inr (.inl (fun _ => 0))))] H := hP
  have hD : va_D A [(h0, .inr (4, [.ref q1, .int 0])), (q1, .inl (ca 4, 8, .inr (.inl (fun _ => 0))))] := hD
  exact x_ret C hr hlk (fun k => [q1].getD k 0) (Nat.le_of_ble_eq_true rfl) (Nat.le_of_ble_eq_true rfl) hP hD hS dX4_init_12
def nw_5 (ca : Nat → ClassId) (h0 : Nat) (g : Nat → Nat) : va_W := [(h0, .inr (5, [.ref (g 0), .ref (g 1), .ref (g 2), .int 0])), ((g 0), .inl (ca 0, 40, .inl (fun _ => 0))), ((g 1), .inl (ca 0, 40, .inl (fun _ => 0))), ((g 2), .inl (ca 0, 7, .inl (fun _ => 0)))]
set_option maxHeartbeats 4000000 in
theorem nM_5 (l : Launch) (D : va_G) (ca : Nat → ClassId) (h0 : Nat) : ∀ sz, Met l yX5_init (.code yX5_init cX5_init 1 none :: ti_T) (xrm 1 3 87) (va_Pc (.ref h0 :: []) (xB D ca [(h0, .inr (5, [.null, .null, .null, .int 0]))] sz)) (xQ D (nw_5 ca h0) (va_A [(h0, .inr (5, [.null, .null, .null, .int 0]))] sz)) 3 87 (va_A [(h0, .inr (5, [.null, .null, .null, .int 0]))] sz) := by
  refine x_met (by decide) rfl ?_
  intro p e s m below meth c A C hAO hin hr hlk hP hD hS
  have C : lw_Cx p s m _ c cX5_init 1 RX5 D ca A := C
  have hx := C.1
  have hb := C.2.1
  have hl := lv_entry ([.ref h0]) (n := 1) (Nat.le_of_ble_eq_true rfl)
  rw [lg_entry_eq]
  generalize (lg_sl ([.ref h0]) ++ List.replicate (1 - (lg_sl ([.ref h0])).length) Slot.unset).toArray = ls at hl ⊢
  have hl : lv_has ls 1 [(0, .ref h0)] := hl
  refine lv_aload_n hx hb dX5_init_0 rfl (lv_at hl 0 rfl) ?_
  refine x_obj C hl.1 xw_ol_5 xw_oi xw_oc (Nat.le_of_ble_eq_true rfl) (Nat.le_of_ble_eq_true rfl) dX5_init_1 ?_
  refine lv_aload_n hx hb dX5_init_4 rfl (lv_at hl 0 rfl) ?_
  refine lv_bipush (v := 40) hx hb dX5_init_5 (by decide) ?_
  refine x_newa (a0 := (40, .inl (fun _ => 0))) (atype := .int) (ty := .int) C hP hD hS rfl xw_a_int 0 rfl (fun _ => rfl) (by decide) (by decide) (by decide) (Nat.le_of_ble_eq_true rfl) (Nat.le_of_ble_eq_true rfl) dX5_init_7 (fun q1 H hP hD hS => ?_)
  have hP : va_P D vwCl [(h0, .inr (5, [.null, .null, .null, .int 0])), (q1, .inl (ca 0, 40, .inl (fun _ => 0)))] H := hP
  have hD : va_D A [(h0, .inr (5, [.null, .null, .null, .int 0])), (q1, .inl (ca 0, 40, .inl (fun _ => 0)))] := hD
  refine x_put (v := .ref q1) C hin hP hD hS rfl 0 rfl 0 (by decide) xw_f_5_11 rfl (tyX5_ok 0 (by decide)) rfl rfl (Nat.le_of_ble_eq_true rfl) dX5_init_9 (fun H locs hP hD hS => ?_)
  have hP : va_P D vwCl [(h0, .inr (5, [.ref q1, .null, .null, .int 0])), (q1, .inl (ca 0, 40, .inl (fun _ => 0)))] H := hP
  have hD : va_D A [(h0, .inr (5, [.ref q1, .null, .null, .int 0])), (q1, .inl (ca 0, 40, .inl (fun _ => 0)))] := hD
  refine lv_aload_n hx hb dX5_init_12 rfl (lv_at hl 0 rfl) ?_
  refine lv_bipush (v := 40) hx hb dX5_init_13 (by decide) ?_
  refine x_newa (a0 := (40, .inl (fun _ => 0))) (atype := .int) (ty := .int) C hP hD hS rfl xw_a_int 0 rfl (fun _ => rfl) (by decide) (by decide) (by decide) (Nat.le_of_ble_eq_true rfl) (Nat.le_of_ble_eq_true rfl) dX5_init_15 (fun q2 H hP hD hS => ?_)
  have hP : va_P D vwCl [(h0, .inr (5, [.ref q1, .null, .null, .int 0])), (q1, .inl (ca 0, 40, .inl (fun _ => 0))), (q2, .inl (ca 0, 40, .inl (fun _ => 0)))] H := hP
  have hD : va_D A [(h0, .inr (5, [.ref q1, .null, .null, .int 0])), (q1, .inl (ca 0, 40, .inl (fun _ => 0))), (q2, .inl (ca 0, 40, .inl (fun _ => 0)))] := hD
  refine x_put (v := .ref q2) C hin hP hD hS rfl 0 rfl 1 (by decide) xw_f_5_15 rfl (tyX5_ok 1 (by decide)) rfl rfl (Nat.le_of_ble_eq_true rfl) dX5_init_17 (fun H locs hP hD hS => ?_)
  have hP : va_P D vwCl [(h0, .inr (5, [.ref q1, .ref q2, .null, .int 0])), (q1, .inl (ca 0, 40, .inl (fun _ => 0))), (q2, .inl (ca 0, 40, .inl (fun _ => 0)))] H := hP
  have hD : va_D A [(h0, .inr (5, [.ref q1, .ref q2, .null, .int 0])), (q1, .inl (ca 0, 40, .inl (fun _ => 0))), (q2, .inl (ca 0, 40, .inl (fun _ => 0)))] := hD
  refine lv_aload_n hx hb dX5_init_20 rfl (lv_at hl 0 rfl) ?_
  refine lv_bipush (v := 7) hx hb dX5_init_21 (by decide) ?_
  refine x_newa (a0 := (7, .inl (fun _ => 0))) (atype := .int) (ty := .int) C hP hD hS rfl xw_a_int 0 rfl (fun _ => rfl) (by decide) (by decide) (by decide) (Nat.le_of_ble_eq_true rfl) (Nat.le_of_ble_eq_true rfl) dX5_init_23 (fun q3 H hP hD hS => ?_)
  have hP : va_P D vwCl [(h0, .inr (5, [.ref q1, .ref q2, .null, .int 0])), (q1, .inl (ca 0, 40, .inl (fun _ => 0))), (q2, .inl (ca 0, 40, .inl (fun _ => 0))), (q3, .inl (ca 0, 7, .inl (fun _ => 0)))] H := hP
  have hD : va_D A [(h0, .inr (5, [.ref q1, .ref q2, .null, .int 0])), (q1, .inl (ca 0, 40, .inl (fun _ => 0))), (q2, .inl (ca 0, 40, .inl (fun _ => 0))), (q3, .inl (ca 0, 7, .inl (fun _ => 0)))] := hD
  refine x_put (v := .ref q3) C hin hP hD hS rfl 0 rfl 2 (by decide) xw_f_5_18 rfl (tyX5_ok 2 (by decide)) rfl rfl (Nat.le_of_ble_eq_true rfl) dX5_init_25 (fun H locs hP hD hS => ?_)
  have hP : va_P D vwCl [(h0, .inr (5, [.ref q1, .ref q2, .ref q3, .int 0])), (q1, .inl (ca 0, 40, .inl (fun _ => 0))), (q2, .inl (ca 0, 40, .inl (fun _ => 0))), (q3, .inl (ca 0, 7, .inl (fun _ => 0)))] H := hP
  have hD : va_D A [(h0, .inr (5, [.ref q1, .ref q2, .ref q3, .int 0])), (q1, .inl (ca 0, 40, .inl (fun _ => 0))), (q2, .inl (ca 0, 40, .inl (fun _ => 0))), (q3, .inl (ca 0, 7, .inl (fun _ => 0)))] := hD
  exact x_ret C hr hlk (fun k => [q1, q2, q3].getD k 0) (Nat.le_of_ble_eq_true rfl) (Nat.le_of_ble_eq_true rfl) hP hD hS dX5_init_28
def nw_6 (ca : Nat → ClassId) (h0 : Nat) (g : Nat → Nat) : va_W := [(h0, .inr (6, [.ref (g 0), .ref (g 1), .ref (g 2), .int 0, .int 0])), ((g 0), .inl (ca 0, 8, .inl (fun _ => 0))), ((g 1), .inl (ca 0, 8, .inl (fun _ => 0))), ((g 2), .inl (ca 0, 8, .inl (fun _ => 0)))]
set_option maxHeartbeats 4000000 in
theorem nM_6 (l : Launch) (D : va_G) (ca : Nat → ClassId) (h0 : Nat) : ∀ sz, Met l yX6_init (.code yX6_init cX6_init 1 none :: ti_T) (xrm 1 3 24) (va_Pc (.ref h0 :: []) (xB D ca [(h0, .inr (6, [.null, .null, .null, .int 0, .int 0]))] sz)) (xQ D (nw_6 ca h0) (va_A [(h0, .inr (6, [.null, .null, .null, .int 0, .int 0]))] sz)) 3 24 (va_A [(h0, .inr (6, [.null, .null, .null, .int 0, .int 0]))] sz) := by
  refine x_met (by decide) rfl ?_
  intro p e s m below meth c A C hAO hin hr hlk hP hD hS
  have C : lw_Cx p s m _ c cX6_init 1 RX6 D ca A := C
  have hx := C.1
  have hb := C.2.1
  have hl := lv_entry ([.ref h0]) (n := 1) (Nat.le_of_ble_eq_true rfl)
  rw [lg_entry_eq]
  generalize (lg_sl ([.ref h0]) ++ List.replicate (1 - (lg_sl ([.ref h0])).length) Slot.unset).toArray = ls at hl ⊢
  have hl : lv_has ls 1 [(0, .ref h0)] := hl
  refine lv_aload_n hx hb dX6_init_0 rfl (lv_at hl 0 rfl) ?_
  refine x_obj C hl.1 xw_ol_6 xw_oi xw_oc (Nat.le_of_ble_eq_true rfl) (Nat.le_of_ble_eq_true rfl) dX6_init_1 ?_
  refine lv_aload_n hx hb dX6_init_4 rfl (lv_at hl 0 rfl) ?_
  refine lv_bipush (v := 8) hx hb dX6_init_5 (by decide) ?_
  refine x_newa (a0 := (8, .inl (fun _ => 0))) (atype := .int) (ty := .int) C hP hD hS rfl xw_a_int 0 rfl (fun _ => rfl) (by decide) (by decide) (by decide) (Nat.le_of_ble_eq_true rfl) (Nat.le_of_ble_eq_true rfl) dX6_init_7 (fun q1 H hP hD hS => ?_)
  have hP : va_P D vwCl [(h0, .inr (6, [.null, .null, .null, .int 0, .int 0])), (q1, .inl (ca 0, 8, .inl (fun _ => 0)))] H := hP
  have hD : va_D A [(h0, .inr (6, [.null, .null, .null, .int 0, .int 0])), (q1, .inl (ca 0, 8, .inl (fun _ => 0)))] := hD
  refine x_put (v := .ref q1) C hin hP hD hS rfl 0 rfl 0 (by decide) xw_f_6_9 rfl (tyX6_ok 0 (by decide)) rfl rfl (Nat.le_of_ble_eq_true rfl) dX6_init_9 (fun H locs hP hD hS => ?_)
  have hP : va_P D vwCl [(h0, .inr (6, [.ref q1, .null, .null, .int 0, .int 0])), (q1, .inl (ca 0, 8, .inl (fun _ => 0)))] H := hP
  have hD : va_D A [(h0, .inr (6, [.ref q1, .null, .null, .int 0, .int 0])), (q1, .inl (ca 0, 8, .inl (fun _ => 0)))] := hD
  refine lv_aload_n hx hb dX6_init_12 rfl (lv_at hl 0 rfl) ?_
  refine lv_bipush (v := 8) hx hb dX6_init_13 (by decide) ?_
  refine x_newa (a0 := (8, .inl (fun _ => 0))) (atype := .int) (ty := .int) C hP hD hS rfl xw_a_int 0 rfl (fun _ => rfl) (by decide) (by decide) (by decide) (Nat.le_of_ble_eq_true rfl) (Nat.le_of_ble_eq_true rfl) dX6_init_15 (fun q2 H hP hD hS => ?_)
  have hP : va_P D vwCl [(h0, .inr (6, [.ref q1, .null, .null, .int 0, .int 0])), (q1, .inl (ca 0, 8, .inl (fun _ => 0))), (q2, .inl (ca 0, 8, .inl (fun _ => 0)))] H := hP
  have hD : va_D A [(h0, .inr (6, [.ref q1, .null, .null, .int 0, .int 0])), (q1, .inl (ca 0, 8, .inl (fun _ => 0))), (q2, .inl (ca 0, 8, .inl (fun _ => 0)))] := hD
  refine x_put (v := .ref q2) C hin hP hD hS rfl 0 rfl 1 (by decide) xw_f_6_15 rfl (tyX6_ok 1 (by decide)) rfl rfl (Nat.le_of_ble_eq_true rfl) dX6_init_17 (fun H locs hP hD hS => ?_)
  have hP : va_P D vwCl [(h0, .inr (6, [.ref q1, .ref q2, .null, .int 0, .int 0])), (q1, .inl (ca 0, 8, .inl (fun _ => 0))), (q2, .inl (ca 0, 8, .inl (fun _ => 0)))] H := hP
  have hD : va_D A [(h0, .inr (6, [.ref q1, .ref q2, .null, .int 0, .int 0])), (q1, .inl (ca 0, 8, .inl (fun _ => 0))), (q2, .inl (ca 0, 8, .inl (fun _ => 0)))] := hD
  refine lv_aload_n hx hb dX6_init_20 rfl (lv_at hl 0 rfl) ?_
  refine lv_bipush (v := 8) hx hb dX6_init_21 (by decide) ?_
  refine x_newa (a0 := (8, .inl (fun _ => 0))) (atype := .int) (ty := .int) C hP hD hS rfl xw_a_int 0 rfl (fun _ => rfl) (by decide) (by decide) (by decide) (Nat.le_of_ble_eq_true rfl) (Nat.le_of_ble_eq_true rfl) dX6_init_23 (fun q3 H hP hD hS => ?_)
  have hP : va_P D vwCl [(h0, .inr (6, [.ref q1, .ref q2, .null, .int 0, .int 0])), (q1, .inl (ca 0, 8, .inl (fun _ => 0))), (q2, .inl (ca 0, 8, .inl (fun _ => 0))), (q3, .inl (ca 0, 8, .inl (fun _ => 0)))] H := hP
  have hD : va_D A [(h0, .inr (6, [.ref q1, .ref q2, .null, .int 0, .int 0])), (q1, .inl (ca 0, 8, .inl (fun _ => 0))), (q2, .inl (ca 0, 8, .inl (fun _ => 0))), (q3, .inl (ca 0, 8, .inl (fun _ => 0)))] := hD
  refine x_put (v := .ref q3) C hin hP hD hS rfl 0 rfl 2 (by decide) xw_f_6_18 rfl (tyX6_ok 2 (by decide)) rfl rfl (Nat.le_of_ble_eq_true rfl) dX6_init_25 (fun H locs hP hD hS => ?_)
  have hP : va_P D vwCl [(h0, .inr (6, [.ref q1, .ref q2, .ref q3, .int 0, .int 0])), (q1, .inl (ca 0, 8, .inl (fun _ => 0))), (q2, .inl (ca 0, 8, .inl (fun _ => 0))), (q3, .inl (ca 0, 8, .inl (fun _ => 0)))] H := hP
  have hD : va_D A [(h0, .inr (6, [.ref q1, .ref q2, .ref q3, .int 0, .int 0])), (q1, .inl (ca 0, 8, .inl (fun _ => 0))), (q2, .inl (ca 0, 8, .inl (fun _ => 0))), (q3, .inl (ca 0, 8, .inl (fun _ => 0)))] := hD
  exact x_ret C hr hlk (fun k => [q1, q2, q3].getD k 0) (Nat.le_of_ble_eq_true rfl) (Nat.le_of_ble_eq_true rfl) hP hD hS dX6_init_28
def nw_9 (ca : Nat → ClassId) (h0 : Nat) (g : Nat → Nat) : va_W := [(h0, .inr (9, [.ref (g 0), .int 0, .int 0, .int 0, .int 0])), ((g 0), .inl (ca 2, 80, .inl (fun _ => 0)))]
set_option maxHeartbeats 4000000 in
theorem nM_9 (l : Launch) (D : va_G) (ca : Nat → ClassId) (h0 : Nat) : ∀ sz, Met l yX9_init (.code yX9_init cX9_init 1 none :: ti_T) (xrm 1 1 80) (va_Pc (.ref h0 :: []) (xB D ca [(h0, .inr (9, [.null, .int 0, .int 0, .int 0, .int 0]))] sz)) (xQ D (nw_9 ca h0) (va_A [(h0, .inr (9, [.null, .int 0, .int 0, .int 0, .int 0]))] sz)) 1 80 (va_A [(h0, .inr (9, [.null, .int 0, .int 0, .int 0, .int 0]))] sz) := by
  refine x_met (by decide) rfl ?_
  intro p e s m below meth c A C hAO hin hr hlk hP hD hS
  have C : lw_Cx p s m _ c cX9_init 1 RX9 D ca A := C
  have hx := C.1
  have hb := C.2.1
  have hl := lv_entry ([.ref h0]) (n := 1) (Nat.le_of_ble_eq_true rfl)
  rw [lg_entry_eq]
  generalize (lg_sl ([.ref h0]) ++ List.replicate (1 - (lg_sl ([.ref h0])).length) Slot.unset).toArray = ls at hl ⊢
  have hl : lv_has ls 1 [(0, .ref h0)] := hl
  refine lv_aload_n hx hb dX9_init_0 rfl (lv_at hl 0 rfl) ?_
  refine x_obj C hl.1 xw_ol_9 xw_oi xw_oc (Nat.le_of_ble_eq_true rfl) (Nat.le_of_ble_eq_true rfl) dX9_init_1 ?_
  refine lv_aload_n hx hb dX9_init_4 rfl (lv_at hl 0 rfl) ?_
  refine lv_bipush (v := 80) hx hb dX9_init_5 (by decide) ?_
  refine x_newa (a0 := (80, .inl (fun _ => 0))) (atype := .char) (ty := .char) C hP hD hS rfl xw_a_char 2 rfl (fun _ => rfl) (by decide) (by decide) (by decide) (Nat.le_of_ble_eq_true rfl) (Nat.le_of_ble_eq_true rfl) dX9_init_7 (fun q1 H hP hD hS => ?_)
  have hP : va_P D vwCl [(h0, .inr (9, [.null, .int 0, .int 0, .int 0, .int 0])), (q1, .inl (ca 2, 80, .inl (fun _ => 0)))] H := hP
  have hD : va_D A [(h0, .inr (9, [.null, .int 0, .int 0, .int 0, .int 0])), (q1, .inl (ca 2, 80, .inl (fun _ => 0)))] := hD
  refine x_put (v := .ref q1) C hin hP hD hS rfl 0 rfl 0 (by decide) xw_f_9_11 rfl (tyX9_ok 0 (by decide)) rfl rfl (Nat.le_of_ble_eq_true rfl) dX9_init_9 (fun H locs hP hD hS => ?_)
  have hP : va_P D vwCl [(h0, .inr (9, [.ref q1, .int 0, .int 0, .int 0, .int 0])), (q1, .inl (ca 2, 80, .inl (fun _ => 0)))] H := hP
  have hD : va_D A [(h0, .inr (9, [.ref q1, .int 0, .int 0, .int 0, .int 0])), (q1, .inl (ca 2, 80, .inl (fun _ => 0)))] := hD
  exact x_ret C hr hlk (fun k => [q1].getD k 0) (Nat.le_of_ble_eq_true rfl) (Nat.le_of_ble_eq_true rfl) hP hD hS dX9_init_12
def nw_10 (ca : Nat → ClassId) (h0 : Nat) (g : Nat → Nat) : va_W := [(h0, .inr (10, [.ref (g 0), .ref (g 1), .int 1])), ((g 0), .inl (ca 0, 12, .inl (fun _ => 0))), ((g 1), .inl (ca 0, 12, .inl (fun _ => 0)))]
set_option maxHeartbeats 4000000 in
theorem nM_10 (l : Launch) (D : va_G) (ca : Nat → ClassId) (h0 : Nat) : ∀ sz, Met l yX10_init (.code yX10_init cX10_init 1 none :: ti_T) (xrm 1 2 24) (va_Pc (.ref h0 :: []) (xB D ca [(h0, .inr (10, [.null, .null, .int 0]))] sz)) (xQ D (nw_10 ca h0) (va_A [(h0, .inr (10, [.null, .null, .int 0]))] sz)) 2 24 (va_A [(h0, .inr (10, [.null, .null, .int 0]))] sz) := by
  refine x_met (by decide) rfl ?_
  intro p e s m below meth c A C hAO hin hr hlk hP hD hS
  have C : lw_Cx p s m _ c cX10_init 1 RX10 D ca A := C
  have hx := C.1
  have hb := C.2.1
  have hl := lv_entry ([.ref h0]) (n := 1) (Nat.le_of_ble_eq_true rfl)
  rw [lg_entry_eq]
  generalize (lg_sl ([.ref h0]) ++ List.replicate (1 - (lg_sl ([.ref h0])).length) Slot.unset).toArray = ls at hl ⊢
  have hl : lv_has ls 1 [(0, .ref h0)] := hl
  refine lv_aload_n hx hb dX10_init_0 rfl (lv_at hl 0 rfl) ?_
  refine x_obj C hl.1 xw_ol_10 xw_oi xw_oc (Nat.le_of_ble_eq_true rfl) (Nat.le_of_ble_eq_true rfl) dX10_init_1 ?_
  refine lv_aload_n hx hb dX10_init_4 rfl (lv_at hl 0 rfl) ?_
  refine lv_bipush (v := 12) hx hb dX10_init_5 (by decide) ?_
  refine x_newa (a0 := (12, .inl (fun _ => 0))) (atype := .int) (ty := .int) C hP hD hS rfl xw_a_int 0 rfl (fun _ => rfl) (by decide) (by decide) (by decide) (Nat.le_of_ble_eq_true rfl) (Nat.le_of_ble_eq_true rfl) dX10_init_7 (fun q1 H hP hD hS => ?_)
  have hP : va_P D vwCl [(h0, .inr (10, [.null, .null, .int 0])), (q1, .inl (ca 0, 12, .inl (fun _ => 0)))] H := hP
  have hD : va_D A [(h0, .inr (10, [.null, .null, .int 0])), (q1, .inl (ca 0, 12, .inl (fun _ => 0)))] := hD
  refine x_put (v := .ref q1) C hin hP hD hS rfl 0 rfl 0 (by decide) xw_f_10_9 rfl (tyX10_ok 0 (by decide)) rfl rfl (Nat.le_of_ble_eq_true rfl) dX10_init_9 (fun H locs hP hD hS => ?_)
  have hP : va_P D vwCl [(h0, .inr (10, [.ref q1, .null, .int 0])), (q1, .inl (ca 0, 12, .inl (fun _ => 0)))] H := hP
  have hD : va_D A [(h0, .inr (10, [.ref q1, .null, .int 0])), (q1, .inl (ca 0, 12, .inl (fun _ => 0)))] := hD
  refine lv_aload_n hx hb dX10_init_12 rfl (lv_at hl 0 rfl) ?_
  refine lv_bipush (v := 12) hx hb dX10_init_13 (by decide) ?_
  refine x_newa (a0 := (12, .inl (fun _ => 0))) (atype := .int) (ty := .int) C hP hD hS rfl xw_a_int 0 rfl (fun _ => rfl) (by decide) (by decide) (by decide) (Nat.le_of_ble_eq_true rfl) (Nat.le_of_ble_eq_true rfl) dX10_init_15 (fun q2 H hP hD hS => ?_)
  have hP : va_P D vwCl [(h0, .inr (10, [.ref q1, .null, .int 0])), (q1, .inl (ca 0, 12, .inl (fun _ => 0))), (q2, .inl (ca 0, 12, .inl (fun _ => 0)))] H := hP
  have hD : va_D A [(h0, .inr (10, [.ref q1, .null, .int 0])), (q1, .inl (ca 0, 12, .inl (fun _ => 0))), (q2, .inl (ca 0, 12, .inl (fun _ => 0)))] := hD
  refine x_put (v := .ref q2) C hin hP hD hS rfl 0 rfl 1 (by decide) xw_f_10_15 rfl (tyX10_ok 1 (by decide)) rfl rfl (Nat.le_of_ble_eq_true rfl) dX10_init_17 (fun H locs hP hD hS => ?_)
  have hP : va_P D vwCl [(h0, .inr (10, [.ref q1, .ref q2, .int 0])), (q1, .inl (ca 0, 12, .inl (fun _ => 0))), (q2, .inl (ca 0, 12, .inl (fun _ => 0)))] H := hP
  have hD : va_D A [(h0, .inr (10, [.ref q1, .ref q2, .int 0])), (q1, .inl (ca 0, 12, .inl (fun _ => 0))), (q2, .inl (ca 0, 12, .inl (fun _ => 0)))] := hD
  refine lv_aload_n hx hb dX10_init_20 rfl (lv_at hl 0 rfl) ?_
  refine lv_iconst (v := 1) hx hb dX10_init_21 (by decide) ?_
  refine x_put (v := .int 1) C hin hP hD hS rfl 0 rfl 2 (by decide) xw_f_10_18 rfl (tyX10_ok 2 (by decide)) rfl rfl (Nat.le_of_ble_eq_true rfl) dX10_init_22 (fun H locs hP hD hS => ?_)
  have hP : va_P D vwCl [(h0, .inr (10, [.ref q1, .ref q2, .int 1])), (q1, .inl (ca 0, 12, .inl (fun _ => 0))), (q2, .inl (ca 0, 12, .inl (fun _ => 0)))] H := hP
  have hD : va_D A [(h0, .inr (10, [.ref q1, .ref q2, .int 1])), (q1, .inl (ca 0, 12, .inl (fun _ => 0))), (q2, .inl (ca 0, 12, .inl (fun _ => 0)))] := hD
  exact x_ret C hr hlk (fun k => [q1, q2].getD k 0) (Nat.le_of_ble_eq_true rfl) (Nat.le_of_ble_eq_true rfl) hP hD hS dX10_init_25
def nw_0 (ca : Nat → ClassId) (h0 : Nat) (b1 : Nat) (g : Nat → Nat) : va_W := [(h0, .inr (0, [.ref b1, .ref (g 0), .ref (g 1), .int 0])), ((g 0), .inl (ca 0, 8, .inl (fun _ => 0))), ((g 1), .inl (ca 0, 8, .inl (fun _ => 0)))]
set_option maxHeartbeats 4000000 in
theorem nM_0 (l : Launch) (D : va_G) (ca : Nat → ClassId) (h0 : Nat) (b1 : Nat) : ∀ sz, Met l yX0_init (.code yX0_init cX0_init 2 none :: ti_T) (xrm 1 2 16) (va_Pc (.ref h0 :: [.ref b1]) (xB D ca [(h0, .inr (0, [.null, .null, .null, .int 0]))] sz)) (xQ D (nw_0 ca h0 b1) (va_A [(h0, .inr (0, [.null, .null, .null, .int 0]))] sz)) 2 16 (va_A [(h0, .inr (0, [.null, .null, .null, .int 0]))] sz) := by
  refine x_met (by decide) rfl ?_
  intro p e s m below meth c A C hAO hin hr hlk hP hD hS
  have C : lw_Cx p s m _ c cX0_init 2 RX0 D ca A := C
  have hx := C.1
  have hb := C.2.1
  have hl := lv_entry ([.ref h0, .ref b1]) (n := 2) (Nat.le_of_ble_eq_true rfl)
  rw [lg_entry_eq]
  generalize (lg_sl ([.ref h0, .ref b1]) ++ List.replicate (2 - (lg_sl ([.ref h0, .ref b1])).length) Slot.unset).toArray = ls at hl ⊢
  have hl : lv_has ls 2 [(0, .ref h0), (1, .ref b1)] := hl
  refine lv_aload_n hx hb dX0_init_0 rfl (lv_at hl 0 rfl) ?_
  refine x_obj C hl.1 xw_ol_0 xw_oi xw_oc (Nat.le_of_ble_eq_true rfl) (Nat.le_of_ble_eq_true rfl) dX0_init_1 ?_
  refine lv_aload_n hx hb dX0_init_4 rfl (lv_at hl 0 rfl) ?_
  refine lv_bipush (v := 8) hx hb dX0_init_5 (by decide) ?_
  refine x_newa (a0 := (8, .inl (fun _ => 0))) (atype := .int) (ty := .int) C hP hD hS rfl xw_a_int 0 rfl (fun _ => rfl) (by decide) (by decide) (by decide) (Nat.le_of_ble_eq_true rfl) (Nat.le_of_ble_eq_true rfl) dX0_init_7 (fun q1 H hP hD hS => ?_)
  have hP : va_P D vwCl [(h0, .inr (0, [.null, .null, .null, .int 0])), (q1, .inl (ca 0, 8, .inl (fun _ => 0)))] H := hP
  have hD : va_D A [(h0, .inr (0, [.null, .null, .null, .int 0])), (q1, .inl (ca 0, 8, .inl (fun _ => 0)))] := hD
  refine x_put (v := .ref q1) C hin hP hD hS rfl 0 rfl 1 (by decide) xw_f_0_9 rfl (tyX0_ok 1 (by decide)) rfl rfl (Nat.le_of_ble_eq_true rfl) dX0_init_9 (fun H locs hP hD hS => ?_)
  have hP : va_P D vwCl [(h0, .inr (0, [.null, .ref q1, .null, .int 0])), (q1, .inl (ca 0, 8, .inl (fun _ => 0)))] H := hP
  have hD : va_D A [(h0, .inr (0, [.null, .ref q1, .null, .int 0])), (q1, .inl (ca 0, 8, .inl (fun _ => 0)))] := hD
  refine lv_aload_n hx hb dX0_init_12 rfl (lv_at hl 0 rfl) ?_
  refine lv_bipush (v := 8) hx hb dX0_init_13 (by decide) ?_
  refine x_newa (a0 := (8, .inl (fun _ => 0))) (atype := .int) (ty := .int) C hP hD hS rfl xw_a_int 0 rfl (fun _ => rfl) (by decide) (by decide) (by decide) (Nat.le_of_ble_eq_true rfl) (Nat.le_of_ble_eq_true rfl) dX0_init_15 (fun q2 H hP hD hS => ?_)
  have hP : va_P D vwCl [(h0, .inr (0, [.null, .ref q1, .null, .int 0])), (q1, .inl (ca 0, 8, .inl (fun _ => 0))), (q2, .inl (ca 0, 8, .inl (fun _ => 0)))] H := hP
  have hD : va_D A [(h0, .inr (0, [.null, .ref q1, .null, .int 0])), (q1, .inl (ca 0, 8, .inl (fun _ => 0))), (q2, .inl (ca 0, 8, .inl (fun _ => 0)))] := hD
  refine x_put (v := .ref q2) C hin hP hD hS rfl 0 rfl 2 (by decide) xw_f_0_15 rfl (tyX0_ok 2 (by decide)) rfl rfl (Nat.le_of_ble_eq_true rfl) dX0_init_17 (fun H locs hP hD hS => ?_)
  have hP : va_P D vwCl [(h0, .inr (0, [.null, .ref q1, .ref q2, .int 0])), (q1, .inl (ca 0, 8, .inl (fun _ => 0))), (q2, .inl (ca 0, 8, .inl (fun _ => 0)))] H := hP
  have hD : va_D A [(h0, .inr (0, [.null, .ref q1, .ref q2, .int 0])), (q1, .inl (ca 0, 8, .inl (fun _ => 0))), (q2, .inl (ca 0, 8, .inl (fun _ => 0)))] := hD
  refine lv_aload_n hx hb dX0_init_20 rfl (lv_at hl 0 rfl) ?_
  refine lv_aload_n hx hb dX0_init_21 rfl (lv_at hl 1 rfl) ?_
  refine x_put (v := .ref b1) C hin hP hD hS rfl 0 rfl 0 (by decide) xw_f_0_18 rfl (tyX0_ok 0 (by decide)) rfl rfl (Nat.le_of_ble_eq_true rfl) dX0_init_22 (fun H locs hP hD hS => ?_)
  have hP : va_P D vwCl [(h0, .inr (0, [.ref b1, .ref q1, .ref q2, .int 0])), (q1, .inl (ca 0, 8, .inl (fun _ => 0))), (q2, .inl (ca 0, 8, .inl (fun _ => 0)))] H := hP
  have hD : va_D A [(h0, .inr (0, [.ref b1, .ref q1, .ref q2, .int 0])), (q1, .inl (ca 0, 8, .inl (fun _ => 0))), (q2, .inl (ca 0, 8, .inl (fun _ => 0)))] := hD
  exact x_ret C hr hlk (fun k => [q1, q2].getD k 0) (Nat.le_of_ble_eq_true rfl) (Nat.le_of_ble_eq_true rfl) hP hD hS dX0_init_25
def nw_8 (ca : Nat → ClassId) (h0 : Nat) (b1 : Nat) (b2 : Nat) (b3 : Nat) (g : Nat → Nat) : va_W := [(h0, .inr (8, [.ref b1, .ref b2, .ref b3, .int 0]))]
set_option maxHeartbeats 4000000 in
theorem nM_8 (l : Launch) (D : va_G) (ca : Nat → ClassId) (h0 : Nat) (b1 : Nat) (b2 : Nat) (b3 : Nat) : ∀ sz, Met l yX8_init (.code yX8_init cX8_init 4 none :: ti_T) (xrm 1 0 0) (va_Pc (.ref h0 :: [.ref b1, .ref b2, .ref b3]) (xB D ca [(h0, .inr (8, [.null, .null, .null, .int 0]))] sz)) (xQ D (nw_8 ca h0 b1 b2 b3) (va_A [(h0, .inr (8, [.null, .null, .null, .int 0]))] sz)) 0 0 (va_A [(h0, .inr (8, [.null, .null, .null, .int 0]))] sz) := by
  refine x_met (by decide) rfl ?_
  intro p e s m below meth c A C hAO hin hr hlk hP hD hS
  have C : lw_Cx p s m _ c cX8_init 4 RX8 D ca A := C
  have hx := C.1
  have hb := C.2.1
  have hl := lv_entry ([.ref h0, .ref b1, .ref b2, .ref b3]) (n := 4) (Nat.le_of_ble_eq_true rfl)
  rw [lg_entry_eq]
  generalize (lg_sl ([.ref h0, .ref b1, .ref b2, .ref b3]) ++ List.replicate (4 - (lg_sl ([.ref h0, .ref b1, .ref b2, .ref b3])).length) Slot.unset).toArray = ls at hl ⊢
  have hl : lv_has ls 4 [(0, .ref h0), (1, .ref b1), (2, .ref b2), (3, .ref b3)] := hl
  refine lv_aload_n hx hb dX8_init_0 rfl (lv_at hl 0 rfl) ?_
  refine x_obj C hl.1 xw_ol_8 xw_oi xw_oc (Nat.le_of_ble_eq_true rfl) (Nat.le_of_ble_eq_true rfl) dX8_init_1 ?_
  refine lv_aload_n hx hb dX8_init_4 rfl (lv_at hl 0 rfl) ?_
  refine lv_aload_n hx hb dX8_init_5 rfl (lv_at hl 1 rfl) ?_
  refine x_put (v := .ref b1) C hin hP hD hS rfl 0 rfl 0 (by decide) xw_f_8_9 rfl (tyX8_ok 0 (by decide)) rfl rfl (Nat.le_of_ble_eq_true rfl) dX8_init_6 (fun H locs hP hD hS => ?_)
  have hP : va_P D vwCl [(h0, .inr (8, [.ref b1, .null, .null, .int 0]))] H := hP
  have hD : va_D A [(h0, .inr (8, [.ref b1, .null, .null, .int 0]))] := hD
  refine lv_aload_n hx hb dX8_init_9 rfl (lv_at hl 0 rfl) ?_
  refine lv_aload_n hx hb dX8_init_10 rfl (lv_at hl 2 rfl) ?_
  refine x_put (v := .ref b2) C hin hP hD hS rfl 0 rfl 1 (by decide) xw_f_8_15 rfl (tyX8_ok 1 (by decide)) rfl rfl (Nat.le_of_ble_eq_true rfl) dX8_init_11 (fun H locs hP hD hS => ?_)
  have hP : va_P D vwCl [(h0, .inr (8, [.ref b1, .ref b2, .null, .int 0]))] H := hP
  have hD : va_D A [(h0, .inr (8, [.ref b1, .ref b2, .null, .int 0]))] := hD
  refine lv_aload_n hx hb dX8_init_14 rfl (lv_at hl 0 rfl) ?_
  refine lv_aload_n hx hb dX8_init_15 rfl (lv_at hl 3 rfl) ?_
  refine x_put (v := .ref b3) C hin hP hD hS rfl 0 rfl 2 (by decide) xw_f_8_19 rfl (tyX8_ok 2 (by decide)) rfl rfl (Nat.le_of_ble_eq_true rfl) dX8_init_16 (fun H locs hP hD hS => ?_)
  have hP : va_P D vwCl [(h0, .inr (8, [.ref b1, .ref b2, .ref b3, .int 0]))] H := hP
  have hD : va_D A [(h0, .inr (8, [.ref b1, .ref b2, .ref b3, .int 0]))] := hD
  exact x_ret C hr hlk (fun k => [].getD k 0) (Nat.le_of_ble_eq_true rfl) (Nat.le_of_ble_eq_true rfl) hP hD hS dX8_init_19
def nw_1 (ca : Nat → ClassId) (h0 : Nat) (b1 : Nat) (b2 : Nat) (g : Nat → Nat) : va_W := [(h0, .inr (1, [.ref b1, .ref b2, .ref (g 0), .ref (g 1), .int 0, .ref (g 2), .ref (g 3), .ref (g 4), .int 0, .int 0, .int 0, .int 0, .int 0, .ref (g 5)])), ((g 0), .inl (ca 0, 8, .inl (fun _ => 0))), ((g 1), .inl (ca 0, 8, .inl (fun _ => 0))), ((g 2), .inl (ca 0, 16, .inl (fun _ => 0))), ((g 3), .inl (ca 0, 16, .inl (fun _ => 0))), ((g 4), .inl (ca 0, 16, .inl (fun _ => 0))), ((g 5), .inl (ca 0, 8, .inl (fun _ => 0)))]
set_option maxHeartbeats 4000000 in
theorem nM_1 (l : Launch) (D : va_G) (ca : Nat → ClassId) (h0 : Nat) (b1 : Nat) (b2 : Nat) : ∀ sz, Met l yX1_init (.code yX1_init cX1_init 3 none :: ti_T) (xrm 1 6 72) (va_Pc (.ref h0 :: [.ref b1, .ref b2]) (xB D ca [(h0, .inr (1, [.null, .null, .null, .null, .int 0, .null, .null, .null, .int 0, .int 0, .int 0, .int 0, .int 0, .null]))] sz)) (xQ D (nw_1 ca h0 b1 b2) (va_A [(h0, .inr (1, [.null, .null, .null, .null, .int 0, .null, .null, .null, .int 0, .int 0, .int 0, .int 0, .int 0, .null]))] sz)) 6 72 (va_A [(h0, .inr (1, [.null, .null, .null, .null, .int 0, .null, .null, .null, .int 0, .int 0, .int 0, .int 0, .int 0, .null]))] sz) := by
  refine x_met (by decide) rfl ?_
  intro p e s m below meth c A C hAO hin hr hlk hP hD hS
  have C : lw_Cx p s m _ c cX1_init 3 RX1 D ca A := C
  have hx := C.1
  have hb := C.2.1
  have hl := lv_entry ([.ref h0, .ref b1, .ref b2]) (n := 3) (Nat.le_of_ble_eq_true rfl)
  rw [lg_entry_eq]
  generalize (lg_sl ([.ref h0, .ref b1, .ref b2]) ++ List.replicate (3 - (lg_sl ([.ref h0, .ref b1, .ref b2])).length) Slot.unset).toArray = ls at hl ⊢
  have hl : lv_has ls 3 [(0, .ref h0), (1, .ref b1), (2, .ref b2)] := hl
  refine lv_aload_n hx hb dX1_init_0 rfl (lv_at hl 0 rfl) ?_
  refine x_obj C hl.1 xw_ol_1 xw_oi xw_oc (Nat.le_of_ble_eq_true rfl) (Nat.le_of_ble_eq_true rfl) dX1_init_1 ?_
  refine lv_aload_n hx hb dX1_init_4 rfl (lv_at hl 0 rfl) ?_
  refine lv_bipush (v := 8) hx hb dX1_init_5 (by decide) ?_
  refine x_newa (a0 := (8, .inl (fun _ => 0))) (atype := .int) (ty := .int) C hP hD hS rfl xw_a_int 0 rfl (fun _ => rfl) (by decide) (by decide) (by decide) (Nat.le_of_ble_eq_true rfl) (Nat.le_of_ble_eq_true rfl) dX1_init_7 (fun q1 H hP hD hS => ?_)
  have hP : va_P D vwCl [(h0, .inr (1, [.null, .null, .null, .null, .int 0, .null, .null, .null, .int 0, .int 0, .int 0, .int 0, .int 0, .null])), (q1, .inl (ca 0, 8, .inl (fun _ => 0)))] H := hP
  have hD : va_D A [(h0, .inr (1, [.null, .null, .null, .null, .int 0, .null, .null, .null, .int 0, .int 0, .int 0, .int 0, .int 0, .null])), (q1, .inl (ca 0, 8, .inl (fun _ => 0)))] := hD
  refine x_put (v := .ref q1) C hin hP hD hS rfl 0 rfl 2 (by decide) xw_f_1_11 rfl (tyX1_ok 2 (by decide)) rfl rfl (Nat.le_of_ble_eq_true rfl) dX1_init_9 (fun H locs hP hD hS => ?_)
  have hP : va_P D vwCl [(h0, .inr (1, [.null, .null, .ref q1, .null, .int 0, .null, .null, .null, .int 0, .int 0, .int 0, .int 0, .int 0, .null])), (q1, .inl (ca 0, 8, .inl (fun _ => 0)))] H := hP
  have hD : va_D A [(h0, .inr (1, [.null, .null, .ref q1, .null, .int 0, .null, .null, .null, .int 0, .int 0, .int 0, .int 0, .int 0, .null])), (q1, .inl (ca 0, 8, .inl (fun _ => 0)))] := hD
  refine lv_aload_n hx hb dX1_init_12 rfl (lv_at hl 0 rfl) ?_
  refine lv_bipush (v := 8) hx hb dX1_init_13 (by decide) ?_
  refine x_newa (a0 := (8, .inl (fun _ => 0))) (atype := .int) (ty := .int) C hP hD hS rfl xw_a_int 0 rfl (fun _ => rfl) (by decide) (by decide) (by decide) (Nat.le_of_ble_eq_true rfl) (Nat.le_of_ble_eq_true rfl) dX1_init_15 (fun q2 H hP hD hS => ?_)
  have hP : va_P D vwCl [(h0, .inr (1, [.null, .null, .ref q1, .null, .int 0, .null, .null, .null, .int 0, .int 0, .int 0, .int 0, .int 0, .null])), (q1, .inl (ca 0, 8, .inl (fun _ => 0))), (q2, .inl (ca 0, 8, .inl (fun _ => 0)))] H := hP
  have hD : va_D A [(h0, .inr (1, [.null, .null, .ref q1, .null, .int 0, .null, .null, .null, .int 0, .int 0, .int 0, .int 0, .int 0, .null])), (q1, .inl (ca 0, 8, .inl (fun _ => 0))), (q2, .inl (ca 0, 8, .inl (fun _ => 0)))] := hD
  refine x_put (v := .ref q2) C hin hP hD hS rfl 0 rfl 3 (by decide) xw_f_1_15 rfl (tyX1_ok 3 (by decide)) rfl rfl (Nat.le_of_ble_eq_true rfl) dX1_init_17 (fun H locs hP hD hS => ?_)
  have hP : va_P D vwCl [(h0, .inr (1, [.null, .null, .ref q1, .ref q2, .int 0, .null, .null, .null, .int 0, .int 0, .int 0, .int 0, .int 0, .null])), (q1, .inl (ca 0, 8, .inl (fun _ => 0))), (q2, .inl (ca 0, 8, .inl (fun _ => 0)))] H := hP
  have hD : va_D A [(h0, .inr (1, [.null, .null, .ref q1, .ref q2, .int 0, .null, .null, .null, .int 0, .int 0, .int 0, .int 0, .int 0, .null])), (q1, .inl (ca 0, 8, .inl (fun _ => 0))), (q2, .inl (ca 0, 8, .inl (fun _ => 0)))] := hD
  refine lv_aload_n hx hb dX1_init_20 rfl (lv_at hl 0 rfl) ?_
  refine lv_bipush (v := 16) hx hb dX1_init_21 (by decide) ?_
  refine x_newa (a0 := (16, .inl (fun _ => 0))) (atype := .int) (ty := .int) C hP hD hS rfl xw_a_int 0 rfl (fun _ => rfl) (by decide) (by decide) (by decide) (Nat.le_of_ble_eq_true rfl) (Nat.le_of_ble_eq_true rfl) dX1_init_23 (fun q3 H hP hD hS => ?_)
  have hP : va_P D vwCl [(h0, .inr (1, [.null, .null, .ref q1, .ref q2, .int 0, .null, .null, .null, .int 0, .int 0, .int 0, .int 0, .int 0, .null])), (q1, .inl (ca 0, 8, .inl (fun _ => 0))), (q2, .inl (ca 0, 8, .inl (fun _ => 0))), (q3, .inl (ca 0, 16, .inl (fun _ => 0)))] H := hP
  have hD : va_D A [(h0, .inr (1, [.null, .null, .ref q1, .ref q2, .int 0, .null, .null, .null, .int 0, .int 0, .int 0, .int 0, .int 0, .null])), (q1, .inl (ca 0, 8, .inl (fun _ => 0))), (q2, .inl (ca 0, 8, .inl (fun _ => 0))), (q3, .inl (ca 0, 16, .inl (fun _ => 0)))] := hD
  refine x_put (v := .ref q3) C hin hP hD hS rfl 0 rfl 5 (by decide) xw_f_1_18 rfl (tyX1_ok 5 (by decide)) rfl rfl (Nat.le_of_ble_eq_true rfl) dX1_init_25 (fun H locs hP hD hS => ?_)
  have hP : va_P D vwCl [(h0, .inr (1, [.null, .null, .ref q1, .ref q2, .int 0, .ref q3, .null, .null, .int 0, .int 0, .int 0, .int 0, .int 0, .null])), (q1, .inl (ca 0, 8, .inl (fun _ => 0))), (q2, .inl (ca 0, 8, .inl (fun _ => 0))), (q3, .inl (ca 0, 16, .inl (fun _ => 0)))] H := hP
  have hD : va_D A [(h0, .inr (1, [.null, .null, .ref q1, .ref q2, .int 0, .ref q3, .null, .null, .int 0, .int 0, .int 0, .int 0, .int 0, .null])), (q1, .inl (ca 0, 8, .inl (fun _ => 0))), (q2, .inl (ca 0, 8, .inl (fun _ => 0))), (q3, .inl (ca 0, 16, .inl (fun _ => 0)))] := hD
  refine lv_aload_n hx hb dX1_init_28 rfl (lv_at hl 0 rfl) ?_
  refine lv_bipush (v := 16) hx hb dX1_init_29 (by decide) ?_
  refine x_newa (a0 := (16, .inl (fun _ => 0))) (atype := .int) (ty := .int) C hP hD hS rfl xw_a_int 0 rfl (fun _ => rfl) (by decide) (by decide) (by decide) (Nat.le_of_ble_eq_true rfl) (Nat.le_of_ble_eq_true rfl) dX1_init_31 (fun q4 H hP hD hS => ?_)
  have hP : va_P D vwCl [(h0, .inr (1, [.null, .null, .ref q1, .ref q2, .int 0, .ref q3, .null, .null, .int 0, .int 0, .int 0, .int 0, .int 0, .null])), (q1, .inl (ca 0, 8, .inl (fun _ => 0))), (q2, .inl (ca 0, 8, .inl (fun _ => 0))), (q3, .inl (ca 0, 16, .inl (fun _ => 0))), (q4, .inl (ca 0, 16, .inl (fun _ => 0)))] H := hP
  have hD : va_D A [(h0, .inr (1, [.null, .null, .ref q1, .ref q2, .int 0, .ref q3, .null, .null, .int 0, .int 0, .int 0, .int 0, .int 0, .null])), (q1, .inl (ca 0, 8, .inl (fun _ => 0))), (q2, .inl (ca 0, 8, .inl (fun _ => 0))), (q3, .inl (ca 0, 16, .inl (fun _ => 0))), (q4, .inl (ca 0, 16, .inl (fun _ => 0)))] := hD
  refine x_put (v := .ref q4) C hin hP hD hS rfl 0 rfl 6 (by decide) xw_f_1_21 rfl (tyX1_ok 6 (by decide)) rfl rfl (Nat.le_of_ble_eq_true rfl) dX1_init_33 (fun H locs hP hD hS => ?_)
  have hP : va_P D vwCl [(h0, .inr (1, [.null, .null, .ref q1, .ref q2, .int 0, .ref q3, .ref q4, .null, .int 0, .int 0, .int 0, .int 0, .int 0, .null])), (q1, .inl (ca 0, 8, .inl (fun _ => 0))), (q2, .inl (ca 0, 8, .inl (fun _ => 0))), (q3, .inl (ca 0, 16, .inl (fun _ => 0))), (q4, .inl (ca 0, 16, .inl (fun _ => 0)))] H := hP
  have hD : va_D A [(h0, .inr (1, [.null, .null, .ref q1, .ref q2, .int 0, .ref q3, .ref q4, .null, .int 0, .int 0, .int 0, .int 0, .int 0, .null])), (q1, .inl (ca 0, 8, .inl (fun _ => 0))), (q2, .inl (ca 0, 8, .inl (fun _ => 0))), (q3, .inl (ca 0, 16, .inl (fun _ => 0))), (q4, .inl (ca 0, 16, .inl (fun _ => 0)))] := hD
  refine lv_aload_n hx hb dX1_init_36 rfl (lv_at hl 0 rfl) ?_
  refine lv_bipush (v := 16) hx hb dX1_init_37 (by decide) ?_
  refine x_newa (a0 := (16, .inl (fun _ => 0))) (atype := .int) (ty := .int) C hP hD hS rfl xw_a_int 0 rfl (fun _ => rfl) (by decide) (by decide) (by decide) (Nat.le_of_ble_eq_true rfl) (Nat.le_of_ble_eq_true rfl) dX1_init_39 (fun q5 H hP hD hS => ?_)
  have hP : va_P D vwCl [(h0, .inr (1, [.null, .null, .ref q1, .ref q2, .int 0, .ref q3, .ref q4, .null, .int 0, .int 0, .int 0, .int 0, .int 0, .null])), (q1, .inl (ca 0, 8, .inl (fun _ => 0))), (q2, .inl (ca 0, 8, .inl (fun _ => 0))), (q3, .inl (ca 0, 16, .inl (fun _ => 0))), (q4, .inl (ca 0, 16, .inl (fun _ => 0))), (q5, .inl (ca 0, 16, .inl (fun _ => 0)))] H := hP
  have hD : va_D A [(h0, .inr (1, [.null, .null, .ref q1, .ref q2, .int 0, .ref q3, .ref q4, .null, .int 0, .int 0, .int 0, .int 0, .int 0, .null])), (q1, .inl (ca 0, 8, .inl (fun _ => 0))), (q2, .inl (ca 0, 8, .inl (fun _ => 0))), (q3, .inl (ca 0, 16, .inl (fun _ => 0))), (q4, .inl (ca 0, 16, .inl (fun _ => 0))), (q5, .inl (ca 0, 16, .inl (fun _ => 0)))] := hD
  refine x_put (v := .ref q5) C hin hP hD hS rfl 0 rfl 7 (by decide) xw_f_1_24 rfl (tyX1_ok 7 (by decide)) rfl rfl (Nat.le_of_ble_eq_true rfl) dX1_init_41 (fun H locs hP hD hS => ?_)
  have hP : va_P D vwCl [(h0, .inr (1, [.null, .null, .ref q1, .ref q2, .int 0, .ref q3, .ref q4, .ref q5, .int 0, .int 0, .int 0, .int 0, .int 0, .null])), (q1, .inl (ca 0, 8, .inl (fun _ => 0))), (q2, .inl (ca 0, 8, .inl (fun _ => 0))), (q3, .inl (ca 0, 16, .inl (fun _ => 0))), (q4, .inl (ca 0, 16, .inl (fun _ => 0))), (q5, .inl (ca 0, 16, .inl (fun _ => 0)))] H := hP
  have hD : va_D A [(h0, .inr (1, [.null, .null, .ref q1, .ref q2, .int 0, .ref q3, .ref q4, .ref q5, .int 0, .int 0, .int 0, .int 0, .int 0, .null])), (q1, .inl (ca 0, 8, .inl (fun _ => 0))), (q2, .inl (ca 0, 8, .inl (fun _ => 0))), (q3, .inl (ca 0, 16, .inl (fun _ => 0))), (q4, .inl (ca 0, 16, .inl (fun _ => 0))), (q5, .inl (ca 0, 16, .inl (fun _ => 0)))] := hD
  refine lv_aload_n hx hb dX1_init_44 rfl (lv_at hl 0 rfl) ?_
  refine lv_bipush (v := 8) hx hb dX1_init_45 (by decide) ?_
  refine x_newa (a0 := (8, .inl (fun _ => 0))) (atype := .int) (ty := .int) C hP hD hS rfl xw_a_int 0 rfl (fun _ => rfl) (by decide) (by decide) (by decide) (Nat.le_of_ble_eq_true rfl) (Nat.le_of_ble_eq_true rfl) dX1_init_47 (fun q6 H hP hD hS => ?_)
  have hP : va_P D vwCl [(h0, .inr (1, [.null, .null, .ref q1, .ref q2, .int 0, .ref q3, .ref q4, .ref q5, .int 0, .int 0, .int 0, .int 0, .int 0, .null])), (q1, .inl (ca 0, 8, .inl (fun _ => 0))), (q2, .inl (ca 0, 8, .inl (fun _ => 0))), (q3, .inl (ca 0, 16, .inl (fun _ => 0))), (q4, .inl (ca 0, 16, .inl (fun _ => 0))), (q5, .inl (ca 0, 16, .inl (fun _ => 0))), (q6, .inl (ca 0, 8, .inl (fun _ => 0)))] H := hP
  have hD : va_D A [(h0, .inr (1, [.null, .null, .ref q1, .ref q2, .int 0, .ref q3, .ref q4, .ref q5, .int 0, .int 0, .int 0, .int 0, .int 0, .null])), (q1, .inl (ca 0, 8, .inl (fun _ => 0))), (q2, .inl (ca 0, 8, .inl (fun _ => 0))), (q3, .inl (ca 0, 16, .inl (fun _ => 0))), (q4, .inl (ca 0, 16, .inl (fun _ => 0))), (q5, .inl (ca 0, 16, .inl (fun _ => 0))), (q6, .inl (ca 0, 8, .inl (fun _ => 0)))] := hD
  refine x_put (v := .ref q6) C hin hP hD hS rfl 0 rfl 13 (by decide) xw_f_1_27 rfl (tyX1_ok 13 (by decide)) rfl rfl (Nat.le_of_ble_eq_true rfl) dX1_init_49 (fun H locs hP hD hS => ?_)
  have hP : va_P D vwCl [(h0, .inr (1, [.null, .null, .ref q1, .ref q2, .int 0, .ref q3, .ref q4, .ref q5, .int 0, .int 0, .int 0, .int 0, .int 0, .ref q6])), (q1, .inl (ca 0, 8, .inl (fun _ => 0))), (q2, .inl (ca 0, 8, .inl (fun _ => 0))), (q3, .inl (ca 0, 16, .inl (fun _ => 0))), (q4, .inl (ca 0, 16, .inl (fun _ => 0))), (q5, .inl (ca 0, 16, .inl (fun _ => 0))), (q6, .inl (ca 0, 8, .inl (fun _ => 0)))] H := hP
  have hD : va_D A [(h0, .inr (1, [.null, .null, .ref q1, .ref q2, .int 0, .ref q3, .ref q4, .ref q5, .int 0, .int 0, .int 0, .int 0, .int 0, .ref q6])), (q1, .inl (ca 0, 8, .inl (fun _ => 0))), (q2, .inl (ca 0, 8, .inl (fun _ => 0))), (q3, .inl (ca 0, 16, .inl (fun _ => 0))), (q4, .inl (ca 0, 16, .inl (fun _ => 0))), (q5, .inl (ca 0, 16, .inl (fun _ => 0))), (q6, .inl (ca 0, 8, .inl (fun _ => 0)))] := hD
  refine lv_aload_n hx hb dX1_init_52 rfl (lv_at hl 0 rfl) ?_
  refine lv_aload_n hx hb dX1_init_53 rfl (lv_at hl 1 rfl) ?_
  refine x_put (v := .ref b1) C hin hP hD hS rfl 0 rfl 0 (by decide) xw_f_1_30 rfl (tyX1_ok 0 (by decide)) rfl rfl (Nat.le_of_ble_eq_true rfl) dX1_init_54 (fun H locs hP hD hS => ?_)
  have hP : va_P D vwCl [(h0, .inr (1, [.ref b1, .null, .ref q1, .ref q2, .int 0, .ref q3, .ref q4, .ref q5, .int 0, .int 0, .int 0, .int 0, .int 0, .ref q6])), (q1, .inl (ca 0, 8, .inl (fun _ => 0))), (q2, .inl (ca 0, 8, .inl (fun _ => 0))), (q3, .inl (ca 0, 16, .inl (fun _ => 0))), (q4, .inl (ca 0, 16, .inl (fun _ => 0))), (q5, .inl (ca 0, 16, .inl (fun _ => 0))), (q6, .inl (ca 0, 8, .inl (fun _ => 0)))] H := hP
  have hD : va_D A [(h0, .inr (1, [.ref b1, .null, .ref q1, .ref q2, .int 0, .ref q3, .ref q4, .ref q5, .int 0, .int 0, .int 0, .int 0, .int 0, .ref q6])), (q1, .inl (ca 0, 8, .inl (fun _ => 0))), (q2, .inl (ca 0, 8, .inl (fun _ => 0))), (q3, .inl (ca 0, 16, .inl (fun _ => 0))), (q4, .inl (ca 0, 16, .inl (fun _ => 0))), (q5, .inl (ca 0, 16, .inl (fun _ => 0))), (q6, .inl (ca 0, 8, .inl (fun _ => 0)))] := hD
  refine lv_aload_n hx hb dX1_init_57 rfl (lv_at hl 0 rfl) ?_
  refine lv_aload_n hx hb dX1_init_58 rfl (lv_at hl 2 rfl) ?_
  refine x_put (v := .ref b2) C hin hP hD hS rfl 0 rfl 1 (by decide) xw_f_1_34 rfl (tyX1_ok 1 (by decide)) rfl rfl (Nat.le_of_ble_eq_true rfl) dX1_init_59 (fun H locs hP hD hS => ?_)
  have hP : va_P D vwCl [(h0, .inr (1, [.ref b1, .ref b2, .ref q1, .ref q2, .int 0, .ref q3, .ref q4, .ref q5, .int 0, .int 0, .int 0, .int 0, .int 0, .ref q6])), (q1, .inl (ca 0, 8, .inl (fun _ => 0))), (q2, .inl (ca 0, 8, .inl (fun _ => 0))), (q3, .inl (ca 0, 16, .inl (fun _ => 0))), (q4, .inl (ca 0, 16, .inl (fun _ => 0))), (q5, .inl (ca 0, 16, .inl (fun _ => 0))), (q6, .inl (ca 0, 8, .inl (fun _ => 0)))] H := hP
  have hD : va_D A [(h0, .inr (1, [.ref b1, .ref b2, .ref q1, .ref q2, .int 0, .ref q3, .ref q4, .ref q5, .int 0, .int 0, .int 0, .int 0, .int 0, .ref q6])), (q1, .inl (ca 0, 8, .inl (fun _ => 0))), (q2, .inl (ca 0, 8, .inl (fun _ => 0))), (q3, .inl (ca 0, 16, .inl (fun _ => 0))), (q4, .inl (ca 0, 16, .inl (fun _ => 0))), (q5, .inl (ca 0, 16, .inl (fun _ => 0))), (q6, .inl (ca 0, 8, .inl (fun _ => 0)))] := hD
  exact x_ret C hr hlk (fun k => [q1, q2, q3, q4, q5, q6].getD k 0) (Nat.le_of_ble_eq_true rfl) (Nat.le_of_ble_eq_true rfl) hP hD hS dX1_init_62
