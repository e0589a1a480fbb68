section CTOR
variable {l : Launch} {D : va_G} {cI cII cLd cOc : ClassId} {b : Nat} {A : Nat → Prop}
theorem c_X1_init (hA : ∀ q, b ≤ q → A q) {t n : Nat} {g : Nat → va_E} : fg_M l D cI cII cLd cOc b A yX1_init cX1_init 1 1 0 0 [.ref (b + t)] n g n g := by
  refine fg_entry (by decide) rfl (Nat.le_of_ble_eq_true rfl) hA ?_
  intro p e R s m args below meth c C hr hk0 hF hLo hCe hSl
  show fg_V p l e R s m args below meth c D b A _ 1 0 [(0, .ref (b + t))] [] (n) (g) 0 0
  refine fg_aload_n C dX1_init_0 rfl 0 rfl 1 rfl ?_
  refine fg_obj C OB_X1 (by omega) (by omega) dX1_init_1 4 rfl ?_
  exact fg_vret C hr hk0 dX1_init_4
theorem c_X3_init (hA : ∀ q, b ≤ q → A q) {t n : Nat} {G : Nat → va_E} (ht : t < n) (h0 : G t = .inr (3, [.ref (b + n), .ref (b + (n + 1)), .int 0])) (h1 : G n = shI cI 200 (fun _ => 0)) (h2 : G (n + 1) = shI cI 200 (fun _ => 0)) : fg_M l D cI cII cLd cOc b A yX3_init cX3_init 1 1 2 400 [.ref (b + t)] n (va_up G t (.inr (3, [.null, .null, .int 0]))) (n + 2) G := by
  refine fg_entry (by decide) rfl (Nat.le_of_ble_eq_true rfl) hA ?_
  intro p e R s m args below meth c C hr hk0 hF hLo hCe hSl
  show fg_V p l e R s m args below meth c D b A _ 1 0 [(0, .ref (b + t))] [] (n) (va_up G t (.inr (3, [.null, .null, .int 0]))) 0 0
  refine fg_aload_n C dX3_init_0 rfl 0 rfl 1 rfl ?_
  refine fg_obj C OB_X3 (by omega) (by omega) dX3_init_1 4 rfl ?_
  refine fg_aload_n C dX3_init_4 rfl 0 rfl 5 rfl ?_
  refine fg_sipush (x := 200) C dX3_init_5 (by decide) 8 rfl ?_
  refine fg_newa C AC_int (N := 200) (by decide) (by decide) (by decide) ((va_up_ne _ _ (by omega)).trans h1) (by omega) (by omega) dX3_init_8 10 rfl ?_
  show fg_V p l e R s m args below meth c D b A _ 1 10 [(0, .ref (b + t))] [.ref (b + n), .ref (b + t)] (n + 1) (va_up G t (.inr (3, [.null, .null, .int 0]))) 1 200
  refine fg_put (G := G) (t := t) (ty := .array .int) C (by omega) rfl inG_X3 0 (by decide) F_X3_9 tyX3 tyX3_ok nmX3 rfl rfl (by decide +kernel) rfl rfl (Nat.le_of_ble_eq_true rfl) dX3_init_10 13 rfl [.ref (b + n), .null, .int 0] rfl ?_
  show fg_V p l e R s m args below meth c D b A _ 1 13 [(0, .ref (b + t))] [] (n + 1) (va_up G t (.inr (3, [.ref (b + n), .null, .int 0]))) 1 200
  refine fg_aload_n C dX3_init_13 rfl 0 rfl 14 rfl ?_
  refine fg_sipush (x := 200) C dX3_init_14 (by decide) 17 rfl ?_
  refine fg_newa C AC_int (N := 200) (by decide) (by decide) (by decide) ((va_up_ne _ _ (by omega)).trans h2) (by omega) (by omega) dX3_init_17 19 rfl ?_
  show fg_V p l e R s m args below meth c D b A _ 1 19 [(0, .ref (b + t))] [.ref (b + (n + 1)), .ref (b + t)] (n + 2) (va_up G t (.inr (3, [.ref (b + n), .null, .int 0]))) 2 400
  refine fg_put (G := G) (t := t) (ty := .array .int) C (by omega) rfl inG_X3 1 (by decide) F_X3_15 tyX3 tyX3_ok nmX3 rfl rfl (by decide +kernel) rfl rfl (Nat.le_of_ble_eq_true rfl) dX3_init_19 22 rfl [.ref (b + n), .ref (b + (n + 1)), .int 0] rfl ?_
  show fg_V p l e R s m args below meth c D b A _ 1 22 [(0, .ref (b + t))] [] (n + 2) (va_up G t (.inr (3, [.ref (b + n), .ref (b + (n + 1)), .int 0]))) 2 400
  rw [va_up_id h0]
  exact fg_vret C hr hk0 dX3_init_22
theorem c_X2_init (hA : ∀ q, b ≤ q → A q) {G : Nat → va_E} (hG : ∀ u, 1 ≤ u → u < 62 → G u = shC cI cII cLd cOc b u (fun _ => 0)) : fg_M l D cI cII cLd cOc b A yX2_init cX2_init 1 1 60 596 [.ref (b + 1)] 2 (va_up G 1 (.inr (2, [.int 0, .null, .null, .null, .null, .null, .null, .null, .int 0, .null, .null, .null, .null, .null]))) 62 G := by
  refine fg_entry (by decide) rfl (Nat.le_of_ble_eq_true rfl) hA ?_
  intro p e R s m args below meth c C hr hk0 hF hLo hCe hSl
  show fg_V p l e R s m args below meth c D b A _ 1 0 [(0, .ref (b + 1))] [] (2) (va_up G 1 (.inr (2, [.int 0, .null, .null, .null, .null, .null, .null, .null, .int 0, .null, .null, .null, .null, .null]))) 0 0
  refine fg_aload_n C dX2_init_0 rfl 0 rfl 1 rfl ?_
  refine fg_obj C OB_X2 (by omega) (by omega) dX2_init_1 4 rfl ?_
  refine fg_aload_n C dX2_init_4 rfl 0 rfl 5 rfl ?_
  refine fg_bipush (x := 12) C dX2_init_5 (by decide) 7 rfl ?_
  refine fg_newa C AC_int (N := 12) (by decide) (by decide) (by decide) ((va_up_ne _ _ (by decide)).trans (hG 2 (by decide) (by decide))) (by omega) (by omega) dX2_init_7 9 rfl ?_
  show fg_V p l e R s m args below meth c D b A _ 1 9 [(0, .ref (b + 1))] [.ref (b + 2), .ref (b + 1)] (3) (va_up G 1 (.inr (2, [.int 0, .null, .null, .null, .null, .null, .null, .null, .int 0, .null, .null, .null, .null, .null]))) 1 12
  refine fg_put (G := G) (t := 1) (ty := .array .int) C (by decide) rfl inG_X2 1 (by decide) F_X2_9 tyX2 tyX2_ok nmX2 rfl rfl (by decide +kernel) rfl rfl (Nat.le_of_ble_eq_true rfl) dX2_init_9 12 rfl [.int 0, .ref (b + 2), .null, .null, .null, .null, .null, .null, .int 0, .null, .null, .null, .null, .null] rfl ?_
  show fg_V p l e R s m args below meth c D b A _ 1 12 [(0, .ref (b + 1))] [] (3) (va_up G 1 (.inr (2, [.int 0, .ref (b + 2), .null, .null, .null, .null, .null, .null, .int 0, .null, .null, .null, .null, .null]))) 1 12
  refine fg_aload_n C dX2_init_12 rfl 0 rfl 13 rfl ?_
  refine fg_bipush (x := 12) C dX2_init_13 (by decide) 15 rfl ?_
  refine fg_bipush (x := 8) C dX2_init_15 (by decide) 17 rfl ?_
  refine fg_mna C CL_X2_15 (N := 12) (M := 8) (by decide) (by decide) (by decide) (by decide) (by decide) (by decide) ((va_up_ne _ _ (by decide)).trans (hG 3 (by decide) (by decide))) (fun i hi => (va_up_ne _ _ (by omega)).trans ((hG _ (by omega) (by omega)).trans (shC_r4 hi _))) (by omega) (by omega) dX2_init_17 21 rfl ?_
  show fg_V p l e R s m args below meth c D b A _ 1 21 [(0, .ref (b + 1))] [.ref (b + 3), .ref (b + 1)] (16) (va_up G 1 (.inr (2, [.int 0, .ref (b + 2), .null, .null, .null, .null, .null, .null, .int 0, .null, .null, .null, .null, .null]))) 14 120
  refine fg_put (G := G) (t := 1) (ty := .array (.array .int)) C (by decide) rfl inG_X2 2 (by decide) F_X2_17 tyX2 tyX2_ok nmX2 rfl rfl (by decide +kernel) rfl rfl (Nat.le_of_ble_eq_true rfl) dX2_init_21 24 rfl [.int 0, .ref (b + 2), .ref (b + 3), .null, .null, .null, .null, .null, .int 0, .null, .null, .null, .null, .null] rfl ?_
  show fg_V p l e R s m args below meth c D b A _ 1 24 [(0, .ref (b + 1))] [] (16) (va_up G 1 (.inr (2, [.int 0, .ref (b + 2), .ref (b + 3), .null, .null, .null, .null, .null, .int 0, .null, .null, .null, .null, .null]))) 14 120
  refine fg_aload_n C dX2_init_24 rfl 0 rfl 25 rfl ?_
  refine fg_bipush (x := 12) C dX2_init_25 (by decide) 27 rfl ?_
  refine fg_newa C AC_int (N := 12) (by decide) (by decide) (by decide) ((va_up_ne _ _ (by decide)).trans (hG 16 (by decide) (by decide))) (by omega) (by omega) dX2_init_27 29 rfl ?_
  show fg_V p l e R s m args below meth c D b A _ 1 29 [(0, .ref (b + 1))] [.ref (b + 16), .ref (b + 1)] (17) (va_up G 1 (.inr (2, [.int 0, .ref (b + 2), .ref (b + 3), .null, .null, .null, .null, .null, .int 0, .null, .null, .null, .null, .null]))) 15 132
  refine fg_put (G := G) (t := 1) (ty := .array .int) C (by decide) rfl inG_X2 3 (by decide) F_X2_20 tyX2 tyX2_ok nmX2 rfl rfl (by decide +kernel) rfl rfl (Nat.le_of_ble_eq_true rfl) dX2_init_29 32 rfl [.int 0, .ref (b + 2), .ref (b + 3), .ref (b + 16), .null, .null, .null, .null, .int 0, .null, .null, .null, .null, .null] rfl ?_
  show fg_V p l e R s m args below meth c D b A _ 1 32 [(0, .ref (b + 1))] [] (17) (va_up G 1 (.inr (2, [.int 0, .ref (b + 2), .ref (b + 3), .ref (b + 16), .null, .null, .null, .null, .int 0, .null, .null, .null, .null, .null]))) 15 132
  refine fg_aload_n C dX2_init_32 rfl 0 rfl 33 rfl ?_
  refine fg_bipush (x := 12) C dX2_init_33 (by decide) 35 rfl ?_
  refine fg_bipush (x := 6) C dX2_init_35 (by decide) 37 rfl ?_
  refine fg_mna C CL_X2_15 (N := 12) (M := 6) (by decide) (by decide) (by decide) (by decide) (by decide) (by decide) ((va_up_ne _ _ (by decide)).trans (hG 17 (by decide) (by decide))) (fun i hi => (va_up_ne _ _ (by omega)).trans ((hG _ (by omega) (by omega)).trans (shC_r18 hi _))) (by omega) (by omega) dX2_init_37 41 rfl ?_
  show fg_V p l e R s m args below meth c D b A _ 1 41 [(0, .ref (b + 1))] [.ref (b + 17), .ref (b + 1)] (30) (va_up G 1 (.inr (2, [.int 0, .ref (b + 2), .ref (b + 3), .ref (b + 16), .null, .null, .null, .null, .int 0, .null, .null, .null, .null, .null]))) 28 216
  refine fg_put (G := G) (t := 1) (ty := .array (.array .int)) C (by decide) rfl inG_X2 4 (by decide) F_X2_23 tyX2 tyX2_ok nmX2 rfl rfl (by decide +kernel) rfl rfl (Nat.le_of_ble_eq_true rfl) dX2_init_41 44 rfl [.int 0, .ref (b + 2), .ref (b + 3), .ref (b + 16), .ref (b + 17), .null, .null, .null, .int 0, .null, .null, .null, .null, .null] rfl ?_
  show fg_V p l e R s m args below meth c D b A _ 1 44 [(0, .ref (b + 1))] [] (30) (va_up G 1 (.inr (2, [.int 0, .ref (b + 2), .ref (b + 3), .ref (b + 16), .ref (b + 17), .null, .null, .null, .int 0, .null, .null, .null, .null, .null]))) 28 216
  refine fg_aload_n C dX2_init_44 rfl 0 rfl 45 rfl ?_
  refine fg_bipush (x := 12) C dX2_init_45 (by decide) 47 rfl ?_
  refine fg_newa C AC_int (N := 12) (by decide) (by decide) (by decide) ((va_up_ne _ _ (by decide)).trans (hG 30 (by decide) (by decide))) (by omega) (by omega) dX2_init_47 49 rfl ?_
  show fg_V p l e R s m args below meth c D b A _ 1 49 [(0, .ref (b + 1))] [.ref (b + 30), .ref (b + 1)] (31) (va_up G 1 (.inr (2, [.int 0, .ref (b + 2), .ref (b + 3), .ref (b + 16), .ref (b + 17), .null, .null, .null, .int 0, .null, .null, .null, .null, .null]))) 29 228
  refine fg_put (G := G) (t := 1) (ty := .array .int) C (by decide) rfl inG_X2 5 (by decide) F_X2_26 tyX2 tyX2_ok nmX2 rfl rfl (by decide +kernel) rfl rfl (Nat.le_of_ble_eq_true rfl) dX2_init_49 52 rfl [.int 0, .ref (b + 2), .ref (b + 3), .ref (b + 16), .ref (b + 17), .ref (b + 30), .null, .null, .int 0, .null, .null, .null, .null, .null] rfl ?_
  show fg_V p l e R s m args below meth c D b A _ 1 52 [(0, .ref (b + 1))] [] (31) (va_up G 1 (.inr (2, [.int 0, .ref (b + 2), .ref (b + 3), .ref (b + 16), .ref (b + 17), .ref (b + 30), .null, .null, .int 0, .null, .null, .null, .null, .null]))) 29 228
  refine fg_aload_n C dX2_init_52 rfl 0 rfl 53 rfl ?_
  refine fg_bipush (x := 12) C dX2_init_53 (by decide) 55 rfl ?_
  refine fg_bipush (x := 6) C dX2_init_55 (by decide) 57 rfl ?_
  refine fg_mna C CL_X2_15 (N := 12) (M := 6) (by decide) (by decide) (by decide) (by decide) (by decide) (by decide) ((va_up_ne _ _ (by decide)).trans (hG 31 (by decide) (by decide))) (fun i hi => (va_up_ne _ _ (by omega)).trans ((hG _ (by omega) (by omega)).trans (shC_r32 hi _))) (by omega) (by omega) dX2_init_57 61 rfl ?_
  show fg_V p l e R s m args below meth c D b A _ 1 61 [(0, .ref (b + 1))] [.ref (b + 31), .ref (b + 1)] (44) (va_up G 1 (.inr (2, [.int 0, .ref (b + 2), .ref (b + 3), .ref (b + 16), .ref (b + 17), .ref (b + 30), .null, .null, .int 0, .null, .null, .null, .null, .null]))) 42 312
  refine fg_put (G := G) (t := 1) (ty := .array (.array .int)) C (by decide) rfl inG_X2 6 (by decide) F_X2_29 tyX2 tyX2_ok nmX2 rfl rfl (by decide +kernel) rfl rfl (Nat.le_of_ble_eq_true rfl) dX2_init_61 64 rfl [.int 0, .ref (b + 2), .ref (b + 3), .ref (b + 16), .ref (b + 17), .ref (b + 30), .ref (b + 31), .null, .int 0, .null, .null, .null, .null, .null] rfl ?_
  show fg_V p l e R s m args below meth c D b A _ 1 64 [(0, .ref (b + 1))] [] (44) (va_up G 1 (.inr (2, [.int 0, .ref (b + 2), .ref (b + 3), .ref (b + 16), .ref (b + 17), .ref (b + 30), .ref (b + 31), .null, .int 0, .null, .null, .null, .null, .null]))) 42 312
  refine fg_aload_n C dX2_init_64 rfl 0 rfl 65 rfl ?_
  refine fg_bipush (x := 12) C dX2_init_65 (by decide) 67 rfl ?_
  refine fg_bipush (x := 6) C dX2_init_67 (by decide) 69 rfl ?_
  refine fg_mna C CL_X2_15 (N := 12) (M := 6) (by decide) (by decide) (by decide) (by decide) (by decide) (by decide) ((va_up_ne _ _ (by decide)).trans (hG 44 (by decide) (by decide))) (fun i hi => (va_up_ne _ _ (by omega)).trans ((hG _ (by omega) (by omega)).trans (shC_r45 hi _))) (by omega) (by omega) dX2_init_69 73 rfl ?_
  show fg_V p l e R s m args below meth c D b A _ 1 73 [(0, .ref (b + 1))] [.ref (b + 44), .ref (b + 1)] (57) (va_up G 1 (.inr (2, [.int 0, .ref (b + 2), .ref (b + 3), .ref (b + 16), .ref (b + 17), .ref (b + 30), .ref (b + 31), .null, .int 0, .null, .null, .null, .null, .null]))) 55 396
  refine fg_put (G := G) (t := 1) (ty := .array (.array .int)) C (by decide) rfl inG_X2 7 (by decide) F_X2_32 tyX2 tyX2_ok nmX2 rfl rfl (by decide +kernel) rfl rfl (Nat.le_of_ble_eq_true rfl) dX2_init_73 76 rfl [.int 0, .ref (b + 2), .ref (b + 3), .ref (b + 16), .ref (b + 17), .ref (b + 30), .ref (b + 31), .ref (b + 44), .int 0, .null, .null, .null, .null, .null] rfl ?_
  show fg_V p l e R s m args below meth c D b A _ 1 76 [(0, .ref (b + 1))] [] (57) (va_up G 1 (.inr (2, [.int 0, .ref (b + 2), .ref (b + 3), .ref (b + 16), .ref (b + 17), .ref (b + 30), .ref (b + 31), .ref (b + 44), .int 0, .null, .null, .null, .null, .null]))) 55 396
  refine fg_aload_n C dX2_init_76 rfl 0 rfl 77 rfl ?_
  refine fg_bipush (x := 40) C dX2_init_77 (by decide) 79 rfl ?_
  refine fg_newa C AC_int (N := 40) (by decide) (by decide) (by decide) ((va_up_ne _ _ (by decide)).trans (hG 57 (by decide) (by decide))) (by omega) (by omega) dX2_init_79 81 rfl ?_
  show fg_V p l e R s m args below meth c D b A _ 1 81 [(0, .ref (b + 1))] [.ref (b + 57), .ref (b + 1)] (58) (va_up G 1 (.inr (2, [.int 0, .ref (b + 2), .ref (b + 3), .ref (b + 16), .ref (b + 17), .ref (b + 30), .ref (b + 31), .ref (b + 44), .int 0, .null, .null, .null, .null, .null]))) 56 436
  refine fg_put (G := G) (t := 1) (ty := .array .int) C (by decide) rfl inG_X2 9 (by decide) F_X2_35 tyX2 tyX2_ok nmX2 rfl rfl (by decide +kernel) rfl rfl (Nat.le_of_ble_eq_true rfl) dX2_init_81 84 rfl [.int 0, .ref (b + 2), .ref (b + 3), .ref (b + 16), .ref (b + 17), .ref (b + 30), .ref (b + 31), .ref (b + 44), .int 0, .ref (b + 57), .null, .null, .null, .null] rfl ?_
  show fg_V p l e R s m args below meth c D b A _ 1 84 [(0, .ref (b + 1))] [] (58) (va_up G 1 (.inr (2, [.int 0, .ref (b + 2), .ref (b + 3), .ref (b + 16), .ref (b + 17), .ref (b + 30), .ref (b + 31), .ref (b + 44), .int 0, .ref (b + 57), .null, .null, .null, .null]))) 56 436
  refine fg_aload_n C dX2_init_84 rfl 0 rfl 85 rfl ?_
  refine fg_bipush (x := 40) C dX2_init_85 (by decide) 87 rfl ?_
  refine fg_newa C AC_int (N := 40) (by decide) (by decide) (by decide) ((va_up_ne _ _ (by decide)).trans (hG 58 (by decide) (by decide))) (by omega) (by omega) dX2_init_87 89 rfl ?_
  show fg_V p l e R s m args below meth c D b A _ 1 89 [(0, .ref (b + 1))] [.ref (b + 58), .ref (b + 1)] (59) (va_up G 1 (.inr (2, [.int 0, .ref (b + 2), .ref (b + 3), .ref (b + 16), .ref (b + 17), .ref (b + 30), .ref (b + 31), .ref (b + 44), .int 0, .ref (b + 57), .null, .null, .null, .null]))) 57 476
  refine fg_put (G := G) (t := 1) (ty := .array .int) C (by decide) rfl inG_X2 10 (by decide) F_X2_38 tyX2 tyX2_ok nmX2 rfl rfl (by decide +kernel) rfl rfl (Nat.le_of_ble_eq_true rfl) dX2_init_89 92 rfl [.int 0, .ref (b + 2), .ref (b + 3), .ref (b + 16), .ref (b + 17), .ref (b + 30), .ref (b + 31), .ref (b + 44), .int 0, .ref (b + 57), .ref (b + 58), .null, .null, .null] rfl ?_
  show fg_V p l e R s m args below meth c D b A _ 1 92 [(0, .ref (b + 1))] [] (59) (va_up G 1 (.inr (2, [.int 0, .ref (b + 2), .ref (b + 3), .ref (b + 16), .ref (b + 17), .ref (b + 30), .ref (b + 31), .ref (b + 44), .int 0, .ref (b + 57), .ref (b + 58), .null, .null, .null]))) 57 476
  refine fg_aload_n C dX2_init_92 rfl 0 rfl 93 rfl ?_
  refine fg_bipush (x := 40) C dX2_init_93 (by decide) 95 rfl ?_
  refine fg_newa C AC_int (N := 40) (by decide) (by decide) (by decide) ((va_up_ne _ _ (by decide)).trans (hG 59 (by decide) (by decide))) (by omega) (by omega) dX2_init_95 97 rfl ?_
  show fg_V p l e R s m args below meth c D b A _ 1 97 [(0, .ref (b + 1))] [.ref (b + 59), .ref (b + 1)] (60) (va_up G 1 (.inr (2, [.int 0, .ref (b + 2), .ref (b + 3), .ref (b + 16), .ref (b + 17), .ref (b + 30), .ref (b + 31), .ref (b + 44), .int 0, .ref (b + 57), .ref (b + 58), .null, .null, .null]))) 58 516
  refine fg_put (G := G) (t := 1) (ty := .array .int) C (by decide) rfl inG_X2 11 (by decide) F_X2_41 tyX2 tyX2_ok nmX2 rfl rfl (by decide +kernel) rfl rfl (Nat.le_of_ble_eq_true rfl) dX2_init_97 100 rfl [.int 0, .ref (b + 2), .ref (b + 3), .ref (b + 16), .ref (b + 17), .ref (b + 30), .ref (b + 31), .ref (b + 44), .int 0, .ref (b + 57), .ref (b + 58), .ref (b + 59), .null, .null] rfl ?_
  show fg_V p l e R s m args below meth c D b A _ 1 100 [(0, .ref (b + 1))] [] (60) (va_up G 1 (.inr (2, [.int 0, .ref (b + 2), .ref (b + 3), .ref (b + 16), .ref (b + 17), .ref (b + 30), .ref (b + 31), .ref (b + 44), .int 0, .ref (b + 57), .ref (b + 58), .ref (b + 59), .null, .null]))) 58 516
  refine fg_aload_n C dX2_init_100 rfl 0 rfl 101 rfl ?_
  refine fg_bipush (x := 40) C dX2_init_101 (by decide) 103 rfl ?_
  refine fg_newa C AC_int (N := 40) (by decide) (by decide) (by decide) ((va_up_ne _ _ (by decide)).trans (hG 60 (by decide) (by decide))) (by omega) (by omega) dX2_init_103 105 rfl ?_
  show fg_V p l e R s m args below meth c D b A _ 1 105 [(0, .ref (b + 1))] [.ref (b + 60), .ref (b + 1)] (61) (va_up G 1 (.inr (2, [.int 0, .ref (b + 2), .ref (b + 3), .ref (b + 16), .ref (b + 17), .ref (b + 30), .ref (b + 31), .ref (b + 44), .int 0, .ref (b + 57), .ref (b + 58), .ref (b + 59), .null, .null]))) 59 556
  refine fg_put (G := G) (t := 1) (ty := .array .int) C (by decide) rfl inG_X2 12 (by decide) F_X2_44 tyX2 tyX2_ok nmX2 rfl rfl (by decide +kernel) rfl rfl (Nat.le_of_ble_eq_true rfl) dX2_init_105 108 rfl [.int 0, .ref (b + 2), .ref (b + 3), .ref (b + 16), .ref (b + 17), .ref (b + 30), .ref (b + 31), .ref (b + 44), .int 0, .ref (b + 57), .ref (b + 58), .ref (b + 59), .ref (b + 60), .null] rfl ?_
  show fg_V p l e R s m args below meth c D b A _ 1 108 [(0, .ref (b + 1))] [] (61) (va_up G 1 (.inr (2, [.int 0, .ref (b + 2), .ref (b + 3), .ref (b + 16), .ref (b + 17), .ref (b + 30), .ref (b + 31), .ref (b + 44), .int 0, .ref (b + 57), .ref (b + 58), .ref (b + 59), .ref (b + 60), .null]))) 59 556
  refine fg_aload_n C dX2_init_108 rfl 0 rfl 109 rfl ?_
  refine fg_bipush (x := 40) C dX2_init_109 (by decide) 111 rfl ?_
  refine fg_newa C AC_int (N := 40) (by decide) (by decide) (by decide) ((va_up_ne _ _ (by decide)).trans (hG 61 (by decide) (by decide))) (by omega) (by omega) dX2_init_111 113 rfl ?_
  show fg_V p l e R s m args below meth c D b A _ 1 113 [(0, .ref (b + 1))] [.ref (b + 61), .ref (b + 1)] (62) (va_up G 1 (.inr (2, [.int 0, .ref (b + 2), .ref (b + 3), .ref (b + 16), .ref (b + 17), .ref (b + 30), .ref (b + 31), .ref (b + 44), .int 0, .ref (b + 57), .ref (b + 58), .ref (b + 59), .ref (b + 60), .null]))) 60 596
  refine fg_put (G := G) (t := 1) (ty := .array .int) C (by decide) rfl inG_X2 13 (by decide) F_X2_47 tyX2 tyX2_ok nmX2 rfl rfl (by decide +kernel) rfl rfl (Nat.le_of_ble_eq_true rfl) dX2_init_113 116 rfl [.int 0, .ref (b + 2), .ref (b + 3), .ref (b + 16), .ref (b + 17), .ref (b + 30), .ref (b + 31), .ref (b + 44), .int 0, .ref (b + 57), .ref (b + 58), .ref (b + 59), .ref (b + 60), .ref (b + 61)] rfl ?_
  show fg_V p l e R s m args below meth c D b A _ 1 116 [(0, .ref (b + 1))] [] (62) (va_up G 1 (.inr (2, [.int 0, .ref (b + 2), .ref (b + 3), .ref (b + 16), .ref (b + 17), .ref (b + 30), .ref (b + 31), .ref (b + 44), .int 0, .ref (b + 57), .ref (b + 58), .ref (b + 59), .ref (b + 60), .ref (b + 61)]))) 60 596
  rw [va_up_id (show G 1 = .inr (2, [.int 0, .ref (b + 2), .ref (b + 3), .ref (b + 16), .ref (b + 17), .ref (b + 30), .ref (b + 31), .ref (b + 44), .int 0, .ref (b + 57), .ref (b + 58), .ref (b + 59), .ref (b + 60), .ref (b + 61)]) from hG 1 (by decide) (by decide))]
  exact fg_vret C hr hk0 dX2_init_116
def arO (cOc : ClassId) (b N i : Nat) : va_E := .inl (cOc, 40, .inr (.inr (.inr (.inr (fun j => if j < i then some (b + (N + 17 + j)) else none)))))
theorem arO_0 (cOc : ClassId) (b N : Nat) : arO cOc b N 0 = .inl (cOc, 40, .inr (.inr (.inr (.inr (fun _ => none))))) := by
  unfold arO
  congr 7
theorem arO_s (b N i : Nat) : va_up (fun j => if j < i then some (b + (N + 17 + j)) else none) i (some (b + (N + 17 + i))) = fun j => if j < i + 1 then some (b + (N + 17 + j)) else none := by
  funext j
  unfold va_up
  by_cases h : j = i
  · subst h; rw [if_pos rfl, if_pos (by omega)]
  · rw [if_neg h]
    dsimp only
    by_cases h2 : j < i
    · rw [if_pos h2, if_pos (by omega)]
    · rw [if_neg h2, if_neg (by omega)]
theorem c_X0_init (hA : ∀ q, b ≤ q → A q) {T N E : Nat} {G : Nat → va_E} (hT : T < N) (hG0 : G T = shL b E N (fun _ => 0)) (hG : ∀ r, r < 57 → G (N + r) = shB cI cII cOc b N r (fun _ => 0)) : fg_M l D cI cII cLd cOc b A yX0_init cX0_init 4 2 57 405 [.ref (b + T), .ref (b + 1), .ref (b + E)] N (va_up G T (.inr (0, [.null, .null, .null, .null, .null, .null, .null, .int 0]))) (N + 57) G := by
  refine fg_entry (by decide) rfl (Nat.le_of_ble_eq_true rfl) hA ?_
  intro p e R s m args below meth c C hr hk0 hF hLo hCe hSl
  have r0 : ∀ r x, r < 57 → r ≠ 15 → va_up (va_up G (N + 15) (arO cOc b N 0)) T x (N + r) = shB cI cII cOc b N r (fun _ => 0) := fun r x h h2 => by
    rw [va_up_ne _ _ (by omega), va_up_ne _ _ (by omega)]
    exact hG r h
  have r1 : ∀ i x, i < 12 → va_up (va_up G (N + 15) (arO cOc b N 0)) T x (N + 1 + 1 + i) = shI cI 8 (fun _ => 0) := fun i x h => by
    rw [show N + 1 + 1 + i = N + (2 + i) by omega, r0 (2 + i) x (by omega) (by omega)]
    unfold shB
    rw [if_neg (by omega), if_neg (by omega), if_pos (by omega)]
  refine fg_eq (g2 := va_up (va_up G (N + 15) (arO cOc b N 0)) T (.inr (0, [.null, .null, .null, .null, .null, .null, .null, .int 0]))) (fun u hu => ?_) ?_
  · by_cases e : u = T
    · subst e; rw [va_up_self, va_up_self]
    · rw [va_up_ne _ _ e, va_up_ne _ _ e, va_up_ne _ _ (by omega)]
  show fg_V p l e R s m args below meth c D b A _ 4 0 [(0, .ref (b + T)), (1, .ref (b + 1)), (2, .ref (b + E))] [] (N) (va_up (va_up G (N + 15) (arO cOc b N 0)) T (.inr (0, [.null, .null, .null, .null, .null, .null, .null, .int 0]))) 0 0
  refine fg_aload_n C dX0_init_0 rfl 0 rfl 1 rfl ?_
  refine fg_obj C OB_X0 (by omega) (by omega) dX0_init_1 4 rfl ?_
  refine fg_aload_n C dX0_init_4 rfl 0 rfl 5 rfl ?_
  refine fg_bipush (x := 12) C dX0_init_5 (by decide) 7 rfl ?_
  refine fg_newa C AC_int (N := 12) (by decide) (by decide) (by decide) (r0 0 _ (by decide) (by decide)) (by omega) (by omega) dX0_init_7 9 rfl ?_
  show fg_V p l e R s m args below meth c D b A _ 4 9 [(0, .ref (b + T)), (1, .ref (b + 1)), (2, .ref (b + E))] [.ref (b + N), .ref (b + T)] (N + 1) (va_up (va_up G (N + 15) (arO cOc b N 0)) T (.inr (0, [.null, .null, .null, .null, .null, .null, .null, .int 0]))) 1 12
  refine fg_put (G := (va_up G (N + 15) (arO cOc b N 0))) (t := T) (ty := .array .int) C (by omega) rfl inG_X0 2 (by decide) F_X0_9 tyX0 tyX0_ok nmX0 rfl rfl (by decide +kernel) rfl rfl (Nat.le_of_ble_eq_true rfl) dX0_init_9 12 rfl [.null, .null, .ref (b + N), .null, .null, .null, .null, .int 0] rfl ?_
  show fg_V p l e R s m args below meth c D b A _ 4 12 [(0, .ref (b + T)), (1, .ref (b + 1)), (2, .ref (b + E))] [] (N + 1) (va_up (va_up G (N + 15) (arO cOc b N 0)) T (.inr (0, [.null, .null, .ref (b + N), .null, .null, .null, .null, .int 0]))) 1 12
  refine fg_aload_n C dX0_init_12 rfl 0 rfl 13 rfl ?_
  refine fg_bipush (x := 12) C dX0_init_13 (by decide) 15 rfl ?_
  refine fg_bipush (x := 8) C dX0_init_15 (by decide) 17 rfl ?_
  refine fg_mna C CL_X0_15 (N := 12) (M := 8) (by decide) (by decide) (by decide) (by decide) (by decide) (by decide) (r0 1 _ (by decide) (by decide)) (fun i hi => r1 i _ hi) (by omega) (by omega) dX0_init_17 21 rfl ?_
  show fg_V p l e R s m args below meth c D b A _ 4 21 [(0, .ref (b + T)), (1, .ref (b + 1)), (2, .ref (b + E))] [.ref (b + (N + 1)), .ref (b + T)] (N + 14) (va_up (va_up G (N + 15) (arO cOc b N 0)) T (.inr (0, [.null, .null, .ref (b + N), .null, .null, .null, .null, .int 0]))) 14 120
  refine fg_put (G := (va_up G (N + 15) (arO cOc b N 0))) (t := T) (ty := .array (.array .int)) C (by omega) rfl inG_X0 3 (by decide) F_X0_17 tyX0 tyX0_ok nmX0 rfl rfl (by decide +kernel) rfl rfl (Nat.le_of_ble_eq_true rfl) dX0_init_21 24 rfl [.null, .null, .ref (b + N), .ref (b + (N + 1)), .null, .null, .null, .int 0] rfl ?_
  show fg_V p l e R s m args below meth c D b A _ 4 24 [(0, .ref (b + T)), (1, .ref (b + 1)), (2, .ref (b + E))] [] (N + 14) (va_up (va_up G (N + 15) (arO cOc b N 0)) T (.inr (0, [.null, .null, .ref (b + N), .ref (b + (N + 1)), .null, .null, .null, .int 0]))) 14 120
  refine fg_aload_n C dX0_init_24 rfl 0 rfl 25 rfl ?_
  refine fg_bipush (x := 40) C dX0_init_25 (by decide) 27 rfl ?_
  refine fg_newa C AC_int (N := 40) (by decide) (by decide) (by decide) (r0 14 _ (by decide) (by decide)) (by omega) (by omega) dX0_init_27 29 rfl ?_
  show fg_V p l e R s m args below meth c D b A _ 4 29 [(0, .ref (b + T)), (1, .ref (b + 1)), (2, .ref (b + E))] [.ref (b + (N + 14)), .ref (b + T)] (N + 15) (va_up (va_up G (N + 15) (arO cOc b N 0)) T (.inr (0, [.null, .null, .ref (b + N), .ref (b + (N + 1)), .null, .null, .null, .int 0]))) 15 160
  refine fg_put (G := (va_up G (N + 15) (arO cOc b N 0))) (t := T) (ty := .array .int) C (by omega) rfl inG_X0 4 (by decide) F_X0_20 tyX0 tyX0_ok nmX0 rfl rfl (by decide +kernel) rfl rfl (Nat.le_of_ble_eq_true rfl) dX0_init_29 32 rfl [.null, .null, .ref (b + N), .ref (b + (N + 1)), .ref (b + (N + 14)), .null, .null, .int 0] rfl ?_
  show fg_V p l e R s m args below meth c D b A _ 4 32 [(0, .ref (b + T)), (1, .ref (b + 1)), (2, .ref (b + E))] [] (N + 15) (va_up (va_up G (N + 15) (arO cOc b N 0)) T (.inr (0, [.null, .null, .ref (b + N), .ref (b + (N + 1)), .ref (b + (N + 14)), .null, .null, .int 0]))) 15 160
  refine fg_aload_n C dX0_init_32 rfl 0 rfl 33 rfl ?_
  refine fg_bipush (x := 40) C dX0_init_33 (by decide) 35 rfl ?_
  refine fg_newq C (t0 := 3) (NW_X0_23).1 C.2.2.2.2.2.1.2.2.2.1 rfl (N := 40) (by decide) (by decide) (by decide) ((va_up_ne _ _ (by omega)).trans ((va_up_self _ _ _).trans (arO_0 cOc b N))) (by omega) (by omega) dX0_init_35 38 rfl ?_
  show fg_V p l e R s m args below meth c D b A _ 4 38 [(0, .ref (b + T)), (1, .ref (b + 1)), (2, .ref (b + E))] [.ref (b + (N + 15)), .ref (b + T)] (N + 16) (va_up (va_up G (N + 15) (arO cOc b N 0)) T (.inr (0, [.null, .null, .ref (b + N), .ref (b + (N + 1)), .ref (b + (N + 14)), .null, .null, .int 0]))) 16 200
  refine fg_put (G := (va_up G (N + 15) (arO cOc b N 0))) (t := T) (ty := .array (.object "ConstantStarts$Outcome")) C (by omega) rfl inG_X0 5 (by decide) F_X0_25 tyX0 tyX0_ok nmX0 rfl rfl (by decide +kernel) rfl rfl (Nat.le_of_ble_eq_true rfl) dX0_init_38 41 rfl [.null, .null, .ref (b + N), .ref (b + (N + 1)), .ref (b + (N + 14)), .ref (b + (N + 15)), .null, .int 0] rfl ?_
  show fg_V p l e R s m args below meth c D b A _ 4 41 [(0, .ref (b + T)), (1, .ref (b + 1)), (2, .ref (b + E))] [] (N + 16) (va_up (va_up G (N + 15) (arO cOc b N 0)) T (.inr (0, [.null, .null, .ref (b + N), .ref (b + (N + 1)), .ref (b + (N + 14)), .ref (b + (N + 15)), .null, .int 0]))) 16 200
  refine fg_aload_n C dX0_init_41 rfl 0 rfl 42 rfl ?_
  refine fg_new C (ci := 1) (fs := [.int 0, .int 0, .int 0, .int 0, .int 0]) rfl inG_X1 tyX1 tyX1_ok NW_X0_23 (fun j hj => by rcases (show j = 0 ∨ j = 1 ∨ j = 2 ∨ j = 3 ∨ j = 4 by omega) with rfl | rfl | rfl | rfl | rfl <;> rfl) (r0 16 _ (by decide) (by decide)) (by omega) (by omega) dX0_init_42 45 rfl ?_
  show fg_V p l e R s m args below meth c D b A _ 4 45 [(0, .ref (b + T)), (1, .ref (b + 1)), (2, .ref (b + E))] [.ref (b + (N + 16)), .ref (b + T)] (N + 17) (va_up (va_up G (N + 15) (arO cOc b N 0)) T (.inr (0, [.null, .null, .ref (b + N), .ref (b + (N + 1)), .ref (b + (N + 14)), .ref (b + (N + 15)), .null, .int 0]))) 17 205
  refine fg_dup C dX0_init_45 rfl 46 rfl ?_
  refine fg_call C (As := []) (t := N + 16) (rest := [.ref (b + (N + 16)), .ref (b + T)]) Y_X1_init rfl IN_X0_29 (c_X1_init hA) (by omega) (by omega) rfl (Nat.le_of_ble_eq_true rfl) (by omega) (by omega) dX0_init_46 49 rfl ?_
  show fg_V p l e R s m args below meth c D b A _ 4 49 [(0, .ref (b + T)), (1, .ref (b + 1)), (2, .ref (b + E))] [.ref (b + (N + 16)), .ref (b + T)] (N + 17) (va_up (va_up G (N + 15) (arO cOc b N 0)) T (.inr (0, [.null, .null, .ref (b + N), .ref (b + (N + 1)), .ref (b + (N + 14)), .ref (b + (N + 15)), .null, .int 0]))) 17 205
  refine fg_put (G := (va_up G (N + 15) (arO cOc b N 0))) (t := T) (ty := .object "ConstantStarts$Outcome") C (by omega) rfl inG_X0 6 (by decide) F_X0_30 tyX0 tyX0_ok nmX0 rfl rfl (by decide +kernel) rfl rfl (Nat.le_of_ble_eq_true rfl) dX0_init_49 52 rfl [.null, .null, .ref (b + N), .ref (b + (N + 1)), .ref (b + (N + 14)), .ref (b + (N + 15)), .ref (b + (N + 16)), .int 0] rfl ?_
  show fg_V p l e R s m args below meth c D b A _ 4 52 [(0, .ref (b + T)), (1, .ref (b + 1)), (2, .ref (b + E))] [] (N + 17) (va_up (va_up G (N + 15) (arO cOc b N 0)) T (.inr (0, [.null, .null, .ref (b + N), .ref (b + (N + 1)), .ref (b + (N + 14)), .ref (b + (N + 15)), .ref (b + (N + 16)), .int 0]))) 17 205
  refine fg_aload_n C dX0_init_52 rfl 0 rfl 53 rfl ?_
  refine fg_aload_n C dX0_init_53 rfl 1 rfl 54 rfl ?_
  refine fg_put (G := (va_up G (N + 15) (arO cOc b N 0))) (t := T) (ty := .object "ConstantStarts$Plan") C (by omega) rfl inG_X0 0 (by decide) F_X0_34 tyX0 tyX0_ok nmX0 rfl rfl (by decide +kernel) rfl rfl (Nat.le_of_ble_eq_true rfl) dX0_init_54 57 rfl [.ref (b + 1), .null, .ref (b + N), .ref (b + (N + 1)), .ref (b + (N + 14)), .ref (b + (N + 15)), .ref (b + (N + 16)), .int 0] rfl ?_
  show fg_V p l e R s m args below meth c D b A _ 4 57 [(0, .ref (b + T)), (1, .ref (b + 1)), (2, .ref (b + E))] [] (N + 17) (va_up (va_up G (N + 15) (arO cOc b N 0)) T (.inr (0, [.ref (b + 1), .null, .ref (b + N), .ref (b + (N + 1)), .ref (b + (N + 14)), .ref (b + (N + 15)), .ref (b + (N + 16)), .int 0]))) 17 205
  refine fg_aload_n C dX0_init_57 rfl 0 rfl 58 rfl ?_
  refine fg_aload_n C dX0_init_58 rfl 2 rfl 59 rfl ?_
  refine fg_put (G := (va_up G (N + 15) (arO cOc b N 0))) (t := T) (ty := .object "ConstantStarts$Trace") C (by omega) rfl inG_X0 1 (by decide) F_X0_38 tyX0 tyX0_ok nmX0 rfl rfl (by decide +kernel) rfl rfl (Nat.le_of_ble_eq_true rfl) dX0_init_59 62 rfl [.ref (b + 1), .ref (b + E), .ref (b + N), .ref (b + (N + 1)), .ref (b + (N + 14)), .ref (b + (N + 15)), .ref (b + (N + 16)), .int 0] rfl ?_
  show fg_V p l e R s m args below meth c D b A _ 4 62 [(0, .ref (b + T)), (1, .ref (b + 1)), (2, .ref (b + E))] [] (N + 17) (va_up (va_up G (N + 15) (arO cOc b N 0)) T (.inr (0, [.ref (b + 1), .ref (b + E), .ref (b + N), .ref (b + (N + 1)), .ref (b + (N + 14)), .ref (b + (N + 15)), .ref (b + (N + 16)), .int 0]))) 17 205
  rw [va_up_id (show (va_up G (N + 15) (arO cOc b N 0)) T = .inr (0, [.ref (b + 1), .ref (b + E), .ref (b + N), .ref (b + (N + 1)), .ref (b + (N + 14)), .ref (b + (N + 15)), .ref (b + (N + 16)), .int 0]) from (va_up_ne _ _ (by omega)).trans hG0)]
  show fg_V p l e R s m args below meth c D b A _ 4 62 [(0, .ref (b + T)), (1, .ref (b + 1)), (2, .ref (b + E))] [] (N + 17) (va_up G (N + 15) (arO cOc b N 0)) 17 205
  refine fg_iconst (x := 0) C dX0_init_62 (by decide) 63 rfl ?_
  refine fg_istore_n C [(3, .int 0), (0, .ref (b + T)), (1, .ref (b + 1)), (2, .ref (b + E))] dX0_init_63 rfl (by decide) rfl 64 rfl ?_
  have lp : ∀ k i, i + k = 40 → fg_V p l e R s m args below meth c D b A (MQ below (fg_Q D b A (N + 57) G) args s 57 405 A) 4 64 [(3, .int (nI i)), (0, .ref (b + T)), (1, .ref (b + 1)), (2, .ref (b + E))] [] (N + 17 + i) (va_up G (N + 15) (arO cOc b N i)) (17 + i) (205 + 5 * i) := by
    intro k
    induction k with
    | zero =>
      intro i hi
      have e : i = 40 := by omega
      subst e
      refine fg_iload_n C dX0_init_64 rfl 0 rfl 65 rfl ?_
      refine fg_bipush (x := 40) C dX0_init_65 (by decide) 67 rfl ?_
      refine fg_icmp_ge C 89 dX0_init_67 (by decide) (fun _ => ?_) 70 rfl (fun q => absurd (by decide) q)
      rw [va_up_id (show G (N + 15) = arO cOc b N 40 from hG 15 (by decide))]
      exact fg_vret C hr hk0 dX0_init_89
    | succ k ih =>
      intro i hi
      have hi40 : i < 40 := by omega
      have hgn : ∀ x, va_up G (N + 15) x (N + 17 + i) = .inr (1, [.int 0, .int 0, .int 0, .int 0, .int 0]) := fun x => by
        rw [va_up_ne _ _ (by omega), show N + 17 + i = N + (17 + i) by omega, hG (17 + i) (by omega)]
        unfold shB
        rw [if_neg (by omega), if_neg (by omega), if_neg (by omega), if_neg (by omega), if_neg (by omega)]
      refine fg_iload_n C dX0_init_64 rfl 0 rfl 65 rfl ?_
      refine fg_bipush (x := 40) C dX0_init_65 (by decide) 67 rfl ?_
      refine fg_icmp_ge C 89 dX0_init_67 (by decide) (fun q => absurd q (nI_ge (b := 40) hi40 (by decide))) 70 rfl (fun _ => ?_)
      refine fg_aload_n C dX0_init_70 rfl 1 rfl 71 rfl ?_
      refine fg_get C (by omega) ((va_up_ne _ _ (by omega)).trans hG0) rfl inG_X0 5 (by decide) F_X0_25 rfl dX0_init_71 74 rfl ?_
      refine fg_iload_n C dX0_init_74 rfl 0 rfl 75 rfl ?_
      refine fg_new C (ci := 1) (fs := [.int 0, .int 0, .int 0, .int 0, .int 0]) rfl inG_X1 tyX1 tyX1_ok NW_X0_23 (fun j hj => by rcases (show j = 0 ∨ j = 1 ∨ j = 2 ∨ j = 3 ∨ j = 4 by omega) with rfl | rfl | rfl | rfl | rfl <;> rfl) (hgn _) (by omega) (by omega) dX0_init_75 78 rfl ?_
      refine fg_dup C dX0_init_78 rfl 79 rfl ?_
      refine fg_call C (As := []) (t := N + 17 + i) (rest := [.ref (b + (N + 17 + i)), .int (nI i), .ref (b + (N + 15))]) Y_X1_init rfl IN_X0_29 (c_X1_init hA) (by omega) (by omega) rfl (Nat.le_of_ble_eq_true rfl) (by omega) (by omega) dX0_init_79 82 rfl ?_
      refine fg_ast (t := N + 15) (t2 := N + 17 + i) (t0 := 3) C (by omega) (by omega) (hgn _) rfl rfl (chk hi40 (by decide)) dX0_init_82 83 rfl ?_
      rw [nI_cl (show i < 1000 by omega), arO_s]
      refine fg_iinc C [(3, .int (nI (i + 1))), (0, .ref (b + T)), (1, .ref (b + 1)), (2, .ref (b + E))] dX0_init_83 0 rfl (nI_1 i) (by decide) rfl 86 rfl ?_
      refine fg_goto C 64 dX0_init_86 (by decide) ?_
      exact ih (i + 1) (by omega)
  exact lp 40 0 (by decide)
end CTOR
