set_option maxHeartbeats 4000000 in
set_option maxRecDepth 100000 in
theorem b0_21 {g : GG} {E : Nat → va_E} (hE : E 21 = .inr (0, [.null, .null, .null, .int 0, .null])) : Ctb g yX0_init cX0_init 2 3 88 154 4562 [.ref (ad g 21)] 22 E 176 (FinB g E 21 176) := by
  refine bt_of (own := RX0) (lv := [some (.ref (ad g 21)), none]) rfl rfl (by decide) (Nat.le_of_ble_eq_true rfl) (by intro u hu; simp only [List.mem_cons, List.not_mem_nil, or_false] at hu; rcases hu with rfl <;> rfl) (lv_ok [.ref (ad g 21)] 1) ?_
  refine bw_aload_n dX0_init_0 rfl ?_
  refine bw_obj dX0_init_1 kI0_3 (Nat.le_of_ble_eq_true rfl) (Nat.le_of_ble_eq_true rfl) ?_
  refine bw_aload_n dX0_init_4 rfl ?_
  refine bw_new (ci := 1) (fs := [.null]) dX0_init_5 inX1 tyX1_ok rfl dfX1 kc0_9 ki1 kn1 (Nat.le_of_ble_eq_true rfl) (Nat.le_of_ble_eq_true rfl) ?_
  refine bw_N (n' := 23) (cu' := 1) (su' := 1) rfl rfl rfl ?_
  refine bw_dup dX0_init_8 rfl ?_
  refine bw_bi (nI 24) dX0_init_9 (by decide) ?_
  refine bw_bi (nI 121) dX0_init_11 (by decide) ?_
  refine bw_max dX0_init_13 km0_11 ⟨Nat.le_of_ble_eq_true rfl, Nat.le_of_ble_eq_true rfl⟩ ⟨Nat.le_of_ble_eq_true rfl, Nat.le_of_ble_eq_true rfl⟩ ?_
  refine bw_eq (show _ = nI 121 by decide) ?_
  refine bw_call (o := 22) (As := [.int (nI 121)]) dX0_init_16 kI0_17 okI1 rfl rfl (Nat.le_of_ble_eq_true rfl) ⟨Nat.le_of_ble_eq_true rfl, Nat.le_of_ble_eq_true rfl⟩ ⟨Nat.le_of_ble_eq_true rfl, Nat.le_of_ble_eq_true rfl⟩ (b1_22 (updE_s _ _ _)) rfl (fun E1 h1 => ?_)
  refine bw_N (n' := 24) (cu' := 2) (su' := 122) rfl rfl rfl ?_
  refine bw_put (ci := 0) (k := 0) (o := 21) (fs := [.null, .null, .null, .int 0, .null]) (v := .ref (ad g 22)) (ty := tyX0 0) dX0_init_19 inX0 tyX0_ok nmX0 rfl (by decide) ((h1.1 21 (by decide)).trans ((updE_n (by decide)).trans hE)) (by decide) rfl rfl rfl rfl rfl (Nat.le_of_ble_eq_true rfl) kf0_20 ?_
  refine bw_aload_n dX0_init_22 rfl ?_
  refine bw_new (ci := 7) (fs := [.null, .null, .int 0]) dX0_init_23 inX7 tyX7_ok rfl dfX7 kc0_26 ki7 kn7 (Nat.le_of_ble_eq_true rfl) (Nat.le_of_ble_eq_true rfl) ?_
  refine bw_N (n' := 25) (cu' := 3) (su' := 125) rfl rfl rfl ?_
  refine bw_dup dX0_init_26 rfl ?_
  refine bw_call (o := 24) (As := []) dX0_init_27 kI0_28 okI7 rfl rfl (Nat.le_of_ble_eq_true rfl) ⟨Nat.le_of_ble_eq_true rfl, Nat.le_of_ble_eq_true rfl⟩ ⟨Nat.le_of_ble_eq_true rfl, Nat.le_of_ble_eq_true rfl⟩ (b7_24 (updE_s _ _ _)) rfl (fun E2 h2 => ?_)
  refine bw_N (n' := 51) (cu' := 29) (su' := 389) rfl rfl rfl ?_
  refine bw_put (ci := 0) (k := 1) (o := 21) (fs := [.ref (ad g 22), .null, .null, .int 0, .null]) (v := .ref (ad g 24)) (ty := tyX0 1) dX0_init_30 inX0 tyX0_ok nmX0 rfl (by decide) ((h2.1 21 (by decide)).trans ((updE_n (by decide)).trans (updE_s _ _ _))) (by decide) rfl rfl rfl rfl rfl (Nat.le_of_ble_eq_true rfl) kf0_29 ?_
  refine bw_aload_n dX0_init_33 rfl ?_
  refine bw_bi (nI 6) dX0_init_34 (by decide) ?_
  refine bw_anew_Table (N := 6) dX0_init_36 kc0_33 rfl (by decide) (Nat.le_of_ble_eq_true rfl) (Nat.le_of_ble_eq_true rfl) ?_
  refine bw_N (n' := 52) (cu' := 30) (su' := 395) rfl rfl rfl ?_
  refine bw_put (ci := 0) (k := 2) (o := 21) (fs := [.ref (ad g 22), .ref (ad g 24), .null, .int 0, .null]) (v := .ref (ad g 51)) (ty := tyX0 2) dX0_init_39 inX0 tyX0_ok nmX0 rfl (by decide) ((updE_n (by decide)).trans (updE_s _ _ _)) (by decide) rfl rfl rfl rfl rfl (Nat.le_of_ble_eq_true rfl) kf0_35 ?_
  refine bw_ic (nI 0) dX0_init_42 (by decide) ?_
  refine bw_istore_n dX0_init_43 (Nat.le_of_ble_eq_true rfl) ?_
  refine bw_iload_n dX0_init_44 rfl ?_
  refine bw_bi (nI 6) dX0_init_45 (by decide) ?_
  refine bw_icmp_geN dX0_init_47 rfl rfl (by decide) (by decide) (fun h => absurd h (by decide)) (fun _ => ?_)
  refine bw_aload_n dX0_init_50 rfl ?_
  refine bw_get (ci := 0) (k := 2) (o := 21) (fs := [.ref (ad g 22), .ref (ad g 24), .ref (ad g 51), .int 0, .null]) (v := .ref (ad g 51)) dX0_init_51 inX0 rfl (by decide) (updE_s _ _ _) (by decide) rfl rfl kf0_35 ?_
  refine bw_iload_n dX0_init_54 rfl ?_
  refine bw_new (ci := 8) (fs := [.null, .int 0, .int 0, .int 0, .null, .null, .null, .int 0, .null, .int 0, .int 0, .int 0]) dX0_init_55 inX8 tyX8_ok rfl dfX8 kc0_33 ki8 kn8 (Nat.le_of_ble_eq_true rfl) (Nat.le_of_ble_eq_true rfl) ?_
  refine bw_N (n' := 53) (cu' := 31) (su' := 407) rfl rfl rfl ?_
  refine bw_dup dX0_init_58 rfl ?_
  refine bw_bi (nI 24) dX0_init_59 (by decide) ?_
  refine bw_iload_n dX0_init_61 rfl ?_
  refine bw_ic (nI 4) dX0_init_62 (by decide) ?_
  refine bw_imul dX0_init_63 ?_
  refine bw_eq (show _ = nI 0 by decide) ?_
  refine bw_isub dX0_init_64 ?_
  refine bw_eq (show _ = nI 24 by decide) ?_
  refine bw_call (o := 52) (As := [.int (nI 24)]) dX0_init_65 kI0_39 okI8 rfl rfl (Nat.le_of_ble_eq_true rfl) ⟨Nat.le_of_ble_eq_true rfl, Nat.le_of_ble_eq_true rfl⟩ ⟨Nat.le_of_ble_eq_true rfl, Nat.le_of_ble_eq_true rfl⟩ (b8_52 (updE_s _ _ _)) rfl (fun E3 h3 => ?_)
  refine bw_N (n' := 72) (cu' := 50) (su' := 2062) rfl rfl rfl ?_
  refine bw_aast (o := 51) (q := 52) (ci := 8) (t0 := 4) (n := 6) (i := 0) (f := (fun _ => none)) (r := (RX8, TX8, 12)) dX0_init_68 (by decide) (by decide) ((h3.1 51 (by decide)).trans ((updE_n (by decide)).trans ((updE_n (by decide)).trans (updE_s _ _ _)))) ((h3.2 52 (by decide) (by decide)).trans (cl_k k_52)) rfl rfl rfl (by decide) (by decide) ?_
  refine bw_inc (nI 1) dX0_init_69 rfl (Nat.le_of_ble_eq_true rfl) (by decide) ?_
  refine bw_goto dX0_init_72 ?_
  refine bw_iload_n dX0_init_44 rfl ?_
  refine bw_bi (nI 6) dX0_init_45 (by decide) ?_
  refine bw_icmp_geN dX0_init_47 rfl rfl (by decide) (by decide) (fun h => absurd h (by decide)) (fun _ => ?_)
  refine bw_aload_n dX0_init_50 rfl ?_
  refine bw_get (ci := 0) (k := 2) (o := 21) (fs := [.ref (ad g 22), .ref (ad g 24), .ref (ad g 51), .int 0, .null]) (v := .ref (ad g 51)) dX0_init_51 inX0 rfl (by decide) ((updE_n (by decide)).trans ((h3.1 21 (by decide)).trans ((updE_n (by decide)).trans (updE_s _ _ _)))) (by decide) rfl rfl kf0_35 ?_
  refine bw_iload_n dX0_init_54 rfl ?_
  refine bw_new (ci := 8) (fs := [.null, .int 0, .int 0, .int 0, .null, .null, .null, .int 0, .null, .int 0, .int 0, .int 0]) dX0_init_55 inX8 tyX8_ok rfl dfX8 kc0_33 ki8 kn8 (Nat.le_of_ble_eq_true rfl) (Nat.le_of_ble_eq_true rfl) ?_
  refine bw_N (n' := 73) (cu' := 51) (su' := 2074) rfl rfl rfl ?_
  refine bw_dup dX0_init_58 rfl ?_
  refine bw_bi (nI 24) dX0_init_59 (by decide) ?_
  refine bw_iload_n dX0_init_61 rfl ?_
  refine bw_ic (nI 4) dX0_init_62 (by decide) ?_
  refine bw_imul dX0_init_63 ?_
  refine bw_eq (show _ = nI 4 by decide) ?_
  refine bw_isub dX0_init_64 ?_
  refine bw_eq (show _ = nI 20 by decide) ?_
  refine bw_call (o := 72) (As := [.int (nI 20)]) dX0_init_65 kI0_39 okI8 rfl rfl (Nat.le_of_ble_eq_true rfl) ⟨Nat.le_of_ble_eq_true rfl, Nat.le_of_ble_eq_true rfl⟩ ⟨Nat.le_of_ble_eq_true rfl, Nat.le_of_ble_eq_true rfl⟩ (b8_72 (updE_s _ _ _)) rfl (fun E4 h4 => ?_)
  refine bw_N (n' := 92) (cu' := 70) (su' := 3197) rfl rfl rfl ?_
  refine bw_aast (o := 51) (q := 72) (ci := 8) (t0 := 4) (n := 6) (i := 1) (f := (va_up (fun _ => none) 0 (some (ad g 52)))) (r := (RX8, TX8, 12)) dX0_init_68 (by decide) (by decide) ((h4.1 51 (by decide)).trans ((updE_n (by decide)).trans (updE_s _ _ _))) ((h4.2 72 (by decide) (by decide)).trans (cl_k k_72)) rfl rfl rfl (by decide) (by decide) ?_
  refine bw_inc (nI 2) dX0_init_69 rfl (Nat.le_of_ble_eq_true rfl) (by decide) ?_
  refine bw_goto dX0_init_72 ?_
  refine bw_iload_n dX0_init_44 rfl ?_
  refine bw_bi (nI 6) dX0_init_45 (by decide) ?_
  refine bw_icmp_geN dX0_init_47 rfl rfl (by decide) (by decide) (fun h => absurd h (by decide)) (fun _ => ?_)
  refine bw_aload_n dX0_init_50 rfl ?_
  refine bw_get (ci := 0) (k := 2) (o := 21) (fs := [.ref (ad g 22), .ref (ad g 24), .ref (ad g 51), .int 0, .null]) (v := .ref (ad g 51)) dX0_init_51 inX0 rfl (by decide) ((updE_n (by decide)).trans ((h4.1 21 (by decide)).trans ((updE_n (by decide)).trans ((updE_n (by decide)).trans ((h3.1 21 (by decide)).trans ((updE_n (by decide)).trans (updE_s _ _ _))))))) (by decide) rfl rfl kf0_35 ?_
  refine bw_iload_n dX0_init_54 rfl ?_
  refine bw_new (ci := 8) (fs := [.null, .int 0, .int 0, .int 0, .null, .null, .null, .int 0, .null, .int 0, .int 0, .int 0]) dX0_init_55 inX8 tyX8_ok rfl dfX8 kc0_33 ki8 kn8 (Nat.le_of_ble_eq_true rfl) (Nat.le_of_ble_eq_true rfl) ?_
  refine bw_N (n' := 93) (cu' := 71) (su' := 3209) rfl rfl rfl ?_
  refine bw_dup dX0_init_58 rfl ?_
  refine bw_bi (nI 24) dX0_init_59 (by decide) ?_
  refine bw_iload_n dX0_init_61 rfl ?_
  refine bw_ic (nI 4) dX0_init_62 (by decide) ?_
  refine bw_imul dX0_init_63 ?_
  refine bw_eq (show _ = nI 8 by decide) ?_
  refine bw_isub dX0_init_64 ?_
  refine bw_eq (show _ = nI 16 by decide) ?_
  refine bw_call (o := 92) (As := [.int (nI 16)]) dX0_init_65 kI0_39 okI8 rfl rfl (Nat.le_of_ble_eq_true rfl) ⟨Nat.le_of_ble_eq_true rfl, Nat.le_of_ble_eq_true rfl⟩ ⟨Nat.le_of_ble_eq_true rfl, Nat.le_of_ble_eq_true rfl⟩ (b8_92 (updE_s _ _ _)) rfl (fun E5 h5 => ?_)
  refine bw_N (n' := 112) (cu' := 90) (su' := 3904) rfl rfl rfl ?_
  refine bw_aast (o := 51) (q := 92) (ci := 8) (t0 := 4) (n := 6) (i := 2) (f := (va_up (va_up (fun _ => none) 0 (some (ad g 52))) 1 (some (ad g 72)))) (r := (RX8, TX8, 12)) dX0_init_68 (by decide) (by decide) ((h5.1 51 (by decide)).trans ((updE_n (by decide)).trans (updE_s _ _ _))) ((h5.2 92 (by decide) (by decide)).trans (cl_k k_92)) rfl rfl rfl (by decide) (by decide) ?_
  refine bw_inc (nI 3) dX0_init_69 rfl (Nat.le_of_ble_eq_true rfl) (by decide) ?_
  refine bw_goto dX0_init_72 ?_
  refine bw_iload_n dX0_init_44 rfl ?_
  refine bw_bi (nI 6) dX0_init_45 (by decide) ?_
  refine bw_icmp_geN dX0_init_47 rfl rfl (by decide) (by decide) (fun h => absurd h (by decide)) (fun _ => ?_)
  refine bw_aload_n dX0_init_50 rfl ?_
  refine bw_get (ci := 0) (k := 2) (o := 21) (fs := [.ref (ad g 22), .ref (ad g 24), .ref (ad g 51), .int 0, .null]) (v := .ref (ad g 51)) dX0_init_51 inX0 rfl (by decide) ((updE_n (by decide)).trans ((h5.1 21 (by decide)).trans ((updE_n (by decide)).trans ((updE_n (by decide)).trans ((h4.1 21 (by decide)).trans ((updE_n (by decide)).trans ((updE_n (by decide)).trans ((h3.1 21 (by decide)).trans ((updE_n (by decide)).trans (updE_s _ _ _)))))))))) (by decide) rfl rfl kf0_35 ?_
  refine bw_iload_n dX0_init_54 rfl ?_
  refine bw_new (ci := 8) (fs := [.null, .int 0, .int 0, .int 0, .null, .null, .null, .int 0, .null, .int 0, .int 0, .int 0]) dX0_init_55 inX8 tyX8_ok rfl dfX8 kc0_33 ki8 kn8 (Nat.le_of_ble_eq_true rfl) (Nat.le_of_ble_eq_true rfl) ?_
  refine bw_N (n' := 113) (cu' := 91) (su' := 3916) rfl rfl rfl ?_
  refine bw_dup dX0_init_58 rfl ?_
  refine bw_bi (nI 24) dX0_init_59 (by decide) ?_
  refine bw_iload_n dX0_init_61 rfl ?_
  refine bw_ic (nI 4) dX0_init_62 (by decide) ?_
  refine bw_imul dX0_init_63 ?_
  refine bw_eq (show _ = nI 12 by decide) ?_
  refine bw_isub dX0_init_64 ?_
  refine bw_eq (show _ = nI 12 by decide) ?_
  refine bw_call (o := 112) (As := [.int (nI 12)]) dX0_init_65 kI0_39 okI8 rfl rfl (Nat.le_of_ble_eq_true rfl) ⟨Nat.le_of_ble_eq_true rfl, Nat.le_of_ble_eq_true rfl⟩ ⟨Nat.le_of_ble_eq_true rfl, Nat.le_of_ble_eq_true rfl⟩ (b8_112 (updE_s _ _ _)) rfl (fun E6 h6 => ?_)
  refine bw_N (n' := 132) (cu' := 110) (su' := 4287) rfl rfl rfl ?_
  refine bw_aast (o := 51) (q := 112) (ci := 8) (t0 := 4) (n := 6) (i := 3) (f := (va_up (va_up (va_up (fun _ => none) 0 (some (ad g 52))) 1 (some (ad g 72))) 2 (some (ad g 92)))) (r := (RX8, TX8, 12)) dX0_init_68 (by decide) (by decide) ((h6.1 51 (by decide)).trans ((updE_n (by decide)).trans (updE_s _ _ _))) ((h6.2 112 (by decide) (by decide)).trans (cl_k k_112)) rfl rfl rfl (by decide) (by decide) ?_
  refine bw_inc (nI 4) dX0_init_69 rfl (Nat.le_of_ble_eq_true rfl) (by decide) ?_
  refine bw_goto dX0_init_72 ?_
  refine bw_iload_n dX0_init_44 rfl ?_
  refine bw_bi (nI 6) dX0_init_45 (by decide) ?_
  refine bw_icmp_geN dX0_init_47 rfl rfl (by decide) (by decide) (fun h => absurd h (by decide)) (fun _ => ?_)
  refine bw_aload_n dX0_init_50 rfl ?_
  refine bw_get (ci := 0) (k := 2) (o := 21) (fs := [.ref (ad g 22), .ref (ad g 24), .ref (ad g 51), .int 0, .null]) (v := .ref (ad g 51)) dX0_init_51 inX0 rfl (by decide) ((updE_n (by decide)).trans ((h6.1 21 (by decide)).trans ((updE_n (by decide)).trans ((updE_n (by decide)).trans ((h5.1 21 (by decide)).trans ((updE_n (by decide)).trans ((updE_n (by decide)).trans ((h4.1 21 (by decide)).trans ((updE_n (by decide)).trans ((updE_n (by decide)).trans ((h3.1 21 (by decide)).trans ((updE_n (by decide)).trans (updE_s _ _ _))))))))))))) (by decide) rfl rfl kf0_35 ?_
  refine bw_iload_n dX0_init_54 rfl ?_
  refine bw_new (ci := 8) (fs := [.null, .int 0, .int 0, .int 0, .null, .null, .null, .int 0, .null, .int 0, .int 0, .int 0]) dX0_init_55 inX8 tyX8_ok rfl dfX8 kc0_33 ki8 kn8 (Nat.le_of_ble_eq_true rfl) (Nat.le_of_ble_eq_true rfl) ?_
  refine bw_N (n' := 133) (cu' := 111) (su' := 4299) rfl rfl rfl ?_
  refine bw_dup dX0_init_58 rfl ?_
  refine bw_bi (nI 24) dX0_init_59 (by decide) ?_
  refine bw_iload_n dX0_init_61 rfl ?_
  refine bw_ic (nI 4) dX0_init_62 (by decide) ?_
  refine bw_imul dX0_init_63 ?_
  refine bw_eq (show _ = nI 16 by decide) ?_
  refine bw_isub dX0_init_64 ?_
  refine bw_eq (show _ = nI 8 by decide) ?_
  refine bw_call (o := 132) (As := [.int (nI 8)]) dX0_init_65 kI0_39 okI8 rfl rfl (Nat.le_of_ble_eq_true rfl) ⟨Nat.le_of_ble_eq_true rfl, Nat.le_of_ble_eq_true rfl⟩ ⟨Nat.le_of_ble_eq_true rfl, Nat.le_of_ble_eq_true rfl⟩ (b8_132 (updE_s _ _ _)) rfl (fun E7 h7 => ?_)
  refine bw_N (n' := 152) (cu' := 130) (su' := 4450) rfl rfl rfl ?_
  refine bw_aast (o := 51) (q := 132) (ci := 8) (t0 := 4) (n := 6) (i := 4) (f := (va_up (va_up (va_up (va_up (fun _ => none) 0 (some (ad g 52))) 1 (some (ad g 72))) 2 (some (ad g 92))) 3 (some (ad g 112)))) (r := (RX8, TX8, 12)) dX0_init_68 (by decide) (by decide) ((h7.1 51 (by decide)).trans ((updE_n (by decide)).trans (updE_s _ _ _))) ((h7.2 132 (by decide) (by decide)).trans (cl_k k_132)) rfl rfl rfl (by decide) (by decide) ?_
  refine bw_inc (nI 5) dX0_init_69 rfl (Nat.le_of_ble_eq_true rfl) (by decide) ?_
  refine bw_goto dX0_init_72 ?_
  refine bw_iload_n dX0_init_44 rfl ?_
  refine bw_bi (nI 6) dX0_init_45 (by decide) ?_
  refine bw_icmp_geN dX0_init_47 rfl rfl (by decide) (by decide) (fun h => absurd h (by decide)) (fun _ => ?_)
  refine bw_aload_n dX0_init_50 rfl ?_
  refine bw_get (ci := 0) (k := 2) (o := 21) (fs := [.ref (ad g 22), .ref (ad g 24), .ref (ad g 51), .int 0, .null]) (v := .ref (ad g 51)) dX0_init_51 inX0 rfl (by decide) ((updE_n (by decide)).trans ((h7.1 21 (by decide)).trans ((updE_n (by decide)).trans ((updE_n (by decide)).trans ((h6.1 21 (by decide)).trans ((updE_n (by decide)).trans ((updE_n (by decide)).trans ((h5.1 21 (by decide)).trans ((updE_n (by decide)).trans ((updE_n (by decide)).trans ((h4.1 21 (by decide)).trans ((updE_n (by decide)).trans ((updE_n (by decide)).trans ((h3.1 21 (by decide)).trans ((updE_n (by decide)).trans (updE_s _ _ _)))))))))))))))) (by decide) rfl rfl kf0_35 ?_
  refine bw_iload_n dX0_init_54 rfl ?_
  refine bw_new (ci := 8) (fs := [.null, .int 0, .int 0, .int 0, .null, .null, .null, .int 0, .null, .int 0, .int 0, .int 0]) dX0_init_55 inX8 tyX8_ok rfl dfX8 kc0_33 ki8 kn8 (Nat.le_of_ble_eq_true rfl) (Nat.le_of_ble_eq_true rfl) ?_
  refine bw_N (n' := 153) (cu' := 131) (su' := 4462) rfl rfl rfl ?_
  refine bw_dup dX0_init_58 rfl ?_
  refine bw_bi (nI 24) dX0_init_59 (by decide) ?_
  refine bw_iload_n dX0_init_61 rfl ?_
  refine bw_ic (nI 4) dX0_init_62 (by decide) ?_
  refine bw_imul dX0_init_63 ?_
  refine bw_eq (show _ = nI 20 by decide) ?_
  refine bw_isub dX0_init_64 ?_
  refine bw_eq (show _ = nI 4 by decide) ?_
  refine bw_call (o := 152) (As := [.int (nI 4)]) dX0_init_65 kI0_39 okI8 rfl rfl (Nat.le_of_ble_eq_true rfl) ⟨Nat.le_of_ble_eq_true rfl, Nat.le_of_ble_eq_true rfl⟩ ⟨Nat.le_of_ble_eq_true rfl, Nat.le_of_ble_eq_true rfl⟩ (b8_152 (updE_s _ _ _)) rfl (fun E8 h8 => ?_)
  refine bw_N (n' := 172) (cu' := 150) (su' := 4497) rfl rfl rfl ?_
  refine bw_aast (o := 51) (q := 152) (ci := 8) (t0 := 4) (n := 6) (i := 5) (f := (va_up (va_up (va_up (va_up (va_up (fun _ => none) 0 (some (ad g 52))) 1 (some (ad g 72))) 2 (some (ad g 92))) 3 (some (ad g 112))) 4 (some (ad g 132)))) (r := (RX8, TX8, 12)) dX0_init_68 (by decide) (by decide) ((h8.1 51 (by decide)).trans ((updE_n (by decide)).trans (updE_s _ _ _))) ((h8.2 152 (by decide) (by decide)).trans (cl_k k_152)) rfl rfl rfl (by decide) (by decide) ?_
  refine bw_inc (nI 6) dX0_init_69 rfl (Nat.le_of_ble_eq_true rfl) (by decide) ?_
  refine bw_goto dX0_init_72 ?_
  refine bw_iload_n dX0_init_44 rfl ?_
  refine bw_bi (nI 6) dX0_init_45 (by decide) ?_
  refine bw_icmp_geN dX0_init_47 rfl rfl (by decide) (by decide) (fun _ => ?_) (fun h => absurd h (by decide))
  refine bw_aload_n dX0_init_75 rfl ?_
  refine bw_new (ci := 4) (fs := [.null, .null, .null, .int 0, .int 0]) dX0_init_76 inX4 tyX4_ok rfl dfX4 kc0_40 ki4 kn4 (Nat.le_of_ble_eq_true rfl) (Nat.le_of_ble_eq_true rfl) ?_
  refine bw_N (n' := 173) (cu' := 151) (su' := 4502) rfl rfl rfl ?_
  refine bw_dup dX0_init_79 rfl ?_
  refine bw_call (o := 172) (As := []) dX0_init_80 kI0_42 okI4 rfl rfl (Nat.le_of_ble_eq_true rfl) ⟨Nat.le_of_ble_eq_true rfl, Nat.le_of_ble_eq_true rfl⟩ ⟨Nat.le_of_ble_eq_true rfl, Nat.le_of_ble_eq_true rfl⟩ (b4_172 (updE_s _ _ _)) rfl (fun E9 h9 => ?_)
  refine bw_N (n' := 176) (cu' := 154) (su' := 4562) rfl rfl rfl ?_
  refine bw_put (ci := 0) (k := 4) (o := 21) (fs := [.ref (ad g 22), .ref (ad g 24), .ref (ad g 51), .int 0, .null]) (v := .ref (ad g 172)) (ty := tyX0 4) dX0_init_83 inX0 tyX0_ok nmX0 rfl (by decide) ((h9.1 21 (by decide)).trans ((updE_n (by decide)).trans ((updE_n (by decide)).trans ((h8.1 21 (by decide)).trans ((updE_n (by decide)).trans ((updE_n (by decide)).trans ((h7.1 21 (by decide)).trans ((updE_n (by decide)).trans ((updE_n (by decide)).trans ((h6.1 21 (by decide)).trans ((updE_n (by decide)).trans ((updE_n (by decide)).trans ((h5.1 21 (by decide)).trans ((updE_n (by decide)).trans ((updE_n (by decide)).trans ((h4.1 21 (by decide)).trans ((updE_n (by decide)).trans ((updE_n (by decide)).trans ((h3.1 21 (by decide)).trans ((updE_n (by decide)).trans (updE_s _ _ _))))))))))))))))))))) (by decide) rfl rfl rfl rfl rfl (Nat.le_of_ble_eq_true rfl) kf0_43 ?_
  refine bw_cell (o := 51) (N := 6) (f := (va_up (va_up (va_up (va_up (va_up (va_up (fun _ => none) 0 (some (ad g 52))) 1 (some (ad g 72))) 2 (some (ad g 92))) 3 (some (ad g 112))) 4 (some (ad g 132))) 5 (some (ad g 152)))) (f' := fun k => some (ad g (51 + 1 + 20 * k))) (by decide) ((updE_n (by decide)).trans ((h9.1 51 (by decide)).trans ((updE_n (by decide)).trans (updE_s _ _ _)))) (fun j hj => by rcases (by omega : j = 0 ∨ j = 1 ∨ j = 2 ∨ j = 3 ∨ j = 4 ∨ j = 5) with rfl | rfl | rfl | rfl | rfl | rfl <;> rfl) ?_
  refine bw_ret dX0_init_86 (Nat.le_of_ble_eq_true rfl) (Nat.le_of_ble_eq_true rfl) ⟨fun k hk => ?_, fun k h1_ h2_ => ?_⟩
  · exact ((updE_n (by omega)).trans ((updE_n (by omega)).trans ((h9.1 k (by omega)).trans ((updE_n (by omega)).trans ((updE_n (by omega)).trans ((h8.1 k (by omega)).trans ((updE_n (by omega)).trans ((updE_n (by omega)).trans ((h7.1 k (by omega)).trans ((updE_n (by omega)).trans ((updE_n (by omega)).trans ((h6.1 k (by omega)).trans ((updE_n (by omega)).trans ((updE_n (by omega)).trans ((h5.1 k (by omega)).trans ((updE_n (by omega)).trans ((updE_n (by omega)).trans ((h4.1 k (by omega)).trans ((updE_n (by omega)).trans ((updE_n (by omega)).trans ((h3.1 k (by omega)).trans ((updE_n (by omega)).trans ((updE_n (by omega)).trans ((updE_n (by omega)).trans ((updE_n (by omega)).trans ((h2.1 k (by omega)).trans ((updE_n (by omega)).trans ((updE_n (by omega)).trans ((h1.1 k (by omega)).trans ((updE_n (by omega)).trans rfl))))))))))))))))))))))))))))))
  · rcases (by omega : k = 21 ∨ (22 ≤ k ∧ k < 24) ∨ (24 ≤ k ∧ k < 51) ∨ k = 51 ∨ (52 ≤ k ∧ k < 72) ∨ (72 ≤ k ∧ k < 92) ∨ (92 ≤ k ∧ k < 112) ∨ (112 ≤ k ∧ k < 132) ∨ (132 ≤ k ∧ k < 152) ∨ (152 ≤ k ∧ k < 172) ∨ (172 ≤ k ∧ k < 176)) with rfl | hr | hr | rfl | hr | hr | hr | hr | hr | hr | hr
    · exact ((updE_n (by decide)).trans ((updE_s _ _ _).trans (cl_is k_21 rfl)))
    · exact ((updE_n (by omega)).trans ((updE_n (by omega)).trans ((h9.1 k (by omega)).trans ((updE_n (by omega)).trans ((updE_n (by omega)).trans ((h8.1 k (by omega)).trans ((updE_n (by omega)).trans ((updE_n (by omega)).trans ((h7.1 k (by omega)).trans ((updE_n (by omega)).trans ((updE_n (by omega)).trans ((h6.1 k (by omega)).trans ((updE_n (by omega)).trans ((updE_n (by omega)).trans ((h5.1 k (by omega)).trans ((updE_n (by omega)).trans ((updE_n (by omega)).trans ((h4.1 k (by omega)).trans ((updE_n (by omega)).trans ((updE_n (by omega)).trans ((h3.1 k (by omega)).trans ((updE_n (by omega)).trans ((updE_n (by omega)).trans ((updE_n (by omega)).trans ((updE_n (by omega)).trans ((h2.1 k (by omega)).trans ((updE_n (by omega)).trans ((updE_n (by omega)).trans (h1.2 k (by omega) (by omega))))))))))))))))))))))))))))))
    · exact ((updE_n (by omega)).trans ((updE_n (by omega)).trans ((h9.1 k (by omega)).trans ((updE_n (by omega)).trans ((updE_n (by omega)).trans ((h8.1 k (by omega)).trans ((updE_n (by omega)).trans ((updE_n (by omega)).trans ((h7.1 k (by omega)).trans ((updE_n (by omega)).trans ((updE_n (by omega)).trans ((h6.1 k (by omega)).trans ((updE_n (by omega)).trans ((updE_n (by omega)).trans ((h5.1 k (by omega)).trans ((updE_n (by omega)).trans ((updE_n (by omega)).trans ((h4.1 k (by omega)).trans ((updE_n (by omega)).trans ((updE_n (by omega)).trans ((h3.1 k (by omega)).trans ((updE_n (by omega)).trans ((updE_n (by omega)).trans ((updE_n (by omega)).trans ((updE_n (by omega)).trans (h2.2 k (by omega) (by omega)))))))))))))))))))))))))))
    · exact ((updE_s _ _ _).trans (cl_is k_51 rfl))
    · exact ((updE_n (by omega)).trans ((updE_n (by omega)).trans ((h9.1 k (by omega)).trans ((updE_n (by omega)).trans ((updE_n (by omega)).trans ((h8.1 k (by omega)).trans ((updE_n (by omega)).trans ((updE_n (by omega)).trans ((h7.1 k (by omega)).trans ((updE_n (by omega)).trans ((updE_n (by omega)).trans ((h6.1 k (by omega)).trans ((updE_n (by omega)).trans ((updE_n (by omega)).trans ((h5.1 k (by omega)).trans ((updE_n (by omega)).trans ((updE_n (by omega)).trans ((h4.1 k (by omega)).trans ((updE_n (by omega)).trans ((updE_n (by omega)).trans (h3.2 k (by omega) (by omega))))))))))))))))))))))
    · exact ((updE_n (by omega)).trans ((updE_n (by omega)).trans ((h9.1 k (by omega)).trans ((updE_n (by omega)).trans ((updE_n (by omega)).trans ((h8.1 k (by omega)).trans ((updE_n (by omega)).trans ((updE_n (by omega)).trans ((h7.1 k (by omega)).trans ((updE_n (by omega)).trans ((updE_n (by omega)).trans ((h6.1 k (by omega)).trans ((updE_n (by omega)).trans ((updE_n (by omega)).trans ((h5.1 k (by omega)).trans ((updE_n (by omega)).trans ((updE_n (by omega)).trans (h4.2 k (by omega) (by omega)))))))))))))))))))
    · exact ((updE_n (by omega)).trans ((updE_n (by omega)).trans ((h9.1 k (by omega)).trans ((updE_n (by omega)).trans ((updE_n (by omega)).trans ((h8.1 k (by omega)).trans ((updE_n (by omega)).trans ((updE_n (by omega)).trans ((h7.1 k (by omega)).trans ((updE_n (by omega)).trans ((updE_n (by omega)).trans ((h6.1 k (by omega)).trans ((updE_n (by omega)).trans ((updE_n (by omega)).trans (h5.2 k (by omega) (by omega))))))))))))))))
    · exact ((updE_n (by omega)).trans ((updE_n (by omega)).trans ((h9.1 k (by omega)).trans ((updE_n (by omega)).trans ((updE_n (by omega)).trans ((h8.1 k (by omega)).trans ((updE_n (by omega)).trans ((updE_n (by omega)).trans ((h7.1 k (by omega)).trans ((updE_n (by omega)).trans ((updE_n (by omega)).trans (h6.2 k (by omega) (by omega)))))))))))))
    · exact ((updE_n (by omega)).trans ((updE_n (by omega)).trans ((h9.1 k (by omega)).trans ((updE_n (by omega)).trans ((updE_n (by omega)).trans ((h8.1 k (by omega)).trans ((updE_n (by omega)).trans ((updE_n (by omega)).trans (h7.2 k (by omega) (by omega))))))))))
    · exact ((updE_n (by omega)).trans ((updE_n (by omega)).trans ((h9.1 k (by omega)).trans ((updE_n (by omega)).trans ((updE_n (by omega)).trans (h8.2 k (by omega) (by omega)))))))
    · exact ((updE_n (by omega)).trans ((updE_n (by omega)).trans (h9.2 k (by omega) (by omega))))
set_option maxHeartbeats 4000000 in
set_option maxRecDepth 100000 in
theorem b9_0 {g : GG} {E : Nat → va_E} (hE : E 0 = .inr (9, [.null, .null, .null, .null, .int 0])) : Ctb g yX9_init cX9_init 2 4 111 175 5135 [.ref (ad g 0)] 1 E 176 (FinB g E 0 176) := by
  refine bt_of (own := RX9) (lv := [some (.ref (ad g 0)), none]) rfl rfl (by decide) (Nat.le_of_ble_eq_true rfl) (by intro u hu; simp only [List.mem_cons, List.not_mem_nil, or_false] at hu; rcases hu with rfl <;> rfl) (lv_ok [.ref (ad g 0)] 1) ?_
  refine bw_aload_n dX9_init_0 rfl ?_
  refine bw_obj dX9_init_1 kI9_3 (Nat.le_of_ble_eq_true rfl) (Nat.le_of_ble_eq_true rfl) ?_
  refine bw_aload_n dX9_init_4 rfl ?_
  refine bw_new (ci := 3) (fs := [.null, .null, .null]) dX9_init_5 inX3 tyX3_ok rfl dfX3 kc9_9 ki3 kn3 (Nat.le_of_ble_eq_true rfl) (Nat.le_of_ble_eq_true rfl) ?_
  refine bw_N (n' := 2) (cu' := 1) (su' := 3) rfl rfl rfl ?_
  refine bw_dup dX9_init_8 rfl ?_
  refine bw_call (o := 1) (As := []) dX9_init_9 kI9_11 okI3 rfl rfl (Nat.le_of_ble_eq_true rfl) ⟨Nat.le_of_ble_eq_true rfl, Nat.le_of_ble_eq_true rfl⟩ ⟨Nat.le_of_ble_eq_true rfl, Nat.le_of_ble_eq_true rfl⟩ (b3_1 (updE_s _ _ _)) rfl (fun E1 h1 => ?_)
  refine bw_N (n' := 7) (cu' := 6) (su' := 188) rfl rfl rfl ?_
  refine bw_put (ci := 9) (k := 0) (o := 0) (fs := [.null, .null, .null, .null, .int 0]) (v := .ref (ad g 1)) (ty := tyX9 0) dX9_init_12 inX9 tyX9_ok nmX9 rfl (by decide) ((h1.1 0 (by decide)).trans ((updE_n (by decide)).trans hE)) (by decide) rfl rfl rfl rfl rfl (Nat.le_of_ble_eq_true rfl) kf9_12 ?_
  refine bw_aload_n dX9_init_15 rfl ?_
  refine bw_ic (nI 2) dX9_init_16 (by decide) ?_
  refine bw_anew_Page (N := 2) dX9_init_17 kc9_9 rfl (by decide) (Nat.le_of_ble_eq_true rfl) (Nat.le_of_ble_eq_true rfl) ?_
  refine bw_N (n' := 8) (cu' := 7) (su' := 190) rfl rfl rfl ?_
  refine bw_put (ci := 9) (k := 1) (o := 0) (fs := [.ref (ad g 1), .null, .null, .null, .int 0]) (v := .ref (ad g 7)) (ty := tyX9 1) dX9_init_20 inX9 tyX9_ok nmX9 rfl (by decide) ((updE_n (by decide)).trans (updE_s _ _ _)) (by decide) rfl rfl rfl rfl rfl (Nat.le_of_ble_eq_true rfl) kf9_16 ?_
  refine bw_ic (nI 0) dX9_init_23 (by decide) ?_
  refine bw_istore_n dX9_init_24 (Nat.le_of_ble_eq_true rfl) ?_
  refine bw_iload_n dX9_init_25 rfl ?_
  refine bw_ic (nI 2) dX9_init_26 (by decide) ?_
  refine bw_icmp_geN dX9_init_27 rfl rfl (by decide) (by decide) (fun h => absurd h (by decide)) (fun _ => ?_)
  refine bw_aload_n dX9_init_30 rfl ?_
  refine bw_get (ci := 9) (k := 1) (o := 0) (fs := [.ref (ad g 1), .ref (ad g 7), .null, .null, .int 0]) (v := .ref (ad g 7)) dX9_init_31 inX9 rfl (by decide) (updE_s _ _ _) (by decide) rfl rfl kf9_16 ?_
  refine bw_iload_n dX9_init_34 rfl ?_
  refine bw_new (ci := 3) (fs := [.null, .null, .null]) dX9_init_35 inX3 tyX3_ok rfl dfX3 kc9_9 ki3 kn3 (Nat.le_of_ble_eq_true rfl) (Nat.le_of_ble_eq_true rfl) ?_
  refine bw_N (n' := 9) (cu' := 8) (su' := 193) rfl rfl rfl ?_
  refine bw_dup dX9_init_38 rfl ?_
  refine bw_call (o := 8) (As := []) dX9_init_39 kI9_11 okI3 rfl rfl (Nat.le_of_ble_eq_true rfl) ⟨Nat.le_of_ble_eq_true rfl, Nat.le_of_ble_eq_true rfl⟩ ⟨Nat.le_of_ble_eq_true rfl, Nat.le_of_ble_eq_true rfl⟩ (b3_8 (updE_s _ _ _)) rfl (fun E2 h2 => ?_)
  refine bw_N (n' := 14) (cu' := 13) (su' := 378) rfl rfl rfl ?_
  refine bw_aast (o := 7) (q := 8) (ci := 3) (t0 := 2) (n := 2) (i := 0) (f := (fun _ => none)) (r := (RX3, TX3, 3)) dX9_init_42 (by decide) (by decide) ((h2.1 7 (by decide)).trans ((updE_n (by decide)).trans ((updE_n (by decide)).trans (updE_s _ _ _)))) ((h2.2 8 (by decide) (by decide)).trans (cl_k k_8)) rfl rfl rfl (by decide) (by decide) ?_
  refine bw_inc (nI 1) dX9_init_43 rfl (Nat.le_of_ble_eq_true rfl) (by decide) ?_
  refine bw_goto dX9_init_46 ?_
  refine bw_iload_n dX9_init_25 rfl ?_
  refine bw_ic (nI 2) dX9_init_26 (by decide) ?_
  refine bw_icmp_geN dX9_init_27 rfl rfl (by decide) (by decide) (fun h => absurd h (by decide)) (fun _ => ?_)
  refine bw_aload_n dX9_init_30 rfl ?_
  refine bw_get (ci := 9) (k := 1) (o := 0) (fs := [.ref (ad g 1), .ref (ad g 7), .null, .null, .int 0]) (v := .ref (ad g 7)) dX9_init_31 inX9 rfl (by decide) ((updE_n (by decide)).trans ((h2.1 0 (by decide)).trans ((updE_n (by decide)).trans (updE_s _ _ _)))) (by decide) rfl rfl kf9_16 ?_
  refine bw_iload_n dX9_init_34 rfl ?_
  refine bw_new (ci := 3) (fs := [.null, .null, .null]) dX9_init_35 inX3 tyX3_ok rfl dfX3 kc9_9 ki3 kn3 (Nat.le_of_ble_eq_true rfl) (Nat.le_of_ble_eq_true rfl) ?_
  refine bw_N (n' := 15) (cu' := 14) (su' := 381) rfl rfl rfl ?_
  refine bw_dup dX9_init_38 rfl ?_
  refine bw_call (o := 14) (As := []) dX9_init_39 kI9_11 okI3 rfl rfl (Nat.le_of_ble_eq_true rfl) ⟨Nat.le_of_ble_eq_true rfl, Nat.le_of_ble_eq_true rfl⟩ ⟨Nat.le_of_ble_eq_true rfl, Nat.le_of_ble_eq_true rfl⟩ (b3_14 (updE_s _ _ _)) rfl (fun E3 h3 => ?_)
  refine bw_N (n' := 20) (cu' := 19) (su' := 566) rfl rfl rfl ?_
  refine bw_aast (o := 7) (q := 14) (ci := 3) (t0 := 2) (n := 2) (i := 1) (f := (va_up (fun _ => none) 0 (some (ad g 8)))) (r := (RX3, TX3, 3)) dX9_init_42 (by decide) (by decide) ((h3.1 7 (by decide)).trans ((updE_n (by decide)).trans (updE_s _ _ _))) ((h3.2 14 (by decide) (by decide)).trans (cl_k k_14)) rfl rfl rfl (by decide) (by decide) ?_
  refine bw_inc (nI 2) dX9_init_43 rfl (Nat.le_of_ble_eq_true rfl) (by decide) ?_
  refine bw_goto dX9_init_46 ?_
  refine bw_iload_n dX9_init_25 rfl ?_
  refine bw_ic (nI 2) dX9_init_26 (by decide) ?_
  refine bw_icmp_geN dX9_init_27 rfl rfl (by decide) (by decide) (fun _ => ?_) (fun h => absurd h (by decide))
  refine bw_aload_n dX9_init_49 rfl ?_
  refine bw_ic (nI 2) dX9_init_50 (by decide) ?_
  refine bw_newa_bool (N := 2) dX9_init_51 rfl (by decide) (Nat.le_of_ble_eq_true rfl) (Nat.le_of_ble_eq_true rfl) ?_
  refine bw_N (n' := 21) (cu' := 20) (su' := 568) rfl rfl rfl ?_
  refine bw_put (ci := 9) (k := 2) (o := 0) (fs := [.ref (ad g 1), .ref (ad g 7), .null, .null, .int 0]) (v := .ref (ad g 20)) (ty := tyX9 2) dX9_init_53 inX9 tyX9_ok nmX9 rfl (by decide) ((updE_n (by decide)).trans ((updE_n (by decide)).trans ((h3.1 0 (by decide)).trans ((updE_n (by decide)).trans ((updE_n (by decide)).trans ((h2.1 0 (by decide)).trans ((updE_n (by decide)).trans (updE_s _ _ _)))))))) (by decide) rfl rfl rfl rfl rfl (Nat.le_of_ble_eq_true rfl) kf9_20 ?_
  refine bw_aload_n dX9_init_56 rfl ?_
  refine bw_new (ci := 0) (fs := [.null, .null, .null, .int 0, .null]) dX9_init_57 inX0 tyX0_ok rfl dfX0 kc9_24 ki0 kn0 (Nat.le_of_ble_eq_true rfl) (Nat.le_of_ble_eq_true rfl) ?_
  refine bw_N (n' := 22) (cu' := 21) (su' := 573) rfl rfl rfl ?_
  refine bw_dup dX9_init_60 rfl ?_
  refine bw_call (o := 21) (As := []) dX9_init_61 kI9_26 okI0 rfl rfl (Nat.le_of_ble_eq_true rfl) ⟨Nat.le_of_ble_eq_true rfl, Nat.le_of_ble_eq_true rfl⟩ ⟨Nat.le_of_ble_eq_true rfl, Nat.le_of_ble_eq_true rfl⟩ (b0_21 (updE_s _ _ _)) rfl (fun E4 h4 => ?_)
  refine bw_N (n' := 176) (cu' := 175) (su' := 5135) rfl rfl rfl ?_
  refine bw_put (ci := 9) (k := 3) (o := 0) (fs := [.ref (ad g 1), .ref (ad g 7), .ref (ad g 20), .null, .int 0]) (v := .ref (ad g 21)) (ty := tyX9 3) dX9_init_64 inX9 tyX9_ok nmX9 rfl (by decide) ((h4.1 0 (by decide)).trans ((updE_n (by decide)).trans (updE_s _ _ _))) (by decide) rfl rfl rfl rfl rfl (Nat.le_of_ble_eq_true rfl) kf9_27 ?_
  refine bw_aload_n dX9_init_67 rfl ?_
  refine bw_ic (nI 1) dX9_init_68 (by decide) ?_
  refine bw_put (ci := 9) (k := 4) (o := 0) (fs := [.ref (ad g 1), .ref (ad g 7), .ref (ad g 20), .ref (ad g 21), .int 0]) (v := .int (nI 1)) (ty := tyX9 4) dX9_init_69 inX9 tyX9_ok nmX9 rfl (by decide) (updE_s _ _ _) (by decide) rfl rfl rfl rfl rfl (Nat.le_of_ble_eq_true rfl) kf9_31 ?_
  refine bw_cell (o := 7) (N := 2) (f := (va_up (va_up (fun _ => none) 0 (some (ad g 8))) 1 (some (ad g 14)))) (f' := fun k => some (ad g (7 + 1 + 6 * k))) (by decide) ((updE_n (by decide)).trans ((updE_n (by decide)).trans ((h4.1 7 (by decide)).trans ((updE_n (by decide)).trans ((updE_n (by decide)).trans ((updE_n (by decide)).trans (updE_s _ _ _))))))) (fun j hj => by rcases (by omega : j = 0 ∨ j = 1) with rfl | rfl <;> rfl) ?_
  refine bw_ret dX9_init_72 (Nat.le_of_ble_eq_true rfl) (Nat.le_of_ble_eq_true rfl) ⟨fun k hk => ?_, fun k h1_ h2_ => ?_⟩
  · exact ((updE_n (by omega)).trans ((updE_n (by omega)).trans ((updE_n (by omega)).trans ((h4.1 k (by omega)).trans ((updE_n (by omega)).trans ((updE_n (by omega)).trans ((updE_n (by omega)).trans ((updE_n (by omega)).trans ((h3.1 k (by omega)).trans ((updE_n (by omega)).trans ((updE_n (by omega)).trans ((h2.1 k (by omega)).trans ((updE_n (by omega)).trans ((updE_n (by omega)).trans ((updE_n (by omega)).trans ((updE_n (by omega)).trans ((h1.1 k (by omega)).trans ((updE_n (by omega)).trans rfl))))))))))))))))))
  · rcases (by omega : k = 0 ∨ (1 ≤ k ∧ k < 7) ∨ k = 7 ∨ (8 ≤ k ∧ k < 14) ∨ (14 ≤ k ∧ k < 20) ∨ k = 20 ∨ (21 ≤ k ∧ k < 176)) with rfl | hr | rfl | hr | hr | rfl | hr
    · exact ((updE_n (by decide)).trans ((updE_s _ _ _).trans (cl_is k_0 rfl)))
    · exact ((updE_n (by omega)).trans ((updE_n (by omega)).trans ((updE_n (by omega)).trans ((h4.1 k (by omega)).trans ((updE_n (by omega)).trans ((updE_n (by omega)).trans ((updE_n (by omega)).trans ((updE_n (by omega)).trans ((h3.1 k (by omega)).trans ((updE_n (by omega)).trans ((updE_n (by omega)).trans ((h2.1 k (by omega)).trans ((updE_n (by omega)).trans ((updE_n (by omega)).trans ((updE_n (by omega)).trans ((updE_n (by omega)).trans (h1.2 k (by omega) (by omega))))))))))))))))))
    · exact ((updE_s _ _ _).trans (cl_is k_7 rfl))
    · exact ((updE_n (by omega)).trans ((updE_n (by omega)).trans ((updE_n (by omega)).trans ((h4.1 k (by omega)).trans ((updE_n (by omega)).trans ((updE_n (by omega)).trans ((updE_n (by omega)).trans ((updE_n (by omega)).trans ((h3.1 k (by omega)).trans ((updE_n (by omega)).trans ((updE_n (by omega)).trans (h2.2 k (by omega) (by omega)))))))))))))
    · exact ((updE_n (by omega)).trans ((updE_n (by omega)).trans ((updE_n (by omega)).trans ((h4.1 k (by omega)).trans ((updE_n (by omega)).trans ((updE_n (by omega)).trans ((updE_n (by omega)).trans ((updE_n (by omega)).trans (h3.2 k (by omega) (by omega))))))))))
    · exact ((updE_n (by decide)).trans ((updE_n (by decide)).trans ((updE_n (by decide)).trans ((h4.1 20 (by decide)).trans ((updE_n (by decide)).trans ((updE_n (by decide)).trans ((updE_s _ _ _).trans (cl_is k_20 rfl))))))))
    · exact ((updE_n (by omega)).trans ((updE_n (by omega)).trans ((updE_n (by omega)).trans (h4.2 k (by omega) (by omega)))))
set_option maxHeartbeats 4000000 in
set_option maxRecDepth 100000 in
theorem b10_176 {g : GG} {E : Nat → va_E} (hE : E 176 = .inr (10, [.null, .int 0, .null, .int 0, .null, .int 0, .null, .null, .int 0, .null, .int 0, .null, .null, .null, .null, .null, .null, .null, .null, .int 0, .int 0, .int 0, .int 0, .null, .null, .null, .int 0, .int 0])) : Ctb g yX10_init cX10_init 1 1 40 17 2129 [.ref (ad g 176)] 177 E 194 (FinB g E 176 194) := by
  refine bt_of (own := RX10) (lv := [some (.ref (ad g 176))]) rfl rfl (by decide) (Nat.le_of_ble_eq_true rfl) (by intro u hu; simp only [List.mem_cons, List.not_mem_nil, or_false] at hu; rcases hu with rfl <;> rfl) (lv_ok [.ref (ad g 176)] 0) ?_
  refine bw_aload_n dX10_init_0 rfl ?_
  refine bw_obj dX10_init_1 kI10_1 (Nat.le_of_ble_eq_true rfl) (Nat.le_of_ble_eq_true rfl) ?_
  refine bw_aload_n dX10_init_4 rfl ?_
  refine bw_bi (nI 96) dX10_init_5 (by decide) ?_
  refine bw_newa_int (N := 96) dX10_init_7 rfl (by decide) (Nat.le_of_ble_eq_true rfl) (Nat.le_of_ble_eq_true rfl) ?_
  refine bw_N (n' := 178) (cu' := 1) (su' := 96) rfl rfl rfl ?_
  refine bw_put (ci := 10) (k := 0) (o := 176) (fs := [.null, .int 0, .null, .int 0, .null, .int 0, .null, .null, .int 0, .null, .int 0, .null, .null, .null, .null, .null, .null, .null, .null, .int 0, .int 0, .int 0, .int 0, .null, .null, .null, .int 0, .int 0]) (v := .ref (ad g 177)) (ty := tyX10 0) dX10_init_9 inX10 tyX10_ok nmX10 rfl (by decide) ((updE_n (by decide)).trans hE) (by decide) rfl rfl rfl rfl rfl (Nat.le_of_ble_eq_true rfl) kf10_7 ?_
  refine bw_aload_n dX10_init_12 rfl ?_
  refine bw_bi (nI 80) dX10_init_13 (by decide) ?_
  refine bw_newa_int (N := 80) dX10_init_15 rfl (by decide) (Nat.le_of_ble_eq_true rfl) (Nat.le_of_ble_eq_true rfl) ?_
  refine bw_N (n' := 179) (cu' := 2) (su' := 176) rfl rfl rfl ?_
  refine bw_put (ci := 10) (k := 2) (o := 176) (fs := [.ref (ad g 177), .int 0, .null, .int 0, .null, .int 0, .null, .null, .int 0, .null, .int 0, .null, .null, .null, .null, .null, .null, .null, .null, .int 0, .int 0, .int 0, .int 0, .null, .null, .null, .int 0, .int 0]) (v := .ref (ad g 178)) (ty := tyX10 2) dX10_init_17 inX10 tyX10_ok nmX10 rfl (by decide) ((updE_n (by decide)).trans (updE_s _ _ _)) (by decide) rfl rfl rfl rfl rfl (Nat.le_of_ble_eq_true rfl) kf10_13 ?_
  refine bw_aload_n dX10_init_20 rfl ?_
  refine bw_ic (nI 3) dX10_init_21 (by decide) ?_
  refine bw_newa_int (N := 3) dX10_init_22 rfl (by decide) (Nat.le_of_ble_eq_true rfl) (Nat.le_of_ble_eq_true rfl) ?_
  refine bw_N (n' := 180) (cu' := 3) (su' := 179) rfl rfl rfl ?_
  refine bw_put (ci := 10) (k := 4) (o := 176) (fs := [.ref (ad g 177), .int 0, .ref (ad g 178), .int 0, .null, .int 0, .null, .null, .int 0, .null, .int 0, .null, .null, .null, .null, .null, .null, .null, .null, .int 0, .int 0, .int 0, .int 0, .null, .null, .null, .int 0, .int 0]) (v := .ref (ad g 179)) (ty := tyX10 4) dX10_init_24 inX10 tyX10_ok nmX10 rfl (by decide) ((updE_n (by decide)).trans (updE_s _ _ _)) (by decide) rfl rfl rfl rfl rfl (Nat.le_of_ble_eq_true rfl) kf10_16 ?_
  refine bw_aload_n dX10_init_27 rfl ?_
  refine bw_bi (nI 121) dX10_init_28 (by decide) ?_
  refine bw_newa_int (N := 121) dX10_init_30 rfl (by decide) (Nat.le_of_ble_eq_true rfl) (Nat.le_of_ble_eq_true rfl) ?_
  refine bw_N (n' := 181) (cu' := 4) (su' := 300) rfl rfl rfl ?_
  refine bw_put (ci := 10) (k := 6) (o := 176) (fs := [.ref (ad g 177), .int 0, .ref (ad g 178), .int 0, .ref (ad g 179), .int 0, .null, .null, .int 0, .null, .int 0, .null, .null, .null, .null, .null, .null, .null, .null, .int 0, .int 0, .int 0, .int 0, .null, .null, .null, .int 0, .int 0]) (v := .ref (ad g 180)) (ty := tyX10 6) dX10_init_32 inX10 tyX10_ok nmX10 rfl (by decide) ((updE_n (by decide)).trans (updE_s _ _ _)) (by decide) rfl rfl rfl rfl rfl (Nat.le_of_ble_eq_true rfl) kf10_19 ?_
  refine bw_aload_n dX10_init_35 rfl ?_
  refine bw_si (nI 168) dX10_init_36 (by decide) ?_
  refine bw_newa_int (N := 168) dX10_init_39 rfl (by decide) (Nat.le_of_ble_eq_true rfl) (Nat.le_of_ble_eq_true rfl) ?_
  refine bw_N (n' := 182) (cu' := 5) (su' := 468) rfl rfl rfl ?_
  refine bw_put (ci := 10) (k := 7) (o := 176) (fs := [.ref (ad g 177), .int 0, .ref (ad g 178), .int 0, .ref (ad g 179), .int 0, .ref (ad g 180), .null, .int 0, .null, .int 0, .null, .null, .null, .null, .null, .null, .null, .null, .int 0, .int 0, .int 0, .int 0, .null, .null, .null, .int 0, .int 0]) (v := .ref (ad g 181)) (ty := tyX10 7) dX10_init_41 inX10 tyX10_ok nmX10 rfl (by decide) ((updE_n (by decide)).trans (updE_s _ _ _)) (by decide) rfl rfl rfl rfl rfl (Nat.le_of_ble_eq_true rfl) kf10_22 ?_
  refine bw_aload_n dX10_init_44 rfl ?_
  refine bw_bi (nI 24) dX10_init_45 (by decide) ?_
  refine bw_newa_int (N := 24) dX10_init_47 rfl (by decide) (Nat.le_of_ble_eq_true rfl) (Nat.le_of_ble_eq_true rfl) ?_
  refine bw_N (n' := 183) (cu' := 6) (su' := 492) rfl rfl rfl ?_
  refine bw_put (ci := 10) (k := 9) (o := 176) (fs := [.ref (ad g 177), .int 0, .ref (ad g 178), .int 0, .ref (ad g 179), .int 0, .ref (ad g 180), .ref (ad g 181), .int 0, .null, .int 0, .null, .null, .null, .null, .null, .null, .null, .null, .int 0, .int 0, .int 0, .int 0, .null, .null, .null, .int 0, .int 0]) (v := .ref (ad g 182)) (ty := tyX10 9) dX10_init_49 inX10 tyX10_ok nmX10 rfl (by decide) ((updE_n (by decide)).trans (updE_s _ _ _)) (by decide) rfl rfl rfl rfl rfl (Nat.le_of_ble_eq_true rfl) kf10_25 ?_
  refine bw_aload_n dX10_init_52 rfl ?_
  refine bw_si (nI 264) dX10_init_53 (by decide) ?_
  refine bw_newa_int (N := 264) dX10_init_56 rfl (by decide) (Nat.le_of_ble_eq_true rfl) (Nat.le_of_ble_eq_true rfl) ?_
  refine bw_N (n' := 184) (cu' := 7) (su' := 756) rfl rfl rfl ?_
  refine bw_put (ci := 10) (k := 11) (o := 176) (fs := [.ref (ad g 177), .int 0, .ref (ad g 178), .int 0, .ref (ad g 179), .int 0, .ref (ad g 180), .ref (ad g 181), .int 0, .ref (ad g 182), .int 0, .null, .null, .null, .null, .null, .null, .null, .null, .int 0, .int 0, .int 0, .int 0, .null, .null, .null, .int 0, .int 0]) (v := .ref (ad g 183)) (ty := tyX10 11) dX10_init_58 inX10 tyX10_ok nmX10 rfl (by decide) ((updE_n (by decide)).trans (updE_s _ _ _)) (by decide) rfl rfl rfl rfl rfl (Nat.le_of_ble_eq_true rfl) kf10_28 ?_
  refine bw_aload_n dX10_init_61 rfl ?_
  refine bw_bi (nI 12) dX10_init_62 (by decide) ?_
  refine bw_newa_int (N := 12) dX10_init_64 rfl (by decide) (Nat.le_of_ble_eq_true rfl) (Nat.le_of_ble_eq_true rfl) ?_
  refine bw_N (n' := 185) (cu' := 8) (su' := 768) rfl rfl rfl ?_
  refine bw_put (ci := 10) (k := 12) (o := 176) (fs := [.ref (ad g 177), .int 0, .ref (ad g 178), .int 0, .ref (ad g 179), .int 0, .ref (ad g 180), .ref (ad g 181), .int 0, .ref (ad g 182), .int 0, .ref (ad g 183), .null, .null, .null, .null, .null, .null, .null, .int 0, .int 0, .int 0, .int 0, .null, .null, .null, .int 0, .int 0]) (v := .ref (ad g 184)) (ty := tyX10 12) dX10_init_66 inX10 tyX10_ok nmX10 rfl (by decide) ((updE_n (by decide)).trans (updE_s _ _ _)) (by decide) rfl rfl rfl rfl rfl (Nat.le_of_ble_eq_true rfl) kf10_31 ?_
  refine bw_aload_n dX10_init_69 rfl ?_
  refine bw_bi (nI 7) dX10_init_70 (by decide) ?_
  refine bw_newa_int (N := 7) dX10_init_72 rfl (by decide) (Nat.le_of_ble_eq_true rfl) (Nat.le_of_ble_eq_true rfl) ?_
  refine bw_N (n' := 186) (cu' := 9) (su' := 775) rfl rfl rfl ?_
  refine bw_put (ci := 10) (k := 13) (o := 176) (fs := [.ref (ad g 177), .int 0, .ref (ad g 178), .int 0, .ref (ad g 179), .int 0, .ref (ad g 180), .ref (ad g 181), .int 0, .ref (ad g 182), .int 0, .ref (ad g 183), .ref (ad g 184), .null, .null, .null, .null, .null, .null, .int 0, .int 0, .int 0, .int 0, .null, .null, .null, .int 0, .int 0]) (v := .ref (ad g 185)) (ty := tyX10 13) dX10_init_74 inX10 tyX10_ok nmX10 rfl (by decide) ((updE_n (by decide)).trans (updE_s _ _ _)) (by decide) rfl rfl rfl rfl rfl (Nat.le_of_ble_eq_true rfl) kf10_34 ?_
  refine bw_aload_n dX10_init_77 rfl ?_
  refine bw_bi (nI 7) dX10_init_78 (by decide) ?_
  refine bw_newa_int (N := 7) dX10_init_80 rfl (by decide) (Nat.le_of_ble_eq_true rfl) (Nat.le_of_ble_eq_true rfl) ?_
  refine bw_N (n' := 187) (cu' := 10) (su' := 782) rfl rfl rfl ?_
  refine bw_put (ci := 10) (k := 14) (o := 176) (fs := [.ref (ad g 177), .int 0, .ref (ad g 178), .int 0, .ref (ad g 179), .int 0, .ref (ad g 180), .ref (ad g 181), .int 0, .ref (ad g 182), .int 0, .ref (ad g 183), .ref (ad g 184), .ref (ad g 185), .null, .null, .null, .null, .null, .int 0, .int 0, .int 0, .int 0, .null, .null, .null, .int 0, .int 0]) (v := .ref (ad g 186)) (ty := tyX10 14) dX10_init_82 inX10 tyX10_ok nmX10 rfl (by decide) ((updE_n (by decide)).trans (updE_s _ _ _)) (by decide) rfl rfl rfl rfl rfl (Nat.le_of_ble_eq_true rfl) kf10_37 ?_
  refine bw_aload_n dX10_init_85 rfl ?_
  refine bw_bi (nI 121) dX10_init_86 (by decide) ?_
  refine bw_newa_int (N := 121) dX10_init_88 rfl (by decide) (Nat.le_of_ble_eq_true rfl) (Nat.le_of_ble_eq_true rfl) ?_
  refine bw_N (n' := 188) (cu' := 11) (su' := 903) rfl rfl rfl ?_
  refine bw_put (ci := 10) (k := 15) (o := 176) (fs := [.ref (ad g 177), .int 0, .ref (ad g 178), .int 0, .ref (ad g 179), .int 0, .ref (ad g 180), .ref (ad g 181), .int 0, .ref (ad g 182), .int 0, .ref (ad g 183), .ref (ad g 184), .ref (ad g 185), .ref (ad g 186), .null, .null, .null, .null, .int 0, .int 0, .int 0, .int 0, .null, .null, .null, .int 0, .int 0]) (v := .ref (ad g 187)) (ty := tyX10 15) dX10_init_90 inX10 tyX10_ok nmX10 rfl (by decide) ((updE_n (by decide)).trans (updE_s _ _ _)) (by decide) rfl rfl rfl rfl rfl (Nat.le_of_ble_eq_true rfl) kf10_40 ?_
  refine bw_aload_n dX10_init_93 rfl ?_
  refine bw_si (nI 726) dX10_init_94 (by decide) ?_
  refine bw_newa_int (N := 726) dX10_init_97 rfl (by decide) (Nat.le_of_ble_eq_true rfl) (Nat.le_of_ble_eq_true rfl) ?_
  refine bw_N (n' := 189) (cu' := 12) (su' := 1629) rfl rfl rfl ?_
  refine bw_put (ci := 10) (k := 16) (o := 176) (fs := [.ref (ad g 177), .int 0, .ref (ad g 178), .int 0, .ref (ad g 179), .int 0, .ref (ad g 180), .ref (ad g 181), .int 0, .ref (ad g 182), .int 0, .ref (ad g 183), .ref (ad g 184), .ref (ad g 185), .ref (ad g 186), .ref (ad g 187), .null, .null, .null, .int 0, .int 0, .int 0, .int 0, .null, .null, .null, .int 0, .int 0]) (v := .ref (ad g 188)) (ty := tyX10 16) dX10_init_99 inX10 tyX10_ok nmX10 rfl (by decide) ((updE_n (by decide)).trans (updE_s _ _ _)) (by decide) rfl rfl rfl rfl rfl (Nat.le_of_ble_eq_true rfl) kf10_43 ?_
  refine bw_aload_n dX10_init_102 rfl ?_
  refine bw_bi (nI 20) dX10_init_103 (by decide) ?_
  refine bw_newa_int (N := 20) dX10_init_105 rfl (by decide) (Nat.le_of_ble_eq_true rfl) (Nat.le_of_ble_eq_true rfl) ?_
  refine bw_N (n' := 190) (cu' := 13) (su' := 1649) rfl rfl rfl ?_
  refine bw_put (ci := 10) (k := 17) (o := 176) (fs := [.ref (ad g 177), .int 0, .ref (ad g 178), .int 0, .ref (ad g 179), .int 0, .ref (ad g 180), .ref (ad g 181), .int 0, .ref (ad g 182), .int 0, .ref (ad g 183), .ref (ad g 184), .ref (ad g 185), .ref (ad g 186), .ref (ad g 187), .ref (ad g 188), .null, .null, .int 0, .int 0, .int 0, .int 0, .null, .null, .null, .int 0, .int 0]) (v := .ref (ad g 189)) (ty := tyX10 17) dX10_init_107 inX10 tyX10_ok nmX10 rfl (by decide) ((updE_n (by decide)).trans (updE_s _ _ _)) (by decide) rfl rfl rfl rfl rfl (Nat.le_of_ble_eq_true rfl) kf10_46 ?_
  refine bw_aload_n dX10_init_110 rfl ?_
  refine bw_bi (nI 20) dX10_init_111 (by decide) ?_
  refine bw_newa_int (N := 20) dX10_init_113 rfl (by decide) (Nat.le_of_ble_eq_true rfl) (Nat.le_of_ble_eq_true rfl) ?_
  refine bw_N (n' := 191) (cu' := 14) (su' := 1669) rfl rfl rfl ?_
  refine bw_put (ci := 10) (k := 18) (o := 176) (fs := [.ref (ad g 177), .int 0, .ref (ad g 178), .int 0, .ref (ad g 179), .int 0, .ref (ad g 180), .ref (ad g 181), .int 0, .ref (ad g 182), .int 0, .ref (ad g 183), .ref (ad g 184), .ref (ad g 185), .ref (ad g 186), .ref (ad g 187), .ref (ad g 188), .ref (ad g 189), .null, .int 0, .int 0, .int 0, .int 0, .null, .null, .null, .int 0, .int 0]) (v := .ref (ad g 190)) (ty := tyX10 18) dX10_init_115 inX10 tyX10_ok nmX10 rfl (by decide) ((updE_n (by decide)).trans (updE_s _ _ _)) (by decide) rfl rfl rfl rfl rfl (Nat.le_of_ble_eq_true rfl) kf10_49 ?_
  refine bw_aload_n dX10_init_118 rfl ?_
  refine bw_bi (nI 96) dX10_init_119 (by decide) ?_
  refine bw_newa_int (N := 96) dX10_init_121 rfl (by decide) (Nat.le_of_ble_eq_true rfl) (Nat.le_of_ble_eq_true rfl) ?_
  refine bw_N (n' := 192) (cu' := 15) (su' := 1765) rfl rfl rfl ?_
  refine bw_put (ci := 10) (k := 23) (o := 176) (fs := [.ref (ad g 177), .int 0, .ref (ad g 178), .int 0, .ref (ad g 179), .int 0, .ref (ad g 180), .ref (ad g 181), .int 0, .ref (ad g 182), .int 0, .ref (ad g 183), .ref (ad g 184), .ref (ad g 185), .ref (ad g 186), .ref (ad g 187), .ref (ad g 188), .ref (ad g 189), .ref (ad g 190), .int 0, .int 0, .int 0, .int 0, .null, .null, .null, .int 0, .int 0]) (v := .ref (ad g 191)) (ty := tyX10 23) dX10_init_123 inX10 tyX10_ok nmX10 rfl (by decide) ((updE_n (by decide)).trans (updE_s _ _ _)) (by decide) rfl rfl rfl rfl rfl (Nat.le_of_ble_eq_true rfl) kf10_52 ?_
  refine bw_aload_n dX10_init_126 rfl ?_
  refine bw_si (nI 362) dX10_init_127 (by decide) ?_
  refine bw_newa_int (N := 362) dX10_init_130 rfl (by decide) (Nat.le_of_ble_eq_true rfl) (Nat.le_of_ble_eq_true rfl) ?_
  refine bw_N (n' := 193) (cu' := 16) (su' := 2127) rfl rfl rfl ?_
  refine bw_put (ci := 10) (k := 24) (o := 176) (fs := [.ref (ad g 177), .int 0, .ref (ad g 178), .int 0, .ref (ad g 179), .int 0, .ref (ad g 180), .ref (ad g 181), .int 0, .ref (ad g 182), .int 0, .ref (ad g 183), .ref (ad g 184), .ref (ad g 185), .ref (ad g 186), .ref (ad g 187), .ref (ad g 188), .ref (ad g 189), .ref (ad g 190), .int 0, .int 0, .int 0, .int 0, .ref (ad g 191), .null, .null, .int 0, .int 0]) (v := .ref (ad g 192)) (ty := tyX10 24) dX10_init_132 inX10 tyX10_ok nmX10 rfl (by decide) ((updE_n (by decide)).trans (updE_s _ _ _)) (by decide) rfl rfl rfl rfl rfl (Nat.le_of_ble_eq_true rfl) kf10_55 ?_
  refine bw_aload_n dX10_init_135 rfl ?_
  refine bw_ic (nI 2) dX10_init_136 (by decide) ?_
  refine bw_newa_bool (N := 2) dX10_init_137 rfl (by decide) (Nat.le_of_ble_eq_true rfl) (Nat.le_of_ble_eq_true rfl) ?_
  refine bw_N (n' := 194) (cu' := 17) (su' := 2129) rfl rfl rfl ?_
  refine bw_put (ci := 10) (k := 25) (o := 176) (fs := [.ref (ad g 177), .int 0, .ref (ad g 178), .int 0, .ref (ad g 179), .int 0, .ref (ad g 180), .ref (ad g 181), .int 0, .ref (ad g 182), .int 0, .ref (ad g 183), .ref (ad g 184), .ref (ad g 185), .ref (ad g 186), .ref (ad g 187), .ref (ad g 188), .ref (ad g 189), .ref (ad g 190), .int 0, .int 0, .int 0, .int 0, .ref (ad g 191), .ref (ad g 192), .null, .int 0, .int 0]) (v := .ref (ad g 193)) (ty := tyX10 25) dX10_init_139 inX10 tyX10_ok nmX10 rfl (by decide) ((updE_n (by decide)).trans (updE_s _ _ _)) (by decide) rfl rfl rfl rfl rfl (Nat.le_of_ble_eq_true rfl) kf10_58 ?_
  refine bw_aload_n dX10_init_142 rfl ?_
  refine bw_get (ci := 10) (k := 4) (o := 176) (fs := [.ref (ad g 177), .int 0, .ref (ad g 178), .int 0, .ref (ad g 179), .int 0, .ref (ad g 180), .ref (ad g 181), .int 0, .ref (ad g 182), .int 0, .ref (ad g 183), .ref (ad g 184), .ref (ad g 185), .ref (ad g 186), .ref (ad g 187), .ref (ad g 188), .ref (ad g 189), .ref (ad g 190), .int 0, .int 0, .int 0, .int 0, .ref (ad g 191), .ref (ad g 192), .ref (ad g 193), .int 0, .int 0]) (v := .ref (ad g 179)) dX10_init_143 inX10 rfl (by decide) (updE_s _ _ _) (by decide) rfl rfl kf10_16 ?_
  refine bw_ic (nI 0) dX10_init_146 (by decide) ?_
  refine bw_ic (nI 1) dX10_init_147 (by decide) ?_
  refine bw_iast (o := 179) (n := 3) (i := 0) (f := fun _ => 0) dX10_init_148 (by decide) ((updE_n (by decide)).trans ((updE_n (by decide)).trans ((updE_n (by decide)).trans ((updE_n (by decide)).trans ((updE_n (by decide)).trans ((updE_n (by decide)).trans ((updE_n (by decide)).trans ((updE_n (by decide)).trans ((updE_n (by decide)).trans ((updE_n (by decide)).trans ((updE_n (by decide)).trans ((updE_n (by decide)).trans ((updE_n (by decide)).trans ((updE_n (by decide)).trans ((updE_n (by decide)).trans ((updE_n (by decide)).trans ((updE_n (by decide)).trans ((updE_n (by decide)).trans ((updE_n (by decide)).trans ((updE_n (by decide)).trans ((updE_n (by decide)).trans ((updE_n (by decide)).trans ((updE_n (by decide)).trans ((updE_n (by decide)).trans ((updE_n (by decide)).trans ((updE_n (by decide)).trans ((updE_n (by decide)).trans ((updE_n (by decide)).trans ((updE_n (by decide)).trans (updE_s _ _ _)))))))))))))))))))))))))))))) rfl (by decide) (by decide) ?_
  refine bw_aload_n dX10_init_149 rfl ?_
  refine bw_get (ci := 10) (k := 4) (o := 176) (fs := [.ref (ad g 177), .int 0, .ref (ad g 178), .int 0, .ref (ad g 179), .int 0, .ref (ad g 180), .ref (ad g 181), .int 0, .ref (ad g 182), .int 0, .ref (ad g 183), .ref (ad g 184), .ref (ad g 185), .ref (ad g 186), .ref (ad g 187), .ref (ad g 188), .ref (ad g 189), .ref (ad g 190), .int 0, .int 0, .int 0, .int 0, .ref (ad g 191), .ref (ad g 192), .ref (ad g 193), .int 0, .int 0]) (v := .ref (ad g 179)) dX10_init_150 inX10 rfl (by decide) ((updE_n (by decide)).trans (updE_s _ _ _)) (by decide) rfl rfl kf10_16 ?_
  refine bw_ic (nI 1) dX10_init_153 (by decide) ?_
  refine bw_ic (nI 2) dX10_init_154 (by decide) ?_
  refine bw_iast (o := 179) (n := 3) (i := 1) (f := (upd (fun _ => 0) 0 (nI 1))) dX10_init_155 (by decide) (updE_s _ _ _) rfl (by decide) (by decide) ?_
  refine bw_aload_n dX10_init_156 rfl ?_
  refine bw_get (ci := 10) (k := 4) (o := 176) (fs := [.ref (ad g 177), .int 0, .ref (ad g 178), .int 0, .ref (ad g 179), .int 0, .ref (ad g 180), .ref (ad g 181), .int 0, .ref (ad g 182), .int 0, .ref (ad g 183), .ref (ad g 184), .ref (ad g 185), .ref (ad g 186), .ref (ad g 187), .ref (ad g 188), .ref (ad g 189), .ref (ad g 190), .int 0, .int 0, .int 0, .int 0, .ref (ad g 191), .ref (ad g 192), .ref (ad g 193), .int 0, .int 0]) (v := .ref (ad g 179)) dX10_init_157 inX10 rfl (by decide) ((updE_n (by decide)).trans ((updE_n (by decide)).trans (updE_s _ _ _))) (by decide) rfl rfl kf10_16 ?_
  refine bw_ic (nI 2) dX10_init_160 (by decide) ?_
  refine bw_ic (nI 1) dX10_init_161 (by decide) ?_
  refine bw_iast (o := 179) (n := 3) (i := 2) (f := (upd ((upd (fun _ => 0) 0 (nI 1))) 1 (nI 2))) dX10_init_162 (by decide) (updE_s _ _ _) rfl (by decide) (by decide) ?_
  refine bw_ret dX10_init_163 (Nat.le_of_ble_eq_true rfl) (Nat.le_of_ble_eq_true rfl) ⟨fun k hk => ?_, fun k h1_ h2_ => ?_⟩
  · exact ((updE_n (by omega)).trans ((updE_n (by omega)).trans ((updE_n (by omega)).trans ((updE_n (by omega)).trans ((updE_n (by omega)).trans ((updE_n (by omega)).trans ((updE_n (by omega)).trans ((updE_n (by omega)).trans ((updE_n (by omega)).trans ((updE_n (by omega)).trans ((updE_n (by omega)).trans ((updE_n (by omega)).trans ((updE_n (by omega)).trans ((updE_n (by omega)).trans ((updE_n (by omega)).trans ((updE_n (by omega)).trans ((updE_n (by omega)).trans ((updE_n (by omega)).trans ((updE_n (by omega)).trans ((updE_n (by omega)).trans ((updE_n (by omega)).trans ((updE_n (by omega)).trans ((updE_n (by omega)).trans ((updE_n (by omega)).trans ((updE_n (by omega)).trans ((updE_n (by omega)).trans ((updE_n (by omega)).trans ((updE_n (by omega)).trans ((updE_n (by omega)).trans ((updE_n (by omega)).trans ((updE_n (by omega)).trans ((updE_n (by omega)).trans ((updE_n (by omega)).trans ((updE_n (by omega)).trans ((updE_n (by omega)).trans ((updE_n (by omega)).trans ((updE_n (by omega)).trans rfl)))))))))))))))))))))))))))))))))))))
  · rcases (by omega : k = 176 ∨ k = 177 ∨ k = 178 ∨ k = 179 ∨ k = 180 ∨ k = 181 ∨ k = 182 ∨ k = 183 ∨ k = 184 ∨ k = 185 ∨ k = 186 ∨ k = 187 ∨ k = 188 ∨ k = 189 ∨ k = 190 ∨ k = 191 ∨ k = 192 ∨ k = 193) with rfl | rfl | rfl | rfl | rfl | rfl | rfl | rfl | rfl | rfl | rfl | rfl | rfl | rfl | rfl | rfl | rfl | rfl
    · exact ((updE_n (by decide)).trans ((updE_n (by decide)).trans ((updE_n (by decide)).trans ((updE_s _ _ _).trans (cl_is k_176 rfl)))))
    · exact ((updE_n (by decide)).trans ((updE_n (by decide)).trans ((updE_n (by decide)).trans ((updE_n (by decide)).trans ((updE_n (by decide)).trans ((updE_n (by decide)).trans ((updE_n (by decide)).trans ((updE_n (by decide)).trans ((updE_n (by decide)).trans ((updE_n (by decide)).trans ((updE_n (by decide)).trans ((updE_n (by decide)).trans ((updE_n (by decide)).trans ((updE_n (by decide)).trans ((updE_n (by decide)).trans ((updE_n (by decide)).trans ((updE_n (by decide)).trans ((updE_n (by decide)).trans ((updE_n (by decide)).trans ((updE_n (by decide)).trans ((updE_n (by decide)).trans ((updE_n (by decide)).trans ((updE_n (by decide)).trans ((updE_n (by decide)).trans ((updE_n (by decide)).trans ((updE_n (by decide)).trans ((updE_n (by decide)).trans ((updE_n (by decide)).trans ((updE_n (by decide)).trans ((updE_n (by decide)).trans ((updE_n (by decide)).trans ((updE_n (by decide)).trans ((updE_n (by decide)).trans ((updE_n (by decide)).trans ((updE_n (by decide)).trans ((updE_n (by decide)).trans ((updE_s _ _ _).trans (cl_is k_177 rfl))))))))))))))))))))))))))))))))))))))
    · exact ((updE_n (by decide)).trans ((updE_n (by decide)).trans ((updE_n (by decide)).trans ((updE_n (by decide)).trans ((updE_n (by decide)).trans ((updE_n (by decide)).trans ((updE_n (by decide)).trans ((updE_n (by decide)).trans ((updE_n (by decide)).trans ((updE_n (by decide)).trans ((updE_n (by decide)).trans ((updE_n (by decide)).trans ((updE_n (by decide)).trans ((updE_n (by decide)).trans ((updE_n (by decide)).trans ((updE_n (by decide)).trans ((updE_n (by decide)).trans ((updE_n (by decide)).trans ((updE_n (by decide)).trans ((updE_n (by decide)).trans ((updE_n (by decide)).trans ((updE_n (by decide)).trans ((updE_n (by decide)).trans ((updE_n (by decide)).trans ((updE_n (by decide)).trans ((updE_n (by decide)).trans ((updE_n (by decide)).trans ((updE_n (by decide)).trans ((updE_n (by decide)).trans ((updE_n (by decide)).trans ((updE_n (by decide)).trans ((updE_n (by decide)).trans ((updE_n (by decide)).trans ((updE_n (by decide)).trans ((updE_s _ _ _).trans (cl_is k_178 rfl))))))))))))))))))))))))))))))))))))
    · exact ((updE_s _ _ _).trans (cl_is k_179 rfl))
    · exact ((updE_n (by decide)).trans ((updE_n (by decide)).trans ((updE_n (by decide)).trans ((updE_n (by decide)).trans ((updE_n (by decide)).trans ((updE_n (by decide)).trans ((updE_n (by decide)).trans ((updE_n (by decide)).trans ((updE_n (by decide)).trans ((updE_n (by decide)).trans ((updE_n (by decide)).trans ((updE_n (by decide)).trans ((updE_n (by decide)).trans ((updE_n (by decide)).trans ((updE_n (by decide)).trans ((updE_n (by decide)).trans ((updE_n (by decide)).trans ((updE_n (by decide)).trans ((updE_n (by decide)).trans ((updE_n (by decide)).trans ((updE_n (by decide)).trans ((updE_n (by decide)).trans ((updE_n (by decide)).trans ((updE_n (by decide)).trans ((updE_n (by decide)).trans ((updE_n (by decide)).trans ((updE_n (by decide)).trans ((updE_n (by decide)).trans ((updE_n (by decide)).trans ((updE_n (by decide)).trans ((updE_s _ _ _).trans (cl_is k_180 rfl))))))))))))))))))))))))))))))))
    · exact ((updE_n (by decide)).trans ((updE_n (by decide)).trans ((updE_n (by decide)).trans ((updE_n (by decide)).trans ((updE_n (by decide)).trans ((updE_n (by decide)).trans ((updE_n (by decide)).trans ((updE_n (by decide)).trans ((updE_n (by decide)).trans ((updE_n (by decide)).trans ((updE_n (by decide)).trans ((updE_n (by decide)).trans ((updE_n (by decide)).trans ((updE_n (by decide)).trans ((updE_n (by decide)).trans ((updE_n (by decide)).trans ((updE_n (by decide)).trans ((updE_n (by decide)).trans ((updE_n (by decide)).trans ((updE_n (by decide)).trans ((updE_n (by decide)).trans ((updE_n (by decide)).trans ((updE_n (by decide)).trans ((updE_n (by decide)).trans ((updE_n (by decide)).trans ((updE_n (by decide)).trans ((updE_n (by decide)).trans ((updE_n (by decide)).trans ((updE_s _ _ _).trans (cl_is k_181 rfl))))))))))))))))))))))))))))))
    · exact ((updE_n (by decide)).trans ((updE_n (by decide)).trans ((updE_n (by decide)).trans ((updE_n (by decide)).trans ((updE_n (by decide)).trans ((updE_n (by decide)).trans ((updE_n (by decide)).trans ((updE_n (by decide)).trans ((updE_n (by decide)).trans ((updE_n (by decide)).trans ((updE_n (by decide)).trans ((updE_n (by decide)).trans ((updE_n (by decide)).trans ((updE_n (by decide)).trans ((updE_n (by decide)).trans ((updE_n (by decide)).trans ((updE_n (by decide)).trans ((updE_n (by decide)).trans ((updE_n (by decide)).trans ((updE_n (by decide)).trans ((updE_n (by decide)).trans ((updE_n (by decide)).trans ((updE_n (by decide)).trans ((updE_n (by decide)).trans ((updE_n (by decide)).trans ((updE_n (by decide)).trans ((updE_s _ _ _).trans (cl_is k_182 rfl))))))))))))))))))))))))))))
    · exact ((updE_n (by decide)).trans ((updE_n (by decide)).trans ((updE_n (by decide)).trans ((updE_n (by decide)).trans ((updE_n (by decide)).trans ((updE_n (by decide)).trans ((updE_n (by decide)).trans ((updE_n (by decide)).trans ((updE_n (by decide)).trans ((updE_n (by decide)).trans ((updE_n (by decide)).trans ((updE_n (by decide)).trans ((updE_n (by decide)).trans ((updE_n (by decide)).trans ((updE_n (by decide)).trans ((updE_n (by decide)).trans ((updE_n (by decide)).trans ((updE_n (by decide)).trans ((updE_n (by decide)).trans ((updE_n (by decide)).trans ((updE_n (by decide)).trans ((updE_n (by decide)).trans ((updE_n (by decide)).trans ((updE_n (by decide)).trans ((updE_s _ _ _).trans (cl_is k_183 rfl))))))))))))))))))))))))))
    · exact ((updE_n (by decide)).trans ((updE_n (by decide)).trans ((updE_n (by decide)).trans ((updE_n (by decide)).trans ((updE_n (by decide)).trans ((updE_n (by decide)).trans ((updE_n (by decide)).trans ((updE_n (by decide)).trans ((updE_n (by decide)).trans ((updE_n (by decide)).trans ((updE_n (by decide)).trans ((updE_n (by decide)).trans ((updE_n (by decide)).trans ((updE_n (by decide)).trans ((updE_n (by decide)).trans ((updE_n (by decide)).trans ((updE_n (by decide)).trans ((updE_n (by decide)).trans ((updE_n (by decide)).trans ((updE_n (by decide)).trans ((updE_n (by decide)).trans ((updE_n (by decide)).trans ((updE_s _ _ _).trans (cl_is k_184 rfl))))))))))))))))))))))))
    · exact ((updE_n (by decide)).trans ((updE_n (by decide)).trans ((updE_n (by decide)).trans ((updE_n (by decide)).trans ((updE_n (by decide)).trans ((updE_n (by decide)).trans ((updE_n (by decide)).trans ((updE_n (by decide)).trans ((updE_n (by decide)).trans ((updE_n (by decide)).trans ((updE_n (by decide)).trans ((updE_n (by decide)).trans ((updE_n (by decide)).trans ((updE_n (by decide)).trans ((updE_n (by decide)).trans ((updE_n (by decide)).trans ((updE_n (by decide)).trans ((updE_n (by decide)).trans ((updE_n (by decide)).trans ((updE_n (by decide)).trans ((updE_s _ _ _).trans (cl_is k_185 rfl))))))))))))))))))))))
    · exact ((updE_n (by decide)).trans ((updE_n (by decide)).trans ((updE_n (by decide)).trans ((updE_n (by decide)).trans ((updE_n (by decide)).trans ((updE_n (by decide)).trans ((updE_n (by decide)).trans ((updE_n (by decide)).trans ((updE_n (by decide)).trans ((updE_n (by decide)).trans ((updE_n (by decide)).trans ((updE_n (by decide)).trans ((updE_n (by decide)).trans ((updE_n (by decide)).trans ((updE_n (by decide)).trans ((updE_n (by decide)).trans ((updE_n (by decide)).trans ((updE_n (by decide)).trans ((updE_s _ _ _).trans (cl_is k_186 rfl))))))))))))))))))))
    · exact ((updE_n (by decide)).trans ((updE_n (by decide)).trans ((updE_n (by decide)).trans ((updE_n (by decide)).trans ((updE_n (by decide)).trans ((updE_n (by decide)).trans ((updE_n (by decide)).trans ((updE_n (by decide)).trans ((updE_n (by decide)).trans ((updE_n (by decide)).trans ((updE_n (by decide)).trans ((updE_n (by decide)).trans ((updE_n (by decide)).trans ((updE_n (by decide)).trans ((updE_n (by decide)).trans ((updE_n (by decide)).trans ((updE_s _ _ _).trans (cl_is k_187 rfl))))))))))))))))))
    · exact ((updE_n (by decide)).trans ((updE_n (by decide)).trans ((updE_n (by decide)).trans ((updE_n (by decide)).trans ((updE_n (by decide)).trans ((updE_n (by decide)).trans ((updE_n (by decide)).trans ((updE_n (by decide)).trans ((updE_n (by decide)).trans ((updE_n (by decide)).trans ((updE_n (by decide)).trans ((updE_n (by decide)).trans ((updE_n (by decide)).trans ((updE_n (by decide)).trans ((updE_s _ _ _).trans (cl_is k_188 rfl))))))))))))))))
    · exact ((updE_n (by decide)).trans ((updE_n (by decide)).trans ((updE_n (by decide)).trans ((updE_n (by decide)).trans ((updE_n (by decide)).trans ((updE_n (by decide)).trans ((updE_n (by decide)).trans ((updE_n (by decide)).trans ((updE_n (by decide)).trans ((updE_n (by decide)).trans ((updE_n (by decide)).trans ((updE_n (by decide)).trans ((updE_s _ _ _).trans (cl_is k_189 rfl))))))))))))))
    · exact ((updE_n (by decide)).trans ((updE_n (by decide)).trans ((updE_n (by decide)).trans ((updE_n (by decide)).trans ((updE_n (by decide)).trans ((updE_n (by decide)).trans ((updE_n (by decide)).trans ((updE_n (by decide)).trans ((updE_n (by decide)).trans ((updE_n (by decide)).trans ((updE_s _ _ _).trans (cl_is k_190 rfl))))))))))))
    · exact ((updE_n (by decide)).trans ((updE_n (by decide)).trans ((updE_n (by decide)).trans ((updE_n (by decide)).trans ((updE_n (by decide)).trans ((updE_n (by decide)).trans ((updE_n (by decide)).trans ((updE_n (by decide)).trans ((updE_s _ _ _).trans (cl_is k_191 rfl))))))))))
    · exact ((updE_n (by decide)).trans ((updE_n (by decide)).trans ((updE_n (by decide)).trans ((updE_n (by decide)).trans ((updE_n (by decide)).trans ((updE_n (by decide)).trans ((updE_s _ _ _).trans (cl_is k_192 rfl))))))))
    · exact ((updE_n (by decide)).trans ((updE_n (by decide)).trans ((updE_n (by decide)).trans ((updE_n (by decide)).trans ((updE_s _ _ _).trans (cl_is k_193 rfl))))))
