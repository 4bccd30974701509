section LWC2
variable {p : Program} {l : Launch} {e : Env} {s : State} {m : MethodId} {below : List Frame} {meth : Method} {c : Code} {H : Heap} {locs : List Loc} {cells slots : Nat} {Q : State → Prop} {ls : Array Slot} {g : XG} {σ : Mem} {b L : Nat} {xs : Nat → Int32} {i : Int32}
set_option maxHeartbeats 1000000 in
set_option maxRecDepth 100000 in
theorem lwc_24 (C : LwC p s m c b L xs g) (hin : LwI L i) (hR : RLq σ) (hW : Wd g 0 81 σ H) (hS : va_S (Ag g 0) s.heap H locs) (hl : lv_has ls 7 (lwL b g i)) (hcs : cells + 1 ≤ 601024 ∧ slots + 6 ≤ 7293034) (kk : LwK p l e s m below meth c b g i (cells + 1) (slots + 6) Q) : W p l e room_1 s m #[Value.ref b] below meth c H locs cells slots Q (F0 m 944 ls []) := by
  obtain ⟨hx, hb, hml, hown, hts, hX, hbl, hbA, hZ, hT, hXN⟩ := C
  have hz0 : cells + 0 ≤ room_1.cells ∧ slots + 0 ≤ room_1.slots := ⟨by have := hcs.1; show cells ≤ 601024; omega, by have := hcs.2; show slots ≤ 7293034; omega⟩
  obtain ⟨r, σ1, σ2, e1, e2, hR2⟩ := rel_bestDay σ hR (xs (i + 1).toNatClampNeg)
  refine lv_aload_n hx hb dL_law_944 rfl (lv_at hl 1 rfl) ?_
  refine lv_aload_n hx hb dL_law_945 rfl (lv_at hl 0 rfl) ?_
  refine lv_iload hx hb dL_law_946 (lv_at hl 4 rfl) ?_
  refine lv_iconst (v := 1) hx hb dL_law_948 (by decide) ?_
  refine lv_iadd hx hb dL_law_949 ?_
  refine va_sld hx hb hX hbl hbA hS hin.1 dL_law_950 ?_
  refine lwi (va_runV (As := [.int (xs (i + 1).toNatClampNeg)]) (rest := []) ⟨hx, hb, hml, hown, hts⟩ (c_X12_bestDay g l σ (xs (i + 1).toNatClampNeg) r σ1 e1) (cwV 1 hts (gdV lm_L_119 lim_X12_bestDay lse_X12_bestDay ini_X12 lc_X12_bestDay) rfl rfl rfl (by decide +kernel) ⟨(Nat.le_of_ble_eq_true rfl), (Nat.le_of_ble_eq_true rfl)⟩) (mpV_12 hZ hT hS hW tz_0 _) rfl rfl hl.1 rfl (lv_room (Nat.le_of_ble_eq_true rfl)) dL_law_951 hz0) hS (fun H locs hW hS => ?_)
  refine lv_aload_n hx hb dL_law_954 rfl (lv_at hl 2 rfl) ?_
  refine lv_aload_n hx hb dL_law_955 rfl (lv_at hl 0 rfl) ?_
  refine lv_iload hx hb dL_law_956 (lv_at hl 4 rfl) ?_
  refine lv_iconst (v := 1) hx hb dL_law_958 (by decide) ?_
  refine lv_iadd hx hb dL_law_959 ?_
  refine va_sld hx hb hX hbl hbA hS hin.1 dL_law_960 ?_
  refine lwi (va_runV (As := [.int (xs (i + 1).toNatClampNeg)]) (rest := [.int r]) ⟨hx, hb, hml, hown, hts⟩ (c_X13_bestDay g l σ1 (xs (i + 1).toNatClampNeg) r σ2 e2) (cwV 1 hts (gdV lm_L_122 lim_X13_bestDay lse_X13_bestDay ini_X13 lc_X13_bestDay) rfl rfl rfl (by decide +kernel) ⟨(Nat.le_of_ble_eq_true rfl), (Nat.le_of_ble_eq_true rfl)⟩) (mpV_13 hZ hT hS hW tz_64 _) rfl rfl hl.1 rfl (lv_room (Nat.le_of_ble_eq_true rfl)) dL_law_961 hz0) hS (fun H locs hW hS => ?_)
  exact lv_icmp_eq (tgt := 1609) hx hb dL_law_964 (by decide) (fun _ => W.widen (k := cells + 1) (n := slots + 6) (Nat.le_succ _) (Nat.le_add_right _ _) (kk σ2 H locs ls hR2 hW hS hl)) (fun h => absurd rfl h)
set_option maxHeartbeats 1000000 in
set_option maxRecDepth 100000 in
theorem lwc_25 (C : LwC p s m c b L xs g) (hin : LwI L i) (hR : RLq σ) (hW : Wd g 0 81 σ H) (hS : va_S (Ag g 0) s.heap H locs) (hl : lv_has ls 7 (lwL b g i)) (hcs : cells + 1 ≤ 601024 ∧ slots + 6 ≤ 7293034) (kk : LwK p l e s m below meth c b g i (cells + 1) (slots + 6) Q) : W p l e room_1 s m #[Value.ref b] below meth c H locs cells slots Q (F0 m 969 ls []) := by
  obtain ⟨hx, hb, hml, hown, hts, hX, hbl, hbA, hZ, hT, hXN⟩ := C
  have hz0 : cells + 0 ≤ room_1.cells ∧ slots + 0 ≤ room_1.slots := ⟨by have := hcs.1; show cells ≤ 601024; omega, by have := hcs.2; show slots ≤ 7293034; omega⟩
  obtain ⟨r, σ1, σ2, e1, e2, hR2⟩ := rel_idle σ hR
  refine lv_aload_n hx hb dL_law_969 rfl (lv_at hl 1 rfl) ?_
  refine lwi (va_runV (As := []) (rest := []) ⟨hx, hb, hml, hown, hts⟩ (c_X12_idle g l σ r σ1 e1) (cwV 0 hts (gdV lm_L_123 lim_X12_idle lse_X12_idle ini_X12 lc_X12_idle) rfl rfl rfl (by decide +kernel) ⟨(Nat.le_of_ble_eq_true rfl), (Nat.le_of_ble_eq_true rfl)⟩) (mpV_12 hZ hT hS hW tz_0 _) rfl rfl hl.1 rfl (lv_room (Nat.le_of_ble_eq_true rfl)) dL_law_970 hz0) hS (fun H locs hW hS => ?_)
  refine lv_aload_n hx hb dL_law_973 rfl (lv_at hl 2 rfl) ?_
  refine lwi (va_runV (As := []) (rest := [.int r]) ⟨hx, hb, hml, hown, hts⟩ (c_X13_idle g l σ1 r σ2 e2) (cwV 0 hts (gdV lm_L_126 lim_X13_idle lse_X13_idle ini_X13 lc_X13_idle) rfl rfl rfl (by decide +kernel) ⟨(Nat.le_of_ble_eq_true rfl), (Nat.le_of_ble_eq_true rfl)⟩) (mpV_13 hZ hT hS hW tz_64 _) rfl rfl hl.1 rfl (lv_room (Nat.le_of_ble_eq_true rfl)) dL_law_974 hz0) hS (fun H locs hW hS => ?_)
  exact lv_icmp_eq (tgt := 1609) hx hb dL_law_977 (by decide) (fun _ => W.widen (k := cells + 1) (n := slots + 6) (Nat.le_succ _) (Nat.le_add_right _ _) (kk σ2 H locs ls hR2 hW hS hl)) (fun h => absurd rfl h)
set_option maxHeartbeats 1000000 in
set_option maxRecDepth 100000 in
theorem lwc_26 (C : LwC p s m c b L xs g) (hin : LwI L i) (hR : RLq σ) (hW : Wd g 0 81 σ H) (hS : va_S (Ag g 0) s.heap H locs) (hl : lv_has ls 7 (lwL b g i)) (hcs : cells + 1 ≤ 601024 ∧ slots + 6 ≤ 7293034) (kk : LwK p l e s m below meth c b g i (cells + 1) (slots + 6) Q) : W p l e room_1 s m #[Value.ref b] below meth c H locs cells slots Q (F0 m 982 ls []) := by
  obtain ⟨hx, hb, hml, hown, hts, hX, hbl, hbA, hZ, hT, hXN⟩ := C
  have hz0 : cells + 0 ≤ room_1.cells ∧ slots + 0 ≤ room_1.slots := ⟨by have := hcs.1; show cells ≤ 601024; omega, by have := hcs.2; show slots ≤ 7293034; omega⟩
  obtain ⟨r, σ1, σ2, e1, e2, hR2⟩ := rel_swapped σ hR (xs (i + 1).toNatClampNeg) (xs (i + 2).toNatClampNeg)
  refine lv_aload_n hx hb dL_law_982 rfl (lv_at hl 1 rfl) ?_
  refine lv_aload_n hx hb dL_law_983 rfl (lv_at hl 0 rfl) ?_
  refine lv_iload hx hb dL_law_984 (lv_at hl 4 rfl) ?_
  refine lv_iconst (v := 1) hx hb dL_law_986 (by decide) ?_
  refine lv_iadd hx hb dL_law_987 ?_
  refine va_sld hx hb hX hbl hbA hS hin.1 dL_law_988 ?_
  refine lv_aload_n hx hb dL_law_989 rfl (lv_at hl 0 rfl) ?_
  refine lv_iload hx hb dL_law_990 (lv_at hl 4 rfl) ?_
  refine lv_iconst (v := 2) hx hb dL_law_992 (by decide) ?_
  refine lv_iadd hx hb dL_law_993 ?_
  refine va_sld hx hb hX hbl hbA hS hin.2.1 dL_law_994 ?_
  refine lwi (va_runV (As := [.int (xs (i + 1).toNatClampNeg), .int (xs (i + 2).toNatClampNeg)]) (rest := []) ⟨hx, hb, hml, hown, hts⟩ (c_X12_swapped g l σ (xs (i + 1).toNatClampNeg) (xs (i + 2).toNatClampNeg) r σ1 e1) (cwV 2 hts (gdV lm_L_127 lim_X12_swapped lse_X12_swapped ini_X12 lc_X12_swapped) rfl rfl rfl (by decide +kernel) ⟨(Nat.le_of_ble_eq_true rfl), (Nat.le_of_ble_eq_true rfl)⟩) (mpV_12 hZ hT hS hW tz_0 _) rfl rfl hl.1 rfl (lv_room (Nat.le_of_ble_eq_true rfl)) dL_law_995 hz0) hS (fun H locs hW hS => ?_)
  refine lv_aload_n hx hb dL_law_998 rfl (lv_at hl 2 rfl) ?_
  refine lv_aload_n hx hb dL_law_999 rfl (lv_at hl 0 rfl) ?_
  refine lv_iload hx hb dL_law_1000 (lv_at hl 4 rfl) ?_
  refine lv_iconst (v := 1) hx hb dL_law_1002 (by decide) ?_
  refine lv_iadd hx hb dL_law_1003 ?_
  refine va_sld hx hb hX hbl hbA hS hin.1 dL_law_1004 ?_
  refine lv_aload_n hx hb dL_law_1005 rfl (lv_at hl 0 rfl) ?_
  refine lv_iload hx hb dL_law_1006 (lv_at hl 4 rfl) ?_
  refine lv_iconst (v := 2) hx hb dL_law_1008 (by decide) ?_
  refine lv_iadd hx hb dL_law_1009 ?_
  refine va_sld hx hb hX hbl hbA hS hin.2.1 dL_law_1010 ?_
  refine lwi (va_runV (As := [.int (xs (i + 1).toNatClampNeg), .int (xs (i + 2).toNatClampNeg)]) (rest := [.int r]) ⟨hx, hb, hml, hown, hts⟩ (c_X13_swapped g l σ1 (xs (i + 1).toNatClampNeg) (xs (i + 2).toNatClampNeg) r σ2 e2) (cwV 2 hts (gdV lm_L_130 lim_X13_swapped lse_X13_swapped ini_X13 lc_X13_swapped) rfl rfl rfl (by decide +kernel) ⟨(Nat.le_of_ble_eq_true rfl), (Nat.le_of_ble_eq_true rfl)⟩) (mpV_13 hZ hT hS hW tz_64 _) rfl rfl hl.1 rfl (lv_room (Nat.le_of_ble_eq_true rfl)) dL_law_1011 hz0) hS (fun H locs hW hS => ?_)
  exact lv_icmp_eq (tgt := 1609) hx hb dL_law_1014 (by decide) (fun _ => W.widen (k := cells + 1) (n := slots + 6) (Nat.le_succ _) (Nat.le_add_right _ _) (kk σ2 H locs ls hR2 hW hS hl)) (fun h => absurd rfl h)
set_option maxHeartbeats 1000000 in
set_option maxRecDepth 100000 in
theorem lwc_27 (C : LwC p s m c b L xs g) (hin : LwI L i) (hR : RLq σ) (hW : Wd g 0 81 σ H) (hS : va_S (Ag g 0) s.heap H locs) (hl : lv_has ls 7 (lwL b g i)) (hcs : cells + 1 ≤ 601024 ∧ slots + 6 ≤ 7293034) (kk : LwK p l e s m below meth c b g i (cells + 1) (slots + 6) Q) : W p l e room_1 s m #[Value.ref b] below meth c H locs cells slots Q (F0 m 1019 ls []) := by
  obtain ⟨hx, hb, hml, hown, hts, hX, hbl, hbA, hZ, hT, hXN⟩ := C
  have hz0 : cells + 0 ≤ room_1.cells ∧ slots + 0 ≤ room_1.slots := ⟨by have := hcs.1; show cells ≤ 601024; omega, by have := hcs.2; show slots ≤ 7293034; omega⟩
  obtain ⟨r, σ1, σ2, e1, e2, hR2⟩ := rel_bestSwap σ hR
  refine lv_aload_n hx hb dL_law_1019 rfl (lv_at hl 1 rfl) ?_
  refine lwi (va_runV (As := []) (rest := []) ⟨hx, hb, hml, hown, hts⟩ (c_X12_bestSwap g l σ r σ1 e1) (cwV 0 hts (gdV lm_L_131 lim_X12_bestSwap lse_X12_bestSwap ini_X12 lc_X12_bestSwap) rfl rfl rfl (by decide +kernel) ⟨(Nat.le_of_ble_eq_true rfl), (Nat.le_of_ble_eq_true rfl)⟩) (mpV_12 hZ hT hS hW tz_0 _) rfl rfl hl.1 rfl (lv_room (Nat.le_of_ble_eq_true rfl)) dL_law_1020 hz0) hS (fun H locs hW hS => ?_)
  refine lv_aload_n hx hb dL_law_1023 rfl (lv_at hl 2 rfl) ?_
  refine lwi (va_runV (As := []) (rest := [.int r]) ⟨hx, hb, hml, hown, hts⟩ (c_X13_bestSwap g l σ1 r σ2 e2) (cwV 0 hts (gdV lm_L_134 lim_X13_bestSwap lse_X13_bestSwap ini_X13 lc_X13_bestSwap) rfl rfl rfl (by decide +kernel) ⟨(Nat.le_of_ble_eq_true rfl), (Nat.le_of_ble_eq_true rfl)⟩) (mpV_13 hZ hT hS hW tz_64 _) rfl rfl hl.1 rfl (lv_room (Nat.le_of_ble_eq_true rfl)) dL_law_1024 hz0) hS (fun H locs hW hS => ?_)
  exact lv_icmp_eq (tgt := 1609) hx hb dL_law_1027 (by decide) (fun _ => W.widen (k := cells + 1) (n := slots + 6) (Nat.le_succ _) (Nat.le_add_right _ _) (kk σ2 H locs ls hR2 hW hS hl)) (fun h => absurd rfl h)
set_option maxHeartbeats 1000000 in
set_option maxRecDepth 100000 in
theorem lwc_28 (C : LwC p s m c b L xs g) (hin : LwI L i) (hR : RLq σ) (hW : Wd g 0 81 σ H) (hS : va_S (Ag g 0) s.heap H locs) (hl : lv_has ls 7 (lwL b g i)) (hcs : cells + 1 ≤ 601024 ∧ slots + 6 ≤ 7293034) (kk : LwK p l e s m below meth c b g i (cells + 1) (slots + 6) Q) : W p l e room_1 s m #[Value.ref b] below meth c H locs cells slots Q (F0 m 1032 ls []) := by
  obtain ⟨hx, hb, hml, hown, hts, hX, hbl, hbA, hZ, hT, hXN⟩ := C
  have hz0 : cells + 0 ≤ room_1.cells ∧ slots + 0 ≤ room_1.slots := ⟨by have := hcs.1; show cells ≤ 601024; omega, by have := hcs.2; show slots ≤ 7293034; omega⟩
  obtain ⟨r, σ1, σ2, e1, e2, hR2⟩ := rel_ask σ hR (xs (i + 1).toNatClampNeg)
  refine lv_aload_n hx hb dL_law_1032 rfl (lv_at hl 1 rfl) ?_
  refine lv_aload_n hx hb dL_law_1033 rfl (lv_at hl 0 rfl) ?_
  refine lv_iload hx hb dL_law_1034 (lv_at hl 4 rfl) ?_
  refine lv_iconst (v := 1) hx hb dL_law_1036 (by decide) ?_
  refine lv_iadd hx hb dL_law_1037 ?_
  refine va_sld hx hb hX hbl hbA hS hin.1 dL_law_1038 ?_
  refine lwi (va_runV (As := [.int (xs (i + 1).toNatClampNeg)]) (rest := []) ⟨hx, hb, hml, hown, hts⟩ (c_X12_ask g l σ (xs (i + 1).toNatClampNeg) r σ1 e1) (cwV 1 hts (gdV lm_L_135 lim_X12_ask lse_X12_ask ini_X12 lc_X12_ask) rfl rfl rfl (by decide +kernel) ⟨(Nat.le_of_ble_eq_true rfl), (Nat.le_of_ble_eq_true rfl)⟩) (mpV_12 hZ hT hS hW tz_0 _) rfl rfl hl.1 rfl (lv_room (Nat.le_of_ble_eq_true rfl)) dL_law_1039 hz0) hS (fun H locs hW hS => ?_)
  refine lv_aload_n hx hb dL_law_1042 rfl (lv_at hl 2 rfl) ?_
  refine lv_aload_n hx hb dL_law_1043 rfl (lv_at hl 0 rfl) ?_
  refine lv_iload hx hb dL_law_1044 (lv_at hl 4 rfl) ?_
  refine lv_iconst (v := 1) hx hb dL_law_1046 (by decide) ?_
  refine lv_iadd hx hb dL_law_1047 ?_
  refine va_sld hx hb hX hbl hbA hS hin.1 dL_law_1048 ?_
  refine lwi (va_runV (As := [.int (xs (i + 1).toNatClampNeg)]) (rest := [.int r]) ⟨hx, hb, hml, hown, hts⟩ (c_X13_ask g l σ1 (xs (i + 1).toNatClampNeg) r σ2 e2) (cwV 1 hts (gdV lm_L_138 lim_X13_ask lse_X13_ask ini_X13 lc_X13_ask) rfl rfl rfl (by decide +kernel) ⟨(Nat.le_of_ble_eq_true rfl), (Nat.le_of_ble_eq_true rfl)⟩) (mpV_13 hZ hT hS hW tz_64 _) rfl rfl hl.1 rfl (lv_room (Nat.le_of_ble_eq_true rfl)) dL_law_1049 hz0) hS (fun H locs hW hS => ?_)
  exact lv_icmp_eq (tgt := 1609) hx hb dL_law_1052 (by decide) (fun _ => W.widen (k := cells + 1) (n := slots + 6) (Nat.le_succ _) (Nat.le_add_right _ _) (kk σ2 H locs ls hR2 hW hS hl)) (fun h => absurd rfl h)
set_option maxHeartbeats 1000000 in
set_option maxRecDepth 100000 in
theorem lwc_29 (C : LwC p s m c b L xs g) (hin : LwI L i) (hR : RLq σ) (hW : Wd g 0 81 σ H) (hS : va_S (Ag g 0) s.heap H locs) (hl : lv_has ls 7 (lwL b g i)) (hcs : cells + 1 ≤ 601024 ∧ slots + 6 ≤ 7293034) (kk : LwK p l e s m below meth c b g i (cells + 1) (slots + 6) Q) : W p l e room_1 s m #[Value.ref b] below meth c H locs cells slots Q (F0 m 1057 ls []) := by
  obtain ⟨hx, hb, hml, hown, hts, hX, hbl, hbA, hZ, hT, hXN⟩ := C
  have hz0 : cells + 0 ≤ room_1.cells ∧ slots + 0 ≤ room_1.slots := ⟨by have := hcs.1; show cells ≤ 601024; omega, by have := hcs.2; show slots ≤ 7293034; omega⟩
  by_cases h0 : xs (i + 2).toNatClampNeg = 0
  · obtain ⟨r, σ1, σ2, e1, e2, hR2⟩ := rel_truth σ hR (xs (i + 1).toNatClampNeg) 0
    refine lv_aload_n hx hb dL_law_1057 rfl (lv_at hl 1 rfl) ?_
    refine lv_aload_n hx hb dL_law_1058 rfl (lv_at hl 0 rfl) ?_
    refine lv_iload hx hb dL_law_1059 (lv_at hl 4 rfl) ?_
    refine lv_iconst (v := 1) hx hb dL_law_1061 (by decide) ?_
    refine lv_iadd hx hb dL_law_1062 ?_
    refine va_sld hx hb hX hbl hbA hS hin.1 dL_law_1063 ?_
    refine lv_aload_n hx hb dL_law_1064 rfl (lv_at hl 0 rfl) ?_
    refine lv_iload hx hb dL_law_1065 (lv_at hl 4 rfl) ?_
    refine lv_iconst (v := 2) hx hb dL_law_1067 (by decide) ?_
    refine lv_iadd hx hb dL_law_1068 ?_
    refine va_sld hx hb hX hbl hbA hS hin.2.1 dL_law_1069 ?_
    refine lv_if_eq (tgt := 1077) hx hb dL_law_1070 (by decide) (fun _ => ?_) (fun hc => absurd h0 hc)
    refine lv_iconst (v := 0) hx hb dL_law_1077 (by decide) ?_
    refine lwl (va_runV (As := [.int (xs (i + 1).toNatClampNeg), .int 0]) (rest := []) ⟨hx, hb, hml, hown, hts⟩ (c_X12_truth g l σ (xs (i + 1).toNatClampNeg) 0 r σ1 e1) (cwV 2 hts (gdV lm_L_139 lim_X12_truth lse_X12_truth ini_X12 lc_X12_truth) rfl rfl rfl (by decide +kernel) ⟨(Nat.le_of_ble_eq_true rfl), (Nat.le_of_ble_eq_true rfl)⟩) (mpV_12 hZ hT hS hW tz_0 _) rfl rfl hl.1 rfl (lv_room (Nat.le_of_ble_eq_true rfl)) dL_law_1078 hz0) hS (fun H locs hW hS => ?_)
    refine lv_aload_n hx hb dL_law_1081 rfl (lv_at hl 2 rfl) ?_
    refine lv_aload_n hx hb dL_law_1082 rfl (lv_at hl 0 rfl) ?_
    refine lv_iload hx hb dL_law_1083 (lv_at hl 4 rfl) ?_
    refine lv_iconst (v := 1) hx hb dL_law_1085 (by decide) ?_
    refine lv_iadd hx hb dL_law_1086 ?_
    refine va_sld hx hb hX hbl hbA hS hin.1 dL_law_1087 ?_
    refine lv_aload_n hx hb dL_law_1088 rfl (lv_at hl 0 rfl) ?_
    refine lv_iload hx hb dL_law_1089 (lv_at hl 4 rfl) ?_
    refine lv_iconst (v := 2) hx hb dL_law_1091 (by decide) ?_
    refine lv_iadd hx hb dL_law_1092 ?_
    refine va_sld hx hb hX hbl hbA hS hin.2.1 dL_law_1093 ?_
    refine lv_if_eq (tgt := 1101) hx hb dL_law_1094 (by decide) (fun _ => ?_) (fun hc => absurd h0 hc)
    refine lv_iconst (v := 0) hx hb dL_law_1101 (by decide) ?_
    refine lwl (va_runV (As := [.int (xs (i + 1).toNatClampNeg), .int 0]) (rest := [.long r]) ⟨hx, hb, hml, hown, hts⟩ (c_X13_truth g l σ1 (xs (i + 1).toNatClampNeg) 0 r σ2 e2) (cwV 2 hts (gdV lm_L_143 lim_X13_truth lse_X13_truth ini_X13 lc_X13_truth) rfl rfl rfl (by decide +kernel) ⟨(Nat.le_of_ble_eq_true rfl), (Nat.le_of_ble_eq_true rfl)⟩) (mpV_13 hZ hT hS hW tz_64 _) rfl rfl hl.1 rfl (lv_room (Nat.le_of_ble_eq_true rfl)) dL_law_1102 hz0) hS (fun H locs hW hS => ?_)
    refine W.lcmp hx hb dL_law_1105 ?_
    rw [lg_same]
    exact lv_if_eq (tgt := 1609) hx hb dL_law_1106 (by decide) (fun _ => W.widen (k := cells + 1) (n := slots + 6) (Nat.le_succ _) (Nat.le_add_right _ _) (kk σ2 H locs ls hR2 hW hS hl)) (fun h => absurd rfl h)
  · obtain ⟨r, σ1, σ2, e1, e2, hR2⟩ := rel_truth σ hR (xs (i + 1).toNatClampNeg) 1
    refine lv_aload_n hx hb dL_law_1057 rfl (lv_at hl 1 rfl) ?_
    refine lv_aload_n hx hb dL_law_1058 rfl (lv_at hl 0 rfl) ?_
    refine lv_iload hx hb dL_law_1059 (lv_at hl 4 rfl) ?_
    refine lv_iconst (v := 1) hx hb dL_law_1061 (by decide) ?_
    refine lv_iadd hx hb dL_law_1062 ?_
    refine va_sld hx hb hX hbl hbA hS hin.1 dL_law_1063 ?_
    refine lv_aload_n hx hb dL_law_1064 rfl (lv_at hl 0 rfl) ?_
    refine lv_iload hx hb dL_law_1065 (lv_at hl 4 rfl) ?_
    refine lv_iconst (v := 2) hx hb dL_law_1067 (by decide) ?_
    refine lv_iadd hx hb dL_law_1068 ?_
    refine va_sld hx hb hX hbl hbA hS hin.2.1 dL_law_1069 ?_
    refine lv_if_eq (tgt := 1077) hx hb dL_law_1070 (by decide) (fun hc => absurd hc h0) (fun _ => ?_)
    refine lv_iconst (v := 1) hx hb dL_law_1073 (by decide) ?_
    refine lv_goto (tgt := 1078) hx hb dL_law_1074 (by decide) ?_
    refine lwl (va_runV (As := [.int (xs (i + 1).toNatClampNeg), .int 1]) (rest := []) ⟨hx, hb, hml, hown, hts⟩ (c_X12_truth g l σ (xs (i + 1).toNatClampNeg) 1 r σ1 e1) (cwV 2 hts (gdV lm_L_139 lim_X12_truth lse_X12_truth ini_X12 lc_X12_truth) rfl rfl rfl (by decide +kernel) ⟨(Nat.le_of_ble_eq_true rfl), (Nat.le_of_ble_eq_true rfl)⟩) (mpV_12 hZ hT hS hW tz_0 _) rfl rfl hl.1 rfl (lv_room (Nat.le_of_ble_eq_true rfl)) dL_law_1078 hz0) hS (fun H locs hW hS => ?_)
    refine lv_aload_n hx hb dL_law_1081 rfl (lv_at hl 2 rfl) ?_
    refine lv_aload_n hx hb dL_law_1082 rfl (lv_at hl 0 rfl) ?_
    refine lv_iload hx hb dL_law_1083 (lv_at hl 4 rfl) ?_
    refine lv_iconst (v := 1) hx hb dL_law_1085 (by decide) ?_
    refine lv_iadd hx hb dL_law_1086 ?_
    refine va_sld hx hb hX hbl hbA hS hin.1 dL_law_1087 ?_
    refine lv_aload_n hx hb dL_law_1088 rfl (lv_at hl 0 rfl) ?_
    refine lv_iload hx hb dL_law_1089 (lv_at hl 4 rfl) ?_
    refine lv_iconst (v := 2) hx hb dL_law_1091 (by decide) ?_
    refine lv_iadd hx hb dL_law_1092 ?_
    refine va_sld hx hb hX hbl hbA hS hin.2.1 dL_law_1093 ?_
    refine lv_if_eq (tgt := 1101) hx hb dL_law_1094 (by decide) (fun hc => absurd hc h0) (fun _ => ?_)
    refine lv_iconst (v := 1) hx hb dL_law_1097 (by decide) ?_
    refine lv_goto (tgt := 1102) hx hb dL_law_1098 (by decide) ?_
    refine lwl (va_runV (As := [.int (xs (i + 1).toNatClampNeg), .int 1]) (rest := [.long r]) ⟨hx, hb, hml, hown, hts⟩ (c_X13_truth g l σ1 (xs (i + 1).toNatClampNeg) 1 r σ2 e2) (cwV 2 hts (gdV lm_L_143 lim_X13_truth lse_X13_truth ini_X13 lc_X13_truth) rfl rfl rfl (by decide +kernel) ⟨(Nat.le_of_ble_eq_true rfl), (Nat.le_of_ble_eq_true rfl)⟩) (mpV_13 hZ hT hS hW tz_64 _) rfl rfl hl.1 rfl (lv_room (Nat.le_of_ble_eq_true rfl)) dL_law_1102 hz0) hS (fun H locs hW hS => ?_)
    refine W.lcmp hx hb dL_law_1105 ?_
    rw [lg_same]
    exact lv_if_eq (tgt := 1609) hx hb dL_law_1106 (by decide) (fun _ => W.widen (k := cells + 1) (n := slots + 6) (Nat.le_succ _) (Nat.le_add_right _ _) (kk σ2 H locs ls hR2 hW hS hl)) (fun h => absurd rfl h)
set_option maxHeartbeats 1000000 in
set_option maxRecDepth 100000 in
theorem lwc_30 (C : LwC p s m c b L xs g) (hin : LwI L i) (hR : RLq σ) (hW : Wd g 0 81 σ H) (hS : va_S (Ag g 0) s.heap H locs) (hl : lv_has ls 7 (lwL b g i)) (hcs : cells + 1 ≤ 601024 ∧ slots + 6 ≤ 7293034) (kk : LwK p l e s m below meth c b g i (cells + 1) (slots + 6) Q) : W p l e room_1 s m #[Value.ref b] below meth c H locs cells slots Q (F0 m 1111 ls []) := by
  obtain ⟨hx, hb, hml, hown, hts, hX, hbl, hbA, hZ, hT, hXN⟩ := C
  have hz0 : cells + 0 ≤ room_1.cells ∧ slots + 0 ≤ room_1.slots := ⟨by have := hcs.1; show cells ≤ 601024; omega, by have := hcs.2; show slots ≤ 7293034; omega⟩
  by_cases h0 : xs (i + 2).toNatClampNeg = 0
  · obtain ⟨r, σ1, σ2, e1, e2, hR2⟩ := rel_allTell σ hR (xs (i + 1).toNatClampNeg) 0
    refine lv_aload_n hx hb dL_law_1111 rfl (lv_at hl 1 rfl) ?_
    refine lv_aload_n hx hb dL_law_1112 rfl (lv_at hl 0 rfl) ?_
    refine lv_iload hx hb dL_law_1113 (lv_at hl 4 rfl) ?_
    refine lv_iconst (v := 1) hx hb dL_law_1115 (by decide) ?_
    refine lv_iadd hx hb dL_law_1116 ?_
    refine va_sld hx hb hX hbl hbA hS hin.1 dL_law_1117 ?_
    refine lv_aload_n hx hb dL_law_1118 rfl (lv_at hl 0 rfl) ?_
    refine lv_iload hx hb dL_law_1119 (lv_at hl 4 rfl) ?_
    refine lv_iconst (v := 2) hx hb dL_law_1121 (by decide) ?_
    refine lv_iadd hx hb dL_law_1122 ?_
    refine va_sld hx hb hX hbl hbA hS hin.2.1 dL_law_1123 ?_
    refine lv_if_eq (tgt := 1131) hx hb dL_law_1124 (by decide) (fun _ => ?_) (fun hc => absurd h0 hc)
    refine lv_iconst (v := 0) hx hb dL_law_1131 (by decide) ?_
    refine lwl (va_runV (As := [.int (xs (i + 1).toNatClampNeg), .int 0]) (rest := []) ⟨hx, hb, hml, hown, hts⟩ (c_X12_allTell g l σ (xs (i + 1).toNatClampNeg) 0 r σ1 e1) (cwV 2 hts (gdV lm_L_144 lim_X12_allTell lse_X12_allTell ini_X12 lc_X12_allTell) rfl rfl rfl (by decide +kernel) ⟨(Nat.le_of_ble_eq_true rfl), (Nat.le_of_ble_eq_true rfl)⟩) (mpV_12 hZ hT hS hW tz_0 _) rfl rfl hl.1 rfl (lv_room (Nat.le_of_ble_eq_true rfl)) dL_law_1132 hz0) hS (fun H locs hW hS => ?_)
    refine lv_aload_n hx hb dL_law_1135 rfl (lv_at hl 2 rfl) ?_
    refine lv_aload_n hx hb dL_law_1136 rfl (lv_at hl 0 rfl) ?_
    refine lv_iload hx hb dL_law_1137 (lv_at hl 4 rfl) ?_
    refine lv_iconst (v := 1) hx hb dL_law_1139 (by decide) ?_
    refine lv_iadd hx hb dL_law_1140 ?_
    refine va_sld hx hb hX hbl hbA hS hin.1 dL_law_1141 ?_
    refine lv_aload_n hx hb dL_law_1142 rfl (lv_at hl 0 rfl) ?_
    refine lv_iload hx hb dL_law_1143 (lv_at hl 4 rfl) ?_
    refine lv_iconst (v := 2) hx hb dL_law_1145 (by decide) ?_
    refine lv_iadd hx hb dL_law_1146 ?_
    refine va_sld hx hb hX hbl hbA hS hin.2.1 dL_law_1147 ?_
    refine lv_if_eq (tgt := 1155) hx hb dL_law_1148 (by decide) (fun _ => ?_) (fun hc => absurd h0 hc)
    refine lv_iconst (v := 0) hx hb dL_law_1155 (by decide) ?_
    refine lwl (va_runV (As := [.int (xs (i + 1).toNatClampNeg), .int 0]) (rest := [.long r]) ⟨hx, hb, hml, hown, hts⟩ (c_X13_allTell g l σ1 (xs (i + 1).toNatClampNeg) 0 r σ2 e2) (cwV 2 hts (gdV lm_L_147 lim_X13_allTell lse_X13_allTell ini_X13 lc_X13_allTell) rfl rfl rfl (by decide +kernel) ⟨(Nat.le_of_ble_eq_true rfl), (Nat.le_of_ble_eq_true rfl)⟩) (mpV_13 hZ hT hS hW tz_64 _) rfl rfl hl.1 rfl (lv_room (Nat.le_of_ble_eq_true rfl)) dL_law_1156 hz0) hS (fun H locs hW hS => ?_)
    refine W.lcmp hx hb dL_law_1159 ?_
    rw [lg_same]
    exact lv_if_eq (tgt := 1609) hx hb dL_law_1160 (by decide) (fun _ => W.widen (k := cells + 1) (n := slots + 6) (Nat.le_succ _) (Nat.le_add_right _ _) (kk σ2 H locs ls hR2 hW hS hl)) (fun h => absurd rfl h)
  · obtain ⟨r, σ1, σ2, e1, e2, hR2⟩ := rel_allTell σ hR (xs (i + 1).toNatClampNeg) 1
    refine lv_aload_n hx hb dL_law_1111 rfl (lv_at hl 1 rfl) ?_
    refine lv_aload_n hx hb dL_law_1112 rfl (lv_at hl 0 rfl) ?_
    refine lv_iload hx hb dL_law_1113 (lv_at hl 4 rfl) ?_
    refine lv_iconst (v := 1) hx hb dL_law_1115 (by decide) ?_
    refine lv_iadd hx hb dL_law_1116 ?_
    refine va_sld hx hb hX hbl hbA hS hin.1 dL_law_1117 ?_
    refine lv_aload_n hx hb dL_law_1118 rfl (lv_at hl 0 rfl) ?_
    refine lv_iload hx hb dL_law_1119 (lv_at hl 4 rfl) ?_
    refine lv_iconst (v := 2) hx hb dL_law_1121 (by decide) ?_
    refine lv_iadd hx hb dL_law_1122 ?_
    refine va_sld hx hb hX hbl hbA hS hin.2.1 dL_law_1123 ?_
    refine lv_if_eq (tgt := 1131) hx hb dL_law_1124 (by decide) (fun hc => absurd hc h0) (fun _ => ?_)
    refine lv_iconst (v := 1) hx hb dL_law_1127 (by decide) ?_
    refine lv_goto (tgt := 1132) hx hb dL_law_1128 (by decide) ?_
    refine lwl (va_runV (As := [.int (xs (i + 1).toNatClampNeg), .int 1]) (rest := []) ⟨hx, hb, hml, hown, hts⟩ (c_X12_allTell g l σ (xs (i + 1).toNatClampNeg) 1 r σ1 e1) (cwV 2 hts (gdV lm_L_144 lim_X12_allTell lse_X12_allTell ini_X12 lc_X12_allTell) rfl rfl rfl (by decide +kernel) ⟨(Nat.le_of_ble_eq_true rfl), (Nat.le_of_ble_eq_true rfl)⟩) (mpV_12 hZ hT hS hW tz_0 _) rfl rfl hl.1 rfl (lv_room (Nat.le_of_ble_eq_true rfl)) dL_law_1132 hz0) hS (fun H locs hW hS => ?_)
    refine lv_aload_n hx hb dL_law_1135 rfl (lv_at hl 2 rfl) ?_
    refine lv_aload_n hx hb dL_law_1136 rfl (lv_at hl 0 rfl) ?_
    refine lv_iload hx hb dL_law_1137 (lv_at hl 4 rfl) ?_
    refine lv_iconst (v := 1) hx hb dL_law_1139 (by decide) ?_
    refine lv_iadd hx hb dL_law_1140 ?_
    refine va_sld hx hb hX hbl hbA hS hin.1 dL_law_1141 ?_
    refine lv_aload_n hx hb dL_law_1142 rfl (lv_at hl 0 rfl) ?_
    refine lv_iload hx hb dL_law_1143 (lv_at hl 4 rfl) ?_
    refine lv_iconst (v := 2) hx hb dL_law_1145 (by decide) ?_
    refine lv_iadd hx hb dL_law_1146 ?_
    refine va_sld hx hb hX hbl hbA hS hin.2.1 dL_law_1147 ?_
    refine lv_if_eq (tgt := 1155) hx hb dL_law_1148 (by decide) (fun hc => absurd hc h0) (fun _ => ?_)
    refine lv_iconst (v := 1) hx hb dL_law_1151 (by decide) ?_
    refine lv_goto (tgt := 1156) hx hb dL_law_1152 (by decide) ?_
    refine lwl (va_runV (As := [.int (xs (i + 1).toNatClampNeg), .int 1]) (rest := [.long r]) ⟨hx, hb, hml, hown, hts⟩ (c_X13_allTell g l σ1 (xs (i + 1).toNatClampNeg) 1 r σ2 e2) (cwV 2 hts (gdV lm_L_147 lim_X13_allTell lse_X13_allTell ini_X13 lc_X13_allTell) rfl rfl rfl (by decide +kernel) ⟨(Nat.le_of_ble_eq_true rfl), (Nat.le_of_ble_eq_true rfl)⟩) (mpV_13 hZ hT hS hW tz_64 _) rfl rfl hl.1 rfl (lv_room (Nat.le_of_ble_eq_true rfl)) dL_law_1156 hz0) hS (fun H locs hW hS => ?_)
    refine W.lcmp hx hb dL_law_1159 ?_
    rw [lg_same]
    exact lv_if_eq (tgt := 1609) hx hb dL_law_1160 (by decide) (fun _ => W.widen (k := cells + 1) (n := slots + 6) (Nat.le_succ _) (Nat.le_add_right _ _) (kk σ2 H locs ls hR2 hW hS hl)) (fun h => absurd rfl h)
set_option maxHeartbeats 1000000 in
set_option maxRecDepth 100000 in
theorem lwc_31 (C : LwC p s m c b L xs g) (hin : LwI L i) (hR : RLq σ) (hW : Wd g 0 81 σ H) (hS : va_S (Ag g 0) s.heap H locs) (hl : lv_has ls 7 (lwL b g i)) (hcs : cells + 1 ≤ 601024 ∧ slots + 6 ≤ 7293034) (kk : LwK p l e s m below meth c b g i (cells + 1) (slots + 6) Q) : W p l e room_1 s m #[Value.ref b] below meth c H locs cells slots Q (F0 m 1165 ls []) := by
  obtain ⟨hx, hb, hml, hown, hts, hX, hbl, hbA, hZ, hT, hXN⟩ := C
  have hz0 : cells + 0 ≤ room_1.cells ∧ slots + 0 ≤ room_1.slots := ⟨by have := hcs.1; show cells ≤ 601024; omega, by have := hcs.2; show slots ≤ 7293034; omega⟩
  obtain ⟨r, σ1, σ2, e1, e2, hR2⟩ := rel_guard σ hR (xs (i + 1).toNatClampNeg)
  refine lv_aload_n hx hb dL_law_1165 rfl (lv_at hl 1 rfl) ?_
  refine lv_aload_n hx hb dL_law_1166 rfl (lv_at hl 0 rfl) ?_
  refine lv_iload hx hb dL_law_1167 (lv_at hl 4 rfl) ?_
  refine lv_iconst (v := 1) hx hb dL_law_1169 (by decide) ?_
  refine lv_iadd hx hb dL_law_1170 ?_
  refine va_sld hx hb hX hbl hbA hS hin.1 dL_law_1171 ?_
  refine lwi (va_runV (As := [.int (xs (i + 1).toNatClampNeg)]) (rest := []) ⟨hx, hb, hml, hown, hts⟩ (c_X12_guard g l σ (xs (i + 1).toNatClampNeg) r σ1 e1) (cwV 1 hts (gdV lm_L_148 lim_X12_guard lse_X12_guard ini_X12 lc_X12_guard) rfl rfl rfl (by decide +kernel) ⟨(Nat.le_of_ble_eq_true rfl), (Nat.le_of_ble_eq_true rfl)⟩) (mpV_12 hZ hT hS hW tz_0 _) rfl rfl hl.1 rfl (lv_room (Nat.le_of_ble_eq_true rfl)) dL_law_1172 hz0) hS (fun H locs hW hS => ?_)
  refine lv_aload_n hx hb dL_law_1175 rfl (lv_at hl 2 rfl) ?_
  refine lv_aload_n hx hb dL_law_1176 rfl (lv_at hl 0 rfl) ?_
  refine lv_iload hx hb dL_law_1177 (lv_at hl 4 rfl) ?_
  refine lv_iconst (v := 1) hx hb dL_law_1179 (by decide) ?_
  refine lv_iadd hx hb dL_law_1180 ?_
  refine va_sld hx hb hX hbl hbA hS hin.1 dL_law_1181 ?_
  refine lwi (va_runV (As := [.int (xs (i + 1).toNatClampNeg)]) (rest := [.int r]) ⟨hx, hb, hml, hown, hts⟩ (c_X13_guard g l σ1 (xs (i + 1).toNatClampNeg) r σ2 e2) (cwV 1 hts (gdV lm_L_151 lim_X13_guard lse_X13_guard ini_X13 lc_X13_guard) rfl rfl rfl (by decide +kernel) ⟨(Nat.le_of_ble_eq_true rfl), (Nat.le_of_ble_eq_true rfl)⟩) (mpV_13 hZ hT hS hW tz_64 _) rfl rfl hl.1 rfl (lv_room (Nat.le_of_ble_eq_true rfl)) dL_law_1182 hz0) hS (fun H locs hW hS => ?_)
  exact lv_icmp_eq (tgt := 1609) hx hb dL_law_1185 (by decide) (fun _ => W.widen (k := cells + 1) (n := slots + 6) (Nat.le_succ _) (Nat.le_add_right _ _) (kk σ2 H locs ls hR2 hW hS hl)) (fun h => absurd rfl h)
set_option maxHeartbeats 1000000 in
set_option maxRecDepth 100000 in
theorem lwc_32 (C : LwC p s m c b L xs g) (hin : LwI L i) (hR : RLq σ) (hW : Wd g 0 81 σ H) (hS : va_S (Ag g 0) s.heap H locs) (hl : lv_has ls 7 (lwL b g i)) (hcs : cells + 1 ≤ 601024 ∧ slots + 6 ≤ 7293034) (kk : LwK p l e s m below meth c b g i (cells + 1) (slots + 6) Q) : W p l e room_1 s m #[Value.ref b] below meth c H locs cells slots Q (F0 m 1190 ls []) := by
  obtain ⟨hx, hb, hml, hown, hts, hX, hbl, hbA, hZ, hT, hXN⟩ := C
  have hz0 : cells + 0 ≤ room_1.cells ∧ slots + 0 ≤ room_1.slots := ⟨by have := hcs.1; show cells ≤ 601024; omega, by have := hcs.2; show slots ≤ 7293034; omega⟩
  obtain ⟨r, σ1, σ2, e1, e2, hR2⟩ := rel_unknown σ hR
  refine lv_aload_n hx hb dL_law_1190 rfl (lv_at hl 1 rfl) ?_
  refine lwi (va_runV (As := []) (rest := []) ⟨hx, hb, hml, hown, hts⟩ (c_X12_unknown g l σ r σ1 e1) (cwV 0 hts (gdV lm_L_152 lim_X12_unknown lse_X12_unknown ini_X12 lc_X12_unknown) rfl rfl rfl (by decide +kernel) ⟨(Nat.le_of_ble_eq_true rfl), (Nat.le_of_ble_eq_true rfl)⟩) (mpV_12 hZ hT hS hW tz_0 _) rfl rfl hl.1 rfl (lv_room (Nat.le_of_ble_eq_true rfl)) dL_law_1191 hz0) hS (fun H locs hW hS => ?_)
  refine lv_aload_n hx hb dL_law_1194 rfl (lv_at hl 2 rfl) ?_
  refine lwi (va_runV (As := []) (rest := [.int r]) ⟨hx, hb, hml, hown, hts⟩ (c_X13_unknown g l σ1 r σ2 e2) (cwV 0 hts (gdV lm_L_155 lim_X13_unknown lse_X13_unknown ini_X13 lc_X13_unknown) rfl rfl rfl (by decide +kernel) ⟨(Nat.le_of_ble_eq_true rfl), (Nat.le_of_ble_eq_true rfl)⟩) (mpV_13 hZ hT hS hW tz_64 _) rfl rfl hl.1 rfl (lv_room (Nat.le_of_ble_eq_true rfl)) dL_law_1195 hz0) hS (fun H locs hW hS => ?_)
  exact lv_icmp_eq (tgt := 1609) hx hb dL_law_1198 (by decide) (fun _ => W.widen (k := cells + 1) (n := slots + 6) (Nat.le_succ _) (Nat.le_add_right _ _) (kk σ2 H locs ls hR2 hW hS hl)) (fun h => absurd rfl h)
set_option maxHeartbeats 1000000 in
set_option maxRecDepth 100000 in
theorem lwc_33 (C : LwC p s m c b L xs g) (hin : LwI L i) (hR : RLq σ) (hW : Wd g 0 81 σ H) (hS : va_S (Ag g 0) s.heap H locs) (hl : lv_has ls 7 (lwL b g i)) (hcs : cells + 1 ≤ 601024 ∧ slots + 6 ≤ 7293034) (kk : LwK p l e s m below meth c b g i (cells + 1) (slots + 6) Q) : W p l e room_1 s m #[Value.ref b] below meth c H locs cells slots Q (F0 m 1203 ls []) := by
  obtain ⟨hx, hb, hml, hown, hts, hX, hbl, hbA, hZ, hT, hXN⟩ := C
  have hz0 : cells + 0 ≤ room_1.cells ∧ slots + 0 ≤ room_1.slots := ⟨by have := hcs.1; show cells ≤ 601024; omega, by have := hcs.2; show slots ≤ 7293034; omega⟩
  obtain ⟨r, σ1, σ2, e1, e2, hR2⟩ := rel_unknownAt σ hR (xs (i + 1).toNatClampNeg)
  refine lv_aload_n hx hb dL_law_1203 rfl (lv_at hl 1 rfl) ?_
  refine lv_aload_n hx hb dL_law_1204 rfl (lv_at hl 0 rfl) ?_
  refine lv_iload hx hb dL_law_1205 (lv_at hl 4 rfl) ?_
  refine lv_iconst (v := 1) hx hb dL_law_1207 (by decide) ?_
  refine lv_iadd hx hb dL_law_1208 ?_
  refine va_sld hx hb hX hbl hbA hS hin.1 dL_law_1209 ?_
  refine lwi (va_runV (As := [.int (xs (i + 1).toNatClampNeg)]) (rest := []) ⟨hx, hb, hml, hown, hts⟩ (c_X12_unknownAt g l σ (xs (i + 1).toNatClampNeg) r σ1 e1) (cwV 1 hts (gdV lm_L_156 lim_X12_unknownAt lse_X12_unknownAt ini_X12 lc_X12_unknownAt) rfl rfl rfl (by decide +kernel) ⟨(Nat.le_of_ble_eq_true rfl), (Nat.le_of_ble_eq_true rfl)⟩) (mpV_12 hZ hT hS hW tz_0 _) rfl rfl hl.1 rfl (lv_room (Nat.le_of_ble_eq_true rfl)) dL_law_1210 hz0) hS (fun H locs hW hS => ?_)
  refine lv_aload_n hx hb dL_law_1213 rfl (lv_at hl 2 rfl) ?_
  refine lv_aload_n hx hb dL_law_1214 rfl (lv_at hl 0 rfl) ?_
  refine lv_iload hx hb dL_law_1215 (lv_at hl 4 rfl) ?_
  refine lv_iconst (v := 1) hx hb dL_law_1217 (by decide) ?_
  refine lv_iadd hx hb dL_law_1218 ?_
  refine va_sld hx hb hX hbl hbA hS hin.1 dL_law_1219 ?_
  refine lwi (va_runV (As := [.int (xs (i + 1).toNatClampNeg)]) (rest := [.int r]) ⟨hx, hb, hml, hown, hts⟩ (c_X13_unknownAt g l σ1 (xs (i + 1).toNatClampNeg) r σ2 e2) (cwV 1 hts (gdV lm_L_159 lim_X13_unknownAt lse_X13_unknownAt ini_X13 lc_X13_unknownAt) rfl rfl rfl (by decide +kernel) ⟨(Nat.le_of_ble_eq_true rfl), (Nat.le_of_ble_eq_true rfl)⟩) (mpV_13 hZ hT hS hW tz_64 _) rfl rfl hl.1 rfl (lv_room (Nat.le_of_ble_eq_true rfl)) dL_law_1220 hz0) hS (fun H locs hW hS => ?_)
  exact lv_icmp_eq (tgt := 1609) hx hb dL_law_1223 (by decide) (fun _ => W.widen (k := cells + 1) (n := slots + 6) (Nat.le_succ _) (Nat.le_add_right _ _) (kk σ2 H locs ls hR2 hW hS hl)) (fun h => absurd rfl h)
set_option maxHeartbeats 1000000 in
set_option maxRecDepth 100000 in
theorem lwc_34 (C : LwC p s m c b L xs g) (hin : LwI L i) (hR : RLq σ) (hW : Wd g 0 81 σ H) (hS : va_S (Ag g 0) s.heap H locs) (hl : lv_has ls 7 (lwL b g i)) (hcs : cells + 1 ≤ 601024 ∧ slots + 6 ≤ 7293034) (kk : LwK p l e s m below meth c b g i (cells + 1) (slots + 6) Q) : W p l e room_1 s m #[Value.ref b] below meth c H locs cells slots Q (F0 m 1228 ls []) := by
  obtain ⟨hx, hb, hml, hown, hts, hX, hbl, hbA, hZ, hT, hXN⟩ := C
  have hz0 : cells + 0 ≤ room_1.cells ∧ slots + 0 ≤ room_1.slots := ⟨by have := hcs.1; show cells ≤ 601024; omega, by have := hcs.2; show slots ≤ 7293034; omega⟩
  obtain ⟨r, σ1, σ2, e1, e2, hR2⟩ := rel_pass σ hR
  refine lv_aload_n hx hb dL_law_1228 rfl (lv_at hl 1 rfl) ?_
  refine lwi (va_runV (As := []) (rest := []) ⟨hx, hb, hml, hown, hts⟩ (c_X12_pass g l σ r σ1 e1) (cwV 0 hts (gdV lm_L_160 lim_X12_pass lse_X12_pass ini_X12 lc_X12_pass) rfl rfl rfl (by decide +kernel) ⟨(Nat.le_of_ble_eq_true rfl), (Nat.le_of_ble_eq_true rfl)⟩) (mpV_12 hZ hT hS hW tz_0 _) rfl rfl hl.1 rfl (lv_room (Nat.le_of_ble_eq_true rfl)) dL_law_1229 hz0) hS (fun H locs hW hS => ?_)
  refine lv_aload_n hx hb dL_law_1232 rfl (lv_at hl 2 rfl) ?_
  refine lwi (va_runV (As := []) (rest := [.int r]) ⟨hx, hb, hml, hown, hts⟩ (c_X13_pass g l σ1 r σ2 e2) (cwV 0 hts (gdV lm_L_163 lim_X13_pass lse_X13_pass ini_X13 lc_X13_pass) rfl rfl rfl (by decide +kernel) ⟨(Nat.le_of_ble_eq_true rfl), (Nat.le_of_ble_eq_true rfl)⟩) (mpV_13 hZ hT hS hW tz_64 _) rfl rfl hl.1 rfl (lv_room (Nat.le_of_ble_eq_true rfl)) dL_law_1233 hz0) hS (fun H locs hW hS => ?_)
  exact lv_icmp_eq (tgt := 1609) hx hb dL_law_1236 (by decide) (fun _ => W.widen (k := cells + 1) (n := slots + 6) (Nat.le_succ _) (Nat.le_add_right _ _) (kk σ2 H locs ls hR2 hW hS hl)) (fun h => absurd rfl h)
set_option maxHeartbeats 1000000 in
set_option maxRecDepth 100000 in
theorem lwc_35 (C : LwC p s m c b L xs g) (hin : LwI L i) (hR : RLq σ) (hW : Wd g 0 81 σ H) (hS : va_S (Ag g 0) s.heap H locs) (hl : lv_has ls 7 (lwL b g i)) (hcs : cells + 1 ≤ 601024 ∧ slots + 6 ≤ 7293034) (kk : LwK p l e s m below meth c b g i (cells + 1) (slots + 6) Q) : W p l e room_1 s m #[Value.ref b] below meth c H locs cells slots Q (F0 m 1241 ls []) := by
  obtain ⟨hx, hb, hml, hown, hts, hX, hbl, hbA, hZ, hT, hXN⟩ := C
  have hz0 : cells + 0 ≤ room_1.cells ∧ slots + 0 ≤ room_1.slots := ⟨by have := hcs.1; show cells ≤ 601024; omega, by have := hcs.2; show slots ≤ 7293034; omega⟩
  obtain ⟨r, σ1, σ2, e1, e2, hR2⟩ := rel_passLeaves σ hR
  refine lv_aload_n hx hb dL_law_1241 rfl (lv_at hl 1 rfl) ?_
  refine lwi (va_runV (As := []) (rest := []) ⟨hx, hb, hml, hown, hts⟩ (c_X12_passLeaves g l σ r σ1 e1) (cwV 0 hts (gdV lm_L_164 lim_X12_passLeaves lse_X12_passLeaves ini_X12 lc_X12_passLeaves) rfl rfl rfl (by decide +kernel) ⟨(Nat.le_of_ble_eq_true rfl), (Nat.le_of_ble_eq_true rfl)⟩) (mpV_12 hZ hT hS hW tz_0 _) rfl rfl hl.1 rfl (lv_room (Nat.le_of_ble_eq_true rfl)) dL_law_1242 hz0) hS (fun H locs hW hS => ?_)
  refine lv_aload_n hx hb dL_law_1245 rfl (lv_at hl 2 rfl) ?_
  refine lwi (va_runV (As := []) (rest := [.int r]) ⟨hx, hb, hml, hown, hts⟩ (c_X13_passLeaves g l σ1 r σ2 e2) (cwV 0 hts (gdV lm_L_167 lim_X13_passLeaves lse_X13_passLeaves ini_X13 lc_X13_passLeaves) rfl rfl rfl (by decide +kernel) ⟨(Nat.le_of_ble_eq_true rfl), (Nat.le_of_ble_eq_true rfl)⟩) (mpV_13 hZ hT hS hW tz_64 _) rfl rfl hl.1 rfl (lv_room (Nat.le_of_ble_eq_true rfl)) dL_law_1246 hz0) hS (fun H locs hW hS => ?_)
  exact lv_icmp_eq (tgt := 1609) hx hb dL_law_1249 (by decide) (fun _ => W.widen (k := cells + 1) (n := slots + 6) (Nat.le_succ _) (Nat.le_add_right _ _) (kk σ2 H locs ls hR2 hW hS hl)) (fun h => absurd rfl h)
end LWC2
