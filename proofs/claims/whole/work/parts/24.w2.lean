section LWC1
variable {p : Program} {l : Launch} {e : Env} {s : State} {m : MethodId} {below : List Frame} {meth : Method} {c : Code} {H : Heap} {locs : List Loc} {cells slots : Nat} {Q : State → Prop} {ls : Array Slot} {g : XG} {σ : Mem} {b L : Nat} {xs : Nat → Int32} {i : Int32}
set_option maxHeartbeats 1000000 in
set_option maxRecDepth 100000 in
theorem lwc_12 (C : LwC p s m c b L xs g) (hin : LwI L i) (hR : RLq σ) (hW : Wd g 0 81 σ H) (hS : va_S (Ag g 0) s.heap H locs) (hl : lv_has ls 7 (lwL b g i)) (hcs : cells + 1 ≤ 601024 ∧ slots + 6 ≤ 7293034) (kk : LwK p l e s m below meth c b g i (cells + 1) (slots + 6) Q) : W p l e room_1 s m #[Value.ref b] below meth c H locs cells slots Q (F0 m 668 ls []) := by
  obtain ⟨hx, hb, hml, hown, hts, hX, hbl, hbA, hZ, hT, hXN⟩ := C
  have hz0 : cells + 0 ≤ room_1.cells ∧ slots + 0 ≤ room_1.slots := ⟨by have := hcs.1; show cells ≤ 601024; omega, by have := hcs.2; show slots ≤ 7293034; omega⟩
  obtain ⟨r, σ1, σ2, e1, e2, hR2⟩ := rel_stranger σ hR (xs (i + 1).toNatClampNeg)
  refine lv_aload_n hx hb dL_law_668 rfl (lv_at hl 1 rfl) ?_
  refine lv_aload_n hx hb dL_law_669 rfl (lv_at hl 0 rfl) ?_
  refine lv_iload hx hb dL_law_670 (lv_at hl 4 rfl) ?_
  refine lv_iconst (v := 1) hx hb dL_law_672 (by decide) ?_
  refine lv_iadd hx hb dL_law_673 ?_
  refine va_sld hx hb hX hbl hbA hS hin.1 dL_law_674 ?_
  refine lwi (va_runV (As := [.int (xs (i + 1).toNatClampNeg)]) (rest := []) ⟨hx, hb, hml, hown, hts⟩ (c_X12_stranger g l σ (xs (i + 1).toNatClampNeg) r σ1 e1) (cwV 1 hts (gdV lm_L_71 lim_X12_stranger lse_X12_stranger ini_X12 lc_X12_stranger) rfl rfl rfl (by decide +kernel) ⟨(Nat.le_of_ble_eq_true rfl), (Nat.le_of_ble_eq_true rfl)⟩) (mpV_12 hZ hT hS hW tz_0 _) rfl rfl hl.1 rfl (lv_room (Nat.le_of_ble_eq_true rfl)) dL_law_675 hz0) hS (fun H locs hW hS => ?_)
  refine lv_aload_n hx hb dL_law_678 rfl (lv_at hl 2 rfl) ?_
  refine lv_aload_n hx hb dL_law_679 rfl (lv_at hl 0 rfl) ?_
  refine lv_iload hx hb dL_law_680 (lv_at hl 4 rfl) ?_
  refine lv_iconst (v := 1) hx hb dL_law_682 (by decide) ?_
  refine lv_iadd hx hb dL_law_683 ?_
  refine va_sld hx hb hX hbl hbA hS hin.1 dL_law_684 ?_
  refine lwi (va_runV (As := [.int (xs (i + 1).toNatClampNeg)]) (rest := [.int r]) ⟨hx, hb, hml, hown, hts⟩ (c_X13_stranger g l σ1 (xs (i + 1).toNatClampNeg) r σ2 e2) (cwV 1 hts (gdV lm_L_74 lim_X13_stranger lse_X13_stranger ini_X13 lc_X13_stranger) rfl rfl rfl (by decide +kernel) ⟨(Nat.le_of_ble_eq_true rfl), (Nat.le_of_ble_eq_true rfl)⟩) (mpV_13 hZ hT hS hW tz_64 _) rfl rfl hl.1 rfl (lv_room (Nat.le_of_ble_eq_true rfl)) dL_law_685 hz0) hS (fun H locs hW hS => ?_)
  exact lv_icmp_eq (tgt := 1609) hx hb dL_law_688 (by decide) (fun _ => W.widen (k := cells + 1) (n := slots + 6) (Nat.le_succ _) (Nat.le_add_right _ _) (kk σ2 H locs ls hR2 hW hS hl)) (fun h => absurd rfl h)
set_option maxHeartbeats 1000000 in
set_option maxRecDepth 100000 in
theorem lwc_13 (C : LwC p s m c b L xs g) (hin : LwI L i) (hR : RLq σ) (hW : Wd g 0 81 σ H) (hS : va_S (Ag g 0) s.heap H locs) (hl : lv_has ls 7 (lwL b g i)) (hcs : cells + 1 ≤ 601024 ∧ slots + 6 ≤ 7293034) (kk : LwK p l e s m below meth c b g i (cells + 1) (slots + 6) Q) : W p l e room_1 s m #[Value.ref b] below meth c H locs cells slots Q (F0 m 693 ls []) := by
  obtain ⟨hx, hb, hml, hown, hts, hX, hbl, hbA, hZ, hT, hXN⟩ := C
  have hz0 : cells + 0 ≤ room_1.cells ∧ slots + 0 ≤ room_1.slots := ⟨by have := hcs.1; show cells ≤ 601024; omega, by have := hcs.2; show slots ≤ 7293034; omega⟩
  obtain ⟨r, σ1, σ2, e1, e2, hR2⟩ := rel_passes σ hR (xs (i + 1).toNatClampNeg) (xs (i + 2).toNatClampNeg)
  refine lv_aload_n hx hb dL_law_693 rfl (lv_at hl 1 rfl) ?_
  refine lv_aload_n hx hb dL_law_694 rfl (lv_at hl 0 rfl) ?_
  refine lv_iload hx hb dL_law_695 (lv_at hl 4 rfl) ?_
  refine lv_iconst (v := 1) hx hb dL_law_697 (by decide) ?_
  refine lv_iadd hx hb dL_law_698 ?_
  refine va_sld hx hb hX hbl hbA hS hin.1 dL_law_699 ?_
  refine lv_aload_n hx hb dL_law_700 rfl (lv_at hl 0 rfl) ?_
  refine lv_iload hx hb dL_law_701 (lv_at hl 4 rfl) ?_
  refine lv_iconst (v := 2) hx hb dL_law_703 (by decide) ?_
  refine lv_iadd hx hb dL_law_704 ?_
  refine va_sld hx hb hX hbl hbA hS hin.2.1 dL_law_705 ?_
  refine lwi (va_runV (As := [.int (xs (i + 1).toNatClampNeg), .int (xs (i + 2).toNatClampNeg)]) (rest := []) ⟨hx, hb, hml, hown, hts⟩ (c_X12_passes g l σ (xs (i + 1).toNatClampNeg) (xs (i + 2).toNatClampNeg) r σ1 e1) (cwV 2 hts (gdV lm_L_75 lim_X12_passes lse_X12_passes ini_X12 lc_X12_passes) rfl rfl rfl (by decide +kernel) ⟨(Nat.le_of_ble_eq_true rfl), (Nat.le_of_ble_eq_true rfl)⟩) (mpV_12 hZ hT hS hW tz_0 _) rfl rfl hl.1 rfl (lv_room (Nat.le_of_ble_eq_true rfl)) dL_law_706 hz0) hS (fun H locs hW hS => ?_)
  refine lv_aload_n hx hb dL_law_709 rfl (lv_at hl 2 rfl) ?_
  refine lv_aload_n hx hb dL_law_710 rfl (lv_at hl 0 rfl) ?_
  refine lv_iload hx hb dL_law_711 (lv_at hl 4 rfl) ?_
  refine lv_iconst (v := 1) hx hb dL_law_713 (by decide) ?_
  refine lv_iadd hx hb dL_law_714 ?_
  refine va_sld hx hb hX hbl hbA hS hin.1 dL_law_715 ?_
  refine lv_aload_n hx hb dL_law_716 rfl (lv_at hl 0 rfl) ?_
  refine lv_iload hx hb dL_law_717 (lv_at hl 4 rfl) ?_
  refine lv_iconst (v := 2) hx hb dL_law_719 (by decide) ?_
  refine lv_iadd hx hb dL_law_720 ?_
  refine va_sld hx hb hX hbl hbA hS hin.2.1 dL_law_721 ?_
  refine lwi (va_runV (As := [.int (xs (i + 1).toNatClampNeg), .int (xs (i + 2).toNatClampNeg)]) (rest := [.int r]) ⟨hx, hb, hml, hown, hts⟩ (c_X13_passes g l σ1 (xs (i + 1).toNatClampNeg) (xs (i + 2).toNatClampNeg) r σ2 e2) (cwV 2 hts (gdV lm_L_78 lim_X13_passes lse_X13_passes ini_X13 lc_X13_passes) rfl rfl rfl (by decide +kernel) ⟨(Nat.le_of_ble_eq_true rfl), (Nat.le_of_ble_eq_true rfl)⟩) (mpV_13 hZ hT hS hW tz_64 _) rfl rfl hl.1 rfl (lv_room (Nat.le_of_ble_eq_true rfl)) dL_law_722 hz0) hS (fun H locs hW hS => ?_)
  exact lv_icmp_eq (tgt := 1609) hx hb dL_law_725 (by decide) (fun _ => W.widen (k := cells + 1) (n := slots + 6) (Nat.le_succ _) (Nat.le_add_right _ _) (kk σ2 H locs ls hR2 hW hS hl)) (fun h => absurd rfl h)
set_option maxHeartbeats 1000000 in
set_option maxRecDepth 100000 in
theorem lwc_14 (C : LwC p s m c b L xs g) (hin : LwI L i) (hR : RLq σ) (hW : Wd g 0 81 σ H) (hS : va_S (Ag g 0) s.heap H locs) (hl : lv_has ls 7 (lwL b g i)) (hcs : cells + 1 ≤ 601024 ∧ slots + 6 ≤ 7293034) (kk : LwK p l e s m below meth c b g i (cells + 1) (slots + 6) Q) : W p l e room_1 s m #[Value.ref b] below meth c H locs cells slots Q (F0 m 730 ls []) := by
  obtain ⟨hx, hb, hml, hown, hts, hX, hbl, hbA, hZ, hT, hXN⟩ := C
  have hz0 : cells + 0 ≤ room_1.cells ∧ slots + 0 ≤ room_1.slots := ⟨by have := hcs.1; show cells ≤ 601024; omega, by have := hcs.2; show slots ≤ 7293034; omega⟩
  obtain ⟨r, σ1, σ2, e1, e2, hR2⟩ := rel_passedBy σ hR (xs (i + 1).toNatClampNeg) (xs (i + 2).toNatClampNeg)
  refine lv_aload_n hx hb dL_law_730 rfl (lv_at hl 1 rfl) ?_
  refine lv_aload_n hx hb dL_law_731 rfl (lv_at hl 0 rfl) ?_
  refine lv_iload hx hb dL_law_732 (lv_at hl 4 rfl) ?_
  refine lv_iconst (v := 1) hx hb dL_law_734 (by decide) ?_
  refine lv_iadd hx hb dL_law_735 ?_
  refine va_sld hx hb hX hbl hbA hS hin.1 dL_law_736 ?_
  refine lv_aload_n hx hb dL_law_737 rfl (lv_at hl 0 rfl) ?_
  refine lv_iload hx hb dL_law_738 (lv_at hl 4 rfl) ?_
  refine lv_iconst (v := 2) hx hb dL_law_740 (by decide) ?_
  refine lv_iadd hx hb dL_law_741 ?_
  refine va_sld hx hb hX hbl hbA hS hin.2.1 dL_law_742 ?_
  refine lwi (va_runV (As := [.int (xs (i + 1).toNatClampNeg), .int (xs (i + 2).toNatClampNeg)]) (rest := []) ⟨hx, hb, hml, hown, hts⟩ (c_X12_passedBy g l σ (xs (i + 1).toNatClampNeg) (xs (i + 2).toNatClampNeg) r σ1 e1) (cwV 2 hts (gdV lm_L_79 lim_X12_passedBy lse_X12_passedBy ini_X12 lc_X12_passedBy) rfl rfl rfl (by decide +kernel) ⟨(Nat.le_of_ble_eq_true rfl), (Nat.le_of_ble_eq_true rfl)⟩) (mpV_12 hZ hT hS hW tz_0 _) rfl rfl hl.1 rfl (lv_room (Nat.le_of_ble_eq_true rfl)) dL_law_743 hz0) hS (fun H locs hW hS => ?_)
  refine lv_aload_n hx hb dL_law_746 rfl (lv_at hl 2 rfl) ?_
  refine lv_aload_n hx hb dL_law_747 rfl (lv_at hl 0 rfl) ?_
  refine lv_iload hx hb dL_law_748 (lv_at hl 4 rfl) ?_
  refine lv_iconst (v := 1) hx hb dL_law_750 (by decide) ?_
  refine lv_iadd hx hb dL_law_751 ?_
  refine va_sld hx hb hX hbl hbA hS hin.1 dL_law_752 ?_
  refine lv_aload_n hx hb dL_law_753 rfl (lv_at hl 0 rfl) ?_
  refine lv_iload hx hb dL_law_754 (lv_at hl 4 rfl) ?_
  refine lv_iconst (v := 2) hx hb dL_law_756 (by decide) ?_
  refine lv_iadd hx hb dL_law_757 ?_
  refine va_sld hx hb hX hbl hbA hS hin.2.1 dL_law_758 ?_
  refine lwi (va_runV (As := [.int (xs (i + 1).toNatClampNeg), .int (xs (i + 2).toNatClampNeg)]) (rest := [.int r]) ⟨hx, hb, hml, hown, hts⟩ (c_X13_passedBy g l σ1 (xs (i + 1).toNatClampNeg) (xs (i + 2).toNatClampNeg) r σ2 e2) (cwV 2 hts (gdV lm_L_82 lim_X13_passedBy lse_X13_passedBy ini_X13 lc_X13_passedBy) rfl rfl rfl (by decide +kernel) ⟨(Nat.le_of_ble_eq_true rfl), (Nat.le_of_ble_eq_true rfl)⟩) (mpV_13 hZ hT hS hW tz_64 _) rfl rfl hl.1 rfl (lv_room (Nat.le_of_ble_eq_true rfl)) dL_law_759 hz0) hS (fun H locs hW hS => ?_)
  exact lv_icmp_eq (tgt := 1609) hx hb dL_law_762 (by decide) (fun _ => W.widen (k := cells + 1) (n := slots + 6) (Nat.le_succ _) (Nat.le_add_right _ _) (kk σ2 H locs ls hR2 hW hS hl)) (fun h => absurd rfl h)
set_option maxHeartbeats 1000000 in
set_option maxRecDepth 100000 in
theorem lwc_15 (C : LwC p s m c b L xs g) (hin : LwI L i) (hR : RLq σ) (hW : Wd g 0 81 σ H) (hS : va_S (Ag g 0) s.heap H locs) (hl : lv_has ls 7 (lwL b g i)) (hcs : cells + 1 ≤ 601024 ∧ slots + 6 ≤ 7293034) (kk : LwK p l e s m below meth c b g i (cells + 1) (slots + 6) Q) : W p l e room_1 s m #[Value.ref b] below meth c H locs cells slots Q (F0 m 767 ls []) := by
  obtain ⟨hx, hb, hml, hown, hts, hX, hbl, hbA, hZ, hT, hXN⟩ := C
  have hz0 : cells + 0 ≤ room_1.cells ∧ slots + 0 ≤ room_1.slots := ⟨by have := hcs.1; show cells ≤ 601024; omega, by have := hcs.2; show slots ≤ 7293034; omega⟩
  obtain ⟨r, σ1, σ2, e1, e2, hR2⟩ := rel_known σ hR (xs (i + 1).toNatClampNeg)
  refine lv_aload_n hx hb dL_law_767 rfl (lv_at hl 1 rfl) ?_
  refine lv_aload_n hx hb dL_law_768 rfl (lv_at hl 0 rfl) ?_
  refine lv_iload hx hb dL_law_769 (lv_at hl 4 rfl) ?_
  refine lv_iconst (v := 1) hx hb dL_law_771 (by decide) ?_
  refine lv_iadd hx hb dL_law_772 ?_
  refine va_sld hx hb hX hbl hbA hS hin.1 dL_law_773 ?_
  refine lwi (va_runV (As := [.int (xs (i + 1).toNatClampNeg)]) (rest := []) ⟨hx, hb, hml, hown, hts⟩ (c_X12_known g l σ (xs (i + 1).toNatClampNeg) r σ1 e1) (cwV 1 hts (gdV lm_L_83 lim_X12_known lse_X12_known ini_X12 lc_X12_known) rfl rfl rfl (by decide +kernel) ⟨(Nat.le_of_ble_eq_true rfl), (Nat.le_of_ble_eq_true rfl)⟩) (mpV_12 hZ hT hS hW tz_0 _) rfl rfl hl.1 rfl (lv_room (Nat.le_of_ble_eq_true rfl)) dL_law_774 hz0) hS (fun H locs hW hS => ?_)
  refine lv_aload_n hx hb dL_law_777 rfl (lv_at hl 2 rfl) ?_
  refine lv_aload_n hx hb dL_law_778 rfl (lv_at hl 0 rfl) ?_
  refine lv_iload hx hb dL_law_779 (lv_at hl 4 rfl) ?_
  refine lv_iconst (v := 1) hx hb dL_law_781 (by decide) ?_
  refine lv_iadd hx hb dL_law_782 ?_
  refine va_sld hx hb hX hbl hbA hS hin.1 dL_law_783 ?_
  refine lwi (va_runV (As := [.int (xs (i + 1).toNatClampNeg)]) (rest := [.int r]) ⟨hx, hb, hml, hown, hts⟩ (c_X13_known g l σ1 (xs (i + 1).toNatClampNeg) r σ2 e2) (cwV 1 hts (gdV lm_L_86 lim_X13_known lse_X13_known ini_X13 lc_X13_known) rfl rfl rfl (by decide +kernel) ⟨(Nat.le_of_ble_eq_true rfl), (Nat.le_of_ble_eq_true rfl)⟩) (mpV_13 hZ hT hS hW tz_64 _) rfl rfl hl.1 rfl (lv_room (Nat.le_of_ble_eq_true rfl)) dL_law_784 hz0) hS (fun H locs hW hS => ?_)
  exact lv_icmp_eq (tgt := 1609) hx hb dL_law_787 (by decide) (fun _ => W.widen (k := cells + 1) (n := slots + 6) (Nat.le_succ _) (Nat.le_add_right _ _) (kk σ2 H locs ls hR2 hW hS hl)) (fun h => absurd rfl h)
set_option maxHeartbeats 1000000 in
set_option maxRecDepth 100000 in
theorem lwc_16 (C : LwC p s m c b L xs g) (hin : LwI L i) (hR : RLq σ) (hW : Wd g 0 81 σ H) (hS : va_S (Ag g 0) s.heap H locs) (hl : lv_has ls 7 (lwL b g i)) (hcs : cells + 1 ≤ 601024 ∧ slots + 6 ≤ 7293034) (kk : LwK p l e s m below meth c b g i (cells + 1) (slots + 6) Q) : W p l e room_1 s m #[Value.ref b] below meth c H locs cells slots Q (F0 m 792 ls []) := by
  obtain ⟨hx, hb, hml, hown, hts, hX, hbl, hbA, hZ, hT, hXN⟩ := C
  have hz0 : cells + 0 ≤ room_1.cells ∧ slots + 0 ≤ room_1.slots := ⟨by have := hcs.1; show cells ≤ 601024; omega, by have := hcs.2; show slots ≤ 7293034; omega⟩
  obtain ⟨r, σ1, σ2, e1, e2, hR2⟩ := rel_worst σ hR (xs (i + 1).toNatClampNeg)
  refine lv_aload_n hx hb dL_law_792 rfl (lv_at hl 1 rfl) ?_
  refine lv_aload_n hx hb dL_law_793 rfl (lv_at hl 0 rfl) ?_
  refine lv_iload hx hb dL_law_794 (lv_at hl 4 rfl) ?_
  refine lv_iconst (v := 1) hx hb dL_law_796 (by decide) ?_
  refine lv_iadd hx hb dL_law_797 ?_
  refine va_sld hx hb hX hbl hbA hS hin.1 dL_law_798 ?_
  refine lwi (va_runV (As := [.int (xs (i + 1).toNatClampNeg)]) (rest := []) ⟨hx, hb, hml, hown, hts⟩ (c_X12_worst g l σ (xs (i + 1).toNatClampNeg) r σ1 e1) (cwV 1 hts (gdV lm_L_87 lim_X12_worst lse_X12_worst ini_X12 lc_X12_worst) rfl rfl rfl (by decide +kernel) ⟨(Nat.le_of_ble_eq_true rfl), (Nat.le_of_ble_eq_true rfl)⟩) (mpV_12 hZ hT hS hW tz_0 _) rfl rfl hl.1 rfl (lv_room (Nat.le_of_ble_eq_true rfl)) dL_law_799 hz0) hS (fun H locs hW hS => ?_)
  refine lv_aload_n hx hb dL_law_802 rfl (lv_at hl 2 rfl) ?_
  refine lv_aload_n hx hb dL_law_803 rfl (lv_at hl 0 rfl) ?_
  refine lv_iload hx hb dL_law_804 (lv_at hl 4 rfl) ?_
  refine lv_iconst (v := 1) hx hb dL_law_806 (by decide) ?_
  refine lv_iadd hx hb dL_law_807 ?_
  refine va_sld hx hb hX hbl hbA hS hin.1 dL_law_808 ?_
  refine lwi (va_runV (As := [.int (xs (i + 1).toNatClampNeg)]) (rest := [.int r]) ⟨hx, hb, hml, hown, hts⟩ (c_X13_worst g l σ1 (xs (i + 1).toNatClampNeg) r σ2 e2) (cwV 1 hts (gdV lm_L_90 lim_X13_worst lse_X13_worst ini_X13 lc_X13_worst) rfl rfl rfl (by decide +kernel) ⟨(Nat.le_of_ble_eq_true rfl), (Nat.le_of_ble_eq_true rfl)⟩) (mpV_13 hZ hT hS hW tz_64 _) rfl rfl hl.1 rfl (lv_room (Nat.le_of_ble_eq_true rfl)) dL_law_809 hz0) hS (fun H locs hW hS => ?_)
  exact lv_icmp_eq (tgt := 1609) hx hb dL_law_812 (by decide) (fun _ => W.widen (k := cells + 1) (n := slots + 6) (Nat.le_succ _) (Nat.le_add_right _ _) (kk σ2 H locs ls hR2 hW hS hl)) (fun h => absurd rfl h)
set_option maxHeartbeats 1000000 in
set_option maxRecDepth 100000 in
theorem lwc_17 (C : LwC p s m c b L xs g) (hin : LwI L i) (hR : RLq σ) (hW : Wd g 0 81 σ H) (hS : va_S (Ag g 0) s.heap H locs) (hl : lv_has ls 7 (lwL b g i)) (hcs : cells + 1 ≤ 601024 ∧ slots + 6 ≤ 7293034) (kk : LwK p l e s m below meth c b g i (cells + 1) (slots + 6) Q) : W p l e room_1 s m #[Value.ref b] below meth c H locs cells slots Q (F0 m 817 ls []) := by
  obtain ⟨hx, hb, hml, hown, hts, hX, hbl, hbA, hZ, hT, hXN⟩ := C
  have hz0 : cells + 0 ≤ room_1.cells ∧ slots + 0 ≤ room_1.slots := ⟨by have := hcs.1; show cells ≤ 601024; omega, by have := hcs.2; show slots ≤ 7293034; omega⟩
  obtain ⟨r, σ1, σ2, e1, e2, hR2⟩ := rel_doubles σ hR (xs (i + 1).toNatClampNeg)
  refine lv_aload_n hx hb dL_law_817 rfl (lv_at hl 1 rfl) ?_
  refine lv_aload_n hx hb dL_law_818 rfl (lv_at hl 0 rfl) ?_
  refine lv_iload hx hb dL_law_819 (lv_at hl 4 rfl) ?_
  refine lv_iconst (v := 1) hx hb dL_law_821 (by decide) ?_
  refine lv_iadd hx hb dL_law_822 ?_
  refine va_sld hx hb hX hbl hbA hS hin.1 dL_law_823 ?_
  refine lwi (va_runV (As := [.int (xs (i + 1).toNatClampNeg)]) (rest := []) ⟨hx, hb, hml, hown, hts⟩ (c_X12_doubles g l σ (xs (i + 1).toNatClampNeg) r σ1 e1) (cwV 1 hts (gdV lm_L_91 lim_X12_doubles lse_X12_doubles ini_X12 lc_X12_doubles) rfl rfl rfl (by decide +kernel) ⟨(Nat.le_of_ble_eq_true rfl), (Nat.le_of_ble_eq_true rfl)⟩) (mpV_12 hZ hT hS hW tz_0 _) rfl rfl hl.1 rfl (lv_room (Nat.le_of_ble_eq_true rfl)) dL_law_824 hz0) hS (fun H locs hW hS => ?_)
  refine lv_aload_n hx hb dL_law_827 rfl (lv_at hl 2 rfl) ?_
  refine lv_aload_n hx hb dL_law_828 rfl (lv_at hl 0 rfl) ?_
  refine lv_iload hx hb dL_law_829 (lv_at hl 4 rfl) ?_
  refine lv_iconst (v := 1) hx hb dL_law_831 (by decide) ?_
  refine lv_iadd hx hb dL_law_832 ?_
  refine va_sld hx hb hX hbl hbA hS hin.1 dL_law_833 ?_
  refine lwi (va_runV (As := [.int (xs (i + 1).toNatClampNeg)]) (rest := [.int r]) ⟨hx, hb, hml, hown, hts⟩ (c_X13_doubles g l σ1 (xs (i + 1).toNatClampNeg) r σ2 e2) (cwV 1 hts (gdV lm_L_94 lim_X13_doubles lse_X13_doubles ini_X13 lc_X13_doubles) rfl rfl rfl (by decide +kernel) ⟨(Nat.le_of_ble_eq_true rfl), (Nat.le_of_ble_eq_true rfl)⟩) (mpV_13 hZ hT hS hW tz_64 _) rfl rfl hl.1 rfl (lv_room (Nat.le_of_ble_eq_true rfl)) dL_law_834 hz0) hS (fun H locs hW hS => ?_)
  exact lv_icmp_eq (tgt := 1609) hx hb dL_law_837 (by decide) (fun _ => W.widen (k := cells + 1) (n := slots + 6) (Nat.le_succ _) (Nat.le_add_right _ _) (kk σ2 H locs ls hR2 hW hS hl)) (fun h => absurd rfl h)
set_option maxHeartbeats 1000000 in
set_option maxRecDepth 100000 in
theorem lwc_18 (C : LwC p s m c b L xs g) (hin : LwI L i) (hR : RLq σ) (hW : Wd g 0 81 σ H) (hS : va_S (Ag g 0) s.heap H locs) (hl : lv_has ls 7 (lwL b g i)) (hcs : cells + 1 ≤ 601024 ∧ slots + 6 ≤ 7293034) (kk : LwK p l e s m below meth c b g i (cells + 1) (slots + 6) Q) : W p l e room_1 s m #[Value.ref b] below meth c H locs cells slots Q (F0 m 842 ls []) := by
  obtain ⟨hx, hb, hml, hown, hts, hX, hbl, hbA, hZ, hT, hXN⟩ := C
  have hz0 : cells + 0 ≤ room_1.cells ∧ slots + 0 ≤ room_1.slots := ⟨by have := hcs.1; show cells ≤ 601024; omega, by have := hcs.2; show slots ≤ 7293034; omega⟩
  obtain ⟨r, σ1, σ2, e1, e2, hR2⟩ := rel_twins σ hR
  refine lv_aload_n hx hb dL_law_842 rfl (lv_at hl 1 rfl) ?_
  refine lwi (va_runV (As := []) (rest := []) ⟨hx, hb, hml, hown, hts⟩ (c_X12_twins g l σ r σ1 e1) (cwV 0 hts (gdV lm_L_95 lim_X12_twins lse_X12_twins ini_X12 lc_X12_twins) rfl rfl rfl (by decide +kernel) ⟨(Nat.le_of_ble_eq_true rfl), (Nat.le_of_ble_eq_true rfl)⟩) (mpV_12 hZ hT hS hW tz_0 _) rfl rfl hl.1 rfl (lv_room (Nat.le_of_ble_eq_true rfl)) dL_law_843 hz0) hS (fun H locs hW hS => ?_)
  refine lv_aload_n hx hb dL_law_846 rfl (lv_at hl 2 rfl) ?_
  refine lwi (va_runV (As := []) (rest := [.int r]) ⟨hx, hb, hml, hown, hts⟩ (c_X13_twins g l σ1 r σ2 e2) (cwV 0 hts (gdV lm_L_98 lim_X13_twins lse_X13_twins ini_X13 lc_X13_twins) rfl rfl rfl (by decide +kernel) ⟨(Nat.le_of_ble_eq_true rfl), (Nat.le_of_ble_eq_true rfl)⟩) (mpV_13 hZ hT hS hW tz_64 _) rfl rfl hl.1 rfl (lv_room (Nat.le_of_ble_eq_true rfl)) dL_law_847 hz0) hS (fun H locs hW hS => ?_)
  exact lv_icmp_eq (tgt := 1609) hx hb dL_law_850 (by decide) (fun _ => W.widen (k := cells + 1) (n := slots + 6) (Nat.le_succ _) (Nat.le_add_right _ _) (kk σ2 H locs ls hR2 hW hS hl)) (fun h => absurd rfl h)
set_option maxHeartbeats 1000000 in
set_option maxRecDepth 100000 in
theorem lwc_19 (C : LwC p s m c b L xs g) (hin : LwI L i) (hR : RLq σ) (hW : Wd g 0 81 σ H) (hS : va_S (Ag g 0) s.heap H locs) (hl : lv_has ls 7 (lwL b g i)) (hcs : cells + 1 ≤ 601024 ∧ slots + 6 ≤ 7293034) (kk : LwK p l e s m below meth c b g i (cells + 1) (slots + 6) Q) : W p l e room_1 s m #[Value.ref b] below meth c H locs cells slots Q (F0 m 855 ls []) := by
  obtain ⟨hx, hb, hml, hown, hts, hX, hbl, hbA, hZ, hT, hXN⟩ := C
  have hz0 : cells + 0 ≤ room_1.cells ∧ slots + 0 ≤ room_1.slots := ⟨by have := hcs.1; show cells ≤ 601024; omega, by have := hcs.2; show slots ≤ 7293034; omega⟩
  obtain ⟨r, σ1, σ2, e1, e2, hR2⟩ := rel_holds σ hR
  refine lv_aload_n hx hb dL_law_855 rfl (lv_at hl 1 rfl) ?_
  refine lwi (va_runV (As := []) (rest := []) ⟨hx, hb, hml, hown, hts⟩ (c_X12_holds g l σ r σ1 e1) (cwV 0 hts (gdV lm_L_99 lim_X12_holds lse_X12_holds ini_X12 lc_X12_holds) rfl rfl rfl (by decide +kernel) ⟨(Nat.le_of_ble_eq_true rfl), (Nat.le_of_ble_eq_true rfl)⟩) (mpV_12 hZ hT hS hW tz_0 _) rfl rfl hl.1 rfl (lv_room (Nat.le_of_ble_eq_true rfl)) dL_law_856 hz0) hS (fun H locs hW hS => ?_)
  refine lv_aload_n hx hb dL_law_859 rfl (lv_at hl 2 rfl) ?_
  refine lwi (va_runV (As := []) (rest := [.int r]) ⟨hx, hb, hml, hown, hts⟩ (c_X13_holds g l σ1 r σ2 e2) (cwV 0 hts (gdV lm_L_102 lim_X13_holds lse_X13_holds ini_X13 lc_X13_holds) rfl rfl rfl (by decide +kernel) ⟨(Nat.le_of_ble_eq_true rfl), (Nat.le_of_ble_eq_true rfl)⟩) (mpV_13 hZ hT hS hW tz_64 _) rfl rfl hl.1 rfl (lv_room (Nat.le_of_ble_eq_true rfl)) dL_law_860 hz0) hS (fun H locs hW hS => ?_)
  exact lv_icmp_eq (tgt := 1609) hx hb dL_law_863 (by decide) (fun _ => W.widen (k := cells + 1) (n := slots + 6) (Nat.le_succ _) (Nat.le_add_right _ _) (kk σ2 H locs ls hR2 hW hS hl)) (fun h => absurd rfl h)
set_option maxHeartbeats 1000000 in
set_option maxRecDepth 100000 in
theorem lwc_20 (C : LwC p s m c b L xs g) (hin : LwI L i) (hR : RLq σ) (hW : Wd g 0 81 σ H) (hS : va_S (Ag g 0) s.heap H locs) (hl : lv_has ls 7 (lwL b g i)) (hcs : cells + 1 ≤ 601024 ∧ slots + 6 ≤ 7293034) (kk : LwK p l e s m below meth c b g i (cells + 1) (slots + 6) Q) : W p l e room_1 s m #[Value.ref b] below meth c H locs cells slots Q (F0 m 868 ls []) := by
  obtain ⟨hx, hb, hml, hown, hts, hX, hbl, hbA, hZ, hT, hXN⟩ := C
  have hz0 : cells + 0 ≤ room_1.cells ∧ slots + 0 ≤ room_1.slots := ⟨by have := hcs.1; show cells ≤ 601024; omega, by have := hcs.2; show slots ≤ 7293034; omega⟩
  obtain ⟨r, σ1, σ2, e1, e2, hR2⟩ := rel_fewest σ hR
  refine lv_aload_n hx hb dL_law_868 rfl (lv_at hl 1 rfl) ?_
  refine lwi (va_runV (As := []) (rest := []) ⟨hx, hb, hml, hown, hts⟩ (c_X12_fewest g l σ r σ1 e1) (cwV 0 hts (gdV lm_L_103 lim_X12_fewest lse_X12_fewest ini_X12 lc_X12_fewest) rfl rfl rfl (by decide +kernel) ⟨(Nat.le_of_ble_eq_true rfl), (Nat.le_of_ble_eq_true rfl)⟩) (mpV_12 hZ hT hS hW tz_0 _) rfl rfl hl.1 rfl (lv_room (Nat.le_of_ble_eq_true rfl)) dL_law_869 hz0) hS (fun H locs hW hS => ?_)
  refine lv_aload_n hx hb dL_law_872 rfl (lv_at hl 2 rfl) ?_
  refine lwi (va_runV (As := []) (rest := [.int r]) ⟨hx, hb, hml, hown, hts⟩ (c_X13_fewest g l σ1 r σ2 e2) (cwV 0 hts (gdV lm_L_106 lim_X13_fewest lse_X13_fewest ini_X13 lc_X13_fewest) rfl rfl rfl (by decide +kernel) ⟨(Nat.le_of_ble_eq_true rfl), (Nat.le_of_ble_eq_true rfl)⟩) (mpV_13 hZ hT hS hW tz_64 _) rfl rfl hl.1 rfl (lv_room (Nat.le_of_ble_eq_true rfl)) dL_law_873 hz0) hS (fun H locs hW hS => ?_)
  exact lv_icmp_eq (tgt := 1609) hx hb dL_law_876 (by decide) (fun _ => W.widen (k := cells + 1) (n := slots + 6) (Nat.le_succ _) (Nat.le_add_right _ _) (kk σ2 H locs ls hR2 hW hS hl)) (fun h => absurd rfl h)
set_option maxHeartbeats 1000000 in
set_option maxRecDepth 100000 in
theorem lwc_21 (C : LwC p s m c b L xs g) (hin : LwI L i) (hR : RLq σ) (hW : Wd g 0 81 σ H) (hS : va_S (Ag g 0) s.heap H locs) (hl : lv_has ls 7 (lwL b g i)) (hcs : cells + 1 ≤ 601024 ∧ slots + 6 ≤ 7293034) (kk : LwK p l e s m below meth c b g i (cells + 1) (slots + 6) Q) : W p l e room_1 s m #[Value.ref b] below meth c H locs cells slots Q (F0 m 881 ls []) := by
  obtain ⟨hx, hb, hml, hown, hts, hX, hbl, hbA, hZ, hT, hXN⟩ := C
  have hz0 : cells + 0 ≤ room_1.cells ∧ slots + 0 ≤ room_1.slots := ⟨by have := hcs.1; show cells ≤ 601024; omega, by have := hcs.2; show slots ≤ 7293034; omega⟩
  obtain ⟨r, σ1, σ2, e1, e2, hR2⟩ := rel_fewestAt σ hR (xs (i + 1).toNatClampNeg)
  refine lv_aload_n hx hb dL_law_881 rfl (lv_at hl 1 rfl) ?_
  refine lv_aload_n hx hb dL_law_882 rfl (lv_at hl 0 rfl) ?_
  refine lv_iload hx hb dL_law_883 (lv_at hl 4 rfl) ?_
  refine lv_iconst (v := 1) hx hb dL_law_885 (by decide) ?_
  refine lv_iadd hx hb dL_law_886 ?_
  refine va_sld hx hb hX hbl hbA hS hin.1 dL_law_887 ?_
  refine lwi (va_runV (As := [.int (xs (i + 1).toNatClampNeg)]) (rest := []) ⟨hx, hb, hml, hown, hts⟩ (c_X12_fewestAt g l σ (xs (i + 1).toNatClampNeg) r σ1 e1) (cwV 1 hts (gdV lm_L_107 lim_X12_fewestAt lse_X12_fewestAt ini_X12 lc_X12_fewestAt) rfl rfl rfl (by decide +kernel) ⟨(Nat.le_of_ble_eq_true rfl), (Nat.le_of_ble_eq_true rfl)⟩) (mpV_12 hZ hT hS hW tz_0 _) rfl rfl hl.1 rfl (lv_room (Nat.le_of_ble_eq_true rfl)) dL_law_888 hz0) hS (fun H locs hW hS => ?_)
  refine lv_aload_n hx hb dL_law_891 rfl (lv_at hl 2 rfl) ?_
  refine lv_aload_n hx hb dL_law_892 rfl (lv_at hl 0 rfl) ?_
  refine lv_iload hx hb dL_law_893 (lv_at hl 4 rfl) ?_
  refine lv_iconst (v := 1) hx hb dL_law_895 (by decide) ?_
  refine lv_iadd hx hb dL_law_896 ?_
  refine va_sld hx hb hX hbl hbA hS hin.1 dL_law_897 ?_
  refine lwi (va_runV (As := [.int (xs (i + 1).toNatClampNeg)]) (rest := [.int r]) ⟨hx, hb, hml, hown, hts⟩ (c_X13_fewestAt g l σ1 (xs (i + 1).toNatClampNeg) r σ2 e2) (cwV 1 hts (gdV lm_L_110 lim_X13_fewestAt lse_X13_fewestAt ini_X13 lc_X13_fewestAt) rfl rfl rfl (by decide +kernel) ⟨(Nat.le_of_ble_eq_true rfl), (Nat.le_of_ble_eq_true rfl)⟩) (mpV_13 hZ hT hS hW tz_64 _) rfl rfl hl.1 rfl (lv_room (Nat.le_of_ble_eq_true rfl)) dL_law_898 hz0) hS (fun H locs hW hS => ?_)
  exact lv_icmp_eq (tgt := 1609) hx hb dL_law_901 (by decide) (fun _ => W.widen (k := cells + 1) (n := slots + 6) (Nat.le_succ _) (Nat.le_add_right _ _) (kk σ2 H locs ls hR2 hW hS hl)) (fun h => absurd rfl h)
set_option maxHeartbeats 1000000 in
set_option maxRecDepth 100000 in
theorem lwc_22 (C : LwC p s m c b L xs g) (hin : LwI L i) (hR : RLq σ) (hW : Wd g 0 81 σ H) (hS : va_S (Ag g 0) s.heap H locs) (hl : lv_has ls 7 (lwL b g i)) (hcs : cells + 1 ≤ 601024 ∧ slots + 6 ≤ 7293034) (kk : LwK p l e s m below meth c b g i (cells + 1) (slots + 6) Q) : W p l e room_1 s m #[Value.ref b] below meth c H locs cells slots Q (F0 m 906 ls []) := by
  obtain ⟨hx, hb, hml, hown, hts, hX, hbl, hbA, hZ, hT, hXN⟩ := C
  have hz0 : cells + 0 ≤ room_1.cells ∧ slots + 0 ≤ room_1.slots := ⟨by have := hcs.1; show cells ≤ 601024; omega, by have := hcs.2; show slots ≤ 7293034; omega⟩
  obtain ⟨r, σ1, σ2, e1, e2, hR2⟩ := rel_ring σ hR (xs (i + 1).toNatClampNeg)
  refine lv_aload_n hx hb dL_law_906 rfl (lv_at hl 1 rfl) ?_
  refine lv_aload_n hx hb dL_law_907 rfl (lv_at hl 0 rfl) ?_
  refine lv_iload hx hb dL_law_908 (lv_at hl 4 rfl) ?_
  refine lv_iconst (v := 1) hx hb dL_law_910 (by decide) ?_
  refine lv_iadd hx hb dL_law_911 ?_
  refine va_sld hx hb hX hbl hbA hS hin.1 dL_law_912 ?_
  refine lwi (va_runV (As := [.int (xs (i + 1).toNatClampNeg)]) (rest := []) ⟨hx, hb, hml, hown, hts⟩ (c_X12_ring g l σ (xs (i + 1).toNatClampNeg) r σ1 e1) (cwV 1 hts (gdV lm_L_111 lim_X12_ring lse_X12_ring ini_X12 lc_X12_ring) rfl rfl rfl (by decide +kernel) ⟨(Nat.le_of_ble_eq_true rfl), (Nat.le_of_ble_eq_true rfl)⟩) (mpV_12 hZ hT hS hW tz_0 _) rfl rfl hl.1 rfl (lv_room (Nat.le_of_ble_eq_true rfl)) dL_law_913 hz0) hS (fun H locs hW hS => ?_)
  refine lv_aload_n hx hb dL_law_916 rfl (lv_at hl 2 rfl) ?_
  refine lv_aload_n hx hb dL_law_917 rfl (lv_at hl 0 rfl) ?_
  refine lv_iload hx hb dL_law_918 (lv_at hl 4 rfl) ?_
  refine lv_iconst (v := 1) hx hb dL_law_920 (by decide) ?_
  refine lv_iadd hx hb dL_law_921 ?_
  refine va_sld hx hb hX hbl hbA hS hin.1 dL_law_922 ?_
  refine lwi (va_runV (As := [.int (xs (i + 1).toNatClampNeg)]) (rest := [.int r]) ⟨hx, hb, hml, hown, hts⟩ (c_X13_ring g l σ1 (xs (i + 1).toNatClampNeg) r σ2 e2) (cwV 1 hts (gdV lm_L_114 lim_X13_ring lse_X13_ring ini_X13 lc_X13_ring) rfl rfl rfl (by decide +kernel) ⟨(Nat.le_of_ble_eq_true rfl), (Nat.le_of_ble_eq_true rfl)⟩) (mpV_13 hZ hT hS hW tz_64 _) rfl rfl hl.1 rfl (lv_room (Nat.le_of_ble_eq_true rfl)) dL_law_923 hz0) hS (fun H locs hW hS => ?_)
  exact lv_icmp_eq (tgt := 1609) hx hb dL_law_926 (by decide) (fun _ => W.widen (k := cells + 1) (n := slots + 6) (Nat.le_succ _) (Nat.le_add_right _ _) (kk σ2 H locs ls hR2 hW hS hl)) (fun h => absurd rfl h)
set_option maxHeartbeats 1000000 in
set_option maxRecDepth 100000 in
theorem lwc_23 (C : LwC p s m c b L xs g) (hin : LwI L i) (hR : RLq σ) (hW : Wd g 0 81 σ H) (hS : va_S (Ag g 0) s.heap H locs) (hl : lv_has ls 7 (lwL b g i)) (hcs : cells + 1 ≤ 601024 ∧ slots + 6 ≤ 7293034) (kk : LwK p l e s m below meth c b g i (cells + 1) (slots + 6) Q) : W p l e room_1 s m #[Value.ref b] below meth c H locs cells slots Q (F0 m 931 ls []) := by
  obtain ⟨hx, hb, hml, hown, hts, hX, hbl, hbA, hZ, hT, hXN⟩ := C
  have hz0 : cells + 0 ≤ room_1.cells ∧ slots + 0 ≤ room_1.slots := ⟨by have := hcs.1; show cells ≤ 601024; omega, by have := hcs.2; show slots ≤ 7293034; omega⟩
  obtain ⟨r, σ1, σ2, e1, e2, hR2⟩ := rel_changed σ hR
  refine lv_aload_n hx hb dL_law_931 rfl (lv_at hl 1 rfl) ?_
  refine lwi (va_runV (As := []) (rest := []) ⟨hx, hb, hml, hown, hts⟩ (c_X12_changed g l σ r σ1 e1) (cwV 0 hts (gdV lm_L_115 lim_X12_changed lse_X12_changed ini_X12 lc_X12_changed) rfl rfl rfl (by decide +kernel) ⟨(Nat.le_of_ble_eq_true rfl), (Nat.le_of_ble_eq_true rfl)⟩) (mpV_12 hZ hT hS hW tz_0 _) rfl rfl hl.1 rfl (lv_room (Nat.le_of_ble_eq_true rfl)) dL_law_932 hz0) hS (fun H locs hW hS => ?_)
  refine lv_aload_n hx hb dL_law_935 rfl (lv_at hl 2 rfl) ?_
  refine lwi (va_runV (As := []) (rest := [.int r]) ⟨hx, hb, hml, hown, hts⟩ (c_X13_changed g l σ1 r σ2 e2) (cwV 0 hts (gdV lm_L_118 lim_X13_changed lse_X13_changed ini_X13 lc_X13_changed) rfl rfl rfl (by decide +kernel) ⟨(Nat.le_of_ble_eq_true rfl), (Nat.le_of_ble_eq_true rfl)⟩) (mpV_13 hZ hT hS hW tz_64 _) rfl rfl hl.1 rfl (lv_room (Nat.le_of_ble_eq_true rfl)) dL_law_936 hz0) hS (fun H locs hW hS => ?_)
  exact lv_icmp_eq (tgt := 1609) hx hb dL_law_939 (by decide) (fun _ => W.widen (k := cells + 1) (n := slots + 6) (Nat.le_succ _) (Nat.le_add_right _ _) (kk σ2 H locs ls hR2 hW hS hl)) (fun h => absurd rfl h)
end LWC1
