def f_X13_worst (σ : Mem) (a1 : Int32) : Option (Int32 × Mem) :=
  bd1 (f_X13_good σ) (fun (σ_1 : Mem) => bd1 (f_X13_why (σ_1.1 64 14) a1) (fun (r_2 : Int32) => (if r_2 = 0 then fx2 FU (fun k_5 (i_3 : Int32) (i_4 : Int32) => ixd 4 (aln 67) ((if (σ_1.1 67 (4 : Int32).toNatClampNeg) ≤ i_4 then some (i_3, σ_1) else bd1 (f_X13_lookOn σ_1 i_4 a1) (fun (r_6 : Int32) => bd1 (f_X13_beliefOn σ_1 i_4 a1) (fun (r_7 : Int32) => bd1 (f_X13_unlike σ_1 r_6 r_7) (fun (r_8 : Int32) => bd1 (f_X13_lookOn σ_1 i_3 a1) (fun (r_9 : Int32) => bd1 (f_X13_beliefOn σ_1 i_3 a1) (fun (r_10 : Int32) => bd1 (f_X13_unlike σ_1 r_9 r_10) (fun (r_11 : Int32) => jn1 (fun (i_12 : Int32) => nm (i_4 + 1) (fun (x_14 : Int32) => k_5 i_12 x_14)) (fun k_13 => (if r_8 ≤ r_11 then k_13 i_3 else k_13 i_4))))))))))) 0 1 else bd2 (f_X13_no σ_1 r_2) (fun (r_16 : Int32) (σ_17 : Mem) => some (r_16, σ_17)))))
set_option maxHeartbeats 4000000 in
set_option maxRecDepth 100000 in
theorem c_X13_worst (g : XG) (l : Launch) (σ : Mem) (a1 : Int32) (r : Int32) (τ : Mem) (hf : f_X13_worst σ a1 = some (r, τ)) : Met l yX13_worst (wx (.code yX13_worst cX13_worst 5 (some .int))) (kr 4 93) (va_Pc [.ref (bs g 64), .int a1] (WS g 0 81 σ)) (Qi' g 0 81 r τ) 0 0 (Ag g 0) := by
  refine Met.ofW (cc := cX13_worst) (maxL := 5) (ret := (some .int)) (by decide) rfl ?_
  intro p e s m args below meth c s₁ B hml hv
  obtain ⟨rfl, hZ, hT, hW⟩ := hv
  have hx := B.exec
  have hb := B.bytes
  have hr := B.returns
  have hts : ∀ w ∈ wx (.code yX13_worst cX13_worst 5 (some .int)), w.before _ s = true := atoms_spec B.pre
  have htg : ∀ w ∈ lwg, w.before _ s = true := fun w h => hts w (List.mem_cons_of_mem _ h)
  have hown : s.vm.findClass RX13 = some m.cls := findClass_of_methodNamed B.named
  have hlocks := B.notSynchronized
  change W p l e (kr 4 93) s m (List.toArray [.ref (bs g 64), .int a1]) below meth c s.heap [] 0 0 (MQ below (Qi' g 0 81 r τ) (List.toArray [.ref (bs g 64), .int a1]) s 0 0 (Ag g 0)) _
  generalize hQ : MQ below (Qi' g 0 81 r τ) (List.toArray [.ref (bs g 64), .int a1]) s 0 0 (Ag g 0) = Q
  have hS : va_S (Ag g 0) s.heap s.heap [] := va_S.rf
  have hl := lv_entry ([.ref (bs g 64), .int a1]) (n := 5) (Nat.le_of_ble_eq_true rfl)
  rw [lg_entry_eq]
  generalize (lg_sl ([.ref (bs g 64), .int a1]) ++ List.replicate (5 - (lg_sl ([.ref (bs g 64), .int a1])).length) Slot.unset).toArray = ls at hl ⊢
  have hl : lv_has ls 5 [(0, .ref (bs g 64)), (1, .int a1)] := hl
  delta f_X13_worst at hf
  obtain ⟨H, hH⟩ : ∃ H, H = s.heap := ⟨_, rfl⟩
  obtain ⟨locs, hLc⟩ : ∃ z : List Loc, z = [] := ⟨_, rfl⟩
  have hS : va_S (Ag g 0) s.heap H locs := by rw [hH, hLc]; exact hS
  have hW : Wd g 0 81 σ H := by rw [hH]; exact hW
  suffices hG : W p l e (kr 4 93) s m (List.toArray [.ref (bs g 64), .int a1]) below meth c H locs 0 0 Q (F0 m 0 ls []) by rw [hH, hLc] at hG; exact hG
  clear hH hLc
  refine lv_aload_n hx hb dX13_worst_0 rfl (lv_at hl 0 rfl) ?_
  refine mcv hf hS (fun τ h => va_runV (As := []) (rest := []) ⟨hx, hb, hml, hown, hts⟩ (c_X13_good g l σ τ h) (cl_X13_166 hts ⟨Nat.le_of_ble_eq_true rfl, Nat.le_of_ble_eq_true rfl⟩) (mpV_13 hZ hT hS hW tz_64 _) rfl rfl hl.1 rfl (lv_room (Nat.le_of_ble_eq_true rfl)) dX13_worst_1 ⟨Nat.zero_le _, Nat.zero_le _⟩) (fun σ_1 H locs hf hW hS => ?_)
  refine lv_aload_n hx hb dX13_worst_4 rfl (lv_at hl 0 rfl) ?_
  refine lv_aload_n hx hb dX13_worst_5 rfl (lv_at hl 0 rfl) ?_
  refine gf_13_14 hx hb htg (htg _ lf_X13_179) hown hZ hW tz_64 dX13_worst_6 ?_
  refine lv_iload_n hx hb dX13_worst_9 rfl (lv_at hl 1 rfl) ?_
  refine mcip hf hS (fun r h => va_runV (As := [.int (σ_1.1 64 14), .int a1]) (rest := []) ⟨hx, hb, hml, hown, hts⟩ (c_X13_why g l σ_1 (σ_1.1 64 14) a1 r h) (cl_X13_281 hts ⟨Nat.le_of_ble_eq_true rfl, Nat.le_of_ble_eq_true rfl⟩) (mpV_13 hZ hT hS hW tz_64 _) rfl rfl hl.1 rfl (lv_room (Nat.le_of_ble_eq_true rfl)) dX13_worst_10 ⟨Nat.zero_le _, Nat.zero_le _⟩) (fun r_2 H locs hf hW hS => ?_)
  refine lv_istore_n (lv' := [(2, .int r_2), (0, .ref (bs g 64)), (1, .int a1)]) hx hb dX13_worst_13 rfl hl (by decide) rfl (fun ls hl => ?_)
  refine lv_iload_n hx hb dX13_worst_14 rfl (lv_at hl 0 rfl) ?_
  refine lv_if_eq (tgt := 24) hx hb dX13_worst_15 (by decide) (fun hc => ?_) (fun hc => ?_)
  · have hf := ift hc hf
    refine lv_iconst (v := 0) hx hb dX13_worst_24 (by decide) ?_
    refine lv_istore_n (lv' := [(3, .int 0), (2, .int r_2), (0, .ref (bs g 64)), (1, .int a1)]) hx hb dX13_worst_25 rfl hl (by decide) rfl (fun ls hl => ?_)
    refine lv_iconst (v := 1) hx hb dX13_worst_26 (by decide) ?_
    refine lv_istore (lv' := [(4, .int 1), (3, .int 0), (2, .int r_2), (0, .ref (bs g 64)), (1, .int a1)]) hx hb dX13_worst_27 hl (by decide) rfl (fun ls hl => ?_)
    refine fx2_W (fun (i_3 : Int32) (i_4 : Int32) => ∀ (H : Heap) (locs : List Loc) (ls : Array Slot), Wd g 0 81 σ_1 H → va_S (Ag g 0) s.heap H locs → lv_has ls 5 [(0, .ref (bs g 64)), (1, .int a1), (3, .int i_3), (4, .int i_4)] → W p l e (kr 4 93) s m (List.toArray [.ref (bs g 64), .int a1]) below meth c H locs 0 0 Q (F0 m 29 ls [])) (fun k_5 hk_5 i_3 i_4 hf => ?_) FU 0 1 hf H locs ls hW hS (lv_sub hl [3, 4, 1, 0] rfl)
    intro H locs ls hW hS hl
    refine lv_iload hx hb dX13_worst_29 (lv_at hl 3 rfl) ?_
    refine lv_aload_n hx hb dX13_worst_31 rfl (lv_at hl 0 rfl) ?_
    refine gf_13_15 hx hb htg (htg _ lf_X13_20) hown hZ hW tz_64 dX13_worst_32 ?_
    refine lv_iconst (v := 4) hx hb dX13_worst_35 (by decide) ?_
    refine mld_i hx hb hZ hW tz_67 hf dX13_worst_36 (fun hf => ?_)
    refine lv_icmp_ge (tgt := 90) hx hb dX13_worst_37 (by decide) (fun hc => ?_) (fun hc => ?_)
    · have hf := ift hc hf
      refine lv_iload_n hx hb dX13_worst_90 rfl (lv_at hl 2 rfl) ?_
      subst hQ
      exact mri hx hb hr hlocks hZ hT hS hW (pr1 hf) dX13_worst_91
    · have hf := iff_ hc hf
      refine lv_aload_n hx hb dX13_worst_40 rfl (lv_at hl 0 rfl) ?_
      refine lv_aload_n hx hb dX13_worst_41 rfl (lv_at hl 0 rfl) ?_
      refine lv_iload hx hb dX13_worst_42 (lv_at hl 3 rfl) ?_
      refine lv_iload_n hx hb dX13_worst_44 rfl (lv_at hl 1 rfl) ?_
      refine mcip hf hS (fun r h => va_runV (As := [.int i_4, .int a1]) (rest := [.ref (bs g 64)]) ⟨hx, hb, hml, hown, hts⟩ (c_X13_lookOn g l σ_1 i_4 a1 r h) (cl_X13_263 hts ⟨Nat.le_of_ble_eq_true rfl, Nat.le_of_ble_eq_true rfl⟩) (mpV_13 hZ hT hS hW tz_64 _) rfl rfl hl.1 rfl (lv_room (Nat.le_of_ble_eq_true rfl)) dX13_worst_45 ⟨Nat.zero_le _, Nat.zero_le _⟩) (fun r_6 H locs hf hW hS => ?_)
      refine lv_aload_n hx hb dX13_worst_48 rfl (lv_at hl 0 rfl) ?_
      refine lv_iload hx hb dX13_worst_49 (lv_at hl 3 rfl) ?_
      refine lv_iload_n hx hb dX13_worst_51 rfl (lv_at hl 1 rfl) ?_
      refine mcip hf hS (fun r h => va_runV (As := [.int i_4, .int a1]) (rest := [.int r_6, .ref (bs g 64)]) ⟨hx, hb, hml, hown, hts⟩ (c_X13_beliefOn g l σ_1 i_4 a1 r h) (cl_X13_266 hts ⟨Nat.le_of_ble_eq_true rfl, Nat.le_of_ble_eq_true rfl⟩) (mpV_13 hZ hT hS hW tz_64 _) rfl rfl hl.1 rfl (lv_room (Nat.le_of_ble_eq_true rfl)) dX13_worst_52 ⟨Nat.zero_le _, Nat.zero_le _⟩) (fun r_7 H locs hf hW hS => ?_)
      refine mcip hf hS (fun r h => va_runV (As := [.int r_6, .int r_7]) (rest := []) ⟨hx, hb, hml, hown, hts⟩ (c_X13_unlike g l σ_1 r_6 r_7 r h) (cl_X13_269 hts ⟨Nat.le_of_ble_eq_true rfl, Nat.le_of_ble_eq_true rfl⟩) (mpV_13 hZ hT hS hW tz_64 _) rfl rfl hl.1 rfl (lv_room (Nat.le_of_ble_eq_true rfl)) dX13_worst_55 ⟨Nat.zero_le _, Nat.zero_le _⟩) (fun r_8 H locs hf hW hS => ?_)
      refine lv_aload_n hx hb dX13_worst_58 rfl (lv_at hl 0 rfl) ?_
      refine lv_aload_n hx hb dX13_worst_59 rfl (lv_at hl 0 rfl) ?_
      refine lv_iload_n hx hb dX13_worst_60 rfl (lv_at hl 2 rfl) ?_
      refine lv_iload_n hx hb dX13_worst_61 rfl (lv_at hl 1 rfl) ?_
      refine mcip hf hS (fun r h => va_runV (As := [.int i_3, .int a1]) (rest := [.ref (bs g 64), .int r_8]) ⟨hx, hb, hml, hown, hts⟩ (c_X13_lookOn g l σ_1 i_3 a1 r h) (cl_X13_263 hts ⟨Nat.le_of_ble_eq_true rfl, Nat.le_of_ble_eq_true rfl⟩) (mpV_13 hZ hT hS hW tz_64 _) rfl rfl hl.1 rfl (lv_room (Nat.le_of_ble_eq_true rfl)) dX13_worst_62 ⟨Nat.zero_le _, Nat.zero_le _⟩) (fun r_9 H locs hf hW hS => ?_)
      refine lv_aload_n hx hb dX13_worst_65 rfl (lv_at hl 0 rfl) ?_
      refine lv_iload_n hx hb dX13_worst_66 rfl (lv_at hl 2 rfl) ?_
      refine lv_iload_n hx hb dX13_worst_67 rfl (lv_at hl 1 rfl) ?_
      refine mcip hf hS (fun r h => va_runV (As := [.int i_3, .int a1]) (rest := [.int r_9, .ref (bs g 64), .int r_8]) ⟨hx, hb, hml, hown, hts⟩ (c_X13_beliefOn g l σ_1 i_3 a1 r h) (cl_X13_266 hts ⟨Nat.le_of_ble_eq_true rfl, Nat.le_of_ble_eq_true rfl⟩) (mpV_13 hZ hT hS hW tz_64 _) rfl rfl hl.1 rfl (lv_room (Nat.le_of_ble_eq_true rfl)) dX13_worst_68 ⟨Nat.zero_le _, Nat.zero_le _⟩) (fun r_10 H locs hf hW hS => ?_)
      refine mcip hf hS (fun r h => va_runV (As := [.int r_9, .int r_10]) (rest := [.int r_8]) ⟨hx, hb, hml, hown, hts⟩ (c_X13_unlike g l σ_1 r_9 r_10 r h) (cl_X13_269 hts ⟨Nat.le_of_ble_eq_true rfl, Nat.le_of_ble_eq_true rfl⟩) (mpV_13 hZ hT hS hW tz_64 _) rfl rfl hl.1 rfl (lv_room (Nat.le_of_ble_eq_true rfl)) dX13_worst_71 ⟨Nat.zero_le _, Nat.zero_le _⟩) (fun r_11 H locs hf hW hS => ?_)
      refine jn1_W (fun (i_12 : Int32) => ∀ (H : Heap) (locs : List Loc) (ls : Array Slot), Wd g 0 81 σ_1 H → va_S (Ag g 0) s.heap H locs → lv_has ls 5 [(0, .ref (bs g 64)), (1, .int a1), (4, .int i_4)] → W p l e (kr 4 93) s m (List.toArray [.ref (bs g 64), .int a1]) below meth c H locs 0 0 Q (F0 m 83 ls [.int i_12])) hf (fun i_12 hf => ?_) (fun k_13 hk_13 hf => ?_)
      · intro H locs ls hW hS hl
        refine lv_istore_n (lv' := [(3, .int i_12), (0, .ref (bs g 64)), (1, .int a1), (4, .int i_4)]) hx hb dX13_worst_83 rfl hl (by decide) rfl (fun ls hl => ?_)
        obtain ⟨x_14, e_15, hf⟩ := nm_s hf
        refine lv_iinc (v := x_14) (lv' := [(4, .int x_14), (3, .int i_12), (0, .ref (bs g 64)), (1, .int a1)]) hx hb dX13_worst_84 hl (k := 3) rfl (by rw [e_15]; rfl) (by decide) rfl (fun ls hl => ?_)
        refine lv_goto (tgt := 29) hx hb dX13_worst_87 (by decide) ?_
        exact hk_5 i_12 x_14 hf H locs ls hW hS (lv_sub hl [2, 3, 1, 0] rfl)
      · refine lv_icmp_le (tgt := 82) hx hb dX13_worst_74 (by decide) (fun hc => ?_) (fun hc => ?_)
        · have hf := ift hc hf
          refine lv_iload_n hx hb dX13_worst_82 rfl (lv_at hl 2 rfl) ?_
          exact hk_13 i_3 hf H locs ls hW hS (lv_sub hl [0, 1, 3] rfl)
        · have hf := iff_ hc hf
          refine lv_iload hx hb dX13_worst_77 (lv_at hl 3 rfl) ?_
          refine lv_goto (tgt := 83) hx hb dX13_worst_79 (by decide) ?_
          exact hk_13 i_4 hf H locs ls hW hS (lv_sub hl [0, 1, 3] rfl)
  · have hf := iff_ hc hf
    refine lv_aload_n hx hb dX13_worst_18 rfl (lv_at hl 1 rfl) ?_
    refine lv_iload_n hx hb dX13_worst_19 rfl (lv_at hl 0 rfl) ?_
    refine mci hf hS (fun r τ h => va_runV (As := [.int r_2]) (rest := []) ⟨hx, hb, hml, hown, hts⟩ (c_X13_no g l σ_1 r_2 r τ h) (cl_X13_169 hts ⟨Nat.le_of_ble_eq_true rfl, Nat.le_of_ble_eq_true rfl⟩) (mpV_13 hZ hT hS hW tz_64 _) rfl rfl hl.1 rfl (lv_room (Nat.le_of_ble_eq_true rfl)) dX13_worst_20 ⟨Nat.zero_le _, Nat.zero_le _⟩) (fun r_16 σ_17 H locs hf hW hS => ?_)
    subst hQ
    exact mri hx hb hr hlocks hZ hT hS hW (pr1 hf) dX13_worst_23
def f_X13_isVisit (σ : Mem) (a1 : Int32) : Option (Int32) :=
  ixd 79 (aln 69) (bd1 (f_X13_in a1 (σ.1 69 (79 : Int32).toNatClampNeg) 29) (fun (r_1 : Int32) => jn0 (some 0) (fun k_2 => (if r_1 = 0 then k_2 else ixd a1 (aln 69) ((if (σ.1 69 a1.toNatClampNeg) ≤ 0 then k_2 else some 1))))))
set_option maxHeartbeats 4000000 in
set_option maxRecDepth 100000 in
theorem c_X13_isVisit (g : XG) (l : Launch) (σ : Mem) (a1 : Int32) (r : Int32) (hf : f_X13_isVisit σ a1 = some r) : Met l yX13_isVisit (wx (.code yX13_isVisit cX13_isVisit 2 (some .boolean))) (kr 1 22) (va_Pc [.ref (bs g 64), .int a1] (WS g 0 81 σ)) (Qi' g 0 81 r σ) 0 0 (Ag g 0) := by
  refine Met.ofW (cc := cX13_isVisit) (maxL := 2) (ret := (some .boolean)) (by decide) rfl ?_
  intro p e s m args below meth c s₁ B hml hv
  obtain ⟨rfl, hZ, hT, hW⟩ := hv
  have hx := B.exec
  have hb := B.bytes
  have hr := B.returns
  have hts : ∀ w ∈ wx (.code yX13_isVisit cX13_isVisit 2 (some .boolean)), w.before _ s = true := atoms_spec B.pre
  have htg : ∀ w ∈ lwg, w.before _ s = true := fun w h => hts w (List.mem_cons_of_mem _ h)
  have hown : s.vm.findClass RX13 = some m.cls := findClass_of_methodNamed B.named
  have hlocks := B.notSynchronized
  change W p l e (kr 1 22) s m (List.toArray [.ref (bs g 64), .int a1]) below meth c s.heap [] 0 0 (MQ below (Qi' g 0 81 r σ) (List.toArray [.ref (bs g 64), .int a1]) s 0 0 (Ag g 0)) _
  generalize hQ : MQ below (Qi' g 0 81 r σ) (List.toArray [.ref (bs g 64), .int a1]) s 0 0 (Ag g 0) = Q
  have hS : va_S (Ag g 0) s.heap s.heap [] := va_S.rf
  have hl := lv_entry ([.ref (bs g 64), .int a1]) (n := 2) (Nat.le_of_ble_eq_true rfl)
  rw [lg_entry_eq]
  generalize (lg_sl ([.ref (bs g 64), .int a1]) ++ List.replicate (2 - (lg_sl ([.ref (bs g 64), .int a1])).length) Slot.unset).toArray = ls at hl ⊢
  have hl : lv_has ls 2 [(0, .ref (bs g 64)), (1, .int a1)] := hl
  delta f_X13_isVisit at hf
  obtain ⟨H, hH⟩ : ∃ H, H = s.heap := ⟨_, rfl⟩
  obtain ⟨locs, hLc⟩ : ∃ z : List Loc, z = [] := ⟨_, rfl⟩
  have hS : va_S (Ag g 0) s.heap H locs := by rw [hH, hLc]; exact hS
  have hW : Wd g 0 81 σ H := by rw [hH]; exact hW
  suffices hG : W p l e (kr 1 22) s m (List.toArray [.ref (bs g 64), .int a1]) below meth c H locs 0 0 Q (F0 m 0 ls []) by rw [hH, hLc] at hG; exact hG
  clear hH hLc
  refine lv_iload_n hx hb dX13_isVisit_0 rfl (lv_at hl 1 rfl) ?_
  refine lv_aload_n hx hb dX13_isVisit_1 rfl (lv_at hl 0 rfl) ?_
  refine gf_13_17 hx hb htg (htg _ lf_X13_26) hown hZ hW tz_64 dX13_isVisit_2 ?_
  refine lv_bipush (v := 79) hx hb dX13_isVisit_5 (by decide) ?_
  refine mld_i hx hb hZ hW tz_69 hf dX13_isVisit_7 (fun hf => ?_)
  refine lv_bipush (v := 29) hx hb dX13_isVisit_8 (by decide) ?_
  refine mcip hf hS (fun r h => va_runS (As := [.int a1, .int (σ.1 69 (79 : Int32).toNatClampNeg), .int 29]) (rest := []) ⟨hx, hb, hml, hown, hts⟩ (c_X13_in g l 0 81 σ a1 (σ.1 69 (79 : Int32).toNatClampNeg) 29 r h) (cl_X13_151 hts ⟨Nat.le_of_ble_eq_true rfl, Nat.le_of_ble_eq_true rfl⟩) (mpS hZ hT hS hW _) rfl rfl hl.1 rfl (lv_room (Nat.le_of_ble_eq_true rfl)) dX13_isVisit_10 ⟨Nat.zero_le _, Nat.zero_le _⟩) (fun r_1 H locs hf hW hS => ?_)
  refine jn0_W (∀ (H : Heap) (locs : List Loc) (ls : Array Slot), Wd g 0 81 σ H → va_S (Ag g 0) s.heap H locs → lv_has ls 2 [] → W p l e (kr 1 22) s m (List.toArray [.ref (bs g 64), .int a1]) below meth c H locs 0 0 Q (F0 m 29 ls [])) hf (fun  hf => ?_) (fun k_2 hk_2 hf => ?_)
  · intro H locs ls hW hS hl
    refine lv_iconst (v := 0) hx hb dX13_isVisit_29 (by decide) ?_
    subst hQ
    exact mrz hx hb hr hlocks hZ hT hS hW (by decide) ⟨Option.some.inj hf, rfl⟩ dX13_isVisit_30
  · refine lv_if_eq (tgt := 29) hx hb dX13_isVisit_13 (by decide) (fun hc => ?_) (fun hc => ?_)
    · have hf := ift hc hf
      exact hk_2  hf H locs ls hW hS (lv_sub hl [] rfl)
    · have hf := iff_ hc hf
      refine lv_aload_n hx hb dX13_isVisit_16 rfl (lv_at hl 0 rfl) ?_
      refine gf_13_17 hx hb htg (htg _ lf_X13_26) hown hZ hW tz_64 dX13_isVisit_17 ?_
      refine lv_iload_n hx hb dX13_isVisit_20 rfl (lv_at hl 1 rfl) ?_
      refine mld_i hx hb hZ hW tz_69 hf dX13_isVisit_21 (fun hf => ?_)
      refine lv_if_le (tgt := 29) hx hb dX13_isVisit_22 (by decide) (fun hc => ?_) (fun hc => ?_)
      · have hf := ift hc hf
        exact hk_2  hf H locs ls hW hS (lv_sub hl [] rfl)
      · have hf := iff_ hc hf
        refine lv_iconst (v := 1) hx hb dX13_isVisit_25 (by decide) ?_
        refine lv_goto (tgt := 30) hx hb dX13_isVisit_26 (by decide) ?_
        subst hQ
        exact mrz hx hb hr hlocks hZ hT hS hW (by decide) ⟨Option.some.inj hf, rfl⟩ dX13_isVisit_30
def f_X13_idle (σ : Mem)  : Option (Int32 × Mem) :=
  bd1 (f_X13_good σ) (fun (σ_1 : Mem) => (if (σ_1.1 64 14) = 0 then bd2 (f_X13_no σ_1 1) (fun (r_22 : Int32) (σ_23 : Mem) => some (r_22, σ_23)) else bd1 (f_X13_holdsNow σ_1) (fun (r_2 : Int32) => bd1 (f_X13_ones r_2) (fun (r_3 : Int32) => ixd 79 (aln 69) (nm (σ_1.1 69 (79 : Int32).toNatClampNeg) (fun (x_4 : Int32) => fx3 FU (fun k_8 (i_5 : Int32) (i_6 : Int32) (σ_7 : Mem) => (if 30 ≤ i_6 then some (i_5, σ_7) else ixd i_6 (aln 69) (nm (σ_7.1 69 i_6.toNatClampNeg) (fun (x_9 : Int32) => jn2 (fun (i_10 : Int32) (σ_11 : Mem) => nm (i_6 + 1) (fun (x_13 : Int32) => k_8 i_10 x_13 σ_11)) (fun k_12 => (if x_9 = 0 then k_12 i_5 σ_7 else ixd i_6 (aln 69) (nm (sI σ_7 69 i_6.toNatClampNeg 0) (fun (σ_15 : Mem) => bd1 (f_X13_holdsNow σ_15) (fun (r_16 : Int32) => bd1 (f_X13_ones r_16) (fun (r_17 : Int32) => jn1 (fun (i_18 : Int32) => nm (i_5 ||| i_18) (fun (x_20 : Int32) => ixd i_6 (aln 69) (nm (sI σ_15 69 i_6.toNatClampNeg x_9) (fun (σ_21 : Mem) => k_12 x_20 σ_21)))) (fun k_19 => (if r_17 < r_3 then k_19 0 else k_19 (1 <<< (i_6 &&& 31)))))))))))))) 0 x_4 σ_1))))))
set_option maxHeartbeats 4000000 in
set_option maxRecDepth 100000 in
theorem c_X13_idle (g : XG) (l : Launch) (σ : Mem) (r : Int32) (τ : Mem) (hf : f_X13_idle σ = some (r, τ)) : Met l yX13_idle (wx (.code yX13_idle cX13_idle 5 (some .int))) (kr 7 158) (va_Pc [.ref (bs g 64)] (WS g 0 81 σ)) (Qi' g 0 81 r τ) 0 0 (Ag g 0) := by
  refine Met.ofW (cc := cX13_idle) (maxL := 5) (ret := (some .int)) (by decide) rfl ?_
  intro p e s m args below meth c s₁ B hml hv
  obtain ⟨rfl, hZ, hT, hW⟩ := hv
  have hx := B.exec
  have hb := B.bytes
  have hr := B.returns
  have hts : ∀ w ∈ wx (.code yX13_idle cX13_idle 5 (some .int)), w.before _ s = true := atoms_spec B.pre
  have htg : ∀ w ∈ lwg, w.before _ s = true := fun w h => hts w (List.mem_cons_of_mem _ h)
  have hown : s.vm.findClass RX13 = some m.cls := findClass_of_methodNamed B.named
  have hlocks := B.notSynchronized
  change W p l e (kr 7 158) s m (List.toArray [.ref (bs g 64)]) below meth c s.heap [] 0 0 (MQ below (Qi' g 0 81 r τ) (List.toArray [.ref (bs g 64)]) s 0 0 (Ag g 0)) _
  generalize hQ : MQ below (Qi' g 0 81 r τ) (List.toArray [.ref (bs g 64)]) s 0 0 (Ag g 0) = Q
  have hS : va_S (Ag g 0) s.heap s.heap [] := va_S.rf
  have hl := lv_entry ([.ref (bs g 64)]) (n := 5) (Nat.le_of_ble_eq_true rfl)
  rw [lg_entry_eq]
  generalize (lg_sl ([.ref (bs g 64)]) ++ List.replicate (5 - (lg_sl ([.ref (bs g 64)])).length) Slot.unset).toArray = ls at hl ⊢
  have hl : lv_has ls 5 [(0, .ref (bs g 64))] := hl
  delta f_X13_idle at hf
  obtain ⟨H, hH⟩ : ∃ H, H = s.heap := ⟨_, rfl⟩
  obtain ⟨locs, hLc⟩ : ∃ z : List Loc, z = [] := ⟨_, rfl⟩
  have hS : va_S (Ag g 0) s.heap H locs := by rw [hH, hLc]; exact hS
  have hW : Wd g 0 81 σ H := by rw [hH]; exact hW
  suffices hG : W p l e (kr 7 158) s m (List.toArray [.ref (bs g 64)]) below meth c H locs 0 0 Q (F0 m 0 ls []) by rw [hH, hLc] at hG; exact hG
  clear hH hLc
  refine lv_aload_n hx hb dX13_idle_0 rfl (lv_at hl 0 rfl) ?_
  refine mcv hf hS (fun τ h => va_runV (As := []) (rest := []) ⟨hx, hb, hml, hown, hts⟩ (c_X13_good g l σ τ h) (cl_X13_166 hts ⟨Nat.le_of_ble_eq_true rfl, Nat.le_of_ble_eq_true rfl⟩) (mpV_13 hZ hT hS hW tz_64 _) rfl rfl hl.1 rfl (lv_room (Nat.le_of_ble_eq_true rfl)) dX13_idle_1 ⟨Nat.zero_le _, Nat.zero_le _⟩) (fun σ_1 H locs hf hW hS => ?_)
  refine lv_aload_n hx hb dX13_idle_4 rfl (lv_at hl 0 rfl) ?_
  refine gf_13_14 hx hb htg (htg _ lf_X13_179) hown hZ hW tz_64 dX13_idle_5 ?_
  refine lv_if_ne (tgt := 17) hx hb dX13_idle_8 (by decide) (fun hc => ?_) (fun hc => ?_)
  · have hf := iff_ hc hf
    refine lv_aload_n hx hb dX13_idle_17 rfl (lv_at hl 0 rfl) ?_
    refine mcip hf hS (fun r h => va_runV (As := []) (rest := []) ⟨hx, hb, hml, hown, hts⟩ (c_X13_holdsNow g l σ_1 r h) (cl_X13_304 hts ⟨Nat.le_of_ble_eq_true rfl, Nat.le_of_ble_eq_true rfl⟩) (mpV_13 hZ hT hS hW tz_64 _) rfl rfl hl.1 rfl (lv_room (Nat.le_of_ble_eq_true rfl)) dX13_idle_18 ⟨Nat.zero_le _, Nat.zero_le _⟩) (fun r_2 H locs hf hW hS => ?_)
    refine mcip hf hS (fun r h => va_runS (As := [.int r_2]) (rest := []) ⟨hx, hb, hml, hown, hts⟩ (c_X13_ones g l 0 81 σ_1 r_2 r h) (cl_X13_298 hts ⟨Nat.le_of_ble_eq_true rfl, Nat.le_of_ble_eq_true rfl⟩) (mpS hZ hT hS hW _) rfl rfl hl.1 rfl (lv_room (Nat.le_of_ble_eq_true rfl)) dX13_idle_21 ⟨Nat.zero_le _, Nat.zero_le _⟩) (fun r_3 H locs hf hW hS => ?_)
    refine lv_istore_n (lv' := [(1, .int r_3), (0, .ref (bs g 64))]) hx hb dX13_idle_24 rfl hl (by decide) rfl (fun ls hl => ?_)
    refine lv_iconst (v := 0) hx hb dX13_idle_25 (by decide) ?_
    refine lv_istore_n (lv' := [(2, .int 0), (1, .int r_3), (0, .ref (bs g 64))]) hx hb dX13_idle_26 rfl hl (by decide) rfl (fun ls hl => ?_)
    refine lv_aload_n hx hb dX13_idle_27 rfl (lv_at hl 2 rfl) ?_
    refine gf_13_17 hx hb htg (htg _ lf_X13_26) hown hZ hW tz_64 dX13_idle_28 ?_
    refine lv_bipush (v := 79) hx hb dX13_idle_31 (by decide) ?_
    refine mld_i hx hb hZ hW tz_69 hf dX13_idle_33 (fun hf => ?_)
    refine mnmi hf (fun (x_4 : Int32) hf => ?_)
    refine lv_istore_n (lv' := [(3, .int x_4), (2, .int 0), (1, .int r_3), (0, .ref (bs g 64))]) hx hb dX13_idle_34 rfl hl (by decide) rfl (fun ls hl => ?_)
    refine fx3_W (fun (i_5 : Int32) (i_6 : Int32) (σ_7 : Mem) => ∀ (H : Heap) (locs : List Loc) (ls : Array Slot), Wd g 0 81 σ_7 H → va_S (Ag g 0) s.heap H locs → lv_has ls 5 [(0, .ref (bs g 64)), (1, .int r_3), (2, .int i_5), (3, .int i_6)] → W p l e (kr 7 158) s m (List.toArray [.ref (bs g 64)]) below meth c H locs 0 0 Q (F0 m 35 ls [])) (fun k_8 hk_8 i_5 i_6 σ_7 hf => ?_) FU 0 x_4 σ_1 hf H locs ls hW hS (lv_sub hl [3, 2, 1, 0] rfl)
    intro H locs ls hW hS hl
    refine lv_iload_n hx hb dX13_idle_35 rfl (lv_at hl 3 rfl) ?_
    refine lv_bipush (v := 30) hx hb dX13_idle_36 (by decide) ?_
    refine lv_icmp_ge (tgt := 99) hx hb dX13_idle_38 (by decide) (fun hc => ?_) (fun hc => ?_)
    · have hf := ift hc hf
      refine lv_iload_n hx hb dX13_idle_99 rfl (lv_at hl 2 rfl) ?_
      subst hQ
      exact mri hx hb hr hlocks hZ hT hS hW (pr1 hf) dX13_idle_100
    · have hf := iff_ hc hf
      refine lv_aload_n hx hb dX13_idle_41 rfl (lv_at hl 0 rfl) ?_
      refine gf_13_17 hx hb htg (htg _ lf_X13_26) hown hZ hW tz_64 dX13_idle_42 ?_
      refine lv_iload_n hx hb dX13_idle_45 rfl (lv_at hl 3 rfl) ?_
      refine mld_i hx hb hZ hW tz_69 hf dX13_idle_46 (fun hf => ?_)
      refine mnmi hf (fun (x_9 : Int32) hf => ?_)
      refine lv_istore (lv' := [(4, .int x_9), (0, .ref (bs g 64)), (1, .int r_3), (2, .int i_5), (3, .int i_6)]) hx hb dX13_idle_47 hl (by decide) rfl (fun ls hl => ?_)
      refine lv_iload hx hb dX13_idle_49 (lv_at hl 0 rfl) ?_
      refine jn2_W (fun (i_10 : Int32) (σ_11 : Mem) => ∀ (H : Heap) (locs : List Loc) (ls : Array Slot), Wd g 0 81 σ_11 H → va_S (Ag g 0) s.heap H locs → lv_has ls 5 [(0, .ref (bs g 64)), (1, .int r_3), (2, .int i_10), (3, .int i_6)] → W p l e (kr 7 158) s m (List.toArray [.ref (bs g 64)]) below meth c H locs 0 0 Q (F0 m 93 ls [])) hf (fun i_10 σ_11 hf => ?_) (fun k_12 hk_12 hf => ?_)
      · intro H locs ls hW hS hl
        obtain ⟨x_13, e_14, hf⟩ := nm_s hf
        refine lv_iinc (v := x_13) (lv' := [(3, .int x_13), (0, .ref (bs g 64)), (1, .int r_3), (2, .int i_10)]) hx hb dX13_idle_93 hl (k := 3) rfl (by rw [e_14]; rfl) (by decide) rfl (fun ls hl => ?_)
        refine lv_goto (tgt := 35) hx hb dX13_idle_96 (by decide) ?_
        exact hk_8 i_10 x_13 σ_11 hf H locs ls hW hS (lv_sub hl [1, 2, 3, 0] rfl)
      · refine lv_if_ne (tgt := 57) hx hb dX13_idle_51 (by decide) (fun hc => ?_) (fun hc => ?_)
        · have hf := iff_ hc hf
          refine lv_aload_n hx hb dX13_idle_57 rfl (lv_at hl 1 rfl) ?_
          refine gf_13_17 hx hb htg (htg _ lf_X13_26) hown hZ hW tz_64 dX13_idle_58 ?_
          refine lv_iload_n hx hb dX13_idle_61 rfl (lv_at hl 4 rfl) ?_
          refine lv_iconst (v := 0) hx hb dX13_idle_62 (by decide) ?_
          refine mst_i hx hb hZ hW hS tz_69 hf dX13_idle_63 (fun σ_15 H locs hf hW hS => ?_)
          refine lv_iload_n hx hb dX13_idle_64 rfl (lv_at hl 3 rfl) ?_
          refine lv_aload_n hx hb dX13_idle_65 rfl (lv_at hl 1 rfl) ?_
          refine mcip hf hS (fun r h => va_runV (As := []) (rest := [.int i_5]) ⟨hx, hb, hml, hown, hts⟩ (c_X13_holdsNow g l σ_15 r h) (cl_X13_304 hts ⟨Nat.le_of_ble_eq_true rfl, Nat.le_of_ble_eq_true rfl⟩) (mpV_13 hZ hT hS hW tz_64 _) rfl rfl hl.1 rfl (lv_room (Nat.le_of_ble_eq_true rfl)) dX13_idle_66 ⟨Nat.zero_le _, Nat.zero_le _⟩) (fun r_16 H locs hf hW hS => ?_)
          refine mcip hf hS (fun r h => va_runS (As := [.int r_16]) (rest := [.int i_5]) ⟨hx, hb, hml, hown, hts⟩ (c_X13_ones g l 0 81 σ_15 r_16 r h) (cl_X13_298 hts ⟨Nat.le_of_ble_eq_true rfl, Nat.le_of_ble_eq_true rfl⟩) (mpS hZ hT hS hW _) rfl rfl hl.1 rfl (lv_room (Nat.le_of_ble_eq_true rfl)) dX13_idle_69 ⟨Nat.zero_le _, Nat.zero_le _⟩) (fun r_17 H locs hf hW hS => ?_)
          refine lv_iload_n hx hb dX13_idle_72 rfl (lv_at hl 2 rfl) ?_
          refine jn1_W (fun (i_18 : Int32) => ∀ (H : Heap) (locs : List Loc) (ls : Array Slot), Wd g 0 81 σ_15 H → va_S (Ag g 0) s.heap H locs → lv_has ls 5 [(0, .ref (bs g 64)), (1, .int r_3), (3, .int i_6), (4, .int x_9)] → W p l e (kr 7 158) s m (List.toArray [.ref (bs g 64)]) below meth c H locs 0 0 Q (F0 m 83 ls [.int i_18, .int i_5])) hf (fun i_18 hf => ?_) (fun k_19 hk_19 hf => ?_)
          · intro H locs ls hW hS hl
            refine lv_ior hx hb dX13_idle_83 ?_
            refine mnmi hf (fun (x_20 : Int32) hf => ?_)
            refine lv_istore_n (lv' := [(2, .int x_20), (0, .ref (bs g 64)), (1, .int r_3), (3, .int i_6), (4, .int x_9)]) hx hb dX13_idle_84 rfl hl (by decide) rfl (fun ls hl => ?_)
            refine lv_aload_n hx hb dX13_idle_85 rfl (lv_at hl 1 rfl) ?_
            refine gf_13_17 hx hb htg (htg _ lf_X13_26) hown hZ hW tz_64 dX13_idle_86 ?_
            refine lv_iload_n hx hb dX13_idle_89 rfl (lv_at hl 3 rfl) ?_
            refine lv_iload hx hb dX13_idle_90 (lv_at hl 4 rfl) ?_
            refine mst_i hx hb hZ hW hS tz_69 hf dX13_idle_92 (fun σ_21 H locs hf hW hS => ?_)
            exact hk_12 x_20 σ_21 hf H locs ls hW hS (lv_sub hl [1, 2, 0, 3] rfl)
          · refine lv_icmp_lt (tgt := 82) hx hb dX13_idle_73 (by decide) (fun hc => ?_) (fun hc => ?_)
            · have hf := ift hc hf
              refine lv_iconst (v := 0) hx hb dX13_idle_82 (by decide) ?_
              exact hk_19 0 hf H locs ls hW hS (lv_sub hl [1, 2, 4, 0] rfl)
            · have hf := iff_ hc hf
              refine lv_iconst (v := 1) hx hb dX13_idle_76 (by decide) ?_
              refine lv_iload_n hx hb dX13_idle_77 rfl (lv_at hl 4 rfl) ?_
              refine lv_ishl hx hb dX13_idle_78 ?_
              refine lv_goto (tgt := 83) hx hb dX13_idle_79 (by decide) ?_
              exact hk_19 (1 <<< (i_6 &&& 31)) hf H locs ls hW hS (lv_sub hl [1, 2, 4, 0] rfl)
        · have hf := ift hc hf
          refine lv_goto (tgt := 93) hx hb dX13_idle_54 (by decide) ?_
          exact hk_12 i_5 σ_7 hf H locs ls hW hS (lv_sub hl [1, 2, 3, 4] rfl)
  · have hf := ift hc hf
    refine lv_aload_n hx hb dX13_idle_11 rfl (lv_at hl 0 rfl) ?_
    refine lv_iconst (v := 1) hx hb dX13_idle_12 (by decide) ?_
    refine mci hf hS (fun r τ h => va_runV (As := [.int 1]) (rest := []) ⟨hx, hb, hml, hown, hts⟩ (c_X13_no g l σ_1 1 r τ h) (cl_X13_169 hts ⟨Nat.le_of_ble_eq_true rfl, Nat.le_of_ble_eq_true rfl⟩) (mpV_13 hZ hT hS hW tz_64 _) rfl rfl hl.1 rfl (lv_room (Nat.le_of_ble_eq_true rfl)) dX13_idle_13 ⟨Nat.zero_le _, Nat.zero_le _⟩) (fun r_22 σ_23 H locs hf hW hS => ?_)
    subst hQ
    exact mri hx hb hr hlocks hZ hT hS hW (pr1 hf) dX13_idle_16
def f_X13_heldBySwap (σ : Mem) (a1 : Int32) (a2 : Int32) : Option (Int32 × Mem) :=
  ixd a1 (aln 69) (nm (σ.1 69 a1.toNatClampNeg) (fun (x_1 : Int32) => ixd a2 (aln 69) (ixd a1 (aln 69) (nm (sI σ 69 a1.toNatClampNeg (σ.1 69 a2.toNatClampNeg)) (fun (σ_2 : Mem) => ixd a2 (aln 69) (nm (sI σ_2 69 a2.toNatClampNeg x_1) (fun (σ_3 : Mem) => bd1 (f_X13_holdsNow σ_3) (fun (r_4 : Int32) => bd1 (f_X13_ones r_4) (fun (r_5 : Int32) => ixd a1 (aln 69) (ixd a2 (aln 69) (nm (sI σ_3 69 a2.toNatClampNeg (σ_3.1 69 a1.toNatClampNeg)) (fun (σ_6 : Mem) => ixd a1 (aln 69) (nm (sI σ_6 69 a1.toNatClampNeg x_1) (fun (σ_7 : Mem) => some (r_5, σ_7)))))))))))))))
set_option maxHeartbeats 4000000 in
set_option maxRecDepth 100000 in
theorem c_X13_heldBySwap (g : XG) (l : Launch) (σ : Mem) (a1 : Int32) (a2 : Int32) (r : Int32) (τ : Mem) (hf : f_X13_heldBySwap σ a1 a2 = some (r, τ)) : Met l yX13_heldBySwap (wx (.code yX13_heldBySwap cX13_heldBySwap 5 (some .int))) (kr 7 158) (va_Pc [.ref (bs g 64), .int a1, .int a2] (WS g 0 81 σ)) (Qi' g 0 81 r τ) 0 0 (Ag g 0) := by
  refine Met.ofW (cc := cX13_heldBySwap) (maxL := 5) (ret := (some .int)) (by decide) rfl ?_
  intro p e s m args below meth c s₁ B hml hv
  obtain ⟨rfl, hZ, hT, hW⟩ := hv
  have hx := B.exec
  have hb := B.bytes
  have hr := B.returns
  have hts : ∀ w ∈ wx (.code yX13_heldBySwap cX13_heldBySwap 5 (some .int)), w.before _ s = true := atoms_spec B.pre
  have htg : ∀ w ∈ lwg, w.before _ s = true := fun w h => hts w (List.mem_cons_of_mem _ h)
  have hown : s.vm.findClass RX13 = some m.cls := findClass_of_methodNamed B.named
  have hlocks := B.notSynchronized
  change W p l e (kr 7 158) s m (List.toArray [.ref (bs g 64), .int a1, .int a2]) below meth c s.heap [] 0 0 (MQ below (Qi' g 0 81 r τ) (List.toArray [.ref (bs g 64), .int a1, .int a2]) s 0 0 (Ag g 0)) _
  generalize hQ : MQ below (Qi' g 0 81 r τ) (List.toArray [.ref (bs g 64), .int a1, .int a2]) s 0 0 (Ag g 0) = Q
  have hS : va_S (Ag g 0) s.heap s.heap [] := va_S.rf
  have hl := lv_entry ([.ref (bs g 64), .int a1, .int a2]) (n := 5) (Nat.le_of_ble_eq_true rfl)
  rw [lg_entry_eq]
  generalize (lg_sl ([.ref (bs g 64), .int a1, .int a2]) ++ List.replicate (5 - (lg_sl ([.ref (bs g 64), .int a1, .int a2])).length) Slot.unset).toArray = ls at hl ⊢
  have hl : lv_has ls 5 [(0, .ref (bs g 64)), (1, .int a1), (2, .int a2)] := hl
  delta f_X13_heldBySwap at hf
  obtain ⟨H, hH⟩ : ∃ H, H = s.heap := ⟨_, rfl⟩
  obtain ⟨locs, hLc⟩ : ∃ z : List Loc, z = [] := ⟨_, rfl⟩
  have hS : va_S (Ag g 0) s.heap H locs := by rw [hH, hLc]; exact hS
  have hW : Wd g 0 81 σ H := by rw [hH]; exact hW
  suffices hG : W p l e (kr 7 158) s m (List.toArray [.ref (bs g 64), .int a1, .int a2]) below meth c H locs 0 0 Q (F0 m 0 ls []) by rw [hH, hLc] at hG; exact hG
  clear hH hLc
  refine lv_aload_n hx hb dX13_heldBySwap_0 rfl (lv_at hl 0 rfl) ?_
  refine gf_13_17 hx hb htg (htg _ lf_X13_26) hown hZ hW tz_64 dX13_heldBySwap_1 ?_
  refine lv_iload_n hx hb dX13_heldBySwap_4 rfl (lv_at hl 1 rfl) ?_
  refine mld_i hx hb hZ hW tz_69 hf dX13_heldBySwap_5 (fun hf => ?_)
  refine mnmi hf (fun (x_1 : Int32) hf => ?_)
  refine lv_istore_n (lv' := [(3, .int x_1), (0, .ref (bs g 64)), (1, .int a1), (2, .int a2)]) hx hb dX13_heldBySwap_6 rfl hl (by decide) rfl (fun ls hl => ?_)
  refine lv_aload_n hx hb dX13_heldBySwap_7 rfl (lv_at hl 1 rfl) ?_
  refine gf_13_17 hx hb htg (htg _ lf_X13_26) hown hZ hW tz_64 dX13_heldBySwap_8 ?_
  refine lv_iload_n hx hb dX13_heldBySwap_11 rfl (lv_at hl 2 rfl) ?_
  refine lv_aload_n hx hb dX13_heldBySwap_12 rfl (lv_at hl 1 rfl) ?_
  refine gf_13_17 hx hb htg (htg _ lf_X13_26) hown hZ hW tz_64 dX13_heldBySwap_13 ?_
  refine lv_iload_n hx hb dX13_heldBySwap_16 rfl (lv_at hl 3 rfl) ?_
  refine mld_i hx hb hZ hW tz_69 hf dX13_heldBySwap_17 (fun hf => ?_)
  refine mst_i hx hb hZ hW hS tz_69 hf dX13_heldBySwap_18 (fun σ_2 H locs hf hW hS => ?_)
  refine lv_aload_n hx hb dX13_heldBySwap_19 rfl (lv_at hl 1 rfl) ?_
  refine gf_13_17 hx hb htg (htg _ lf_X13_26) hown hZ hW tz_64 dX13_heldBySwap_20 ?_
  refine lv_iload_n hx hb dX13_heldBySwap_23 rfl (lv_at hl 3 rfl) ?_
  refine lv_iload_n hx hb dX13_heldBySwap_24 rfl (lv_at hl 0 rfl) ?_
  refine mst_i hx hb hZ hW hS tz_69 hf dX13_heldBySwap_25 (fun σ_3 H locs hf hW hS => ?_)
  refine lv_aload_n hx hb dX13_heldBySwap_26 rfl (lv_at hl 1 rfl) ?_
  refine mcip hf hS (fun r h => va_runV (As := []) (rest := []) ⟨hx, hb, hml, hown, hts⟩ (c_X13_holdsNow g l σ_3 r h) (cl_X13_304 hts ⟨Nat.le_of_ble_eq_true rfl, Nat.le_of_ble_eq_true rfl⟩) (mpV_13 hZ hT hS hW tz_64 _) rfl rfl hl.1 rfl (lv_room (Nat.le_of_ble_eq_true rfl)) dX13_heldBySwap_27 ⟨Nat.zero_le _, Nat.zero_le _⟩) (fun r_4 H locs hf hW hS => ?_)
  refine mcip hf hS (fun r h => va_runS (As := [.int r_4]) (rest := []) ⟨hx, hb, hml, hown, hts⟩ (c_X13_ones g l 0 81 σ_3 r_4 r h) (cl_X13_298 hts ⟨Nat.le_of_ble_eq_true rfl, Nat.le_of_ble_eq_true rfl⟩) (mpS hZ hT hS hW _) rfl rfl hl.1 rfl (lv_room (Nat.le_of_ble_eq_true rfl)) dX13_heldBySwap_30 ⟨Nat.zero_le _, Nat.zero_le _⟩) (fun r_5 H locs hf hW hS => ?_)
  refine lv_istore (lv' := [(4, .int r_5), (3, .int x_1), (0, .ref (bs g 64)), (1, .int a1), (2, .int a2)]) hx hb dX13_heldBySwap_33 hl (by decide) rfl (fun ls hl => ?_)
  refine lv_aload_n hx hb dX13_heldBySwap_35 rfl (lv_at hl 2 rfl) ?_
  refine gf_13_17 hx hb htg (htg _ lf_X13_26) hown hZ hW tz_64 dX13_heldBySwap_36 ?_
  refine lv_iload_n hx hb dX13_heldBySwap_39 rfl (lv_at hl 4 rfl) ?_
  refine lv_aload_n hx hb dX13_heldBySwap_40 rfl (lv_at hl 2 rfl) ?_
  refine gf_13_17 hx hb htg (htg _ lf_X13_26) hown hZ hW tz_64 dX13_heldBySwap_41 ?_
  refine lv_iload_n hx hb dX13_heldBySwap_44 rfl (lv_at hl 3 rfl) ?_
  refine mld_i hx hb hZ hW tz_69 hf dX13_heldBySwap_45 (fun hf => ?_)
  refine mst_i hx hb hZ hW hS tz_69 hf dX13_heldBySwap_46 (fun σ_6 H locs hf hW hS => ?_)
  refine lv_aload_n hx hb dX13_heldBySwap_47 rfl (lv_at hl 2 rfl) ?_
  refine gf_13_17 hx hb htg (htg _ lf_X13_26) hown hZ hW tz_64 dX13_heldBySwap_48 ?_
  refine lv_iload_n hx hb dX13_heldBySwap_51 rfl (lv_at hl 3 rfl) ?_
  refine lv_iload_n hx hb dX13_heldBySwap_52 rfl (lv_at hl 1 rfl) ?_
  refine mst_i hx hb hZ hW hS tz_69 hf dX13_heldBySwap_53 (fun σ_7 H locs hf hW hS => ?_)
  refine lv_iload hx hb dX13_heldBySwap_54 (lv_at hl 0 rfl) ?_
  subst hQ
  exact mri hx hb hr hlocks hZ hT hS hW (pr1 hf) dX13_heldBySwap_56
def f_X13_swapped (σ : Mem) (a1 : Int32) (a2 : Int32) : Option (Int32 × Mem) :=
  bd1 (f_X13_good σ) (fun (σ_1 : Mem) => (if (σ_1.1 64 14) = 0 then bd2 (f_X13_no σ_1 1) (fun (r_14 : Int32) (σ_15 : Mem) => some (r_14, σ_15)) else bd1 (f_X13_isDay a1) (fun (r_2 : Int32) => jn0 (bd2 (f_X13_no σ_1 2) (fun (r_4 : Int32) (σ_5 : Mem) => some (r_4, σ_5))) (fun k_3 => (if r_2 = 0 then k_3 else bd1 (f_X13_isDay a2) (fun (r_6 : Int32) => (if r_6 = 0 then k_3 else bd1 (f_X13_isVisit σ_1 a1) (fun (r_7 : Int32) => jn0 (bd2 (f_X13_no σ_1 5) (fun (r_9 : Int32) (σ_10 : Mem) => some (r_9, σ_10))) (fun k_8 => (if r_7 = 0 then k_8 else bd1 (f_X13_isVisit σ_1 a2) (fun (r_11 : Int32) => (if r_11 = 0 then k_8 else (if a1 = a2 then k_8 else bd2 (f_X13_heldBySwap σ_1 a1 a2) (fun (r_12 : Int32) (σ_13 : Mem) => some (r_12, σ_13)))))))))))))))
set_option maxHeartbeats 4000000 in
set_option maxRecDepth 100000 in
theorem c_X13_swapped (g : XG) (l : Launch) (σ : Mem) (a1 : Int32) (a2 : Int32) (r : Int32) (τ : Mem) (hf : f_X13_swapped σ a1 a2 = some (r, τ)) : Met l yX13_swapped (wx (.code yX13_swapped cX13_swapped 3 (some .int))) (kr 8 182) (va_Pc [.ref (bs g 64), .int a1, .int a2] (WS g 0 81 σ)) (Qi' g 0 81 r τ) 0 0 (Ag g 0) := by
  refine Met.ofW (cc := cX13_swapped) (maxL := 3) (ret := (some .int)) (by decide) rfl ?_
  intro p e s m args below meth c s₁ B hml hv
  obtain ⟨rfl, hZ, hT, hW⟩ := hv
  have hx := B.exec
  have hb := B.bytes
  have hr := B.returns
  have hts : ∀ w ∈ wx (.code yX13_swapped cX13_swapped 3 (some .int)), w.before _ s = true := atoms_spec B.pre
  have htg : ∀ w ∈ lwg, w.before _ s = true := fun w h => hts w (List.mem_cons_of_mem _ h)
  have hown : s.vm.findClass RX13 = some m.cls := findClass_of_methodNamed B.named
  have hlocks := B.notSynchronized
  change W p l e (kr 8 182) s m (List.toArray [.ref (bs g 64), .int a1, .int a2]) below meth c s.heap [] 0 0 (MQ below (Qi' g 0 81 r τ) (List.toArray [.ref (bs g 64), .int a1, .int a2]) s 0 0 (Ag g 0)) _
  generalize hQ : MQ below (Qi' g 0 81 r τ) (List.toArray [.ref (bs g 64), .int a1, .int a2]) s 0 0 (Ag g 0) = Q
  have hS : va_S (Ag g 0) s.heap s.heap [] := va_S.rf
  have hl := lv_entry ([.ref (bs g 64), .int a1, .int a2]) (n := 3) (Nat.le_of_ble_eq_true rfl)
  rw [lg_entry_eq]
  generalize (lg_sl ([.ref (bs g 64), .int a1, .int a2]) ++ List.replicate (3 - (lg_sl ([.ref (bs g 64), .int a1, .int a2])).length) Slot.unset).toArray = ls at hl ⊢
  have hl : lv_has ls 3 [(0, .ref (bs g 64)), (1, .int a1), (2, .int a2)] := hl
  delta f_X13_swapped at hf
  obtain ⟨H, hH⟩ : ∃ H, H = s.heap := ⟨_, rfl⟩
  obtain ⟨locs, hLc⟩ : ∃ z : List Loc, z = [] := ⟨_, rfl⟩
  have hS : va_S (Ag g 0) s.heap H locs := by rw [hH, hLc]; exact hS
  have hW : Wd g 0 81 σ H := by rw [hH]; exact hW
  suffices hG : W p l e (kr 8 182) s m (List.toArray [.ref (bs g 64), .int a1, .int a2]) below meth c H locs 0 0 Q (F0 m 0 ls []) by rw [hH, hLc] at hG; exact hG
  clear hH hLc
  refine lv_aload_n hx hb dX13_swapped_0 rfl (lv_at hl 0 rfl) ?_
  refine mcv hf hS (fun τ h => va_runV (As := []) (rest := []) ⟨hx, hb, hml, hown, hts⟩ (c_X13_good g l σ τ h) (cl_X13_166 hts ⟨Nat.le_of_ble_eq_true rfl, Nat.le_of_ble_eq_true rfl⟩) (mpV_13 hZ hT hS hW tz_64 _) rfl rfl hl.1 rfl (lv_room (Nat.le_of_ble_eq_true rfl)) dX13_swapped_1 ⟨Nat.zero_le _, Nat.zero_le _⟩) (fun σ_1 H locs hf hW hS => ?_)
  refine lv_aload_n hx hb dX13_swapped_4 rfl (lv_at hl 0 rfl) ?_
  refine gf_13_14 hx hb htg (htg _ lf_X13_179) hown hZ hW tz_64 dX13_swapped_5 ?_
  refine lv_if_ne (tgt := 17) hx hb dX13_swapped_8 (by decide) (fun hc => ?_) (fun hc => ?_)
  · have hf := iff_ hc hf
    refine lv_iload_n hx hb dX13_swapped_17 rfl (lv_at hl 1 rfl) ?_
    refine mcip hf hS (fun r h => va_runS (As := [.int a1]) (rest := []) ⟨hx, hb, hml, hown, hts⟩ (c_X13_isDay g l 0 81 σ_1 a1 r h) (cl_X13_272 hts ⟨Nat.le_of_ble_eq_true rfl, Nat.le_of_ble_eq_true rfl⟩) (mpS hZ hT hS hW _) rfl rfl hl.1 rfl (lv_room (Nat.le_of_ble_eq_true rfl)) dX13_swapped_18 ⟨Nat.zero_le _, Nat.zero_le _⟩) (fun r_2 H locs hf hW hS => ?_)
    refine jn0_W (∀ (H : Heap) (locs : List Loc) (ls : Array Slot), Wd g 0 81 σ_1 H → va_S (Ag g 0) s.heap H locs → lv_has ls 3 [(0, .ref (bs g 64))] → W p l e (kr 8 182) s m (List.toArray [.ref (bs g 64), .int a1, .int a2]) below meth c H locs 0 0 Q (F0 m 31 ls [])) hf (fun  hf => ?_) (fun k_3 hk_3 hf => ?_)
    · intro H locs ls hW hS hl
      refine lv_aload_n hx hb dX13_swapped_31 rfl (lv_at hl 0 rfl) ?_
      refine lv_iconst (v := 2) hx hb dX13_swapped_32 (by decide) ?_
      refine mci hf hS (fun r τ h => va_runV (As := [.int 2]) (rest := []) ⟨hx, hb, hml, hown, hts⟩ (c_X13_no g l σ_1 2 r τ h) (cl_X13_169 hts ⟨Nat.le_of_ble_eq_true rfl, Nat.le_of_ble_eq_true rfl⟩) (mpV_13 hZ hT hS hW tz_64 _) rfl rfl hl.1 rfl (lv_room (Nat.le_of_ble_eq_true rfl)) dX13_swapped_33 ⟨Nat.zero_le _, Nat.zero_le _⟩) (fun r_4 σ_5 H locs hf hW hS => ?_)
      subst hQ
      exact mri hx hb hr hlocks hZ hT hS hW (pr1 hf) dX13_swapped_36
    · refine lv_if_eq (tgt := 31) hx hb dX13_swapped_21 (by decide) (fun hc => ?_) (fun hc => ?_)
      · have hf := ift hc hf
        exact hk_3  hf H locs ls hW hS (lv_sub hl [0] rfl)
      · have hf := iff_ hc hf
        refine lv_iload_n hx hb dX13_swapped_24 rfl (lv_at hl 2 rfl) ?_
        refine mcip hf hS (fun r h => va_runS (As := [.int a2]) (rest := []) ⟨hx, hb, hml, hown, hts⟩ (c_X13_isDay g l 0 81 σ_1 a2 r h) (cl_X13_272 hts ⟨Nat.le_of_ble_eq_true rfl, Nat.le_of_ble_eq_true rfl⟩) (mpS hZ hT hS hW _) rfl rfl hl.1 rfl (lv_room (Nat.le_of_ble_eq_true rfl)) dX13_swapped_25 ⟨Nat.zero_le _, Nat.zero_le _⟩) (fun r_6 H locs hf hW hS => ?_)
        refine lv_if_ne (tgt := 37) hx hb dX13_swapped_28 (by decide) (fun hc => ?_) (fun hc => ?_)
        · have hf := iff_ hc hf
          refine lv_aload_n hx hb dX13_swapped_37 rfl (lv_at hl 0 rfl) ?_
          refine lv_iload_n hx hb dX13_swapped_38 rfl (lv_at hl 1 rfl) ?_
          refine mcip hf hS (fun r h => va_runV (As := [.int a1]) (rest := []) ⟨hx, hb, hml, hown, hts⟩ (c_X13_isVisit g l σ_1 a1 r h) (cl_X13_310 hts ⟨Nat.le_of_ble_eq_true rfl, Nat.le_of_ble_eq_true rfl⟩) (mpV_13 hZ hT hS hW tz_64 _) rfl rfl hl.1 rfl (lv_room (Nat.le_of_ble_eq_true rfl)) dX13_swapped_39 ⟨Nat.zero_le _, Nat.zero_le _⟩) (fun r_7 H locs hf hW hS => ?_)
          refine jn0_W (∀ (H : Heap) (locs : List Loc) (ls : Array Slot), Wd g 0 81 σ_1 H → va_S (Ag g 0) s.heap H locs → lv_has ls 3 [(0, .ref (bs g 64))] → W p l e (kr 8 182) s m (List.toArray [.ref (bs g 64), .int a1, .int a2]) below meth c H locs 0 0 Q (F0 m 67 ls [])) hf (fun  hf => ?_) (fun k_8 hk_8 hf => ?_)
          · intro H locs ls hW hS hl
            refine lv_aload_n hx hb dX13_swapped_67 rfl (lv_at hl 0 rfl) ?_
            refine lv_iconst (v := 5) hx hb dX13_swapped_68 (by decide) ?_
            refine mci hf hS (fun r τ h => va_runV (As := [.int 5]) (rest := []) ⟨hx, hb, hml, hown, hts⟩ (c_X13_no g l σ_1 5 r τ h) (cl_X13_169 hts ⟨Nat.le_of_ble_eq_true rfl, Nat.le_of_ble_eq_true rfl⟩) (mpV_13 hZ hT hS hW tz_64 _) rfl rfl hl.1 rfl (lv_room (Nat.le_of_ble_eq_true rfl)) dX13_swapped_69 ⟨Nat.zero_le _, Nat.zero_le _⟩) (fun r_9 σ_10 H locs hf hW hS => ?_)
            subst hQ
            exact mri hx hb hr hlocks hZ hT hS hW (pr1 hf) dX13_swapped_72
          · refine lv_if_eq (tgt := 67) hx hb dX13_swapped_42 (by decide) (fun hc => ?_) (fun hc => ?_)
            · have hf := ift hc hf
              exact hk_8  hf H locs ls hW hS (lv_sub hl [0] rfl)
            · have hf := iff_ hc hf
              refine lv_aload_n hx hb dX13_swapped_45 rfl (lv_at hl 0 rfl) ?_
              refine lv_iload_n hx hb dX13_swapped_46 rfl (lv_at hl 2 rfl) ?_
              refine mcip hf hS (fun r h => va_runV (As := [.int a2]) (rest := []) ⟨hx, hb, hml, hown, hts⟩ (c_X13_isVisit g l σ_1 a2 r h) (cl_X13_310 hts ⟨Nat.le_of_ble_eq_true rfl, Nat.le_of_ble_eq_true rfl⟩) (mpV_13 hZ hT hS hW tz_64 _) rfl rfl hl.1 rfl (lv_room (Nat.le_of_ble_eq_true rfl)) dX13_swapped_47 ⟨Nat.zero_le _, Nat.zero_le _⟩) (fun r_11 H locs hf hW hS => ?_)
              refine lv_if_eq (tgt := 67) hx hb dX13_swapped_50 (by decide) (fun hc => ?_) (fun hc => ?_)
              · have hf := ift hc hf
                exact hk_8  hf H locs ls hW hS (lv_sub hl [0] rfl)
              · have hf := iff_ hc hf
                refine lv_iload_n hx hb dX13_swapped_53 rfl (lv_at hl 1 rfl) ?_
                refine lv_iload_n hx hb dX13_swapped_54 rfl (lv_at hl 2 rfl) ?_
                refine lv_icmp_eq (tgt := 67) hx hb dX13_swapped_55 (by decide) (fun hc => ?_) (fun hc => ?_)
                · have hf := ift hc hf
                  exact hk_8  hf H locs ls hW hS (lv_sub hl [0] rfl)
                · have hf := iff_ hc hf
                  refine lv_aload_n hx hb dX13_swapped_58 rfl (lv_at hl 0 rfl) ?_
                  refine lv_iload_n hx hb dX13_swapped_59 rfl (lv_at hl 1 rfl) ?_
                  refine lv_iload_n hx hb dX13_swapped_60 rfl (lv_at hl 2 rfl) ?_
                  refine mci hf hS (fun r τ h => va_runV (As := [.int a1, .int a2]) (rest := []) ⟨hx, hb, hml, hown, hts⟩ (c_X13_heldBySwap g l σ_1 a1 a2 r τ h) (cl_X13_313 hts ⟨Nat.le_of_ble_eq_true rfl, Nat.le_of_ble_eq_true rfl⟩) (mpV_13 hZ hT hS hW tz_64 _) rfl rfl hl.1 rfl (lv_room (Nat.le_of_ble_eq_true rfl)) dX13_swapped_61 ⟨Nat.zero_le _, Nat.zero_le _⟩) (fun r_12 σ_13 H locs hf hW hS => ?_)
                  refine lv_goto (tgt := 72) hx hb dX13_swapped_64 (by decide) ?_
                  subst hQ
                  exact mri hx hb hr hlocks hZ hT hS hW (pr1 hf) dX13_swapped_72
        · have hf := ift hc hf
          exact hk_3  hf H locs ls hW hS (lv_sub hl [0] rfl)
  · have hf := ift hc hf
    refine lv_aload_n hx hb dX13_swapped_11 rfl (lv_at hl 0 rfl) ?_
    refine lv_iconst (v := 1) hx hb dX13_swapped_12 (by decide) ?_
    refine mci hf hS (fun r τ h => va_runV (As := [.int 1]) (rest := []) ⟨hx, hb, hml, hown, hts⟩ (c_X13_no g l σ_1 1 r τ h) (cl_X13_169 hts ⟨Nat.le_of_ble_eq_true rfl, Nat.le_of_ble_eq_true rfl⟩) (mpV_13 hZ hT hS hW tz_64 _) rfl rfl hl.1 rfl (lv_room (Nat.le_of_ble_eq_true rfl)) dX13_swapped_13 ⟨Nat.zero_le _, Nat.zero_le _⟩) (fun r_14 σ_15 H locs hf hW hS => ?_)
    subst hQ
    exact mri hx hb hr hlocks hZ hT hS hW (pr1 hf) dX13_swapped_16
def f_X13_bestSwap (σ : Mem)  : Option (Int32 × Mem) :=
  bd1 (f_X13_good σ) (fun (σ_1 : Mem) => (if (σ_1.1 64 14) = 0 then bd2 (f_X13_no σ_1 1) (fun (r_29 : Int32) (σ_30 : Mem) => some (r_29, σ_30)) else bd1 (f_X13_holdsNow σ_1) (fun (r_2 : Int32) => bd1 (f_X13_ones r_2) (fun (r_3 : Int32) => ixd 79 (aln 69) (nm (σ_1.1 69 (79 : Int32).toNatClampNeg) (fun (x_4 : Int32) => fx4 FU (fun k_9 (i_5 : Int32) (i_6 : Int32) (i_7 : Int32) (σ_8 : Mem) => (if 30 ≤ i_7 then some (i_5, σ_8) else nm (i_7 + 1) (fun (x_10 : Int32) => fx4 FU (fun k_15 (i_11 : Int32) (i_12 : Int32) (i_13 : Int32) (σ_14 : Mem) => (if 30 ≤ i_13 then nm (i_7 + 1) (fun (x_16 : Int32) => k_9 i_11 i_12 x_16 σ_14) else bd1 (f_X13_isVisit σ_14 i_7) (fun (r_18 : Int32) => jn3 (fun (i_19 : Int32) (i_20 : Int32) (σ_21 : Mem) => nm (i_13 + 1) (fun (x_23 : Int32) => k_15 i_19 i_20 x_23 σ_21)) (fun k_22 => (if r_18 = 0 then k_22 i_11 i_12 σ_14 else bd1 (f_X13_isVisit σ_14 i_13) (fun (r_25 : Int32) => (if r_25 = 0 then k_22 i_11 i_12 σ_14 else bd2 (f_X13_heldBySwap σ_14 i_7 i_13) (fun (r_26 : Int32) (σ_27 : Mem) => (if i_12 < r_26 then nm ((100 * i_7) + i_13) (fun (x_28 : Int32) => k_22 x_28 r_26 σ_27) else k_22 i_11 i_12 σ_27))))))))) i_5 i_6 x_10 σ_8))) (-2) r_3 x_4 σ_1))))))
set_option maxHeartbeats 4000000 in
set_option maxRecDepth 100000 in
theorem c_X13_bestSwap (g : XG) (l : Launch) (σ : Mem) (r : Int32) (τ : Mem) (hf : f_X13_bestSwap σ = some (r, τ)) : Met l yX13_bestSwap (wx (.code yX13_bestSwap cX13_bestSwap 6 (some .int))) (kr 8 182) (va_Pc [.ref (bs g 64)] (WS g 0 81 σ)) (Qi' g 0 81 r τ) 0 0 (Ag g 0) := by
  refine Met.ofW (cc := cX13_bestSwap) (maxL := 6) (ret := (some .int)) (by decide) rfl ?_
  intro p e s m args below meth c s₁ B hml hv
  obtain ⟨rfl, hZ, hT, hW⟩ := hv
  have hx := B.exec
  have hb := B.bytes
  have hr := B.returns
  have hts : ∀ w ∈ wx (.code yX13_bestSwap cX13_bestSwap 6 (some .int)), w.before _ s = true := atoms_spec B.pre
  have htg : ∀ w ∈ lwg, w.before _ s = true := fun w h => hts w (List.mem_cons_of_mem _ h)
  have hown : s.vm.findClass RX13 = some m.cls := findClass_of_methodNamed B.named
  have hlocks := B.notSynchronized
  change W p l e (kr 8 182) s m (List.toArray [.ref (bs g 64)]) below meth c s.heap [] 0 0 (MQ below (Qi' g 0 81 r τ) (List.toArray [.ref (bs g 64)]) s 0 0 (Ag g 0)) _
  generalize hQ : MQ below (Qi' g 0 81 r τ) (List.toArray [.ref (bs g 64)]) s 0 0 (Ag g 0) = Q
  have hS : va_S (Ag g 0) s.heap s.heap [] := va_S.rf
  have hl := lv_entry ([.ref (bs g 64)]) (n := 6) (Nat.le_of_ble_eq_true rfl)
  rw [lg_entry_eq]
  generalize (lg_sl ([.ref (bs g 64)]) ++ List.replicate (6 - (lg_sl ([.ref (bs g 64)])).length) Slot.unset).toArray = ls at hl ⊢
  have hl : lv_has ls 6 [(0, .ref (bs g 64))] := hl
  delta f_X13_bestSwap at hf
  obtain ⟨H, hH⟩ : ∃ H, H = s.heap := ⟨_, rfl⟩
  obtain ⟨locs, hLc⟩ : ∃ z : List Loc, z = [] := ⟨_, rfl⟩
  have hS : va_S (Ag g 0) s.heap H locs := by rw [hH, hLc]; exact hS
  have hW : Wd g 0 81 σ H := by rw [hH]; exact hW
  suffices hG : W p l e (kr 8 182) s m (List.toArray [.ref (bs g 64)]) below meth c H locs 0 0 Q (F0 m 0 ls []) by rw [hH, hLc] at hG; exact hG
  clear hH hLc
  refine lv_aload_n hx hb dX13_bestSwap_0 rfl (lv_at hl 0 rfl) ?_
  refine mcv hf hS (fun τ h => va_runV (As := []) (rest := []) ⟨hx, hb, hml, hown, hts⟩ (c_X13_good g l σ τ h) (cl_X13_166 hts ⟨Nat.le_of_ble_eq_true rfl, Nat.le_of_ble_eq_true rfl⟩) (mpV_13 hZ hT hS hW tz_64 _) rfl rfl hl.1 rfl (lv_room (Nat.le_of_ble_eq_true rfl)) dX13_bestSwap_1 ⟨Nat.zero_le _, Nat.zero_le _⟩) (fun σ_1 H locs hf hW hS => ?_)
  refine lv_aload_n hx hb dX13_bestSwap_4 rfl (lv_at hl 0 rfl) ?_
  refine gf_13_14 hx hb htg (htg _ lf_X13_179) hown hZ hW tz_64 dX13_bestSwap_5 ?_
  refine lv_if_ne (tgt := 17) hx hb dX13_bestSwap_8 (by decide) (fun hc => ?_) (fun hc => ?_)
  · have hf := iff_ hc hf
    refine lv_bipush (v := (-2)) hx hb dX13_bestSwap_17 (by decide) ?_
    refine lv_istore_n (lv' := [(1, .int (-2)), (0, .ref (bs g 64))]) hx hb dX13_bestSwap_19 rfl hl (by decide) rfl (fun ls hl => ?_)
    refine lv_aload_n hx hb dX13_bestSwap_20 rfl (lv_at hl 1 rfl) ?_
    refine mcip hf hS (fun r h => va_runV (As := []) (rest := []) ⟨hx, hb, hml, hown, hts⟩ (c_X13_holdsNow g l σ_1 r h) (cl_X13_304 hts ⟨Nat.le_of_ble_eq_true rfl, Nat.le_of_ble_eq_true rfl⟩) (mpV_13 hZ hT hS hW tz_64 _) rfl rfl hl.1 rfl (lv_room (Nat.le_of_ble_eq_true rfl)) dX13_bestSwap_21 ⟨Nat.zero_le _, Nat.zero_le _⟩) (fun r_2 H locs hf hW hS => ?_)
    refine mcip hf hS (fun r h => va_runS (As := [.int r_2]) (rest := []) ⟨hx, hb, hml, hown, hts⟩ (c_X13_ones g l 0 81 σ_1 r_2 r h) (cl_X13_298 hts ⟨Nat.le_of_ble_eq_true rfl, Nat.le_of_ble_eq_true rfl⟩) (mpS hZ hT hS hW _) rfl rfl hl.1 rfl (lv_room (Nat.le_of_ble_eq_true rfl)) dX13_bestSwap_24 ⟨Nat.zero_le _, Nat.zero_le _⟩) (fun r_3 H locs hf hW hS => ?_)
    refine lv_istore_n (lv' := [(2, .int r_3), (1, .int (-2)), (0, .ref (bs g 64))]) hx hb dX13_bestSwap_27 rfl hl (by decide) rfl (fun ls hl => ?_)
    refine lv_aload_n hx hb dX13_bestSwap_28 rfl (lv_at hl 2 rfl) ?_
    refine gf_13_17 hx hb htg (htg _ lf_X13_26) hown hZ hW tz_64 dX13_bestSwap_29 ?_
    refine lv_bipush (v := 79) hx hb dX13_bestSwap_32 (by decide) ?_
    refine mld_i hx hb hZ hW tz_69 hf dX13_bestSwap_34 (fun hf => ?_)
    refine mnmi hf (fun (x_4 : Int32) hf => ?_)
    refine lv_istore_n (lv' := [(3, .int x_4), (2, .int r_3), (1, .int (-2)), (0, .ref (bs g 64))]) hx hb dX13_bestSwap_35 rfl hl (by decide) rfl (fun ls hl => ?_)
    refine fx4_W (fun (i_5 : Int32) (i_6 : Int32) (i_7 : Int32) (σ_8 : Mem) => ∀ (H : Heap) (locs : List Loc) (ls : Array Slot), Wd g 0 81 σ_8 H → va_S (Ag g 0) s.heap H locs → lv_has ls 6 [(0, .ref (bs g 64)), (1, .int i_5), (2, .int i_6), (3, .int i_7)] → W p l e (kr 8 182) s m (List.toArray [.ref (bs g 64)]) below meth c H locs 0 0 Q (F0 m 36 ls [])) (fun k_9 hk_9 i_5 i_6 i_7 σ_8 hf => ?_) FU (-2) r_3 x_4 σ_1 hf H locs ls hW hS (lv_sub hl [3, 2, 1, 0] rfl)
    intro H locs ls hW hS hl
    refine lv_iload_n hx hb dX13_bestSwap_36 rfl (lv_at hl 3 rfl) ?_
    refine lv_bipush (v := 30) hx hb dX13_bestSwap_37 (by decide) ?_
    refine lv_icmp_ge (tgt := 115) hx hb dX13_bestSwap_39 (by decide) (fun hc => ?_) (fun hc => ?_)
    · have hf := ift hc hf
      refine lv_iload_n hx hb dX13_bestSwap_115 rfl (lv_at hl 1 rfl) ?_
      subst hQ
      exact mri hx hb hr hlocks hZ hT hS hW (pr1 hf) dX13_bestSwap_116
    · have hf := iff_ hc hf
      refine lv_iload_n hx hb dX13_bestSwap_42 rfl (lv_at hl 3 rfl) ?_
      refine lv_iconst (v := 1) hx hb dX13_bestSwap_43 (by decide) ?_
      refine lv_iadd hx hb dX13_bestSwap_44 ?_
      refine mnmi hf (fun (x_10 : Int32) hf => ?_)
      refine lv_istore (lv' := [(4, .int x_10), (0, .ref (bs g 64)), (1, .int i_5), (2, .int i_6), (3, .int i_7)]) hx hb dX13_bestSwap_45 hl (by decide) rfl (fun ls hl => ?_)
      refine fx4_W (fun (i_11 : Int32) (i_12 : Int32) (i_13 : Int32) (σ_14 : Mem) => ∀ (H : Heap) (locs : List Loc) (ls : Array Slot), Wd g 0 81 σ_14 H → va_S (Ag g 0) s.heap H locs → lv_has ls 6 [(0, .ref (bs g 64)), (1, .int i_11), (2, .int i_12), (3, .int i_7), (4, .int i_13)] → W p l e (kr 8 182) s m (List.toArray [.ref (bs g 64)]) below meth c H locs 0 0 Q (F0 m 47 ls [])) (fun k_15 hk_15 i_11 i_12 i_13 σ_14 hf => ?_) FU i_5 i_6 x_10 σ_8 hf H locs ls hW hS (lv_sub hl [1, 2, 3, 4, 0] rfl)
      intro H locs ls hW hS hl
      refine lv_iload hx hb dX13_bestSwap_47 (lv_at hl 4 rfl) ?_
      refine lv_bipush (v := 30) hx hb dX13_bestSwap_49 (by decide) ?_
      refine lv_icmp_ge (tgt := 109) hx hb dX13_bestSwap_51 (by decide) (fun hc => ?_) (fun hc => ?_)
      · have hf := ift hc hf
        obtain ⟨x_16, e_17, hf⟩ := nm_s hf
        refine lv_iinc (v := x_16) (lv' := [(3, .int x_16), (0, .ref (bs g 64)), (1, .int i_11), (2, .int i_12), (4, .int i_13)]) hx hb dX13_bestSwap_109 hl (k := 3) rfl (by rw [e_17]; rfl) (by decide) rfl (fun ls hl => ?_)
        refine lv_goto (tgt := 36) hx hb dX13_bestSwap_112 (by decide) ?_
        exact hk_9 i_11 i_12 x_16 σ_14 hf H locs ls hW hS (lv_sub hl [1, 2, 3, 0] rfl)
      · have hf := iff_ hc hf
        refine lv_aload_n hx hb dX13_bestSwap_54 rfl (lv_at hl 0 rfl) ?_
        refine lv_iload_n hx hb dX13_bestSwap_55 rfl (lv_at hl 3 rfl) ?_
        refine mcip hf hS (fun r h => va_runV (As := [.int i_7]) (rest := []) ⟨hx, hb, hml, hown, hts⟩ (c_X13_isVisit g l σ_14 i_7 r h) (cl_X13_310 hts ⟨Nat.le_of_ble_eq_true rfl, Nat.le_of_ble_eq_true rfl⟩) (mpV_13 hZ hT hS hW tz_64 _) rfl rfl hl.1 rfl (lv_room (Nat.le_of_ble_eq_true rfl)) dX13_bestSwap_56 ⟨Nat.zero_le _, Nat.zero_le _⟩) (fun r_18 H locs hf hW hS => ?_)
        refine jn3_W (fun (i_19 : Int32) (i_20 : Int32) (σ_21 : Mem) => ∀ (H : Heap) (locs : List Loc) (ls : Array Slot), Wd g 0 81 σ_21 H → va_S (Ag g 0) s.heap H locs → lv_has ls 6 [(0, .ref (bs g 64)), (1, .int i_19), (2, .int i_20), (3, .int i_7), (4, .int i_13)] → W p l e (kr 8 182) s m (List.toArray [.ref (bs g 64)]) below meth c H locs 0 0 Q (F0 m 103 ls [])) hf (fun i_19 i_20 σ_21 hf => ?_) (fun k_22 hk_22 hf => ?_)
        · intro H locs ls hW hS hl
          obtain ⟨x_23, e_24, hf⟩ := nm_s hf
          refine lv_iinc (v := x_23) (lv' := [(4, .int x_23), (0, .ref (bs g 64)), (1, .int i_19), (2, .int i_20), (3, .int i_7)]) hx hb dX13_bestSwap_103 hl (k := 4) rfl (by rw [e_24]; rfl) (by decide) rfl (fun ls hl => ?_)
          refine lv_goto (tgt := 47) hx hb dX13_bestSwap_106 (by decide) ?_
          exact hk_15 i_19 i_20 x_23 σ_21 hf H locs ls hW hS (lv_sub hl [1, 2, 3, 4, 0] rfl)
        · refine lv_if_eq (tgt := 103) hx hb dX13_bestSwap_59 (by decide) (fun hc => ?_) (fun hc => ?_)
          · have hf := ift hc hf
            exact hk_22 i_11 i_12 σ_14 hf H locs ls hW hS (lv_sub hl [0, 1, 2, 3, 4] rfl)
          · have hf := iff_ hc hf
            refine lv_aload_n hx hb dX13_bestSwap_62 rfl (lv_at hl 0 rfl) ?_
            refine lv_iload hx hb dX13_bestSwap_63 (lv_at hl 4 rfl) ?_
            refine mcip hf hS (fun r h => va_runV (As := [.int i_13]) (rest := []) ⟨hx, hb, hml, hown, hts⟩ (c_X13_isVisit g l σ_14 i_13 r h) (cl_X13_310 hts ⟨Nat.le_of_ble_eq_true rfl, Nat.le_of_ble_eq_true rfl⟩) (mpV_13 hZ hT hS hW tz_64 _) rfl rfl hl.1 rfl (lv_room (Nat.le_of_ble_eq_true rfl)) dX13_bestSwap_65 ⟨Nat.zero_le _, Nat.zero_le _⟩) (fun r_25 H locs hf hW hS => ?_)
            refine lv_if_ne (tgt := 74) hx hb dX13_bestSwap_68 (by decide) (fun hc => ?_) (fun hc => ?_)
            · have hf := iff_ hc hf
              refine lv_aload_n hx hb dX13_bestSwap_74 rfl (lv_at hl 0 rfl) ?_
              refine lv_iload_n hx hb dX13_bestSwap_75 rfl (lv_at hl 3 rfl) ?_
              refine lv_iload hx hb dX13_bestSwap_76 (lv_at hl 4 rfl) ?_
              refine mci hf hS (fun r τ h => va_runV (As := [.int i_7, .int i_13]) (rest := []) ⟨hx, hb, hml, hown, hts⟩ (c_X13_heldBySwap g l σ_14 i_7 i_13 r τ h) (cl_X13_313 hts ⟨Nat.le_of_ble_eq_true rfl, Nat.le_of_ble_eq_true rfl⟩) (mpV_13 hZ hT hS hW tz_64 _) rfl rfl hl.1 rfl (lv_room (Nat.le_of_ble_eq_true rfl)) dX13_bestSwap_78 ⟨Nat.zero_le _, Nat.zero_le _⟩) (fun r_26 σ_27 H locs hf hW hS => ?_)
              refine lv_istore (lv' := [(5, .int r_26), (0, .ref (bs g 64)), (1, .int i_11), (2, .int i_12), (3, .int i_7), (4, .int i_13)]) hx hb dX13_bestSwap_81 hl (by decide) rfl (fun ls hl => ?_)
              refine lv_iload hx hb dX13_bestSwap_83 (lv_at hl 0 rfl) ?_
              refine lv_iload_n hx hb dX13_bestSwap_85 rfl (lv_at hl 3 rfl) ?_
              refine lv_icmp_gt (tgt := 92) hx hb dX13_bestSwap_86 (by decide) (fun hc => ?_) (fun hc => ?_)
              · have hf := ift hc hf
                refine lv_bipush (v := 100) hx hb dX13_bestSwap_92 (by decide) ?_
                refine lv_iload_n hx hb dX13_bestSwap_94 rfl (lv_at hl 4 rfl) ?_
                refine lv_imul hx hb dX13_bestSwap_95 ?_
                refine lv_iload hx hb dX13_bestSwap_96 (lv_at hl 5 rfl) ?_
                refine lv_iadd hx hb dX13_bestSwap_98 ?_
                refine mnmi hf (fun (x_28 : Int32) hf => ?_)
                refine lv_istore_n (lv' := [(1, .int x_28), (5, .int r_26), (0, .ref (bs g 64)), (2, .int i_12), (3, .int i_7), (4, .int i_13)]) hx hb dX13_bestSwap_99 rfl hl (by decide) rfl (fun ls hl => ?_)
                refine lv_iload hx hb dX13_bestSwap_100 (lv_at hl 1 rfl) ?_
                refine lv_istore_n (lv' := [(2, .int r_26), (1, .int x_28), (5, .int r_26), (0, .ref (bs g 64)), (3, .int i_7), (4, .int i_13)]) hx hb dX13_bestSwap_102 rfl hl (by decide) rfl (fun ls hl => ?_)
                exact hk_22 x_28 r_26 σ_27 hf H locs ls hW hS (lv_sub hl [3, 1, 0, 4, 5] rfl)
              · have hf := iff_ hc hf
                refine lv_goto (tgt := 103) hx hb dX13_bestSwap_89 (by decide) ?_
                exact hk_22 i_11 i_12 σ_27 hf H locs ls hW hS (lv_sub hl [1, 2, 3, 4, 5] rfl)
            · have hf := ift hc hf
              refine lv_goto (tgt := 103) hx hb dX13_bestSwap_71 (by decide) ?_
              exact hk_22 i_11 i_12 σ_14 hf H locs ls hW hS (lv_sub hl [0, 1, 2, 3, 4] rfl)
  · have hf := ift hc hf
    refine lv_aload_n hx hb dX13_bestSwap_11 rfl (lv_at hl 0 rfl) ?_
    refine lv_iconst (v := 1) hx hb dX13_bestSwap_12 (by decide) ?_
    refine mci hf hS (fun r τ h => va_runV (As := [.int 1]) (rest := []) ⟨hx, hb, hml, hown, hts⟩ (c_X13_no g l σ_1 1 r τ h) (cl_X13_169 hts ⟨Nat.le_of_ble_eq_true rfl, Nat.le_of_ble_eq_true rfl⟩) (mpV_13 hZ hT hS hW tz_64 _) rfl rfl hl.1 rfl (lv_room (Nat.le_of_ble_eq_true rfl)) dX13_bestSwap_13 ⟨Nat.zero_le _, Nat.zero_le _⟩) (fun r_29 σ_30 H locs hf hW hS => ?_)
    subst hQ
    exact mri hx hb hr hlocks hZ hT hS hW (pr1 hf) dX13_bestSwap_16
def f_X13_isOpen (σ : Mem) (a1 : Int32) : Option (Int32) :=
  ixd 79 (aln 69) (jn0 (some 0) (fun k_1 => (if a1 < (σ.1 69 (79 : Int32).toNatClampNeg) then k_1 else bd1 (f_X13_isShut σ a1) (fun (r_2 : Int32) => (if r_2 = 0 then ixd a1 (aln 69) ((if (σ.1 69 a1.toNatClampNeg) = 0 then some 1 else k_1)) else k_1)))))
set_option maxHeartbeats 4000000 in
set_option maxRecDepth 100000 in
theorem c_X13_isOpen (g : XG) (l : Launch) (σ : Mem) (a1 : Int32) (r : Int32) (hf : f_X13_isOpen σ a1 = some r) : Met l yX13_isOpen (wx (.code yX13_isOpen cX13_isOpen 2 (some .boolean))) (kr 1 21) (va_Pc [.ref (bs g 64), .int a1] (WS g 0 81 σ)) (Qi' g 0 81 r σ) 0 0 (Ag g 0) := by
  refine Met.ofW (cc := cX13_isOpen) (maxL := 2) (ret := (some .boolean)) (by decide) rfl ?_
  intro p e s m args below meth c s₁ B hml hv
  obtain ⟨rfl, hZ, hT, hW⟩ := hv
  have hx := B.exec
  have hb := B.bytes
  have hr := B.returns
  have hts : ∀ w ∈ wx (.code yX13_isOpen cX13_isOpen 2 (some .boolean)), w.before _ s = true := atoms_spec B.pre
  have htg : ∀ w ∈ lwg, w.before _ s = true := fun w h => hts w (List.mem_cons_of_mem _ h)
  have hown : s.vm.findClass RX13 = some m.cls := findClass_of_methodNamed B.named
  have hlocks := B.notSynchronized
  change W p l e (kr 1 21) s m (List.toArray [.ref (bs g 64), .int a1]) below meth c s.heap [] 0 0 (MQ below (Qi' g 0 81 r σ) (List.toArray [.ref (bs g 64), .int a1]) s 0 0 (Ag g 0)) _
  generalize hQ : MQ below (Qi' g 0 81 r σ) (List.toArray [.ref (bs g 64), .int a1]) s 0 0 (Ag g 0) = Q
  have hS : va_S (Ag g 0) s.heap s.heap [] := va_S.rf
  have hl := lv_entry ([.ref (bs g 64), .int a1]) (n := 2) (Nat.le_of_ble_eq_true rfl)
  rw [lg_entry_eq]
  generalize (lg_sl ([.ref (bs g 64), .int a1]) ++ List.replicate (2 - (lg_sl ([.ref (bs g 64), .int a1])).length) Slot.unset).toArray = ls at hl ⊢
  have hl : lv_has ls 2 [(0, .ref (bs g 64)), (1, .int a1)] := hl
  delta f_X13_isOpen at hf
  obtain ⟨H, hH⟩ : ∃ H, H = s.heap := ⟨_, rfl⟩
  obtain ⟨locs, hLc⟩ : ∃ z : List Loc, z = [] := ⟨_, rfl⟩
  have hS : va_S (Ag g 0) s.heap H locs := by rw [hH, hLc]; exact hS
  have hW : Wd g 0 81 σ H := by rw [hH]; exact hW
  suffices hG : W p l e (kr 1 21) s m (List.toArray [.ref (bs g 64), .int a1]) below meth c H locs 0 0 Q (F0 m 0 ls []) by rw [hH, hLc] at hG; exact hG
  clear hH hLc
  refine lv_iload_n hx hb dX13_isOpen_0 rfl (lv_at hl 1 rfl) ?_
  refine lv_aload_n hx hb dX13_isOpen_1 rfl (lv_at hl 0 rfl) ?_
  refine gf_13_17 hx hb htg (htg _ lf_X13_26) hown hZ hW tz_64 dX13_isOpen_2 ?_
  refine lv_bipush (v := 79) hx hb dX13_isOpen_5 (by decide) ?_
  refine mld_i hx hb hZ hW tz_69 hf dX13_isOpen_7 (fun hf => ?_)
  refine jn0_W (∀ (H : Heap) (locs : List Loc) (ls : Array Slot), Wd g 0 81 σ H → va_S (Ag g 0) s.heap H locs → lv_has ls 2 [] → W p l e (kr 1 21) s m (List.toArray [.ref (bs g 64), .int a1]) below meth c H locs 0 0 Q (F0 m 32 ls [])) hf (fun  hf => ?_) (fun k_1 hk_1 hf => ?_)
  · intro H locs ls hW hS hl
    refine lv_iconst (v := 0) hx hb dX13_isOpen_32 (by decide) ?_
    subst hQ
    exact mrz hx hb hr hlocks hZ hT hS hW (by decide) ⟨Option.some.inj hf, rfl⟩ dX13_isOpen_33
  · refine lv_icmp_lt (tgt := 32) hx hb dX13_isOpen_8 (by decide) (fun hc => ?_) (fun hc => ?_)
    · have hf := ift hc hf
      exact hk_1  hf H locs ls hW hS (lv_sub hl [] rfl)
    · have hf := iff_ hc hf
      refine lv_aload_n hx hb dX13_isOpen_11 rfl (lv_at hl 0 rfl) ?_
      refine lv_iload_n hx hb dX13_isOpen_12 rfl (lv_at hl 1 rfl) ?_
      refine mcip hf hS (fun r h => va_runV (As := [.int a1]) (rest := []) ⟨hx, hb, hml, hown, hts⟩ (c_X13_isShut g l σ a1 r h) (cl_X13_288 hts ⟨Nat.le_of_ble_eq_true rfl, Nat.le_of_ble_eq_true rfl⟩) (mpV_13 hZ hT hS hW tz_64 _) rfl rfl hl.1 rfl (lv_room (Nat.le_of_ble_eq_true rfl)) dX13_isOpen_13 ⟨Nat.zero_le _, Nat.zero_le _⟩) (fun r_2 H locs hf hW hS => ?_)
      refine lv_if_ne (tgt := 32) hx hb dX13_isOpen_16 (by decide) (fun hc => ?_) (fun hc => ?_)
      · have hf := iff_ hc hf
        exact hk_1  hf H locs ls hW hS (lv_sub hl [] rfl)
      · have hf := ift hc hf
        refine lv_aload_n hx hb dX13_isOpen_19 rfl (lv_at hl 0 rfl) ?_
        refine gf_13_17 hx hb htg (htg _ lf_X13_26) hown hZ hW tz_64 dX13_isOpen_20 ?_
        refine lv_iload_n hx hb dX13_isOpen_23 rfl (lv_at hl 1 rfl) ?_
        refine mld_i hx hb hZ hW tz_69 hf dX13_isOpen_24 (fun hf => ?_)
        refine lv_if_ne (tgt := 32) hx hb dX13_isOpen_25 (by decide) (fun hc => ?_) (fun hc => ?_)
        · have hf := iff_ hc hf
          exact hk_1  hf H locs ls hW hS (lv_sub hl [] rfl)
        · have hf := ift hc hf
          refine lv_iconst (v := 1) hx hb dX13_isOpen_28 (by decide) ?_
          refine lv_goto (tgt := 33) hx hb dX13_isOpen_29 (by decide) ?_
          subst hQ
          exact mrz hx hb hr hlocks hZ hT hS hW (by decide) ⟨Option.some.inj hf, rfl⟩ dX13_isOpen_33
def f_X13_bestDay (σ : Mem) (a1 : Int32) : Option (Int32 × Mem) :=
  bd1 (f_X13_good σ) (fun (σ_1 : Mem) => bd1 (f_X13_isPerson σ_1 a1) (fun (r_2 : Int32) => (if r_2 = 0 then bd2 (f_X13_no σ_1 1) (fun (r_19 : Int32) (σ_20 : Mem) => some (r_19, σ_20)) else fx4 FU (fun k_7 (i_3 : Int32) (i_4 : Int32) (i_5 : Int32) (σ_6 : Mem) => (if 30 ≤ i_5 then some (i_3, σ_6) else bd1 (f_X13_isOpen σ_6 i_5) (fun (r_8 : Int32) => jn3 (fun (i_9 : Int32) (i_10 : Int32) (σ_11 : Mem) => nm (i_5 + 1) (fun (x_13 : Int32) => k_7 i_9 i_10 x_13 σ_11)) (fun k_12 => (if r_8 = 0 then k_12 i_3 i_4 σ_6 else ixd i_5 (aln 69) (nm (sI σ_6 69 i_5.toNatClampNeg (a1 + 1)) (fun (σ_15 : Mem) => bd1 (f_X13_holdsNow σ_15) (fun (r_16 : Int32) => bd1 (f_X13_ones r_16) (fun (r_17 : Int32) => ixd i_5 (aln 69) (nm (sI σ_15 69 i_5.toNatClampNeg 0) (fun (σ_18 : Mem) => (if i_4 < r_17 then k_12 i_5 r_17 σ_18 else k_12 i_3 i_4 σ_18)))))))))))) (-2) (-1) 0 σ_1)))
set_option maxHeartbeats 4000000 in
set_option maxRecDepth 100000 in
theorem c_X13_bestDay (g : XG) (l : Launch) (σ : Mem) (a1 : Int32) (r : Int32) (τ : Mem) (hf : f_X13_bestDay σ a1 = some (r, τ)) : Met l yX13_bestDay (wx (.code yX13_bestDay cX13_bestDay 6 (some .int))) (kr 7 158) (va_Pc [.ref (bs g 64), .int a1] (WS g 0 81 σ)) (Qi' g 0 81 r τ) 0 0 (Ag g 0) := by
  refine Met.ofW (cc := cX13_bestDay) (maxL := 6) (ret := (some .int)) (by decide) rfl ?_
  intro p e s m args below meth c s₁ B hml hv
  obtain ⟨rfl, hZ, hT, hW⟩ := hv
  have hx := B.exec
  have hb := B.bytes
  have hr := B.returns
  have hts : ∀ w ∈ wx (.code yX13_bestDay cX13_bestDay 6 (some .int)), w.before _ s = true := atoms_spec B.pre
  have htg : ∀ w ∈ lwg, w.before _ s = true := fun w h => hts w (List.mem_cons_of_mem _ h)
  have hown : s.vm.findClass RX13 = some m.cls := findClass_of_methodNamed B.named
  have hlocks := B.notSynchronized
  change W p l e (kr 7 158) s m (List.toArray [.ref (bs g 64), .int a1]) below meth c s.heap [] 0 0 (MQ below (Qi' g 0 81 r τ) (List.toArray [.ref (bs g 64), .int a1]) s 0 0 (Ag g 0)) _
  generalize hQ : MQ below (Qi' g 0 81 r τ) (List.toArray [.ref (bs g 64), .int a1]) s 0 0 (Ag g 0) = Q
  have hS : va_S (Ag g 0) s.heap s.heap [] := va_S.rf
  have hl := lv_entry ([.ref (bs g 64), .int a1]) (n := 6) (Nat.le_of_ble_eq_true rfl)
  rw [lg_entry_eq]
  generalize (lg_sl ([.ref (bs g 64), .int a1]) ++ List.replicate (6 - (lg_sl ([.ref (bs g 64), .int a1])).length) Slot.unset).toArray = ls at hl ⊢
  have hl : lv_has ls 6 [(0, .ref (bs g 64)), (1, .int a1)] := hl
  delta f_X13_bestDay at hf
  obtain ⟨H, hH⟩ : ∃ H, H = s.heap := ⟨_, rfl⟩
  obtain ⟨locs, hLc⟩ : ∃ z : List Loc, z = [] := ⟨_, rfl⟩
  have hS : va_S (Ag g 0) s.heap H locs := by rw [hH, hLc]; exact hS
  have hW : Wd g 0 81 σ H := by rw [hH]; exact hW
  suffices hG : W p l e (kr 7 158) s m (List.toArray [.ref (bs g 64), .int a1]) below meth c H locs 0 0 Q (F0 m 0 ls []) by rw [hH, hLc] at hG; exact hG
  clear hH hLc
  refine lv_aload_n hx hb dX13_bestDay_0 rfl (lv_at hl 0 rfl) ?_
  refine mcv hf hS (fun τ h => va_runV (As := []) (rest := []) ⟨hx, hb, hml, hown, hts⟩ (c_X13_good g l σ τ h) (cl_X13_166 hts ⟨Nat.le_of_ble_eq_true rfl, Nat.le_of_ble_eq_true rfl⟩) (mpV_13 hZ hT hS hW tz_64 _) rfl rfl hl.1 rfl (lv_room (Nat.le_of_ble_eq_true rfl)) dX13_bestDay_1 ⟨Nat.zero_le _, Nat.zero_le _⟩) (fun σ_1 H locs hf hW hS => ?_)
  refine lv_aload_n hx hb dX13_bestDay_4 rfl (lv_at hl 0 rfl) ?_
  refine lv_iload_n hx hb dX13_bestDay_5 rfl (lv_at hl 1 rfl) ?_
  refine mcip hf hS (fun r h => va_runV (As := [.int a1]) (rest := []) ⟨hx, hb, hml, hown, hts⟩ (c_X13_isPerson g l σ_1 a1 r h) (cl_X13_275 hts ⟨Nat.le_of_ble_eq_true rfl, Nat.le_of_ble_eq_true rfl⟩) (mpV_13 hZ hT hS hW tz_64 _) rfl rfl hl.1 rfl (lv_room (Nat.le_of_ble_eq_true rfl)) dX13_bestDay_6 ⟨Nat.zero_le _, Nat.zero_le _⟩) (fun r_2 H locs hf hW hS => ?_)
  refine lv_if_ne (tgt := 18) hx hb dX13_bestDay_9 (by decide) (fun hc => ?_) (fun hc => ?_)
  · have hf := iff_ hc hf
    refine lv_bipush (v := (-2)) hx hb dX13_bestDay_18 (by decide) ?_
    refine lv_istore_n (lv' := [(2, .int (-2)), (0, .ref (bs g 64)), (1, .int a1)]) hx hb dX13_bestDay_20 rfl hl (by decide) rfl (fun ls hl => ?_)
    refine lv_iconst (v := (-1)) hx hb dX13_bestDay_21 (by decide) ?_
    refine lv_istore_n (lv' := [(3, .int (-1)), (2, .int (-2)), (0, .ref (bs g 64)), (1, .int a1)]) hx hb dX13_bestDay_22 rfl hl (by decide) rfl (fun ls hl => ?_)
    refine lv_iconst (v := 0) hx hb dX13_bestDay_23 (by decide) ?_
    refine lv_istore (lv' := [(4, .int 0), (3, .int (-1)), (2, .int (-2)), (0, .ref (bs g 64)), (1, .int a1)]) hx hb dX13_bestDay_24 hl (by decide) rfl (fun ls hl => ?_)
    refine fx4_W (fun (i_3 : Int32) (i_4 : Int32) (i_5 : Int32) (σ_6 : Mem) => ∀ (H : Heap) (locs : List Loc) (ls : Array Slot), Wd g 0 81 σ_6 H → va_S (Ag g 0) s.heap H locs → lv_has ls 6 [(0, .ref (bs g 64)), (1, .int a1), (2, .int i_3), (3, .int i_4), (4, .int i_5)] → W p l e (kr 7 158) s m (List.toArray [.ref (bs g 64), .int a1]) below meth c H locs 0 0 Q (F0 m 26 ls [])) (fun k_7 hk_7 i_3 i_4 i_5 σ_6 hf => ?_) FU (-2) (-1) 0 σ_1 hf H locs ls hW hS (lv_sub hl [3, 4, 2, 1, 0] rfl)
    intro H locs ls hW hS hl
    refine lv_iload hx hb dX13_bestDay_26 (lv_at hl 4 rfl) ?_
    refine lv_bipush (v := 30) hx hb dX13_bestDay_28 (by decide) ?_
    refine lv_icmp_ge (tgt := 93) hx hb dX13_bestDay_30 (by decide) (fun hc => ?_) (fun hc => ?_)
    · have hf := ift hc hf
      refine lv_iload_n hx hb dX13_bestDay_93 rfl (lv_at hl 2 rfl) ?_
      subst hQ
      exact mri hx hb hr hlocks hZ hT hS hW (pr1 hf) dX13_bestDay_94
    · have hf := iff_ hc hf
      refine lv_aload_n hx hb dX13_bestDay_33 rfl (lv_at hl 0 rfl) ?_
      refine lv_iload hx hb dX13_bestDay_34 (lv_at hl 4 rfl) ?_
      refine mcip hf hS (fun r h => va_runV (As := [.int i_5]) (rest := []) ⟨hx, hb, hml, hown, hts⟩ (c_X13_isOpen g l σ_6 i_5 r h) (cl_X13_316 hts ⟨Nat.le_of_ble_eq_true rfl, Nat.le_of_ble_eq_true rfl⟩) (mpV_13 hZ hT hS hW tz_64 _) rfl rfl hl.1 rfl (lv_room (Nat.le_of_ble_eq_true rfl)) dX13_bestDay_36 ⟨Nat.zero_le _, Nat.zero_le _⟩) (fun r_8 H locs hf hW hS => ?_)
      refine jn3_W (fun (i_9 : Int32) (i_10 : Int32) (σ_11 : Mem) => ∀ (H : Heap) (locs : List Loc) (ls : Array Slot), Wd g 0 81 σ_11 H → va_S (Ag g 0) s.heap H locs → lv_has ls 6 [(0, .ref (bs g 64)), (1, .int a1), (2, .int i_9), (3, .int i_10), (4, .int i_5)] → W p l e (kr 7 158) s m (List.toArray [.ref (bs g 64), .int a1]) below meth c H locs 0 0 Q (F0 m 87 ls [])) hf (fun i_9 i_10 σ_11 hf => ?_) (fun k_12 hk_12 hf => ?_)
      · intro H locs ls hW hS hl
        obtain ⟨x_13, e_14, hf⟩ := nm_s hf
        refine lv_iinc (v := x_13) (lv' := [(4, .int x_13), (0, .ref (bs g 64)), (1, .int a1), (2, .int i_9), (3, .int i_10)]) hx hb dX13_bestDay_87 hl (k := 4) rfl (by rw [e_14]; rfl) (by decide) rfl (fun ls hl => ?_)
        refine lv_goto (tgt := 26) hx hb dX13_bestDay_90 (by decide) ?_
        exact hk_7 i_9 i_10 x_13 σ_11 hf H locs ls hW hS (lv_sub hl [1, 2, 3, 4, 0] rfl)
      · refine lv_if_ne (tgt := 45) hx hb dX13_bestDay_39 (by decide) (fun hc => ?_) (fun hc => ?_)
        · have hf := iff_ hc hf
          refine lv_aload_n hx hb dX13_bestDay_45 rfl (lv_at hl 0 rfl) ?_
          refine gf_13_17 hx hb htg (htg _ lf_X13_26) hown hZ hW tz_64 dX13_bestDay_46 ?_
          refine lv_iload hx hb dX13_bestDay_49 (lv_at hl 4 rfl) ?_
          refine lv_iload_n hx hb dX13_bestDay_51 rfl (lv_at hl 1 rfl) ?_
          refine lv_iconst (v := 1) hx hb dX13_bestDay_52 (by decide) ?_
          refine lv_iadd hx hb dX13_bestDay_53 ?_
          refine mst_i hx hb hZ hW hS tz_69 hf dX13_bestDay_54 (fun σ_15 H locs hf hW hS => ?_)
          refine lv_aload_n hx hb dX13_bestDay_55 rfl (lv_at hl 0 rfl) ?_
          refine mcip hf hS (fun r h => va_runV (As := []) (rest := []) ⟨hx, hb, hml, hown, hts⟩ (c_X13_holdsNow g l σ_15 r h) (cl_X13_304 hts ⟨Nat.le_of_ble_eq_true rfl, Nat.le_of_ble_eq_true rfl⟩) (mpV_13 hZ hT hS hW tz_64 _) rfl rfl hl.1 rfl (lv_room (Nat.le_of_ble_eq_true rfl)) dX13_bestDay_56 ⟨Nat.zero_le _, Nat.zero_le _⟩) (fun r_16 H locs hf hW hS => ?_)
          refine mcip hf hS (fun r h => va_runS (As := [.int r_16]) (rest := []) ⟨hx, hb, hml, hown, hts⟩ (c_X13_ones g l 0 81 σ_15 r_16 r h) (cl_X13_298 hts ⟨Nat.le_of_ble_eq_true rfl, Nat.le_of_ble_eq_true rfl⟩) (mpS hZ hT hS hW _) rfl rfl hl.1 rfl (lv_room (Nat.le_of_ble_eq_true rfl)) dX13_bestDay_59 ⟨Nat.zero_le _, Nat.zero_le _⟩) (fun r_17 H locs hf hW hS => ?_)
          refine lv_istore (lv' := [(5, .int r_17), (0, .ref (bs g 64)), (1, .int a1), (2, .int i_3), (3, .int i_4), (4, .int i_5)]) hx hb dX13_bestDay_62 hl (by decide) rfl (fun ls hl => ?_)
          refine lv_aload_n hx hb dX13_bestDay_64 rfl (lv_at hl 1 rfl) ?_
          refine gf_13_17 hx hb htg (htg _ lf_X13_26) hown hZ hW tz_64 dX13_bestDay_65 ?_
          refine lv_iload hx hb dX13_bestDay_68 (lv_at hl 5 rfl) ?_
          refine lv_iconst (v := 0) hx hb dX13_bestDay_70 (by decide) ?_
          refine mst_i hx hb hZ hW hS tz_69 hf dX13_bestDay_71 (fun σ_18 H locs hf hW hS => ?_)
          refine lv_iload hx hb dX13_bestDay_72 (lv_at hl 0 rfl) ?_
          refine lv_iload_n hx hb dX13_bestDay_74 rfl (lv_at hl 4 rfl) ?_
          refine lv_icmp_gt (tgt := 81) hx hb dX13_bestDay_75 (by decide) (fun hc => ?_) (fun hc => ?_)
          · have hf := ift hc hf
            refine lv_iload hx hb dX13_bestDay_81 (lv_at hl 5 rfl) ?_
            refine lv_istore_n (lv' := [(2, .int i_5), (5, .int r_17), (0, .ref (bs g 64)), (1, .int a1), (3, .int i_4), (4, .int i_5)]) hx hb dX13_bestDay_83 rfl hl (by decide) rfl (fun ls hl => ?_)
            refine lv_iload hx hb dX13_bestDay_84 (lv_at hl 1 rfl) ?_
            refine lv_istore_n (lv' := [(3, .int r_17), (2, .int i_5), (5, .int r_17), (0, .ref (bs g 64)), (1, .int a1), (4, .int i_5)]) hx hb dX13_bestDay_86 rfl hl (by decide) rfl (fun ls hl => ?_)
            exact hk_12 i_5 r_17 σ_18 hf H locs ls hW hS (lv_sub hl [3, 4, 1, 0, 5] rfl)
          · have hf := iff_ hc hf
            refine lv_goto (tgt := 87) hx hb dX13_bestDay_78 (by decide) ?_
            exact hk_12 i_3 i_4 σ_18 hf H locs ls hW hS (lv_sub hl [1, 2, 3, 4, 5] rfl)
        · have hf := ift hc hf
          refine lv_goto (tgt := 87) hx hb dX13_bestDay_42 (by decide) ?_
          exact hk_12 i_3 i_4 σ_6 hf H locs ls hW hS (lv_sub hl [0, 1, 2, 3, 4] rfl)
  · have hf := ift hc hf
    refine lv_aload_n hx hb dX13_bestDay_12 rfl (lv_at hl 0 rfl) ?_
    refine lv_iconst (v := 1) hx hb dX13_bestDay_13 (by decide) ?_
    refine mci hf hS (fun r τ h => va_runV (As := [.int 1]) (rest := []) ⟨hx, hb, hml, hown, hts⟩ (c_X13_no g l σ_1 1 r τ h) (cl_X13_169 hts ⟨Nat.le_of_ble_eq_true rfl, Nat.le_of_ble_eq_true rfl⟩) (mpV_13 hZ hT hS hW tz_64 _) rfl rfl hl.1 rfl (lv_room (Nat.le_of_ble_eq_true rfl)) dX13_bestDay_14 ⟨Nat.zero_le _, Nat.zero_le _⟩) (fun r_19 σ_20 H locs hf hW hS => ?_)
    subst hQ
    exact mri hx hb hr hlocks hZ hT hS hW (pr1 hf) dX13_bestDay_17
def f_X13_unmet (σ : Mem)  : Option (Int32) :=
  fx2 FU (fun k_3 (i_1 : Int32) (i_2 : Int32) => ixd 7 (aln 67) ((if (σ.1 67 (7 : Int32).toNatClampNeg) ≤ i_2 then some i_1 else bd1 (f_X13_doesHold σ i_2) (fun (r_4 : Int32) => jn1 (fun (i_5 : Int32) => nm (i_1 ||| i_5) (fun (x_7 : Int32) => nm (i_2 + 1) (fun (x_8 : Int32) => k_3 x_7 x_8))) (fun k_6 => (if r_4 = 0 then ixd (90 + (2 * i_2)) (aln 67) (k_6 (1 <<< ((σ.1 67 (90 + (2 * i_2)).toNatClampNeg) &&& 31))) else k_6 0)))))) 0 0
set_option maxHeartbeats 4000000 in
set_option maxRecDepth 100000 in
theorem c_X13_unmet (g : XG) (l : Launch) (σ : Mem) (r : Int32) (hf : f_X13_unmet σ = some r) : Met l yX13_unmet (wx (.code yX13_unmet cX13_unmet 3 (some .int))) (kr 6 136) (va_Pc [.ref (bs g 64)] (WS g 0 81 σ)) (Qi' g 0 81 r σ) 0 0 (Ag g 0) := by
  refine Met.ofW (cc := cX13_unmet) (maxL := 3) (ret := (some .int)) (by decide) rfl ?_
  intro p e s m args below meth c s₁ B hml hv
  obtain ⟨rfl, hZ, hT, hW⟩ := hv
  have hx := B.exec
  have hb := B.bytes
  have hr := B.returns
  have hts : ∀ w ∈ wx (.code yX13_unmet cX13_unmet 3 (some .int)), w.before _ s = true := atoms_spec B.pre
  have htg : ∀ w ∈ lwg, w.before _ s = true := fun w h => hts w (List.mem_cons_of_mem _ h)
  have hown : s.vm.findClass RX13 = some m.cls := findClass_of_methodNamed B.named
  have hlocks := B.notSynchronized
  change W p l e (kr 6 136) s m (List.toArray [.ref (bs g 64)]) below meth c s.heap [] 0 0 (MQ below (Qi' g 0 81 r σ) (List.toArray [.ref (bs g 64)]) s 0 0 (Ag g 0)) _
  generalize hQ : MQ below (Qi' g 0 81 r σ) (List.toArray [.ref (bs g 64)]) s 0 0 (Ag g 0) = Q
  have hS : va_S (Ag g 0) s.heap s.heap [] := va_S.rf
  have hl := lv_entry ([.ref (bs g 64)]) (n := 3) (Nat.le_of_ble_eq_true rfl)
  rw [lg_entry_eq]
  generalize (lg_sl ([.ref (bs g 64)]) ++ List.replicate (3 - (lg_sl ([.ref (bs g 64)])).length) Slot.unset).toArray = ls at hl ⊢
  have hl : lv_has ls 3 [(0, .ref (bs g 64))] := hl
  delta f_X13_unmet at hf
  obtain ⟨H, hH⟩ : ∃ H, H = s.heap := ⟨_, rfl⟩
  obtain ⟨locs, hLc⟩ : ∃ z : List Loc, z = [] := ⟨_, rfl⟩
  have hS : va_S (Ag g 0) s.heap H locs := by rw [hH, hLc]; exact hS
  have hW : Wd g 0 81 σ H := by rw [hH]; exact hW
  suffices hG : W p l e (kr 6 136) s m (List.toArray [.ref (bs g 64)]) below meth c H locs 0 0 Q (F0 m 0 ls []) by rw [hH, hLc] at hG; exact hG
  clear hH hLc
  refine lv_iconst (v := 0) hx hb dX13_unmet_0 (by decide) ?_
  refine lv_istore_n (lv' := [(1, .int 0), (0, .ref (bs g 64))]) hx hb dX13_unmet_1 rfl hl (by decide) rfl (fun ls hl => ?_)
  refine lv_iconst (v := 0) hx hb dX13_unmet_2 (by decide) ?_
  refine lv_istore_n (lv' := [(2, .int 0), (1, .int 0), (0, .ref (bs g 64))]) hx hb dX13_unmet_3 rfl hl (by decide) rfl (fun ls hl => ?_)
  refine fx2_W (fun (i_1 : Int32) (i_2 : Int32) => ∀ (H : Heap) (locs : List Loc) (ls : Array Slot), Wd g 0 81 σ H → va_S (Ag g 0) s.heap H locs → lv_has ls 3 [(0, .ref (bs g 64)), (1, .int i_1), (2, .int i_2)] → W p l e (kr 6 136) s m (List.toArray [.ref (bs g 64)]) below meth c H locs 0 0 Q (F0 m 4 ls [])) (fun k_3 hk_3 i_1 i_2 hf => ?_) FU 0 0 hf H locs ls hW hS (lv_sub hl [2, 1, 0] rfl)
  intro H locs ls hW hS hl
  refine lv_iload_n hx hb dX13_unmet_4 rfl (lv_at hl 2 rfl) ?_
  refine lv_aload_n hx hb dX13_unmet_5 rfl (lv_at hl 0 rfl) ?_
  refine gf_13_15 hx hb htg (htg _ lf_X13_20) hown hZ hW tz_64 dX13_unmet_6 ?_
  refine lv_bipush (v := 7) hx hb dX13_unmet_9 (by decide) ?_
  refine mld_i hx hb hZ hW tz_67 hf dX13_unmet_11 (fun hf => ?_)
  refine lv_icmp_ge (tgt := 49) hx hb dX13_unmet_12 (by decide) (fun hc => ?_) (fun hc => ?_)
  · have hf := ift hc hf
    refine lv_iload_n hx hb dX13_unmet_49 rfl (lv_at hl 1 rfl) ?_
    subst hQ
    exact mri hx hb hr hlocks hZ hT hS hW ⟨Option.some.inj hf, rfl⟩ dX13_unmet_50
  · have hf := iff_ hc hf
    refine lv_iload_n hx hb dX13_unmet_15 rfl (lv_at hl 1 rfl) ?_
    refine lv_aload_n hx hb dX13_unmet_16 rfl (lv_at hl 0 rfl) ?_
    refine lv_iload_n hx hb dX13_unmet_17 rfl (lv_at hl 2 rfl) ?_
    refine mcip hf hS (fun r h => va_runV (As := [.int i_2]) (rest := [.int i_1]) ⟨hx, hb, hml, hown, hts⟩ (c_X13_doesHold g l σ i_2 r h) (cl_X13_301 hts ⟨Nat.le_of_ble_eq_true rfl, Nat.le_of_ble_eq_true rfl⟩) (mpV_13 hZ hT hS hW tz_64 _) rfl rfl hl.1 rfl (lv_room (Nat.le_of_ble_eq_true rfl)) dX13_unmet_18 ⟨Nat.zero_le _, Nat.zero_le _⟩) (fun r_4 H locs hf hW hS => ?_)
    refine jn1_W (fun (i_5 : Int32) => ∀ (H : Heap) (locs : List Loc) (ls : Array Slot), Wd g 0 81 σ H → va_S (Ag g 0) s.heap H locs → lv_has ls 3 [(0, .ref (bs g 64)), (2, .int i_2)] → W p l e (kr 6 136) s m (List.toArray [.ref (bs g 64)]) below meth c H locs 0 0 Q (F0 m 41 ls [.int i_5, .int i_1])) hf (fun i_5 hf => ?_) (fun k_6 hk_6 hf => ?_)
    · intro H locs ls hW hS hl
      refine lv_ior hx hb dX13_unmet_41 ?_
      refine mnmi hf (fun (x_7 : Int32) hf => ?_)
      refine lv_istore_n (lv' := [(1, .int x_7), (0, .ref (bs g 64)), (2, .int i_2)]) hx hb dX13_unmet_42 rfl hl (by decide) rfl (fun ls hl => ?_)
      obtain ⟨x_8, e_9, hf⟩ := nm_s hf
      refine lv_iinc (v := x_8) (lv' := [(2, .int x_8), (1, .int x_7), (0, .ref (bs g 64))]) hx hb dX13_unmet_43 hl (k := 2) rfl (by rw [e_9]; rfl) (by decide) rfl (fun ls hl => ?_)
      refine lv_goto (tgt := 4) hx hb dX13_unmet_46 (by decide) ?_
      exact hk_3 x_7 x_8 hf H locs ls hW hS (lv_sub hl [2, 1, 0] rfl)
    · refine lv_if_eq (tgt := 28) hx hb dX13_unmet_21 (by decide) (fun hc => ?_) (fun hc => ?_)
      · have hf := ift hc hf
        refine lv_iconst (v := 1) hx hb dX13_unmet_28 (by decide) ?_
        refine lv_aload_n hx hb dX13_unmet_29 rfl (lv_at hl 0 rfl) ?_
        refine gf_13_15 hx hb htg (htg _ lf_X13_20) hown hZ hW tz_64 dX13_unmet_30 ?_
        refine lv_bipush (v := 90) hx hb dX13_unmet_33 (by decide) ?_
        refine lv_iconst (v := 2) hx hb dX13_unmet_35 (by decide) ?_
        refine lv_iload_n hx hb dX13_unmet_36 rfl (lv_at hl 2 rfl) ?_
        refine lv_imul hx hb dX13_unmet_37 ?_
        refine lv_iadd hx hb dX13_unmet_38 ?_
        refine mld_i hx hb hZ hW tz_67 hf dX13_unmet_39 (fun hf => ?_)
        refine lv_ishl hx hb dX13_unmet_40 ?_
        exact hk_6 (1 <<< ((σ.1 67 (90 + (2 * i_2)).toNatClampNeg) &&& 31)) hf H locs ls hW hS (lv_sub hl [0, 2] rfl)
      · have hf := iff_ hc hf
        refine lv_iconst (v := 0) hx hb dX13_unmet_24 (by decide) ?_
        refine lv_goto (tgt := 41) hx hb dX13_unmet_25 (by decide) ?_
        exact hk_6 0 hf H locs ls hW hS (lv_sub hl [0, 2] rfl)
def f_X13_tryVisits : Nat → Mem → Int32 → Int32 → Int32 → Int32 → Option (Int32 × Mem)
  | 0, _, _, _, _, _ => none
  | d + 1, σ, a1, a2, a3, a4 => bd1 (f_X13_unmet σ) (fun (r_1 : Int32) => jn0 (bd1 (f_X13_ones r_1) (fun (r_3 : Int32) => (if (a2 - a1) < r_3 then some (0, σ) else (if a1 = a2 then some (0, σ) else fx2 FU (fun k_6 (i_4 : Int32) (σ_5 : Mem) => (if 300 ≤ i_4 then some (0, σ_5) else dvd 10 (nm (i_4 / 10) (fun (x_7 : Int32) => dvd 10 (nm (i_4 - i_4 / 10 * 10) (fun (x_8 : Int32) => bd1 (f_X13_hasBit a4 x_8) (fun (r_9 : Int32) => jn1 (fun (σ_10 : Mem) => nm (i_4 + 1) (fun (x_12 : Int32) => k_6 x_12 σ_10)) (fun k_11 => (if r_9 = 0 then k_11 σ_5 else bd1 (f_X13_isOpen σ_5 x_7) (fun (r_14 : Int32) => (if r_14 = 0 then k_11 σ_5 else ixd x_7 (aln 69) (nm (sI σ_5 69 x_7.toNatClampNeg (x_8 + 1)) (fun (σ_15 : Mem) => ixd a1 (aln 74) (nm (sI σ_15 74 a1.toNatClampNeg i_4) (fun (σ_16 : Mem) => bd2 (f_X13_tryVisits d σ_16 (a1 + 1) a2 (10 * (x_7 + 1)) a4) (fun (r_17 : Int32) (σ_18 : Mem) => ixd x_7 (aln 69) (nm (sI σ_18 69 x_7.toNatClampNeg 0) (fun (σ_19 : Mem) => (if r_17 = 0 then k_11 σ_19 else some (1, σ_19)))))))))))))))))))) a3 σ)))) (fun k_2 => (if r_1 = 0 then (if a1 = a2 then some (1, σ) else k_2) else k_2)))
set_option maxHeartbeats 4000000 in
set_option maxRecDepth 100000 in
theorem c_X13_tryVisits (g : XG) (l : Launch) : ∀ (d : Nat), ∀ (σ : Mem) (a1 : Int32) (a2 : Int32) (a3 : Int32) (a4 : Int32) (r : Int32) (τ : Mem) (hf : f_X13_tryVisits d σ a1 a2 a3 a4 = some (r, τ)), Met l yX13_tryVisits (wx (.code yX13_tryVisits cX13_tryVisits 10 (some .boolean))) (kr (7 + d) (158 + 29 * d)) (va_Pc [.ref (bs g 64), .int a1, .int a2, .int a3, .int a4] (WS g 0 81 σ)) (Qi' g 0 81 r τ) 0 0 (Ag g 0) := by
  intro d
  induction d with
  | zero => intro σ a1 a2 a3 a4 r τ hf; cases hf
  | succ d ih =>
    intro σ a1 a2 a3 a4 r τ hf
    refine Met.ofW (cc := cX13_tryVisits) (maxL := 10) (ret := (some .boolean)) (by decide) rfl ?_
    intro p e s m args below meth c s₁ B hml hv
    obtain ⟨rfl, hZ, hT, hW⟩ := hv
    have hx := B.exec
    have hb := B.bytes
    have hr := B.returns
    have hts : ∀ w ∈ wx (.code yX13_tryVisits cX13_tryVisits 10 (some .boolean)), w.before _ s = true := atoms_spec B.pre
    have htg : ∀ w ∈ lwg, w.before _ s = true := fun w h => hts w (List.mem_cons_of_mem _ h)
    have hown : s.vm.findClass RX13 = some m.cls := findClass_of_methodNamed B.named
    have hlocks := B.notSynchronized
    change W p l e (kr (7 + (d + 1)) (158 + 29 * (d + 1))) s m (List.toArray [.ref (bs g 64), .int a1, .int a2, .int a3, .int a4]) below meth c s.heap [] 0 0 (MQ below (Qi' g 0 81 r τ) (List.toArray [.ref (bs g 64), .int a1, .int a2, .int a3, .int a4]) s 0 0 (Ag g 0)) _
    generalize hQ : MQ below (Qi' g 0 81 r τ) (List.toArray [.ref (bs g 64), .int a1, .int a2, .int a3, .int a4]) s 0 0 (Ag g 0) = Q
    have hS : va_S (Ag g 0) s.heap s.heap [] := va_S.rf
    have hl := lv_entry ([.ref (bs g 64), .int a1, .int a2, .int a3, .int a4]) (n := 10) (Nat.le_of_ble_eq_true rfl)
    rw [lg_entry_eq]
    generalize (lg_sl ([.ref (bs g 64), .int a1, .int a2, .int a3, .int a4]) ++ List.replicate (10 - (lg_sl ([.ref (bs g 64), .int a1, .int a2, .int a3, .int a4])).length) Slot.unset).toArray = ls at hl ⊢
    have hl : lv_has ls 10 [(0, .ref (bs g 64)), (1, .int a1), (2, .int a2), (3, .int a3), (4, .int a4)] := hl
    change (bd1 (f_X13_unmet σ) (fun (r_1 : Int32) => jn0 (bd1 (f_X13_ones r_1) (fun (r_3 : Int32) => (if (a2 - a1) < r_3 then some (0, σ) else (if a1 = a2 then some (0, σ) else fx2 FU (fun k_6 (i_4 : Int32) (σ_5 : Mem) => (if 300 ≤ i_4 then some (0, σ_5) else dvd 10 (nm (i_4 / 10) (fun (x_7 : Int32) => dvd 10 (nm (i_4 - i_4 / 10 * 10) (fun (x_8 : Int32) => bd1 (f_X13_hasBit a4 x_8) (fun (r_9 : Int32) => jn1 (fun (σ_10 : Mem) => nm (i_4 + 1) (fun (x_12 : Int32) => k_6 x_12 σ_10)) (fun k_11 => (if r_9 = 0 then k_11 σ_5 else bd1 (f_X13_isOpen σ_5 x_7) (fun (r_14 : Int32) => (if r_14 = 0 then k_11 σ_5 else ixd x_7 (aln 69) (nm (sI σ_5 69 x_7.toNatClampNeg (x_8 + 1)) (fun (σ_15 : Mem) => ixd a1 (aln 74) (nm (sI σ_15 74 a1.toNatClampNeg i_4) (fun (σ_16 : Mem) => bd2 (f_X13_tryVisits d σ_16 (a1 + 1) a2 (10 * (x_7 + 1)) a4) (fun (r_17 : Int32) (σ_18 : Mem) => ixd x_7 (aln 69) (nm (sI σ_18 69 x_7.toNatClampNeg 0) (fun (σ_19 : Mem) => (if r_17 = 0 then k_11 σ_19 else some (1, σ_19)))))))))))))))))))) a3 σ)))) (fun k_2 => (if r_1 = 0 then (if a1 = a2 then some (1, σ) else k_2) else k_2)))) = some (r, τ) at hf
    obtain ⟨H, hH⟩ : ∃ H, H = s.heap := ⟨_, rfl⟩
    obtain ⟨locs, hLc⟩ : ∃ z : List Loc, z = [] := ⟨_, rfl⟩
    have hS : va_S (Ag g 0) s.heap H locs := by rw [hH, hLc]; exact hS
    have hW : Wd g 0 81 σ H := by rw [hH]; exact hW
    suffices hG : W p l e (kr (7 + (d + 1)) (158 + 29 * (d + 1))) s m (List.toArray [.ref (bs g 64), .int a1, .int a2, .int a3, .int a4]) below meth c H locs 0 0 Q (F0 m 0 ls []) by rw [hH, hLc] at hG; exact hG
    clear hH hLc
    refine lv_aload_n hx hb dX13_tryVisits_0 rfl (lv_at hl 0 rfl) ?_
    refine mcip hf hS (fun r h => va_runV (As := []) (rest := []) ⟨hx, hb, hml, hown, hts⟩ (c_X13_unmet g l σ r h) (cl_X13_319 hts ⟨by dsimp only; omega, by dsimp only; omega⟩) (mpV_13 hZ hT hS hW tz_64 _) rfl rfl hl.1 rfl (lv_room (Nat.le_of_ble_eq_true rfl)) dX13_tryVisits_1 ⟨Nat.zero_le _, Nat.zero_le _⟩) (fun r_1 H locs hf hW hS => ?_)
    refine lv_istore (lv' := [(5, .int r_1), (0, .ref (bs g 64)), (1, .int a1), (2, .int a2), (3, .int a3), (4, .int a4)]) hx hb dX13_tryVisits_4 hl (by decide) rfl (fun ls hl => ?_)
    refine lv_iload hx hb dX13_tryVisits_6 (lv_at hl 0 rfl) ?_
    refine jn0_W (∀ (H : Heap) (locs : List Loc) (ls : Array Slot), Wd g 0 81 σ H → va_S (Ag g 0) s.heap H locs → lv_has ls 10 [(0, .ref (bs g 64)), (1, .int a1), (2, .int a2), (3, .int a3), (4, .int a4), (5, .int r_1)] → W p l e (kr (7 + (d + 1)) (158 + 29 * (d + 1))) s m (List.toArray [.ref (bs g 64), .int a1, .int a2, .int a3, .int a4]) below meth c H locs 0 0 Q (F0 m 18 ls [])) hf (fun  hf => ?_) (fun k_2 hk_2 hf => ?_)
    · intro H locs ls hW hS hl
      refine lv_iload_n hx hb dX13_tryVisits_18 rfl (lv_at hl 2 rfl) ?_
      refine lv_iload_n hx hb dX13_tryVisits_19 rfl (lv_at hl 1 rfl) ?_
      refine lv_isub hx hb dX13_tryVisits_20 ?_
      refine lv_iload hx hb dX13_tryVisits_21 (lv_at hl 5 rfl) ?_
      refine mcip hf hS (fun r h => va_runS (As := [.int r_1]) (rest := [.int (a2 - a1)]) ⟨hx, hb, hml, hown, hts⟩ (c_X13_ones g l 0 81 σ r_1 r h) (cl_X13_298 hts ⟨by dsimp only; omega, by dsimp only; omega⟩) (mpS hZ hT hS hW _) rfl rfl hl.1 rfl (lv_room (Nat.le_of_ble_eq_true rfl)) dX13_tryVisits_23 ⟨Nat.zero_le _, Nat.zero_le _⟩) (fun r_3 H locs hf hW hS => ?_)
      refine lv_icmp_lt (tgt := 34) hx hb dX13_tryVisits_26 (by decide) (fun hc => ?_) (fun hc => ?_)
      · have hf := ift hc hf
        refine lv_iconst (v := 0) hx hb dX13_tryVisits_34 (by decide) ?_
        subst hQ
        exact mrz hx hb hr hlocks hZ hT hS hW (by decide) (pr1 hf) dX13_tryVisits_35
      · have hf := iff_ hc hf
        refine lv_iload_n hx hb dX13_tryVisits_29 rfl (lv_at hl 1 rfl) ?_
        refine lv_iload_n hx hb dX13_tryVisits_30 rfl (lv_at hl 2 rfl) ?_
        refine lv_icmp_ne (tgt := 36) hx hb dX13_tryVisits_31 (by decide) (fun hc => ?_) (fun hc => ?_)
        · have hf := iff_ hc hf
          refine lv_iload_n hx hb dX13_tryVisits_36 rfl (lv_at hl 3 rfl) ?_
          refine lv_istore (lv' := [(6, .int a3), (0, .ref (bs g 64)), (1, .int a1), (2, .int a2), (3, .int a3), (4, .int a4), (5, .int r_1)]) hx hb dX13_tryVisits_37 hl (by decide) rfl (fun ls hl => ?_)
          refine fx2_W (fun (i_4 : Int32) (σ_5 : Mem) => ∀ (H : Heap) (locs : List Loc) (ls : Array Slot), Wd g 0 81 σ_5 H → va_S (Ag g 0) s.heap H locs → lv_has ls 10 [(0, .ref (bs g 64)), (1, .int a1), (2, .int a2), (4, .int a4), (6, .int i_4)] → W p l e (kr (7 + (d + 1)) (158 + 29 * (d + 1))) s m (List.toArray [.ref (bs g 64), .int a1, .int a2, .int a3, .int a4]) below meth c H locs 0 0 Q (F0 m 39 ls [])) (fun k_6 hk_6 i_4 σ_5 hf => ?_) FU a3 σ hf H locs ls hW hS (lv_sub hl [1, 2, 3, 5, 0] rfl)
          intro H locs ls hW hS hl
          refine lv_iload hx hb dX13_tryVisits_39 (lv_at hl 4 rfl) ?_
          refine lv_sipush (v := 300) hx hb dX13_tryVisits_41 (by decide) ?_
          refine lv_icmp_ge (tgt := 142) hx hb dX13_tryVisits_44 (by decide) (fun hc => ?_) (fun hc => ?_)
          · have hf := ift hc hf
            refine lv_iconst (v := 0) hx hb dX13_tryVisits_142 (by decide) ?_
            subst hQ
            exact mrz hx hb hr hlocks hZ hT hS hW (by decide) (pr1 hf) dX13_tryVisits_143
          · have hf := iff_ hc hf
            refine lv_iload hx hb dX13_tryVisits_47 (lv_at hl 4 rfl) ?_
            refine lv_bipush (v := 10) hx hb dX13_tryVisits_49 (by decide) ?_
            obtain ⟨hd, hf⟩ := dvd_s hf
            refine lv_idiv hx hb dX13_tryVisits_51 hd ?_
            refine mnmi hf (fun (x_7 : Int32) hf => ?_)
            refine lv_istore (lv' := [(7, .int x_7), (0, .ref (bs g 64)), (1, .int a1), (2, .int a2), (4, .int a4), (6, .int i_4)]) hx hb dX13_tryVisits_52 hl (by decide) rfl (fun ls hl => ?_)
            refine lv_iload hx hb dX13_tryVisits_54 (lv_at hl 5 rfl) ?_
            refine lv_bipush (v := 10) hx hb dX13_tryVisits_56 (by decide) ?_
            obtain ⟨hd, hf⟩ := dvd_s hf
            refine lv_irem hx hb dX13_tryVisits_58 hd ?_
            refine mnmi hf (fun (x_8 : Int32) hf => ?_)
            refine lv_istore (lv' := [(8, .int x_8), (7, .int x_7), (0, .ref (bs g 64)), (1, .int a1), (2, .int a2), (4, .int a4), (6, .int i_4)]) hx hb dX13_tryVisits_59 hl (by decide) rfl (fun ls hl => ?_)
            refine lv_iload hx hb dX13_tryVisits_61 (lv_at hl 5 rfl) ?_
            refine lv_iload hx hb dX13_tryVisits_63 (lv_at hl 0 rfl) ?_
            refine mcip hf hS (fun r h => va_runS (As := [.int a4, .int x_8]) (rest := []) ⟨hx, hb, hml, hown, hts⟩ (c_X13_hasBit g l 0 81 σ_5 a4 x_8 r h) (cl_X13_307 hts ⟨by dsimp only; omega, by dsimp only; omega⟩) (mpS hZ hT hS hW _) rfl rfl hl.1 rfl (lv_room (Nat.le_of_ble_eq_true rfl)) dX13_tryVisits_65 ⟨Nat.zero_le _, Nat.zero_le _⟩) (fun r_9 H locs hf hW hS => ?_)
            refine jn1_W (fun (σ_10 : Mem) => ∀ (H : Heap) (locs : List Loc) (ls : Array Slot), Wd g 0 81 σ_10 H → va_S (Ag g 0) s.heap H locs → lv_has ls 10 [(0, .ref (bs g 64)), (1, .int a1), (2, .int a2), (4, .int a4), (6, .int i_4)] → W p l e (kr (7 + (d + 1)) (158 + 29 * (d + 1))) s m (List.toArray [.ref (bs g 64), .int a1, .int a2, .int a3, .int a4]) below meth c H locs 0 0 Q (F0 m 136 ls [])) hf (fun σ_10 hf => ?_) (fun k_11 hk_11 hf => ?_)
            · intro H locs ls hW hS hl
              obtain ⟨x_12, e_13, hf⟩ := nm_s hf
              refine lv_iinc (v := x_12) (lv' := [(6, .int x_12), (0, .ref (bs g 64)), (1, .int a1), (2, .int a2), (4, .int a4)]) hx hb dX13_tryVisits_136 hl (k := 4) rfl (by rw [e_13]; rfl) (by decide) rfl (fun ls hl => ?_)
              refine lv_goto (tgt := 39) hx hb dX13_tryVisits_139 (by decide) ?_
              exact hk_6 x_12 σ_10 hf H locs ls hW hS (lv_sub hl [1, 2, 3, 4, 0] rfl)
            · refine lv_if_eq (tgt := 136) hx hb dX13_tryVisits_68 (by decide) (fun hc => ?_) (fun hc => ?_)
              · have hf := ift hc hf
                exact hk_11 σ_5 hf H locs ls hW hS (lv_sub hl [2, 3, 4, 5, 6] rfl)
              · have hf := iff_ hc hf
                refine lv_aload_n hx hb dX13_tryVisits_71 rfl (lv_at hl 2 rfl) ?_
                refine lv_iload hx hb dX13_tryVisits_72 (lv_at hl 1 rfl) ?_
                refine mcip hf hS (fun r h => va_runV (As := [.int x_7]) (rest := []) ⟨hx, hb, hml, hown, hts⟩ (c_X13_isOpen g l σ_5 x_7 r h) (cl_X13_316 hts ⟨by dsimp only; omega, by dsimp only; omega⟩) (mpV_13 hZ hT hS hW tz_64 _) rfl rfl hl.1 rfl (lv_room (Nat.le_of_ble_eq_true rfl)) dX13_tryVisits_74 ⟨Nat.zero_le _, Nat.zero_le _⟩) (fun r_14 H locs hf hW hS => ?_)
                refine lv_if_ne (tgt := 83) hx hb dX13_tryVisits_77 (by decide) (fun hc => ?_) (fun hc => ?_)
                · have hf := iff_ hc hf
                  refine lv_aload_n hx hb dX13_tryVisits_83 rfl (lv_at hl 2 rfl) ?_
                  refine gf_13_17 hx hb htg (htg _ lf_X13_26) hown hZ hW tz_64 dX13_tryVisits_84 ?_
                  refine lv_iload hx hb dX13_tryVisits_87 (lv_at hl 1 rfl) ?_
                  refine lv_iload hx hb dX13_tryVisits_89 (lv_at hl 0 rfl) ?_
                  refine lv_iconst (v := 1) hx hb dX13_tryVisits_91 (by decide) ?_
                  refine lv_iadd hx hb dX13_tryVisits_92 ?_
                  refine mst_i hx hb hZ hW hS tz_69 hf dX13_tryVisits_93 (fun σ_15 H locs hf hW hS => ?_)
                  refine lv_aload_n hx hb dX13_tryVisits_94 rfl (lv_at hl 2 rfl) ?_
                  refine gf_13_25 hx hb htg (htg _ lf_X13_41) hown hZ hW tz_64 dX13_tryVisits_95 ?_
                  refine lv_iload_n hx hb dX13_tryVisits_98 rfl (lv_at hl 3 rfl) ?_
                  refine lv_iload hx hb dX13_tryVisits_99 (lv_at hl 6 rfl) ?_
                  refine mst_i hx hb hZ hW hS tz_74 hf dX13_tryVisits_101 (fun σ_16 H locs hf hW hS => ?_)
                  refine lv_aload_n hx hb dX13_tryVisits_102 rfl (lv_at hl 2 rfl) ?_
                  refine lv_iload_n hx hb dX13_tryVisits_103 rfl (lv_at hl 3 rfl) ?_
                  refine lv_iconst (v := 1) hx hb dX13_tryVisits_104 (by decide) ?_
                  refine lv_iadd hx hb dX13_tryVisits_105 ?_
                  refine lv_iload_n hx hb dX13_tryVisits_106 rfl (lv_at hl 4 rfl) ?_
                  refine lv_bipush (v := 10) hx hb dX13_tryVisits_107 (by decide) ?_
                  refine lv_iload hx hb dX13_tryVisits_109 (lv_at hl 1 rfl) ?_
                  refine lv_iconst (v := 1) hx hb dX13_tryVisits_111 (by decide) ?_
                  refine lv_iadd hx hb dX13_tryVisits_112 ?_
                  refine lv_imul hx hb dX13_tryVisits_113 ?_
                  refine lv_iload hx hb dX13_tryVisits_114 (lv_at hl 5 rfl) ?_
                  refine mci hf hS (fun r τ h => va_runV (As := [.int (a1 + 1), .int a2, .int (10 * (x_7 + 1)), .int a4]) (rest := []) ⟨hx, hb, hml, hown, hts⟩ (ih σ_16 (a1 + 1) a2 (10 * (x_7 + 1)) a4 r τ h) (cl_X13_322 hts ⟨by dsimp only; omega, by dsimp only; omega⟩) (mpV_13 hZ hT hS hW tz_64 _) rfl rfl hl.1 rfl (lv_room (Nat.le_of_ble_eq_true rfl)) dX13_tryVisits_116 ⟨Nat.zero_le _, Nat.zero_le _⟩) (fun r_17 σ_18 H locs hf hW hS => ?_)
                  refine lv_istore (lv' := [(9, .int r_17), (8, .int x_8), (7, .int x_7), (0, .ref (bs g 64)), (1, .int a1), (2, .int a2), (4, .int a4), (6, .int i_4)]) hx hb dX13_tryVisits_119 hl (by decide) rfl (fun ls hl => ?_)
                  refine lv_aload_n hx hb dX13_tryVisits_121 rfl (lv_at hl 3 rfl) ?_
                  refine gf_13_17 hx hb htg (htg _ lf_X13_26) hown hZ hW tz_64 dX13_tryVisits_122 ?_
                  refine lv_iload hx hb dX13_tryVisits_125 (lv_at hl 2 rfl) ?_
                  refine lv_iconst (v := 0) hx hb dX13_tryVisits_127 (by decide) ?_
                  refine mst_i hx hb hZ hW hS tz_69 hf dX13_tryVisits_128 (fun σ_19 H locs hf hW hS => ?_)
                  refine lv_iload hx hb dX13_tryVisits_129 (lv_at hl 0 rfl) ?_
                  refine lv_if_eq (tgt := 136) hx hb dX13_tryVisits_131 (by decide) (fun hc => ?_) (fun hc => ?_)
                  · have hf := ift hc hf
                    exact hk_11 σ_19 hf H locs ls hW hS (lv_sub hl [3, 4, 5, 6, 7] rfl)
                  · have hf := iff_ hc hf
                    refine lv_iconst (v := 1) hx hb dX13_tryVisits_134 (by decide) ?_
                    subst hQ
                    exact mrz hx hb hr hlocks hZ hT hS hW (by decide) (pr1 hf) dX13_tryVisits_135
                · have hf := ift hc hf
                  refine lv_goto (tgt := 136) hx hb dX13_tryVisits_80 (by decide) ?_
                  exact hk_11 σ_5 hf H locs ls hW hS (lv_sub hl [2, 3, 4, 5, 6] rfl)
        · have hf := ift hc hf
          refine lv_iconst (v := 0) hx hb dX13_tryVisits_34 (by decide) ?_
          subst hQ
          exact mrz hx hb hr hlocks hZ hT hS hW (by decide) (pr1 hf) dX13_tryVisits_35
    · refine lv_if_ne (tgt := 18) hx hb dX13_tryVisits_8 (by decide) (fun hc => ?_) (fun hc => ?_)
      · have hf := iff_ hc hf
        exact hk_2  hf H locs ls hW hS (lv_sub hl [1, 2, 3, 4, 5, 0] rfl)
      · have hf := ift hc hf
        refine lv_iload_n hx hb dX13_tryVisits_11 rfl (lv_at hl 2 rfl) ?_
        refine lv_iload_n hx hb dX13_tryVisits_12 rfl (lv_at hl 3 rfl) ?_
        refine lv_icmp_ne (tgt := 18) hx hb dX13_tryVisits_13 (by decide) (fun hc => ?_) (fun hc => ?_)
        · have hf := iff_ hc hf
          exact hk_2  hf H locs ls hW hS (lv_sub hl [1, 2, 3, 4, 5, 0] rfl)
        · have hf := ift hc hf
          refine lv_iconst (v := 1) hx hb dX13_tryVisits_16 (by decide) ?_
          subst hQ
          exact mrz hx hb hr hlocks hZ hT hS hW (by decide) (pr1 hf) dX13_tryVisits_17
def f_X13_seekVisits (σ : Mem)  : Option (Int32 × Mem) :=
  bd1 (f_X13_unmet σ) (fun (r_1 : Int32) => fx2 FU (fun k_4 (i_2 : Int32) (σ_3 : Mem) => (if 3 < i_2 then some ((-2), σ_3) else bd2 (f_X13_tryVisits 10 σ_3 0 i_2 0 r_1) (fun (r_5 : Int32) (σ_6 : Mem) => (if r_5 = 0 then nm (i_2 + 1) (fun (x_8 : Int32) => k_4 x_8 σ_6) else bd1 (f_X13_copy σ_6 74 0 75 0 i_2) (fun (σ_7 : Mem) => some (i_2, σ_7)))))) 0 σ)
set_option maxHeartbeats 4000000 in
set_option maxRecDepth 100000 in
theorem c_X13_seekVisits (g : XG) (l : Launch) (σ : Mem) (r : Int32) (τ : Mem) (hf : f_X13_seekVisits σ = some (r, τ)) : Met l yX13_seekVisits (wx (.code yX13_seekVisits cX13_seekVisits 3 (some .int))) (kr 18 477) (va_Pc [.ref (bs g 64)] (WS g 0 81 σ)) (Qi' g 0 81 r τ) 0 0 (Ag g 0) := by
  refine Met.ofW (cc := cX13_seekVisits) (maxL := 3) (ret := (some .int)) (by decide) rfl ?_
  intro p e s m args below meth c s₁ B hml hv
  obtain ⟨rfl, hZ, hT, hW⟩ := hv
  have hx := B.exec
  have hb := B.bytes
  have hr := B.returns
  have hts : ∀ w ∈ wx (.code yX13_seekVisits cX13_seekVisits 3 (some .int)), w.before _ s = true := atoms_spec B.pre
  have htg : ∀ w ∈ lwg, w.before _ s = true := fun w h => hts w (List.mem_cons_of_mem _ h)
  have hown : s.vm.findClass RX13 = some m.cls := findClass_of_methodNamed B.named
  have hlocks := B.notSynchronized
  change W p l e (kr 18 477) s m (List.toArray [.ref (bs g 64)]) below meth c s.heap [] 0 0 (MQ below (Qi' g 0 81 r τ) (List.toArray [.ref (bs g 64)]) s 0 0 (Ag g 0)) _
  generalize hQ : MQ below (Qi' g 0 81 r τ) (List.toArray [.ref (bs g 64)]) s 0 0 (Ag g 0) = Q
  have hS : va_S (Ag g 0) s.heap s.heap [] := va_S.rf
  have hl := lv_entry ([.ref (bs g 64)]) (n := 3) (Nat.le_of_ble_eq_true rfl)
  rw [lg_entry_eq]
  generalize (lg_sl ([.ref (bs g 64)]) ++ List.replicate (3 - (lg_sl ([.ref (bs g 64)])).length) Slot.unset).toArray = ls at hl ⊢
  have hl : lv_has ls 3 [(0, .ref (bs g 64))] := hl
  delta f_X13_seekVisits at hf
  obtain ⟨H, hH⟩ : ∃ H, H = s.heap := ⟨_, rfl⟩
  obtain ⟨locs, hLc⟩ : ∃ z : List Loc, z = [] := ⟨_, rfl⟩
  have hS : va_S (Ag g 0) s.heap H locs := by rw [hH, hLc]; exact hS
  have hW : Wd g 0 81 σ H := by rw [hH]; exact hW
  suffices hG : W p l e (kr 18 477) s m (List.toArray [.ref (bs g 64)]) below meth c H locs 0 0 Q (F0 m 0 ls []) by rw [hH, hLc] at hG; exact hG
  clear hH hLc
  refine lv_aload_n hx hb dX13_seekVisits_0 rfl (lv_at hl 0 rfl) ?_
  refine mcip hf hS (fun r h => va_runV (As := []) (rest := []) ⟨hx, hb, hml, hown, hts⟩ (c_X13_unmet g l σ r h) (cl_X13_319 hts ⟨Nat.le_of_ble_eq_true rfl, Nat.le_of_ble_eq_true rfl⟩) (mpV_13 hZ hT hS hW tz_64 _) rfl rfl hl.1 rfl (lv_room (Nat.le_of_ble_eq_true rfl)) dX13_seekVisits_1 ⟨Nat.zero_le _, Nat.zero_le _⟩) (fun r_1 H locs hf hW hS => ?_)
  refine lv_istore_n (lv' := [(1, .int r_1), (0, .ref (bs g 64))]) hx hb dX13_seekVisits_4 rfl hl (by decide) rfl (fun ls hl => ?_)
  refine lv_iconst (v := 0) hx hb dX13_seekVisits_5 (by decide) ?_
  refine lv_istore_n (lv' := [(2, .int 0), (1, .int r_1), (0, .ref (bs g 64))]) hx hb dX13_seekVisits_6 rfl hl (by decide) rfl (fun ls hl => ?_)
  refine fx2_W (fun (i_2 : Int32) (σ_3 : Mem) => ∀ (H : Heap) (locs : List Loc) (ls : Array Slot), Wd g 0 81 σ_3 H → va_S (Ag g 0) s.heap H locs → lv_has ls 3 [(0, .ref (bs g 64)), (1, .int r_1), (2, .int i_2)] → W p l e (kr 18 477) s m (List.toArray [.ref (bs g 64)]) below meth c H locs 0 0 Q (F0 m 7 ls [])) (fun k_4 hk_4 i_2 σ_3 hf => ?_) FU 0 σ hf H locs ls hW hS (lv_sub hl [2, 1, 0] rfl)
  intro H locs ls hW hS hl
  refine lv_iload_n hx hb dX13_seekVisits_7 rfl (lv_at hl 2 rfl) ?_
  refine lv_iconst (v := 3) hx hb dX13_seekVisits_8 (by decide) ?_
  refine lv_icmp_gt (tgt := 48) hx hb dX13_seekVisits_9 (by decide) (fun hc => ?_) (fun hc => ?_)
  · have hf := ift hc hf
    refine lv_bipush (v := (-2)) hx hb dX13_seekVisits_48 (by decide) ?_
    subst hQ
    exact mri hx hb hr hlocks hZ hT hS hW (pr1 hf) dX13_seekVisits_50
  · have hf := iff_ hc hf
    refine lv_aload_n hx hb dX13_seekVisits_12 rfl (lv_at hl 0 rfl) ?_
    refine lv_iconst (v := 0) hx hb dX13_seekVisits_13 (by decide) ?_
    refine lv_iload_n hx hb dX13_seekVisits_14 rfl (lv_at hl 2 rfl) ?_
    refine lv_iconst (v := 0) hx hb dX13_seekVisits_15 (by decide) ?_
    refine lv_iload_n hx hb dX13_seekVisits_16 rfl (lv_at hl 1 rfl) ?_
    refine mci hf hS (fun r τ h => va_runV (As := [.int 0, .int i_2, .int 0, .int r_1]) (rest := []) ⟨hx, hb, hml, hown, hts⟩ (c_X13_tryVisits g l 10 σ_3 0 i_2 0 r_1 r τ h) (cl_X13_322 hts ⟨Nat.le_of_ble_eq_true rfl, Nat.le_of_ble_eq_true rfl⟩) (mpV_13 hZ hT hS hW tz_64 _) rfl rfl hl.1 rfl (lv_room (Nat.le_of_ble_eq_true rfl)) dX13_seekVisits_17 ⟨Nat.zero_le _, Nat.zero_le _⟩) (fun r_5 σ_6 H locs hf hW hS => ?_)
    refine lv_if_ne (tgt := 26) hx hb dX13_seekVisits_20 (by decide) (fun hc => ?_) (fun hc => ?_)
    · have hf := iff_ hc hf
      refine lv_aload_n hx hb dX13_seekVisits_26 rfl (lv_at hl 0 rfl) ?_
      refine gf_13_25 hx hb htg (htg _ lf_X13_41) hown hZ hW tz_64 dX13_seekVisits_27 ?_
      refine lv_iconst (v := 0) hx hb dX13_seekVisits_30 (by decide) ?_
      refine lv_aload_n hx hb dX13_seekVisits_31 rfl (lv_at hl 0 rfl) ?_
      refine gf_13_26 hx hb htg (htg _ lf_X13_44) hown hZ hW tz_64 dX13_seekVisits_32 ?_
      refine lv_iconst (v := 0) hx hb dX13_seekVisits_35 (by decide) ?_
      refine lv_iload_n hx hb dX13_seekVisits_36 rfl (lv_at hl 2 rfl) ?_
      refine mcv hf hS (fun τ h => va_runS (As := [.ref (bs g 74), .int 0, .ref (bs g 75), .int 0, .int i_2]) (rest := []) ⟨hx, hb, hml, hown, hts⟩ (c_X13_copy g l 0 81 σ_6 74 0 75 0 i_2 tz_74 tz_75 τ h) (cl_X13_175 hts ⟨Nat.le_of_ble_eq_true rfl, Nat.le_of_ble_eq_true rfl⟩) (mpS hZ hT hS hW _) rfl rfl hl.1 rfl (lv_room (Nat.le_of_ble_eq_true rfl)) dX13_seekVisits_37 ⟨Nat.zero_le _, Nat.zero_le _⟩) (fun σ_7 H locs hf hW hS => ?_)
      refine lv_iload_n hx hb dX13_seekVisits_40 rfl (lv_at hl 2 rfl) ?_
      subst hQ
      exact mri hx hb hr hlocks hZ hT hS hW (pr1 hf) dX13_seekVisits_41
    · have hf := ift hc hf
      refine lv_goto (tgt := 42) hx hb dX13_seekVisits_23 (by decide) ?_
      obtain ⟨x_8, e_9, hf⟩ := nm_s hf
      refine lv_iinc (v := x_8) (lv' := [(2, .int x_8), (0, .ref (bs g 64)), (1, .int r_1)]) hx hb dX13_seekVisits_42 hl (k := 2) rfl (by rw [e_9]; rfl) (by decide) rfl (fun ls hl => ?_)
      refine lv_goto (tgt := 7) hx hb dX13_seekVisits_45 (by decide) ?_
      exact hk_4 x_8 σ_6 hf H locs ls hW hS (lv_sub hl [1, 2, 0] rfl)
def f_X13_fewest (σ : Mem)  : Option (Int32 × Mem) :=
  bd1 (f_X13_good σ) (fun (σ_1 : Mem) => (if (σ_1.1 64 14) = 0 then bd2 (f_X13_no σ_1 1) (fun (r_2 : Int32) (σ_3 : Mem) => some (r_2, σ_3)) else bd2 (f_X13_seekVisits σ_1) (fun (r_4 : Int32) (σ_5 : Mem) => some (r_4, σ_5))))
set_option maxHeartbeats 4000000 in
set_option maxRecDepth 100000 in
theorem c_X13_fewest (g : XG) (l : Launch) (σ : Mem) (r : Int32) (τ : Mem) (hf : f_X13_fewest σ = some (r, τ)) : Met l yX13_fewest (wx (.code yX13_fewest cX13_fewest 1 (some .int))) (kr 19 499) (va_Pc [.ref (bs g 64)] (WS g 0 81 σ)) (Qi' g 0 81 r τ) 0 0 (Ag g 0) := by
  refine Met.ofW (cc := cX13_fewest) (maxL := 1) (ret := (some .int)) (by decide) rfl ?_
  intro p e s m args below meth c s₁ B hml hv
  obtain ⟨rfl, hZ, hT, hW⟩ := hv
  have hx := B.exec
  have hb := B.bytes
  have hr := B.returns
  have hts : ∀ w ∈ wx (.code yX13_fewest cX13_fewest 1 (some .int)), w.before _ s = true := atoms_spec B.pre
  have htg : ∀ w ∈ lwg, w.before _ s = true := fun w h => hts w (List.mem_cons_of_mem _ h)
  have hown : s.vm.findClass RX13 = some m.cls := findClass_of_methodNamed B.named
  have hlocks := B.notSynchronized
  change W p l e (kr 19 499) s m (List.toArray [.ref (bs g 64)]) below meth c s.heap [] 0 0 (MQ below (Qi' g 0 81 r τ) (List.toArray [.ref (bs g 64)]) s 0 0 (Ag g 0)) _
  generalize hQ : MQ below (Qi' g 0 81 r τ) (List.toArray [.ref (bs g 64)]) s 0 0 (Ag g 0) = Q
  have hS : va_S (Ag g 0) s.heap s.heap [] := va_S.rf
  have hl := lv_entry ([.ref (bs g 64)]) (n := 1) (Nat.le_of_ble_eq_true rfl)
  rw [lg_entry_eq]
  generalize (lg_sl ([.ref (bs g 64)]) ++ List.replicate (1 - (lg_sl ([.ref (bs g 64)])).length) Slot.unset).toArray = ls at hl ⊢
  have hl : lv_has ls 1 [(0, .ref (bs g 64))] := hl
  delta f_X13_fewest at hf
  obtain ⟨H, hH⟩ : ∃ H, H = s.heap := ⟨_, rfl⟩
  obtain ⟨locs, hLc⟩ : ∃ z : List Loc, z = [] := ⟨_, rfl⟩
  have hS : va_S (Ag g 0) s.heap H locs := by rw [hH, hLc]; exact hS
  have hW : Wd g 0 81 σ H := by rw [hH]; exact hW
  suffices hG : W p l e (kr 19 499) s m (List.toArray [.ref (bs g 64)]) below meth c H locs 0 0 Q (F0 m 0 ls []) by rw [hH, hLc] at hG; exact hG
  clear hH hLc
  refine lv_aload_n hx hb dX13_fewest_0 rfl (lv_at hl 0 rfl) ?_
  refine mcv hf hS (fun τ h => va_runV (As := []) (rest := []) ⟨hx, hb, hml, hown, hts⟩ (c_X13_good g l σ τ h) (cl_X13_166 hts ⟨Nat.le_of_ble_eq_true rfl, Nat.le_of_ble_eq_true rfl⟩) (mpV_13 hZ hT hS hW tz_64 _) rfl rfl hl.1 rfl (lv_room (Nat.le_of_ble_eq_true rfl)) dX13_fewest_1 ⟨Nat.zero_le _, Nat.zero_le _⟩) (fun σ_1 H locs hf hW hS => ?_)
  refine lv_aload_n hx hb dX13_fewest_4 rfl (lv_at hl 0 rfl) ?_
  refine gf_13_14 hx hb htg (htg _ lf_X13_179) hown hZ hW tz_64 dX13_fewest_5 ?_
  refine lv_if_eq (tgt := 18) hx hb dX13_fewest_8 (by decide) (fun hc => ?_) (fun hc => ?_)
  · have hf := ift hc hf
    refine lv_aload_n hx hb dX13_fewest_18 rfl (lv_at hl 0 rfl) ?_
    refine lv_iconst (v := 1) hx hb dX13_fewest_19 (by decide) ?_
    refine mci hf hS (fun r τ h => va_runV (As := [.int 1]) (rest := []) ⟨hx, hb, hml, hown, hts⟩ (c_X13_no g l σ_1 1 r τ h) (cl_X13_169 hts ⟨Nat.le_of_ble_eq_true rfl, Nat.le_of_ble_eq_true rfl⟩) (mpV_13 hZ hT hS hW tz_64 _) rfl rfl hl.1 rfl (lv_room (Nat.le_of_ble_eq_true rfl)) dX13_fewest_20 ⟨Nat.zero_le _, Nat.zero_le _⟩) (fun r_2 σ_3 H locs hf hW hS => ?_)
    subst hQ
    exact mri hx hb hr hlocks hZ hT hS hW (pr1 hf) dX13_fewest_23
  · have hf := iff_ hc hf
    refine lv_aload_n hx hb dX13_fewest_11 rfl (lv_at hl 0 rfl) ?_
    refine mci hf hS (fun r τ h => va_runV (As := []) (rest := []) ⟨hx, hb, hml, hown, hts⟩ (c_X13_seekVisits g l σ_1 r τ h) (cl_X13_326 hts ⟨Nat.le_of_ble_eq_true rfl, Nat.le_of_ble_eq_true rfl⟩) (mpV_13 hZ hT hS hW tz_64 _) rfl rfl hl.1 rfl (lv_room (Nat.le_of_ble_eq_true rfl)) dX13_fewest_12 ⟨Nat.zero_le _, Nat.zero_le _⟩) (fun r_4 σ_5 H locs hf hW hS => ?_)
    refine lv_goto (tgt := 23) hx hb dX13_fewest_15 (by decide) ?_
    subst hQ
    exact mri hx hb hr hlocks hZ hT hS hW (pr1 hf) dX13_fewest_23
def f_X13_fewestAt (σ : Mem) (a1 : Int32) : Option (Int32 × Mem) :=
  bd1 (f_X13_good σ) (fun (σ_1 : Mem) => (if (σ_1.1 64 14) = 0 then bd2 (f_X13_no σ_1 1) (fun (r_9 : Int32) (σ_10 : Mem) => some (r_9, σ_10)) else bd2 (f_X13_seekVisits σ_1) (fun (r_2 : Int32) (σ_3 : Mem) => (if 0 ≤ r_2 then bd1 (f_X13_in a1 0 (r_2 - 1)) (fun (r_4 : Int32) => (if r_4 = 0 then bd2 (f_X13_no σ_3 1) (fun (r_5 : Int32) (σ_6 : Mem) => some (r_5, σ_6)) else ixd a1 (aln 75) (some (σ_3.1 75 a1.toNatClampNeg, σ_3)))) else bd2 (f_X13_no σ_3 6) (fun (r_7 : Int32) (σ_8 : Mem) => some (r_7, σ_8))))))
set_option maxHeartbeats 4000000 in
set_option maxRecDepth 100000 in
theorem c_X13_fewestAt (g : XG) (l : Launch) (σ : Mem) (a1 : Int32) (r : Int32) (τ : Mem) (hf : f_X13_fewestAt σ a1 = some (r, τ)) : Met l yX13_fewestAt (wx (.code yX13_fewestAt cX13_fewestAt 3 (some .int))) (kr 19 499) (va_Pc [.ref (bs g 64), .int a1] (WS g 0 81 σ)) (Qi' g 0 81 r τ) 0 0 (Ag g 0) := by
  refine Met.ofW (cc := cX13_fewestAt) (maxL := 3) (ret := (some .int)) (by decide) rfl ?_
  intro p e s m args below meth c s₁ B hml hv
  obtain ⟨rfl, hZ, hT, hW⟩ := hv
  have hx := B.exec
  have hb := B.bytes
  have hr := B.returns
  have hts : ∀ w ∈ wx (.code yX13_fewestAt cX13_fewestAt 3 (some .int)), w.before _ s = true := atoms_spec B.pre
  have htg : ∀ w ∈ lwg, w.before _ s = true := fun w h => hts w (List.mem_cons_of_mem _ h)
  have hown : s.vm.findClass RX13 = some m.cls := findClass_of_methodNamed B.named
  have hlocks := B.notSynchronized
  change W p l e (kr 19 499) s m (List.toArray [.ref (bs g 64), .int a1]) below meth c s.heap [] 0 0 (MQ below (Qi' g 0 81 r τ) (List.toArray [.ref (bs g 64), .int a1]) s 0 0 (Ag g 0)) _
  generalize hQ : MQ below (Qi' g 0 81 r τ) (List.toArray [.ref (bs g 64), .int a1]) s 0 0 (Ag g 0) = Q
  have hS : va_S (Ag g 0) s.heap s.heap [] := va_S.rf
  have hl := lv_entry ([.ref (bs g 64), .int a1]) (n := 3) (Nat.le_of_ble_eq_true rfl)
  rw [lg_entry_eq]
  generalize (lg_sl ([.ref (bs g 64), .int a1]) ++ List.replicate (3 - (lg_sl ([.ref (bs g 64), .int a1])).length) Slot.unset).toArray = ls at hl ⊢
  have hl : lv_has ls 3 [(0, .ref (bs g 64)), (1, .int a1)] := hl
  delta f_X13_fewestAt at hf
  obtain ⟨H, hH⟩ : ∃ H, H = s.heap := ⟨_, rfl⟩
  obtain ⟨locs, hLc⟩ : ∃ z : List Loc, z = [] := ⟨_, rfl⟩
  have hS : va_S (Ag g 0) s.heap H locs := by rw [hH, hLc]; exact hS
  have hW : Wd g 0 81 σ H := by rw [hH]; exact hW
  suffices hG : W p l e (kr 19 499) s m (List.toArray [.ref (bs g 64), .int a1]) below meth c H locs 0 0 Q (F0 m 0 ls []) by rw [hH, hLc] at hG; exact hG
  clear hH hLc
  refine lv_aload_n hx hb dX13_fewestAt_0 rfl (lv_at hl 0 rfl) ?_
  refine mcv hf hS (fun τ h => va_runV (As := []) (rest := []) ⟨hx, hb, hml, hown, hts⟩ (c_X13_good g l σ τ h) (cl_X13_166 hts ⟨Nat.le_of_ble_eq_true rfl, Nat.le_of_ble_eq_true rfl⟩) (mpV_13 hZ hT hS hW tz_64 _) rfl rfl hl.1 rfl (lv_room (Nat.le_of_ble_eq_true rfl)) dX13_fewestAt_1 ⟨Nat.zero_le _, Nat.zero_le _⟩) (fun σ_1 H locs hf hW hS => ?_)
  refine lv_aload_n hx hb dX13_fewestAt_4 rfl (lv_at hl 0 rfl) ?_
  refine gf_13_14 hx hb htg (htg _ lf_X13_179) hown hZ hW tz_64 dX13_fewestAt_5 ?_
  refine lv_if_ne (tgt := 17) hx hb dX13_fewestAt_8 (by decide) (fun hc => ?_) (fun hc => ?_)
  · have hf := iff_ hc hf
    refine lv_aload_n hx hb dX13_fewestAt_17 rfl (lv_at hl 0 rfl) ?_
    refine mci hf hS (fun r τ h => va_runV (As := []) (rest := []) ⟨hx, hb, hml, hown, hts⟩ (c_X13_seekVisits g l σ_1 r τ h) (cl_X13_326 hts ⟨Nat.le_of_ble_eq_true rfl, Nat.le_of_ble_eq_true rfl⟩) (mpV_13 hZ hT hS hW tz_64 _) rfl rfl hl.1 rfl (lv_room (Nat.le_of_ble_eq_true rfl)) dX13_fewestAt_18 ⟨Nat.zero_le _, Nat.zero_le _⟩) (fun r_2 σ_3 H locs hf hW hS => ?_)
    refine lv_istore_n (lv' := [(2, .int r_2), (0, .ref (bs g 64)), (1, .int a1)]) hx hb dX13_fewestAt_21 rfl hl (by decide) rfl (fun ls hl => ?_)
    refine lv_iload_n hx hb dX13_fewestAt_22 rfl (lv_at hl 0 rfl) ?_
    refine lv_if_ge (tgt := 33) hx hb dX13_fewestAt_23 (by decide) (fun hc => ?_) (fun hc => ?_)
    · have hf := ift hc hf
      refine lv_iload_n hx hb dX13_fewestAt_33 rfl (lv_at hl 2 rfl) ?_
      refine lv_iconst (v := 0) hx hb dX13_fewestAt_34 (by decide) ?_
      refine lv_iload_n hx hb dX13_fewestAt_35 rfl (lv_at hl 0 rfl) ?_
      refine lv_iconst (v := 1) hx hb dX13_fewestAt_36 (by decide) ?_
      refine lv_isub hx hb dX13_fewestAt_37 ?_
      refine mcip hf hS (fun r h => va_runS (As := [.int a1, .int 0, .int (r_2 - 1)]) (rest := []) ⟨hx, hb, hml, hown, hts⟩ (c_X13_in g l 0 81 σ_3 a1 0 (r_2 - 1) r h) (cl_X13_151 hts ⟨Nat.le_of_ble_eq_true rfl, Nat.le_of_ble_eq_true rfl⟩) (mpS hZ hT hS hW _) rfl rfl hl.1 rfl (lv_room (Nat.le_of_ble_eq_true rfl)) dX13_fewestAt_38 ⟨Nat.zero_le _, Nat.zero_le _⟩) (fun r_4 H locs hf hW hS => ?_)
      refine lv_if_eq (tgt := 53) hx hb dX13_fewestAt_41 (by decide) (fun hc => ?_) (fun hc => ?_)
      · have hf := ift hc hf
        refine lv_aload_n hx hb dX13_fewestAt_53 rfl (lv_at hl 1 rfl) ?_
        refine lv_iconst (v := 1) hx hb dX13_fewestAt_54 (by decide) ?_
        refine mci hf hS (fun r τ h => va_runV (As := [.int 1]) (rest := []) ⟨hx, hb, hml, hown, hts⟩ (c_X13_no g l σ_3 1 r τ h) (cl_X13_169 hts ⟨Nat.le_of_ble_eq_true rfl, Nat.le_of_ble_eq_true rfl⟩) (mpV_13 hZ hT hS hW tz_64 _) rfl rfl hl.1 rfl (lv_room (Nat.le_of_ble_eq_true rfl)) dX13_fewestAt_55 ⟨Nat.zero_le _, Nat.zero_le _⟩) (fun r_5 σ_6 H locs hf hW hS => ?_)
        subst hQ
        exact mri hx hb hr hlocks hZ hT hS hW (pr1 hf) dX13_fewestAt_58
      · have hf := iff_ hc hf
        refine lv_aload_n hx hb dX13_fewestAt_44 rfl (lv_at hl 1 rfl) ?_
        refine gf_13_26 hx hb htg (htg _ lf_X13_44) hown hZ hW tz_64 dX13_fewestAt_45 ?_
        refine lv_iload_n hx hb dX13_fewestAt_48 rfl (lv_at hl 2 rfl) ?_
        refine mld_i hx hb hZ hW tz_75 hf dX13_fewestAt_49 (fun hf => ?_)
        refine lv_goto (tgt := 58) hx hb dX13_fewestAt_50 (by decide) ?_
        subst hQ
        exact mri hx hb hr hlocks hZ hT hS hW (pr1 hf) dX13_fewestAt_58
    · have hf := iff_ hc hf
      refine lv_aload_n hx hb dX13_fewestAt_26 rfl (lv_at hl 1 rfl) ?_
      refine lv_bipush (v := 6) hx hb dX13_fewestAt_27 (by decide) ?_
      refine mci hf hS (fun r τ h => va_runV (As := [.int 6]) (rest := []) ⟨hx, hb, hml, hown, hts⟩ (c_X13_no g l σ_3 6 r τ h) (cl_X13_169 hts ⟨Nat.le_of_ble_eq_true rfl, Nat.le_of_ble_eq_true rfl⟩) (mpV_13 hZ hT hS hW tz_64 _) rfl rfl hl.1 rfl (lv_room (Nat.le_of_ble_eq_true rfl)) dX13_fewestAt_29 ⟨Nat.zero_le _, Nat.zero_le _⟩) (fun r_7 σ_8 H locs hf hW hS => ?_)
      subst hQ
      exact mri hx hb hr hlocks hZ hT hS hW (pr1 hf) dX13_fewestAt_32
  · have hf := ift hc hf
    refine lv_aload_n hx hb dX13_fewestAt_11 rfl (lv_at hl 0 rfl) ?_
    refine lv_iconst (v := 1) hx hb dX13_fewestAt_12 (by decide) ?_
    refine mci hf hS (fun r τ h => va_runV (As := [.int 1]) (rest := []) ⟨hx, hb, hml, hown, hts⟩ (c_X13_no g l σ_1 1 r τ h) (cl_X13_169 hts ⟨Nat.le_of_ble_eq_true rfl, Nat.le_of_ble_eq_true rfl⟩) (mpV_13 hZ hT hS hW tz_64 _) rfl rfl hl.1 rfl (lv_room (Nat.le_of_ble_eq_true rfl)) dX13_fewestAt_13 ⟨Nat.zero_le _, Nat.zero_le _⟩) (fun r_9 σ_10 H locs hf hW hS => ?_)
    subst hQ
    exact mri hx hb hr hlocks hZ hT hS hW (pr1 hf) dX13_fewestAt_16
def f_X13_off (σ : Mem) (a1 : Int32) (a2 : Int32) : Option (Int32) :=
  ixd a1 (aln 77) ((if (σ.1 77 a1.toNatClampNeg) ≤ a2 then ixd a1 (aln 77) (some (a2 - (σ.1 77 a1.toNatClampNeg))) else ixd a1 (aln 77) (some ((σ.1 77 a1.toNatClampNeg) - a2))))
set_option maxHeartbeats 4000000 in
set_option maxRecDepth 100000 in
theorem c_X13_off (g : XG) (l : Launch) (σ : Mem) (a1 : Int32) (a2 : Int32) (r : Int32) (hf : f_X13_off σ a1 a2 = some r) : Met l yX13_off (wx (.code yX13_off cX13_off 3 (some .int))) (kr 0 0) (va_Pc [.ref (bs g 64), .int a1, .int a2] (WS g 0 81 σ)) (Qi' g 0 81 r σ) 0 0 (Ag g 0) := by
  refine Met.ofW (cc := cX13_off) (maxL := 3) (ret := (some .int)) (by decide) rfl ?_
  intro p e s m args below meth c s₁ B hml hv
  obtain ⟨rfl, hZ, hT, hW⟩ := hv
  have hx := B.exec
  have hb := B.bytes
  have hr := B.returns
  have hts : ∀ w ∈ wx (.code yX13_off cX13_off 3 (some .int)), w.before _ s = true := atoms_spec B.pre
  have htg : ∀ w ∈ lwg, w.before _ s = true := fun w h => hts w (List.mem_cons_of_mem _ h)
  have hown : s.vm.findClass RX13 = some m.cls := findClass_of_methodNamed B.named
  have hlocks := B.notSynchronized
  change W p l e (kr 0 0) s m (List.toArray [.ref (bs g 64), .int a1, .int a2]) below meth c s.heap [] 0 0 (MQ below (Qi' g 0 81 r σ) (List.toArray [.ref (bs g 64), .int a1, .int a2]) s 0 0 (Ag g 0)) _
  generalize hQ : MQ below (Qi' g 0 81 r σ) (List.toArray [.ref (bs g 64), .int a1, .int a2]) s 0 0 (Ag g 0) = Q
  have hS : va_S (Ag g 0) s.heap s.heap [] := va_S.rf
  have hl := lv_entry ([.ref (bs g 64), .int a1, .int a2]) (n := 3) (Nat.le_of_ble_eq_true rfl)
  rw [lg_entry_eq]
  generalize (lg_sl ([.ref (bs g 64), .int a1, .int a2]) ++ List.replicate (3 - (lg_sl ([.ref (bs g 64), .int a1, .int a2])).length) Slot.unset).toArray = ls at hl ⊢
  have hl : lv_has ls 3 [(0, .ref (bs g 64)), (1, .int a1), (2, .int a2)] := hl
  delta f_X13_off at hf
  obtain ⟨H, hH⟩ : ∃ H, H = s.heap := ⟨_, rfl⟩
  obtain ⟨locs, hLc⟩ : ∃ z : List Loc, z = [] := ⟨_, rfl⟩
  have hS : va_S (Ag g 0) s.heap H locs := by rw [hH, hLc]; exact hS
  have hW : Wd g 0 81 σ H := by rw [hH]; exact hW
  suffices hG : W p l e (kr 0 0) s m (List.toArray [.ref (bs g 64), .int a1, .int a2]) below meth c H locs 0 0 Q (F0 m 0 ls []) by rw [hH, hLc] at hG; exact hG
  clear hH hLc
  refine lv_iload_n hx hb dX13_off_0 rfl (lv_at hl 2 rfl) ?_
  refine lv_aload_n hx hb dX13_off_1 rfl (lv_at hl 0 rfl) ?_
  refine gf_13_28 hx hb htg (htg _ lf_X13_50) hown hZ hW tz_64 dX13_off_2 ?_
  refine lv_iload_n hx hb dX13_off_5 rfl (lv_at hl 1 rfl) ?_
  refine mld_i hx hb hZ hW tz_77 hf dX13_off_6 (fun hf => ?_)
  refine lv_icmp_ge (tgt := 21) hx hb dX13_off_7 (by decide) (fun hc => ?_) (fun hc => ?_)
  · have hf := ift hc hf
    refine lv_iload_n hx hb dX13_off_21 rfl (lv_at hl 2 rfl) ?_
    refine lv_aload_n hx hb dX13_off_22 rfl (lv_at hl 0 rfl) ?_
    refine gf_13_28 hx hb htg (htg _ lf_X13_50) hown hZ hW tz_64 dX13_off_23 ?_
    refine lv_iload_n hx hb dX13_off_26 rfl (lv_at hl 1 rfl) ?_
    refine mld_i hx hb hZ hW tz_77 hf dX13_off_27 (fun hf => ?_)
    refine lv_isub hx hb dX13_off_28 ?_
    subst hQ
    exact mri hx hb hr hlocks hZ hT hS hW ⟨Option.some.inj hf, rfl⟩ dX13_off_29
  · have hf := iff_ hc hf
    refine lv_aload_n hx hb dX13_off_10 rfl (lv_at hl 0 rfl) ?_
    refine gf_13_28 hx hb htg (htg _ lf_X13_50) hown hZ hW tz_64 dX13_off_11 ?_
    refine lv_iload_n hx hb dX13_off_14 rfl (lv_at hl 1 rfl) ?_
    refine mld_i hx hb hZ hW tz_77 hf dX13_off_15 (fun hf => ?_)
    refine lv_iload_n hx hb dX13_off_16 rfl (lv_at hl 2 rfl) ?_
    refine lv_isub hx hb dX13_off_17 ?_
    refine lv_goto (tgt := 29) hx hb dX13_off_18 (by decide) ?_
    subst hQ
    exact mri hx hb hr hlocks hZ hT hS hW ⟨Option.some.inj hf, rfl⟩ dX13_off_29
def f_X13_pointsAt (σ : Mem) (a1 : Int32) (a2 : Int32) : Option (Int32) :=
  fx2 FU (fun k_3 (i_1 : Int32) (i_2 : Int32) => ixd 4 (aln 67) ((if (σ.1 67 (4 : Int32).toNatClampNeg) ≤ i_2 then some i_1 else bd1 (f_X13_hasBit a2 i_2) (fun (r_4 : Int32) => jn1 (fun (i_5 : Int32) => nm (i_2 + 1) (fun (x_7 : Int32) => k_3 i_5 x_7)) (fun k_6 => (if r_4 = 0 then k_6 i_1 else jn0 (k_6 i_2) (fun k_9 => (if i_1 < 0 then k_9 else ixd i_2 (aln 76) (bd1 (f_X13_off σ a1 (σ.1 76 i_2.toNatClampNeg)) (fun (r_10 : Int32) => ixd i_1 (aln 76) (bd1 (f_X13_off σ a1 (σ.1 76 i_1.toNatClampNeg)) (fun (r_11 : Int32) => (if r_10 < r_11 then k_9 else ixd i_2 (aln 76) (bd1 (f_X13_off σ a1 (σ.1 76 i_2.toNatClampNeg)) (fun (r_12 : Int32) => ixd i_1 (aln 76) (bd1 (f_X13_off σ a1 (σ.1 76 i_1.toNatClampNeg)) (fun (r_13 : Int32) => (if r_12 = r_13 then ixd i_2 (aln 76) (ixd i_1 (aln 76) ((if (σ.1 76 i_1.toNatClampNeg) ≤ (σ.1 76 i_2.toNatClampNeg) then k_6 i_1 else k_9))) else k_6 i_1)))))))))))))))))) (-1) 0
set_option maxHeartbeats 4000000 in
set_option maxRecDepth 100000 in
theorem c_X13_pointsAt (g : XG) (l : Launch) (σ : Mem) (a1 : Int32) (a2 : Int32) (r : Int32) (hf : f_X13_pointsAt σ a1 a2 = some r) : Met l yX13_pointsAt (wx (.code yX13_pointsAt cX13_pointsAt 5 (some .int))) (kr 1 22) (va_Pc [.ref (bs g 64), .int a1, .int a2] (WS g 0 81 σ)) (Qi' g 0 81 r σ) 0 0 (Ag g 0) := by
  refine Met.ofW (cc := cX13_pointsAt) (maxL := 5) (ret := (some .int)) (by decide) rfl ?_
  intro p e s m args below meth c s₁ B hml hv
  obtain ⟨rfl, hZ, hT, hW⟩ := hv
  have hx := B.exec
  have hb := B.bytes
  have hr := B.returns
  have hts : ∀ w ∈ wx (.code yX13_pointsAt cX13_pointsAt 5 (some .int)), w.before _ s = true := atoms_spec B.pre
  have htg : ∀ w ∈ lwg, w.before _ s = true := fun w h => hts w (List.mem_cons_of_mem _ h)
  have hown : s.vm.findClass RX13 = some m.cls := findClass_of_methodNamed B.named
  have hlocks := B.notSynchronized
  change W p l e (kr 1 22) s m (List.toArray [.ref (bs g 64), .int a1, .int a2]) below meth c s.heap [] 0 0 (MQ below (Qi' g 0 81 r σ) (List.toArray [.ref (bs g 64), .int a1, .int a2]) s 0 0 (Ag g 0)) _
  generalize hQ : MQ below (Qi' g 0 81 r σ) (List.toArray [.ref (bs g 64), .int a1, .int a2]) s 0 0 (Ag g 0) = Q
  have hS : va_S (Ag g 0) s.heap s.heap [] := va_S.rf
  have hl := lv_entry ([.ref (bs g 64), .int a1, .int a2]) (n := 5) (Nat.le_of_ble_eq_true rfl)
  rw [lg_entry_eq]
  generalize (lg_sl ([.ref (bs g 64), .int a1, .int a2]) ++ List.replicate (5 - (lg_sl ([.ref (bs g 64), .int a1, .int a2])).length) Slot.unset).toArray = ls at hl ⊢
  have hl : lv_has ls 5 [(0, .ref (bs g 64)), (1, .int a1), (2, .int a2)] := hl
  delta f_X13_pointsAt at hf
  obtain ⟨H, hH⟩ : ∃ H, H = s.heap := ⟨_, rfl⟩
  obtain ⟨locs, hLc⟩ : ∃ z : List Loc, z = [] := ⟨_, rfl⟩
  have hS : va_S (Ag g 0) s.heap H locs := by rw [hH, hLc]; exact hS
  have hW : Wd g 0 81 σ H := by rw [hH]; exact hW
  suffices hG : W p l e (kr 1 22) s m (List.toArray [.ref (bs g 64), .int a1, .int a2]) below meth c H locs 0 0 Q (F0 m 0 ls []) by rw [hH, hLc] at hG; exact hG
  clear hH hLc
  refine lv_iconst (v := (-1)) hx hb dX13_pointsAt_0 (by decide) ?_
  refine lv_istore_n (lv' := [(3, .int (-1)), (0, .ref (bs g 64)), (1, .int a1), (2, .int a2)]) hx hb dX13_pointsAt_1 rfl hl (by decide) rfl (fun ls hl => ?_)
  refine lv_iconst (v := 0) hx hb dX13_pointsAt_2 (by decide) ?_
  refine lv_istore (lv' := [(4, .int 0), (3, .int (-1)), (0, .ref (bs g 64)), (1, .int a1), (2, .int a2)]) hx hb dX13_pointsAt_3 hl (by decide) rfl (fun ls hl => ?_)
  refine fx2_W (fun (i_1 : Int32) (i_2 : Int32) => ∀ (H : Heap) (locs : List Loc) (ls : Array Slot), Wd g 0 81 σ H → va_S (Ag g 0) s.heap H locs → lv_has ls 5 [(0, .ref (bs g 64)), (1, .int a1), (2, .int a2), (3, .int i_1), (4, .int i_2)] → W p l e (kr 1 22) s m (List.toArray [.ref (bs g 64), .int a1, .int a2]) below meth c H locs 0 0 Q (F0 m 5 ls [])) (fun k_3 hk_3 i_1 i_2 hf => ?_) FU (-1) 0 hf H locs ls hW hS (lv_sub hl [2, 3, 4, 1, 0] rfl)
  intro H locs ls hW hS hl
  refine lv_iload hx hb dX13_pointsAt_5 (lv_at hl 4 rfl) ?_
  refine lv_aload_n hx hb dX13_pointsAt_7 rfl (lv_at hl 0 rfl) ?_
  refine gf_13_15 hx hb htg (htg _ lf_X13_20) hown hZ hW tz_64 dX13_pointsAt_8 ?_
  refine lv_iconst (v := 4) hx hb dX13_pointsAt_11 (by decide) ?_
  refine mld_i hx hb hZ hW tz_67 hf dX13_pointsAt_12 (fun hf => ?_)
  refine lv_icmp_ge (tgt := 109) hx hb dX13_pointsAt_13 (by decide) (fun hc => ?_) (fun hc => ?_)
  · have hf := ift hc hf
    refine lv_iload_n hx hb dX13_pointsAt_109 rfl (lv_at hl 3 rfl) ?_
    subst hQ
    exact mri hx hb hr hlocks hZ hT hS hW ⟨Option.some.inj hf, rfl⟩ dX13_pointsAt_110
  · have hf := iff_ hc hf
    refine lv_iload_n hx hb dX13_pointsAt_16 rfl (lv_at hl 2 rfl) ?_
    refine lv_iload hx hb dX13_pointsAt_17 (lv_at hl 4 rfl) ?_
    refine mcip hf hS (fun r h => va_runS (As := [.int a2, .int i_2]) (rest := []) ⟨hx, hb, hml, hown, hts⟩ (c_X13_hasBit g l 0 81 σ a2 i_2 r h) (cl_X13_307 hts ⟨Nat.le_of_ble_eq_true rfl, Nat.le_of_ble_eq_true rfl⟩) (mpS hZ hT hS hW _) rfl rfl hl.1 rfl (lv_room (Nat.le_of_ble_eq_true rfl)) dX13_pointsAt_19 ⟨Nat.zero_le _, Nat.zero_le _⟩) (fun r_4 H locs hf hW hS => ?_)
    refine jn1_W (fun (i_5 : Int32) => ∀ (H : Heap) (locs : List Loc) (ls : Array Slot), Wd g 0 81 σ H → va_S (Ag g 0) s.heap H locs → lv_has ls 5 [(0, .ref (bs g 64)), (1, .int a1), (2, .int a2), (3, .int i_5), (4, .int i_2)] → W p l e (kr 1 22) s m (List.toArray [.ref (bs g 64), .int a1, .int a2]) below meth c H locs 0 0 Q (F0 m 103 ls [])) hf (fun i_5 hf => ?_) (fun k_6 hk_6 hf => ?_)
    · intro H locs ls hW hS hl
      obtain ⟨x_7, e_8, hf⟩ := nm_s hf
      refine lv_iinc (v := x_7) (lv' := [(4, .int x_7), (0, .ref (bs g 64)), (1, .int a1), (2, .int a2), (3, .int i_5)]) hx hb dX13_pointsAt_103 hl (k := 4) rfl (by rw [e_8]; rfl) (by decide) rfl (fun ls hl => ?_)
      refine lv_goto (tgt := 5) hx hb dX13_pointsAt_106 (by decide) ?_
      exact hk_3 i_5 x_7 hf H locs ls hW hS (lv_sub hl [1, 2, 3, 4, 0] rfl)
    · refine lv_if_ne (tgt := 28) hx hb dX13_pointsAt_22 (by decide) (fun hc => ?_) (fun hc => ?_)
      · have hf := iff_ hc hf
        refine lv_iload_n hx hb dX13_pointsAt_28 rfl (lv_at hl 3 rfl) ?_
        refine jn0_W (∀ (H : Heap) (locs : List Loc) (ls : Array Slot), Wd g 0 81 σ H → va_S (Ag g 0) s.heap H locs → lv_has ls 5 [(0, .ref (bs g 64)), (1, .int a1), (2, .int a2), (4, .int i_2)] → W p l e (kr 1 22) s m (List.toArray [.ref (bs g 64), .int a1, .int a2]) below meth c H locs 0 0 Q (F0 m 100 ls [])) hf (fun  hf => ?_) (fun k_9 hk_9 hf => ?_)
        · intro H locs ls hW hS hl
          refine lv_iload hx hb dX13_pointsAt_100 (lv_at hl 3 rfl) ?_
          refine lv_istore_n (lv' := [(3, .int i_2), (0, .ref (bs g 64)), (1, .int a1), (2, .int a2), (4, .int i_2)]) hx hb dX13_pointsAt_102 rfl hl (by decide) rfl (fun ls hl => ?_)
          exact hk_6 i_2 hf H locs ls hW hS (lv_sub hl [1, 2, 3, 0, 4] rfl)
        · refine lv_if_lt (tgt := 100) hx hb dX13_pointsAt_29 (by decide) (fun hc => ?_) (fun hc => ?_)
          · have hf := ift hc hf
            exact hk_9  hf H locs ls hW hS (lv_sub hl [0, 1, 2, 4] rfl)
          · have hf := iff_ hc hf
            refine lv_aload_n hx hb dX13_pointsAt_32 rfl (lv_at hl 0 rfl) ?_
            refine lv_iload_n hx hb dX13_pointsAt_33 rfl (lv_at hl 1 rfl) ?_
            refine lv_aload_n hx hb dX13_pointsAt_34 rfl (lv_at hl 0 rfl) ?_
            refine gf_13_27 hx hb htg (htg _ lf_X13_47) hown hZ hW tz_64 dX13_pointsAt_35 ?_
            refine lv_iload hx hb dX13_pointsAt_38 (lv_at hl 4 rfl) ?_
            refine mld_i hx hb hZ hW tz_76 hf dX13_pointsAt_40 (fun hf => ?_)
            refine mcip hf hS (fun r h => va_runV (As := [.int a1, .int (σ.1 76 i_2.toNatClampNeg)]) (rest := []) ⟨hx, hb, hml, hown, hts⟩ (c_X13_off g l σ a1 (σ.1 76 i_2.toNatClampNeg) r h) (cl_X13_335 hts ⟨Nat.le_of_ble_eq_true rfl, Nat.le_of_ble_eq_true rfl⟩) (mpV_13 hZ hT hS hW tz_64 _) rfl rfl hl.1 rfl (lv_room (Nat.le_of_ble_eq_true rfl)) dX13_pointsAt_41 ⟨Nat.zero_le _, Nat.zero_le _⟩) (fun r_10 H locs hf hW hS => ?_)
            refine lv_aload_n hx hb dX13_pointsAt_44 rfl (lv_at hl 0 rfl) ?_
            refine lv_iload_n hx hb dX13_pointsAt_45 rfl (lv_at hl 1 rfl) ?_
            refine lv_aload_n hx hb dX13_pointsAt_46 rfl (lv_at hl 0 rfl) ?_
            refine gf_13_27 hx hb htg (htg _ lf_X13_47) hown hZ hW tz_64 dX13_pointsAt_47 ?_
            refine lv_iload_n hx hb dX13_pointsAt_50 rfl (lv_at hl 3 rfl) ?_
            refine mld_i hx hb hZ hW tz_76 hf dX13_pointsAt_51 (fun hf => ?_)
            refine mcip hf hS (fun r h => va_runV (As := [.int a1, .int (σ.1 76 i_1.toNatClampNeg)]) (rest := [.int r_10]) ⟨hx, hb, hml, hown, hts⟩ (c_X13_off g l σ a1 (σ.1 76 i_1.toNatClampNeg) r h) (cl_X13_335 hts ⟨Nat.le_of_ble_eq_true rfl, Nat.le_of_ble_eq_true rfl⟩) (mpV_13 hZ hT hS hW tz_64 _) rfl rfl hl.1 rfl (lv_room (Nat.le_of_ble_eq_true rfl)) dX13_pointsAt_52 ⟨Nat.zero_le _, Nat.zero_le _⟩) (fun r_11 H locs hf hW hS => ?_)
            refine lv_icmp_lt (tgt := 100) hx hb dX13_pointsAt_55 (by decide) (fun hc => ?_) (fun hc => ?_)
            · have hf := ift hc hf
              exact hk_9  hf H locs ls hW hS (lv_sub hl [0, 1, 2, 4] rfl)
            · have hf := iff_ hc hf
              refine lv_aload_n hx hb dX13_pointsAt_58 rfl (lv_at hl 0 rfl) ?_
              refine lv_iload_n hx hb dX13_pointsAt_59 rfl (lv_at hl 1 rfl) ?_
              refine lv_aload_n hx hb dX13_pointsAt_60 rfl (lv_at hl 0 rfl) ?_
              refine gf_13_27 hx hb htg (htg _ lf_X13_47) hown hZ hW tz_64 dX13_pointsAt_61 ?_
              refine lv_iload hx hb dX13_pointsAt_64 (lv_at hl 4 rfl) ?_
              refine mld_i hx hb hZ hW tz_76 hf dX13_pointsAt_66 (fun hf => ?_)
              refine mcip hf hS (fun r h => va_runV (As := [.int a1, .int (σ.1 76 i_2.toNatClampNeg)]) (rest := []) ⟨hx, hb, hml, hown, hts⟩ (c_X13_off g l σ a1 (σ.1 76 i_2.toNatClampNeg) r h) (cl_X13_335 hts ⟨Nat.le_of_ble_eq_true rfl, Nat.le_of_ble_eq_true rfl⟩) (mpV_13 hZ hT hS hW tz_64 _) rfl rfl hl.1 rfl (lv_room (Nat.le_of_ble_eq_true rfl)) dX13_pointsAt_67 ⟨Nat.zero_le _, Nat.zero_le _⟩) (fun r_12 H locs hf hW hS => ?_)
              refine lv_aload_n hx hb dX13_pointsAt_70 rfl (lv_at hl 0 rfl) ?_
              refine lv_iload_n hx hb dX13_pointsAt_71 rfl (lv_at hl 1 rfl) ?_
              refine lv_aload_n hx hb dX13_pointsAt_72 rfl (lv_at hl 0 rfl) ?_
              refine gf_13_27 hx hb htg (htg _ lf_X13_47) hown hZ hW tz_64 dX13_pointsAt_73 ?_
              refine lv_iload_n hx hb dX13_pointsAt_76 rfl (lv_at hl 3 rfl) ?_
              refine mld_i hx hb hZ hW tz_76 hf dX13_pointsAt_77 (fun hf => ?_)
              refine mcip hf hS (fun r h => va_runV (As := [.int a1, .int (σ.1 76 i_1.toNatClampNeg)]) (rest := [.int r_12]) ⟨hx, hb, hml, hown, hts⟩ (c_X13_off g l σ a1 (σ.1 76 i_1.toNatClampNeg) r h) (cl_X13_335 hts ⟨Nat.le_of_ble_eq_true rfl, Nat.le_of_ble_eq_true rfl⟩) (mpV_13 hZ hT hS hW tz_64 _) rfl rfl hl.1 rfl (lv_room (Nat.le_of_ble_eq_true rfl)) dX13_pointsAt_78 ⟨Nat.zero_le _, Nat.zero_le _⟩) (fun r_13 H locs hf hW hS => ?_)
              refine lv_icmp_ne (tgt := 103) hx hb dX13_pointsAt_81 (by decide) (fun hc => ?_) (fun hc => ?_)
              · have hf := iff_ hc hf
                exact hk_6 i_1 hf H locs ls hW hS (lv_sub hl [0, 1, 2, 3, 4] rfl)
              · have hf := ift hc hf
                refine lv_aload_n hx hb dX13_pointsAt_84 rfl (lv_at hl 0 rfl) ?_
                refine gf_13_27 hx hb htg (htg _ lf_X13_47) hown hZ hW tz_64 dX13_pointsAt_85 ?_
                refine lv_iload hx hb dX13_pointsAt_88 (lv_at hl 4 rfl) ?_
                refine mld_i hx hb hZ hW tz_76 hf dX13_pointsAt_90 (fun hf => ?_)
                refine lv_aload_n hx hb dX13_pointsAt_91 rfl (lv_at hl 0 rfl) ?_
                refine gf_13_27 hx hb htg (htg _ lf_X13_47) hown hZ hW tz_64 dX13_pointsAt_92 ?_
                refine lv_iload_n hx hb dX13_pointsAt_95 rfl (lv_at hl 3 rfl) ?_
                refine mld_i hx hb hZ hW tz_76 hf dX13_pointsAt_96 (fun hf => ?_)
                refine lv_icmp_ge (tgt := 103) hx hb dX13_pointsAt_97 (by decide) (fun hc => ?_) (fun hc => ?_)
                · have hf := ift hc hf
                  exact hk_6 i_1 hf H locs ls hW hS (lv_sub hl [0, 1, 2, 3, 4] rfl)
                · have hf := iff_ hc hf
                  exact hk_9  hf H locs ls hW hS (lv_sub hl [0, 1, 2, 4] rfl)
      · have hf := ift hc hf
        refine lv_goto (tgt := 103) hx hb dX13_pointsAt_25 (by decide) ?_
        exact hk_6 i_1 hf H locs ls hW hS (lv_sub hl [0, 1, 2, 3, 4] rfl)
def f_X13_ringOut (σ : Mem) (a1 : Int32) : Option (Int32 × Mem) :=
  fx3 FU (fun k_4 (i_1 : Int32) (i_2 : Int32) (σ_3 : Mem) => ixd 4 (aln 67) ((if (σ_3.1 67 (4 : Int32).toNatClampNeg) ≤ i_2 then some (a1 &&& (i_1 ^^^ (-1)), σ_3) else bd1 (f_X13_hasBit a1 i_2) (fun (r_5 : Int32) => jn2 (fun (i_6 : Int32) (σ_7 : Mem) => nm (i_2 + 1) (fun (x_9 : Int32) => k_4 i_6 x_9 σ_7)) (fun k_8 => (if r_5 = 0 then k_8 i_1 σ_3 else bd1 (f_X13_pointsAt σ_3 i_2 a1) (fun (r_11 : Int32) => fx2 FU (fun k_14 (i_12 : Int32) (i_13 : Int32) => jn0 ((if i_12 = i_2 then nm (i_1 ||| (1 <<< (i_2 &&& 31))) (fun (x_16 : Int32) => bd1 (f_X13_pointsAt σ_3 i_2 a1) (fun (r_17 : Int32) => ixd r_17 (aln 76) (ixd i_2 (aln 78) (nm (sI σ_3 78 i_2.toNatClampNeg (σ_3.1 76 r_17.toNatClampNeg)) (fun (σ_18 : Mem) => k_8 x_16 σ_18))))) else k_8 i_1 σ_3)) (fun k_15 => (if 5 ≤ i_13 then k_15 else (if i_12 = i_2 then k_15 else bd1 (f_X13_pointsAt σ_3 i_12 a1) (fun (r_19 : Int32) => nm (i_13 + 1) (fun (x_20 : Int32) => k_14 r_19 x_20)))))) r_11 0))))))) 0 0 σ
set_option maxHeartbeats 4000000 in
set_option maxRecDepth 100000 in
theorem c_X13_ringOut (g : XG) (l : Launch) (σ : Mem) (a1 : Int32) (r : Int32) (τ : Mem) (hf : f_X13_ringOut σ a1 = some (r, τ)) : Met l yX13_ringOut (wx (.code yX13_ringOut cX13_ringOut 6 (some .int))) (kr 2 46) (va_Pc [.ref (bs g 64), .int a1] (WS g 0 81 σ)) (Qi' g 0 81 r τ) 0 0 (Ag g 0) := by
  refine Met.ofW (cc := cX13_ringOut) (maxL := 6) (ret := (some .int)) (by decide) rfl ?_
  intro p e s m args below meth c s₁ B hml hv
  obtain ⟨rfl, hZ, hT, hW⟩ := hv
  have hx := B.exec
  have hb := B.bytes
  have hr := B.returns
  have hts : ∀ w ∈ wx (.code yX13_ringOut cX13_ringOut 6 (some .int)), w.before _ s = true := atoms_spec B.pre
  have htg : ∀ w ∈ lwg, w.before _ s = true := fun w h => hts w (List.mem_cons_of_mem _ h)
  have hown : s.vm.findClass RX13 = some m.cls := findClass_of_methodNamed B.named
  have hlocks := B.notSynchronized
  change W p l e (kr 2 46) s m (List.toArray [.ref (bs g 64), .int a1]) below meth c s.heap [] 0 0 (MQ below (Qi' g 0 81 r τ) (List.toArray [.ref (bs g 64), .int a1]) s 0 0 (Ag g 0)) _
  generalize hQ : MQ below (Qi' g 0 81 r τ) (List.toArray [.ref (bs g 64), .int a1]) s 0 0 (Ag g 0) = Q
  have hS : va_S (Ag g 0) s.heap s.heap [] := va_S.rf
  have hl := lv_entry ([.ref (bs g 64), .int a1]) (n := 6) (Nat.le_of_ble_eq_true rfl)
  rw [lg_entry_eq]
  generalize (lg_sl ([.ref (bs g 64), .int a1]) ++ List.replicate (6 - (lg_sl ([.ref (bs g 64), .int a1])).length) Slot.unset).toArray = ls at hl ⊢
  have hl : lv_has ls 6 [(0, .ref (bs g 64)), (1, .int a1)] := hl
  delta f_X13_ringOut at hf
  obtain ⟨H, hH⟩ : ∃ H, H = s.heap := ⟨_, rfl⟩
  obtain ⟨locs, hLc⟩ : ∃ z : List Loc, z = [] := ⟨_, rfl⟩
  have hS : va_S (Ag g 0) s.heap H locs := by rw [hH, hLc]; exact hS
  have hW : Wd g 0 81 σ H := by rw [hH]; exact hW
  suffices hG : W p l e (kr 2 46) s m (List.toArray [.ref (bs g 64), .int a1]) below meth c H locs 0 0 Q (F0 m 0 ls []) by rw [hH, hLc] at hG; exact hG
  clear hH hLc
  refine lv_iconst (v := 0) hx hb dX13_ringOut_0 (by decide) ?_
  refine lv_istore_n (lv' := [(2, .int 0), (0, .ref (bs g 64)), (1, .int a1)]) hx hb dX13_ringOut_1 rfl hl (by decide) rfl (fun ls hl => ?_)
  refine lv_iconst (v := 0) hx hb dX13_ringOut_2 (by decide) ?_
  refine lv_istore_n (lv' := [(3, .int 0), (2, .int 0), (0, .ref (bs g 64)), (1, .int a1)]) hx hb dX13_ringOut_3 rfl hl (by decide) rfl (fun ls hl => ?_)
  refine fx3_W (fun (i_1 : Int32) (i_2 : Int32) (σ_3 : Mem) => ∀ (H : Heap) (locs : List Loc) (ls : Array Slot), Wd g 0 81 σ_3 H → va_S (Ag g 0) s.heap H locs → lv_has ls 6 [(0, .ref (bs g 64)), (1, .int a1), (2, .int i_1), (3, .int i_2)] → W p l e (kr 2 46) s m (List.toArray [.ref (bs g 64), .int a1]) below meth c H locs 0 0 Q (F0 m 4 ls [])) (fun k_4 hk_4 i_1 i_2 σ_3 hf => ?_) FU 0 0 σ hf H locs ls hW hS (lv_sub hl [2, 3, 1, 0] rfl)
  intro H locs ls hW hS hl
  refine lv_iload_n hx hb dX13_ringOut_4 rfl (lv_at hl 3 rfl) ?_
  refine lv_aload_n hx hb dX13_ringOut_5 rfl (lv_at hl 0 rfl) ?_
  refine gf_13_15 hx hb htg (htg _ lf_X13_20) hown hZ hW tz_64 dX13_ringOut_6 ?_
  refine lv_iconst (v := 4) hx hb dX13_ringOut_9 (by decide) ?_
  refine mld_i hx hb hZ hW tz_67 hf dX13_ringOut_10 (fun hf => ?_)
  refine lv_icmp_ge (tgt := 101) hx hb dX13_ringOut_11 (by decide) (fun hc => ?_) (fun hc => ?_)
  · have hf := ift hc hf
    refine lv_iload_n hx hb dX13_ringOut_101 rfl (lv_at hl 1 rfl) ?_
    refine lv_iload_n hx hb dX13_ringOut_102 rfl (lv_at hl 2 rfl) ?_
    refine lv_iconst (v := (-1)) hx hb dX13_ringOut_103 (by decide) ?_
    refine lv_ixor hx hb dX13_ringOut_104 ?_
    refine lv_iand hx hb dX13_ringOut_105 ?_
    subst hQ
    exact mri hx hb hr hlocks hZ hT hS hW (pr1 hf) dX13_ringOut_106
  · have hf := iff_ hc hf
    refine lv_iload_n hx hb dX13_ringOut_14 rfl (lv_at hl 1 rfl) ?_
    refine lv_iload_n hx hb dX13_ringOut_15 rfl (lv_at hl 3 rfl) ?_
    refine mcip hf hS (fun r h => va_runS (As := [.int a1, .int i_2]) (rest := []) ⟨hx, hb, hml, hown, hts⟩ (c_X13_hasBit g l 0 81 σ_3 a1 i_2 r h) (cl_X13_307 hts ⟨Nat.le_of_ble_eq_true rfl, Nat.le_of_ble_eq_true rfl⟩) (mpS hZ hT hS hW _) rfl rfl hl.1 rfl (lv_room (Nat.le_of_ble_eq_true rfl)) dX13_ringOut_16 ⟨Nat.zero_le _, Nat.zero_le _⟩) (fun r_5 H locs hf hW hS => ?_)
    refine jn2_W (fun (i_6 : Int32) (σ_7 : Mem) => ∀ (H : Heap) (locs : List Loc) (ls : Array Slot), Wd g 0 81 σ_7 H → va_S (Ag g 0) s.heap H locs → lv_has ls 6 [(0, .ref (bs g 64)), (1, .int a1), (2, .int i_6), (3, .int i_2)] → W p l e (kr 2 46) s m (List.toArray [.ref (bs g 64), .int a1]) below meth c H locs 0 0 Q (F0 m 95 ls [])) hf (fun i_6 σ_7 hf => ?_) (fun k_8 hk_8 hf => ?_)
    · intro H locs ls hW hS hl
      obtain ⟨x_9, e_10, hf⟩ := nm_s hf
      refine lv_iinc (v := x_9) (lv' := [(3, .int x_9), (0, .ref (bs g 64)), (1, .int a1), (2, .int i_6)]) hx hb dX13_ringOut_95 hl (k := 3) rfl (by rw [e_10]; rfl) (by decide) rfl (fun ls hl => ?_)
      refine lv_goto (tgt := 4) hx hb dX13_ringOut_98 (by decide) ?_
      exact hk_4 i_6 x_9 σ_7 hf H locs ls hW hS (lv_sub hl [1, 2, 3, 0] rfl)
    · refine lv_if_ne (tgt := 25) hx hb dX13_ringOut_19 (by decide) (fun hc => ?_) (fun hc => ?_)
      · have hf := iff_ hc hf
        refine lv_aload_n hx hb dX13_ringOut_25 rfl (lv_at hl 0 rfl) ?_
        refine lv_iload_n hx hb dX13_ringOut_26 rfl (lv_at hl 3 rfl) ?_
        refine lv_iload_n hx hb dX13_ringOut_27 rfl (lv_at hl 1 rfl) ?_
        refine mcip hf hS (fun r h => va_runV (As := [.int i_2, .int a1]) (rest := []) ⟨hx, hb, hml, hown, hts⟩ (c_X13_pointsAt g l σ_3 i_2 a1 r h) (cl_X13_338 hts ⟨Nat.le_of_ble_eq_true rfl, Nat.le_of_ble_eq_true rfl⟩) (mpV_13 hZ hT hS hW tz_64 _) rfl rfl hl.1 rfl (lv_room (Nat.le_of_ble_eq_true rfl)) dX13_ringOut_28 ⟨Nat.zero_le _, Nat.zero_le _⟩) (fun r_11 H locs hf hW hS => ?_)
        refine lv_istore (lv' := [(4, .int r_11), (0, .ref (bs g 64)), (1, .int a1), (2, .int i_1), (3, .int i_2)]) hx hb dX13_ringOut_31 hl (by decide) rfl (fun ls hl => ?_)
        refine lv_iconst (v := 0) hx hb dX13_ringOut_33 (by decide) ?_
        refine lv_istore (lv' := [(5, .int 0), (4, .int r_11), (0, .ref (bs g 64)), (1, .int a1), (2, .int i_1), (3, .int i_2)]) hx hb dX13_ringOut_34 hl (by decide) rfl (fun ls hl => ?_)
        refine fx2_W (fun (i_12 : Int32) (i_13 : Int32) => ∀ (H : Heap) (locs : List Loc) (ls : Array Slot), Wd g 0 81 σ_3 H → va_S (Ag g 0) s.heap H locs → lv_has ls 6 [(0, .ref (bs g 64)), (1, .int a1), (2, .int i_1), (3, .int i_2), (4, .int i_12), (5, .int i_13)] → W p l e (kr 2 46) s m (List.toArray [.ref (bs g 64), .int a1]) below meth c H locs 0 0 Q (F0 m 36 ls [])) (fun k_14 hk_14 i_12 i_13 hf => ?_) FU r_11 0 hf H locs ls hW hS (lv_sub hl [2, 3, 4, 5, 1, 0] rfl)
        intro H locs ls hW hS hl
        refine lv_iload hx hb dX13_ringOut_36 (lv_at hl 5 rfl) ?_
        refine lv_iconst (v := 5) hx hb dX13_ringOut_38 (by decide) ?_
        refine jn0_W (∀ (H : Heap) (locs : List Loc) (ls : Array Slot), Wd g 0 81 σ_3 H → va_S (Ag g 0) s.heap H locs → lv_has ls 6 [(0, .ref (bs g 64)), (1, .int a1), (2, .int i_1), (3, .int i_2), (4, .int i_12)] → W p l e (kr 2 46) s m (List.toArray [.ref (bs g 64), .int a1]) below meth c H locs 0 0 Q (F0 m 63 ls [])) hf (fun  hf => ?_) (fun k_15 hk_15 hf => ?_)
        · intro H locs ls hW hS hl
          refine lv_iload hx hb dX13_ringOut_63 (lv_at hl 4 rfl) ?_
          refine lv_iload_n hx hb dX13_ringOut_65 rfl (lv_at hl 3 rfl) ?_
          refine lv_icmp_eq (tgt := 72) hx hb dX13_ringOut_66 (by decide) (fun hc => ?_) (fun hc => ?_)
          · have hf := ift hc hf
            refine lv_iload_n hx hb dX13_ringOut_72 rfl (lv_at hl 2 rfl) ?_
            refine lv_iconst (v := 1) hx hb dX13_ringOut_73 (by decide) ?_
            refine lv_iload_n hx hb dX13_ringOut_74 rfl (lv_at hl 3 rfl) ?_
            refine lv_ishl hx hb dX13_ringOut_75 ?_
            refine lv_ior hx hb dX13_ringOut_76 ?_
            refine mnmi hf (fun (x_16 : Int32) hf => ?_)
            refine lv_istore_n (lv' := [(2, .int x_16), (0, .ref (bs g 64)), (1, .int a1), (3, .int i_2), (4, .int i_12)]) hx hb dX13_ringOut_77 rfl hl (by decide) rfl (fun ls hl => ?_)
            refine lv_aload_n hx hb dX13_ringOut_78 rfl (lv_at hl 1 rfl) ?_
            refine gf_13_29 hx hb htg (htg _ lf_X13_53) hown hZ hW tz_64 dX13_ringOut_79 ?_
            refine lv_iload_n hx hb dX13_ringOut_82 rfl (lv_at hl 3 rfl) ?_
            refine lv_aload_n hx hb dX13_ringOut_83 rfl (lv_at hl 1 rfl) ?_
            refine gf_13_27 hx hb htg (htg _ lf_X13_47) hown hZ hW tz_64 dX13_ringOut_84 ?_
            refine lv_aload_n hx hb dX13_ringOut_87 rfl (lv_at hl 1 rfl) ?_
            refine lv_iload_n hx hb dX13_ringOut_88 rfl (lv_at hl 3 rfl) ?_
            refine lv_iload_n hx hb dX13_ringOut_89 rfl (lv_at hl 2 rfl) ?_
            refine mcip hf hS (fun r h => va_runV (As := [.int i_2, .int a1]) (rest := [.ref (bs g 76), .int i_2, .ref (bs g 78)]) ⟨hx, hb, hml, hown, hts⟩ (c_X13_pointsAt g l σ_3 i_2 a1 r h) (cl_X13_338 hts ⟨Nat.le_of_ble_eq_true rfl, Nat.le_of_ble_eq_true rfl⟩) (mpV_13 hZ hT hS hW tz_64 _) rfl rfl hl.1 rfl (lv_room (Nat.le_of_ble_eq_true rfl)) dX13_ringOut_90 ⟨Nat.zero_le _, Nat.zero_le _⟩) (fun r_17 H locs hf hW hS => ?_)
            refine mld_i hx hb hZ hW tz_76 hf dX13_ringOut_93 (fun hf => ?_)
            refine mst_i hx hb hZ hW hS tz_78 hf dX13_ringOut_94 (fun σ_18 H locs hf hW hS => ?_)
            exact hk_8 x_16 σ_18 hf H locs ls hW hS (lv_sub hl [1, 2, 0, 3] rfl)
          · have hf := iff_ hc hf
            refine lv_goto (tgt := 95) hx hb dX13_ringOut_69 (by decide) ?_
            exact hk_8 i_1 σ_3 hf H locs ls hW hS (lv_sub hl [0, 1, 2, 3] rfl)
        · refine lv_icmp_ge (tgt := 63) hx hb dX13_ringOut_39 (by decide) (fun hc => ?_) (fun hc => ?_)
          · have hf := ift hc hf
            exact hk_15  hf H locs ls hW hS (lv_sub hl [0, 1, 2, 3, 4] rfl)
          · have hf := iff_ hc hf
            refine lv_iload hx hb dX13_ringOut_42 (lv_at hl 4 rfl) ?_
            refine lv_iload_n hx hb dX13_ringOut_44 rfl (lv_at hl 3 rfl) ?_
            refine lv_icmp_eq (tgt := 63) hx hb dX13_ringOut_45 (by decide) (fun hc => ?_) (fun hc => ?_)
            · have hf := ift hc hf
              exact hk_15  hf H locs ls hW hS (lv_sub hl [0, 1, 2, 3, 4] rfl)
            · have hf := iff_ hc hf
              refine lv_aload_n hx hb dX13_ringOut_48 rfl (lv_at hl 0 rfl) ?_
              refine lv_iload hx hb dX13_ringOut_49 (lv_at hl 4 rfl) ?_
              refine lv_iload_n hx hb dX13_ringOut_51 rfl (lv_at hl 1 rfl) ?_
              refine mcip hf hS (fun r h => va_runV (As := [.int i_12, .int a1]) (rest := []) ⟨hx, hb, hml, hown, hts⟩ (c_X13_pointsAt g l σ_3 i_12 a1 r h) (cl_X13_338 hts ⟨Nat.le_of_ble_eq_true rfl, Nat.le_of_ble_eq_true rfl⟩) (mpV_13 hZ hT hS hW tz_64 _) rfl rfl hl.1 rfl (lv_room (Nat.le_of_ble_eq_true rfl)) dX13_ringOut_52 ⟨Nat.zero_le _, Nat.zero_le _⟩) (fun r_19 H locs hf hW hS => ?_)
              refine lv_istore (lv' := [(4, .int r_19), (0, .ref (bs g 64)), (1, .int a1), (2, .int i_1), (3, .int i_2), (5, .int i_13)]) hx hb dX13_ringOut_55 hl (by decide) rfl (fun ls hl => ?_)
              obtain ⟨x_20, e_21, hf⟩ := nm_s hf
              refine lv_iinc (v := x_20) (lv' := [(5, .int x_20), (4, .int r_19), (0, .ref (bs g 64)), (1, .int a1), (2, .int i_1), (3, .int i_2)]) hx hb dX13_ringOut_57 hl (k := 5) rfl (by rw [e_21]; rfl) (by decide) rfl (fun ls hl => ?_)
              refine lv_goto (tgt := 36) hx hb dX13_ringOut_60 (by decide) ?_
              exact hk_14 r_19 x_20 hf H locs ls hW hS (lv_sub hl [2, 3, 4, 5, 1, 0] rfl)
      · have hf := ift hc hf
        refine lv_goto (tgt := 95) hx hb dX13_ringOut_22 (by decide) ?_
        exact hk_8 i_1 σ_3 hf H locs ls hW hS (lv_sub hl [0, 1, 2, 3] rfl)
def f_X13_layRings (σ : Mem)  : Option (Mem) :=
  nm (sI σ 64 30 0) (fun (σ_1 : Mem) => fx2 FU (fun k_4 (i_2 : Int32) (σ_3 : Mem) => ixd 4 (aln 67) ((if (σ_3.1 67 (4 : Int32).toNatClampNeg) ≤ i_2 then nm (σ_3.1 64 30) (fun (x_5 : Int32) => fx2 FU (fun k_8 (i_6 : Int32) (σ_7 : Mem) => (if i_6 = 0 then some σ_7 else bd2 (f_X13_ringOut σ_7 i_6) (fun (r_9 : Int32) (σ_10 : Mem) => k_8 r_9 σ_10))) x_5 σ_3) else ixd i_2 (aln 76) (nm (sI σ_3 76 i_2.toNatClampNeg (-2)) (fun (σ_11 : Mem) => ixd i_2 (aln 78) (nm (sI σ_11 78 i_2.toNatClampNeg (-2)) (fun (σ_12 : Mem) => ixd i_2 (aln 77) (nm (sI σ_12 77 i_2.toNatClampNeg (-2)) (fun (σ_13 : Mem) => ixd 79 (aln 69) (nm (σ_13.1 69 (79 : Int32).toNatClampNeg) (fun (x_14 : Int32) => fx3 FU (fun k_18 (i_15 : Int32) (i_16 : Int32) (σ_17 : Mem) => (if 30 ≤ i_16 then ixd 7 (aln 67) (nm ((σ_17.1 67 (7 : Int32).toNatClampNeg) - 1) (fun (x_19 : Int32) => fx2 FU (fun k_22 (i_20 : Int32) (σ_21 : Mem) => (if i_20 < 0 then jn1 (fun (σ_23 : Mem) => nm (i_2 + 1) (fun (x_25 : Int32) => k_4 x_25 σ_23)) (fun k_24 => (if i_15 = 1 then ixd i_2 (aln 77) ((if (σ_21.1 77 i_2.toNatClampNeg) < 0 then k_24 σ_21 else nm (sI σ_21 64 30 ((σ_21.1 64 30) ||| (1 <<< (i_2 &&& 31)))) (fun (σ_27 : Mem) => k_24 σ_27))) else k_24 σ_21)) else ixd (90 + (2 * i_20)) (aln 67) (jn1 (fun (σ_28 : Mem) => nm (i_20 + (-1)) (fun (x_30 : Int32) => k_22 x_30 σ_28)) (fun k_29 => (if (σ_21.1 67 (90 + (2 * i_20)).toNatClampNeg) = i_2 then ixd ((90 + (2 * i_20)) + 1) (aln 67) (ixd i_2 (aln 77) (nm (sI σ_21 77 i_2.toNatClampNeg (σ_21.1 67 ((90 + (2 * i_20)) + 1).toNatClampNeg)) (fun (σ_32 : Mem) => k_29 σ_32))) else k_29 σ_21))))) x_19 σ_17)) else ixd i_16 (aln 69) (jn2 (fun (i_33 : Int32) (σ_34 : Mem) => nm (i_16 + 1) (fun (x_36 : Int32) => k_18 i_33 x_36 σ_34)) (fun k_35 => (if (σ_17.1 69 i_16.toNatClampNeg) = (i_2 + 1) then ixd i_2 (aln 76) (nm (sI σ_17 76 i_2.toNatClampNeg i_16) (fun (σ_38 : Mem) => nm (i_15 + 1) (fun (x_39 : Int32) => k_35 x_39 σ_38))) else k_35 i_15 σ_17))))) 0 x_14 σ_13))))))))))) 0 σ_1)
set_option maxHeartbeats 4000000 in
set_option maxRecDepth 100000 in
theorem c_X13_layRings (g : XG) (l : Launch) (σ : Mem) (τ : Mem) (hf : f_X13_layRings σ = some τ) : Met l yX13_layRings (wx (.code yX13_layRings cX13_layRings 4 none)) (kr 3 71) (va_Pc [.ref (bs g 64)] (WS g 0 81 σ)) (Qv' g 0 81 τ) 0 0 (Ag g 0) := by
  refine Met.ofW (cc := cX13_layRings) (maxL := 4) (ret := none) (by decide) rfl ?_
  intro p e s m args below meth c s₁ B hml hv
  obtain ⟨rfl, hZ, hT, hW⟩ := hv
  have hx := B.exec
  have hb := B.bytes
  have hr := B.returns
  have hts : ∀ w ∈ wx (.code yX13_layRings cX13_layRings 4 none), w.before _ s = true := atoms_spec B.pre
  have htg : ∀ w ∈ lwg, w.before _ s = true := fun w h => hts w (List.mem_cons_of_mem _ h)
  have hown : s.vm.findClass RX13 = some m.cls := findClass_of_methodNamed B.named
  have hlocks := B.notSynchronized
  change W p l e (kr 3 71) s m (List.toArray [.ref (bs g 64)]) below meth c s.heap [] 0 0 (MQ below (Qv' g 0 81 τ) (List.toArray [.ref (bs g 64)]) s 0 0 (Ag g 0)) _
  generalize hQ : MQ below (Qv' g 0 81 τ) (List.toArray [.ref (bs g 64)]) s 0 0 (Ag g 0) = Q
  have hS : va_S (Ag g 0) s.heap s.heap [] := va_S.rf
  have hl := lv_entry ([.ref (bs g 64)]) (n := 4) (Nat.le_of_ble_eq_true rfl)
  rw [lg_entry_eq]
  generalize (lg_sl ([.ref (bs g 64)]) ++ List.replicate (4 - (lg_sl ([.ref (bs g 64)])).length) Slot.unset).toArray = ls at hl ⊢
  have hl : lv_has ls 4 [(0, .ref (bs g 64))] := hl
  delta f_X13_layRings at hf
  obtain ⟨H, hH⟩ : ∃ H, H = s.heap := ⟨_, rfl⟩
  obtain ⟨locs, hLc⟩ : ∃ z : List Loc, z = [] := ⟨_, rfl⟩
  have hS : va_S (Ag g 0) s.heap H locs := by rw [hH, hLc]; exact hS
  have hW : Wd g 0 81 σ H := by rw [hH]; exact hW
  suffices hG : W p l e (kr 3 71) s m (List.toArray [.ref (bs g 64)]) below meth c H locs 0 0 Q (F0 m 0 ls []) by rw [hH, hLc] at hG; exact hG
  clear hH hLc
  refine lv_aload_n hx hb dX13_layRings_0 rfl (lv_at hl 0 rfl) ?_
  refine lv_iconst (v := 0) hx hb dX13_layRings_1 (by decide) ?_
  refine pf_13_30 hx hb htg (htg _ lf_X13_329) hown hZ hW hS tz_64 dX13_layRings_2 hf (fun σ_1 H locs hf hW hS => ?_)
  refine lv_iconst (v := 0) hx hb dX13_layRings_5 (by decide) ?_
  refine lv_istore_n (lv' := [(1, .int 0), (0, .ref (bs g 64))]) hx hb dX13_layRings_6 rfl hl (by decide) rfl (fun ls hl => ?_)
  refine fx2_W (fun (i_2 : Int32) (σ_3 : Mem) => ∀ (H : Heap) (locs : List Loc) (ls : Array Slot), Wd g 0 81 σ_3 H → va_S (Ag g 0) s.heap H locs → lv_has ls 4 [(0, .ref (bs g 64)), (1, .int i_2)] → W p l e (kr 3 71) s m (List.toArray [.ref (bs g 64)]) below meth c H locs 0 0 Q (F0 m 7 ls [])) (fun k_4 hk_4 i_2 σ_3 hf => ?_) FU 0 σ_1 hf H locs ls hW hS (lv_sub hl [1, 0] rfl)
  intro H locs ls hW hS hl
  refine lv_iload_n hx hb dX13_layRings_7 rfl (lv_at hl 1 rfl) ?_
  refine lv_aload_n hx hb dX13_layRings_8 rfl (lv_at hl 0 rfl) ?_
  refine gf_13_15 hx hb htg (htg _ lf_X13_20) hown hZ hW tz_64 dX13_layRings_9 ?_
  refine lv_iconst (v := 4) hx hb dX13_layRings_12 (by decide) ?_
  refine mld_i hx hb hZ hW tz_67 hf dX13_layRings_13 (fun hf => ?_)
  refine lv_icmp_ge (tgt := 174) hx hb dX13_layRings_14 (by decide) (fun hc => ?_) (fun hc => ?_)
  · have hf := ift hc hf
    refine lv_aload_n hx hb dX13_layRings_174 rfl (lv_at hl 0 rfl) ?_
    refine gf_13_30 hx hb htg (htg _ lf_X13_329) hown hZ hW tz_64 dX13_layRings_175 ?_
    refine mnmi hf (fun (x_5 : Int32) hf => ?_)
    refine lv_istore_n (lv' := [(1, .int x_5), (0, .ref (bs g 64))]) hx hb dX13_layRings_178 rfl hl (by decide) rfl (fun ls hl => ?_)
    refine fx2_W (fun (i_6 : Int32) (σ_7 : Mem) => ∀ (H : Heap) (locs : List Loc) (ls : Array Slot), Wd g 0 81 σ_7 H → va_S (Ag g 0) s.heap H locs → lv_has ls 4 [(0, .ref (bs g 64)), (1, .int i_6)] → W p l e (kr 3 71) s m (List.toArray [.ref (bs g 64)]) below meth c H locs 0 0 Q (F0 m 179 ls [])) (fun k_8 hk_8 i_6 σ_7 hf => ?_) FU x_5 σ_3 hf H locs ls hW hS (lv_sub hl [1, 0] rfl)
    intro H locs ls hW hS hl
    refine lv_iload_n hx hb dX13_layRings_179 rfl (lv_at hl 1 rfl) ?_
    refine lv_if_eq (tgt := 192) hx hb dX13_layRings_180 (by decide) (fun hc => ?_) (fun hc => ?_)
    · have hf := ift hc hf
      subst hQ
      exact mrv hx hb hr hlocks hZ hT hS hW (Option.some.inj hf) dX13_layRings_192
    · have hf := iff_ hc hf
      refine lv_aload_n hx hb dX13_layRings_183 rfl (lv_at hl 0 rfl) ?_
      refine lv_iload_n hx hb dX13_layRings_184 rfl (lv_at hl 1 rfl) ?_
      refine mci hf hS (fun r τ h => va_runV (As := [.int i_6]) (rest := []) ⟨hx, hb, hml, hown, hts⟩ (c_X13_ringOut g l σ_7 i_6 r τ h) (cl_X13_332 hts ⟨Nat.le_of_ble_eq_true rfl, Nat.le_of_ble_eq_true rfl⟩) (mpV_13 hZ hT hS hW tz_64 _) rfl rfl hl.1 rfl (lv_room (Nat.le_of_ble_eq_true rfl)) dX13_layRings_185 ⟨Nat.zero_le _, Nat.zero_le _⟩) (fun r_9 σ_10 H locs hf hW hS => ?_)
      refine lv_istore_n (lv' := [(1, .int r_9), (0, .ref (bs g 64))]) hx hb dX13_layRings_188 rfl hl (by decide) rfl (fun ls hl => ?_)
      refine lv_goto (tgt := 179) hx hb dX13_layRings_189 (by decide) ?_
      exact hk_8 r_9 σ_10 hf H locs ls hW hS (lv_sub hl [1, 0] rfl)
  · have hf := iff_ hc hf
    refine lv_iconst (v := 0) hx hb dX13_layRings_17 (by decide) ?_
    refine lv_istore_n (lv' := [(2, .int 0), (0, .ref (bs g 64)), (1, .int i_2)]) hx hb dX13_layRings_18 rfl hl (by decide) rfl (fun ls hl => ?_)
    refine lv_aload_n hx hb dX13_layRings_19 rfl (lv_at hl 1 rfl) ?_
    refine gf_13_27 hx hb htg (htg _ lf_X13_47) hown hZ hW tz_64 dX13_layRings_20 ?_
    refine lv_iload_n hx hb dX13_layRings_23 rfl (lv_at hl 2 rfl) ?_
    refine lv_bipush (v := (-2)) hx hb dX13_layRings_24 (by decide) ?_
    refine mst_i hx hb hZ hW hS tz_76 hf dX13_layRings_26 (fun σ_11 H locs hf hW hS => ?_)
    refine lv_aload_n hx hb dX13_layRings_27 rfl (lv_at hl 1 rfl) ?_
    refine gf_13_29 hx hb htg (htg _ lf_X13_53) hown hZ hW tz_64 dX13_layRings_28 ?_
    refine lv_iload_n hx hb dX13_layRings_31 rfl (lv_at hl 2 rfl) ?_
    refine lv_bipush (v := (-2)) hx hb dX13_layRings_32 (by decide) ?_
    refine mst_i hx hb hZ hW hS tz_78 hf dX13_layRings_34 (fun σ_12 H locs hf hW hS => ?_)
    refine lv_aload_n hx hb dX13_layRings_35 rfl (lv_at hl 1 rfl) ?_
    refine gf_13_28 hx hb htg (htg _ lf_X13_50) hown hZ hW tz_64 dX13_layRings_36 ?_
    refine lv_iload_n hx hb dX13_layRings_39 rfl (lv_at hl 2 rfl) ?_
    refine lv_bipush (v := (-2)) hx hb dX13_layRings_40 (by decide) ?_
    refine mst_i hx hb hZ hW hS tz_77 hf dX13_layRings_42 (fun σ_13 H locs hf hW hS => ?_)
    refine lv_aload_n hx hb dX13_layRings_43 rfl (lv_at hl 1 rfl) ?_
    refine gf_13_17 hx hb htg (htg _ lf_X13_26) hown hZ hW tz_64 dX13_layRings_44 ?_
    refine lv_bipush (v := 79) hx hb dX13_layRings_47 (by decide) ?_
    refine mld_i hx hb hZ hW tz_69 hf dX13_layRings_49 (fun hf => ?_)
    refine mnmi hf (fun (x_14 : Int32) hf => ?_)
    refine lv_istore_n (lv' := [(3, .int x_14), (2, .int 0), (0, .ref (bs g 64)), (1, .int i_2)]) hx hb dX13_layRings_50 rfl hl (by decide) rfl (fun ls hl => ?_)
    refine fx3_W (fun (i_15 : Int32) (i_16 : Int32) (σ_17 : Mem) => ∀ (H : Heap) (locs : List Loc) (ls : Array Slot), Wd g 0 81 σ_17 H → va_S (Ag g 0) s.heap H locs → lv_has ls 4 [(0, .ref (bs g 64)), (1, .int i_2), (2, .int i_15), (3, .int i_16)] → W p l e (kr 3 71) s m (List.toArray [.ref (bs g 64)]) below meth c H locs 0 0 Q (F0 m 51 ls [])) (fun k_18 hk_18 i_15 i_16 σ_17 hf => ?_) FU 0 x_14 σ_13 hf H locs ls hW hS (lv_sub hl [2, 3, 1, 0] rfl)
    intro H locs ls hW hS hl
    refine lv_iload_n hx hb dX13_layRings_51 rfl (lv_at hl 3 rfl) ?_
    refine lv_bipush (v := 30) hx hb dX13_layRings_52 (by decide) ?_
    refine lv_icmp_ge (tgt := 88) hx hb dX13_layRings_54 (by decide) (fun hc => ?_) (fun hc => ?_)
    · have hf := ift hc hf
      refine lv_aload_n hx hb dX13_layRings_88 rfl (lv_at hl 0 rfl) ?_
      refine gf_13_15 hx hb htg (htg _ lf_X13_20) hown hZ hW tz_64 dX13_layRings_89 ?_
      refine lv_bipush (v := 7) hx hb dX13_layRings_92 (by decide) ?_
      refine mld_i hx hb hZ hW tz_67 hf dX13_layRings_94 (fun hf => ?_)
      refine lv_iconst (v := 1) hx hb dX13_layRings_95 (by decide) ?_
      refine lv_isub hx hb dX13_layRings_96 ?_
      refine mnmi hf (fun (x_19 : Int32) hf => ?_)
      refine lv_istore_n (lv' := [(3, .int x_19), (0, .ref (bs g 64)), (1, .int i_2), (2, .int i_15)]) hx hb dX13_layRings_97 rfl hl (by decide) rfl (fun ls hl => ?_)
      refine fx2_W (fun (i_20 : Int32) (σ_21 : Mem) => ∀ (H : Heap) (locs : List Loc) (ls : Array Slot), Wd g 0 81 σ_21 H → va_S (Ag g 0) s.heap H locs → lv_has ls 4 [(0, .ref (bs g 64)), (1, .int i_2), (2, .int i_15), (3, .int i_20)] → W p l e (kr 3 71) s m (List.toArray [.ref (bs g 64)]) below meth c H locs 0 0 Q (F0 m 98 ls [])) (fun k_22 hk_22 i_20 σ_21 hf => ?_) FU x_19 σ_17 hf H locs ls hW hS (lv_sub hl [1, 2, 3, 0] rfl)
      intro H locs ls hW hS hl
      refine lv_iload_n hx hb dX13_layRings_98 rfl (lv_at hl 3 rfl) ?_
      refine lv_if_lt (tgt := 142) hx hb dX13_layRings_99 (by decide) (fun hc => ?_) (fun hc => ?_)
      · have hf := ift hc hf
        refine lv_iload_n hx hb dX13_layRings_142 rfl (lv_at hl 2 rfl) ?_
        refine lv_iconst (v := 1) hx hb dX13_layRings_143 (by decide) ?_
        refine jn1_W (fun (σ_23 : Mem) => ∀ (H : Heap) (locs : List Loc) (ls : Array Slot), Wd g 0 81 σ_23 H → va_S (Ag g 0) s.heap H locs → lv_has ls 4 [(0, .ref (bs g 64)), (1, .int i_2)] → W p l e (kr 3 71) s m (List.toArray [.ref (bs g 64)]) below meth c H locs 0 0 Q (F0 m 168 ls [])) hf (fun σ_23 hf => ?_) (fun k_24 hk_24 hf => ?_)
        · intro H locs ls hW hS hl
          obtain ⟨x_25, e_26, hf⟩ := nm_s hf
          refine lv_iinc (v := x_25) (lv' := [(1, .int x_25), (0, .ref (bs g 64))]) hx hb dX13_layRings_168 hl (k := 1) rfl (by rw [e_26]; rfl) (by decide) rfl (fun ls hl => ?_)
          refine lv_goto (tgt := 7) hx hb dX13_layRings_171 (by decide) ?_
          exact hk_4 x_25 σ_23 hf H locs ls hW hS (lv_sub hl [1, 0] rfl)
        · refine lv_icmp_ne (tgt := 168) hx hb dX13_layRings_144 (by decide) (fun hc => ?_) (fun hc => ?_)
          · have hf := iff_ hc hf
            exact hk_24 σ_21 hf H locs ls hW hS (lv_sub hl [0, 1] rfl)
          · have hf := ift hc hf
            refine lv_aload_n hx hb dX13_layRings_147 rfl (lv_at hl 0 rfl) ?_
            refine gf_13_28 hx hb htg (htg _ lf_X13_50) hown hZ hW tz_64 dX13_layRings_148 ?_
            refine lv_iload_n hx hb dX13_layRings_151 rfl (lv_at hl 1 rfl) ?_
            refine mld_i hx hb hZ hW tz_77 hf dX13_layRings_152 (fun hf => ?_)
            refine lv_if_lt (tgt := 168) hx hb dX13_layRings_153 (by decide) (fun hc => ?_) (fun hc => ?_)
            · have hf := ift hc hf
              exact hk_24 σ_21 hf H locs ls hW hS (lv_sub hl [0, 1] rfl)
            · have hf := iff_ hc hf
              refine lv_aload_n hx hb dX13_layRings_156 rfl (lv_at hl 0 rfl) ?_
              refine lv_dup hx hb dX13_layRings_157 rfl ?_
              refine gf_13_30 hx hb htg (htg _ lf_X13_329) hown hZ hW tz_64 dX13_layRings_158 ?_
              refine lv_iconst (v := 1) hx hb dX13_layRings_161 (by decide) ?_
              refine lv_iload_n hx hb dX13_layRings_162 rfl (lv_at hl 1 rfl) ?_
              refine lv_ishl hx hb dX13_layRings_163 ?_
              refine lv_ior hx hb dX13_layRings_164 ?_
              refine pf_13_30 hx hb htg (htg _ lf_X13_329) hown hZ hW hS tz_64 dX13_layRings_165 hf (fun σ_27 H locs hf hW hS => ?_)
              exact hk_24 σ_27 hf H locs ls hW hS (lv_sub hl [0, 1] rfl)
      · have hf := iff_ hc hf
        refine lv_aload_n hx hb dX13_layRings_102 rfl (lv_at hl 0 rfl) ?_
        refine gf_13_15 hx hb htg (htg _ lf_X13_20) hown hZ hW tz_64 dX13_layRings_103 ?_
        refine lv_bipush (v := 90) hx hb dX13_layRings_106 (by decide) ?_
        refine lv_iconst (v := 2) hx hb dX13_layRings_108 (by decide) ?_
        refine lv_iload_n hx hb dX13_layRings_109 rfl (lv_at hl 3 rfl) ?_
        refine lv_imul hx hb dX13_layRings_110 ?_
        refine lv_iadd hx hb dX13_layRings_111 ?_
        refine mld_i hx hb hZ hW tz_67 hf dX13_layRings_112 (fun hf => ?_)
        refine lv_iload_n hx hb dX13_layRings_113 rfl (lv_at hl 1 rfl) ?_
        refine jn1_W (fun (σ_28 : Mem) => ∀ (H : Heap) (locs : List Loc) (ls : Array Slot), Wd g 0 81 σ_28 H → va_S (Ag g 0) s.heap H locs → lv_has ls 4 [(0, .ref (bs g 64)), (1, .int i_2), (2, .int i_15), (3, .int i_20)] → W p l e (kr 3 71) s m (List.toArray [.ref (bs g 64)]) below meth c H locs 0 0 Q (F0 m 136 ls [])) hf (fun σ_28 hf => ?_) (fun k_29 hk_29 hf => ?_)
        · intro H locs ls hW hS hl
          obtain ⟨x_30, e_31, hf⟩ := nm_s hf
          refine lv_iinc (v := x_30) (lv' := [(3, .int x_30), (0, .ref (bs g 64)), (1, .int i_2), (2, .int i_15)]) hx hb dX13_layRings_136 hl (k := 3) rfl (by rw [e_31]; rfl) (by decide) rfl (fun ls hl => ?_)
          refine lv_goto (tgt := 98) hx hb dX13_layRings_139 (by decide) ?_
          exact hk_22 x_30 σ_28 hf H locs ls hW hS (lv_sub hl [1, 2, 3, 0] rfl)
        · refine lv_icmp_ne (tgt := 136) hx hb dX13_layRings_114 (by decide) (fun hc => ?_) (fun hc => ?_)
          · have hf := iff_ hc hf
            exact hk_29 σ_21 hf H locs ls hW hS (lv_sub hl [0, 1, 2, 3] rfl)
          · have hf := ift hc hf
            refine lv_aload_n hx hb dX13_layRings_117 rfl (lv_at hl 0 rfl) ?_
            refine gf_13_28 hx hb htg (htg _ lf_X13_50) hown hZ hW tz_64 dX13_layRings_118 ?_
            refine lv_iload_n hx hb dX13_layRings_121 rfl (lv_at hl 1 rfl) ?_
            refine lv_aload_n hx hb dX13_layRings_122 rfl (lv_at hl 0 rfl) ?_
            refine gf_13_15 hx hb htg (htg _ lf_X13_20) hown hZ hW tz_64 dX13_layRings_123 ?_
            refine lv_bipush (v := 90) hx hb dX13_layRings_126 (by decide) ?_
            refine lv_iconst (v := 2) hx hb dX13_layRings_128 (by decide) ?_
            refine lv_iload_n hx hb dX13_layRings_129 rfl (lv_at hl 3 rfl) ?_
            refine lv_imul hx hb dX13_layRings_130 ?_
            refine lv_iadd hx hb dX13_layRings_131 ?_
            refine lv_iconst (v := 1) hx hb dX13_layRings_132 (by decide) ?_
            refine lv_iadd hx hb dX13_layRings_133 ?_
            refine mld_i hx hb hZ hW tz_67 hf dX13_layRings_134 (fun hf => ?_)
            refine mst_i hx hb hZ hW hS tz_77 hf dX13_layRings_135 (fun σ_32 H locs hf hW hS => ?_)
            exact hk_29 σ_32 hf H locs ls hW hS (lv_sub hl [0, 1, 2, 3] rfl)
    · have hf := iff_ hc hf
      refine lv_aload_n hx hb dX13_layRings_57 rfl (lv_at hl 0 rfl) ?_
      refine gf_13_17 hx hb htg (htg _ lf_X13_26) hown hZ hW tz_64 dX13_layRings_58 ?_
      refine lv_iload_n hx hb dX13_layRings_61 rfl (lv_at hl 3 rfl) ?_
      refine mld_i hx hb hZ hW tz_69 hf dX13_layRings_62 (fun hf => ?_)
      refine lv_iload_n hx hb dX13_layRings_63 rfl (lv_at hl 1 rfl) ?_
      refine lv_iconst (v := 1) hx hb dX13_layRings_64 (by decide) ?_
      refine lv_iadd hx hb dX13_layRings_65 ?_
      refine jn2_W (fun (i_33 : Int32) (σ_34 : Mem) => ∀ (H : Heap) (locs : List Loc) (ls : Array Slot), Wd g 0 81 σ_34 H → va_S (Ag g 0) s.heap H locs → lv_has ls 4 [(0, .ref (bs g 64)), (1, .int i_2), (2, .int i_33), (3, .int i_16)] → W p l e (kr 3 71) s m (List.toArray [.ref (bs g 64)]) below meth c H locs 0 0 Q (F0 m 82 ls [])) hf (fun i_33 σ_34 hf => ?_) (fun k_35 hk_35 hf => ?_)
      · intro H locs ls hW hS hl
        obtain ⟨x_36, e_37, hf⟩ := nm_s hf
        refine lv_iinc (v := x_36) (lv' := [(3, .int x_36), (0, .ref (bs g 64)), (1, .int i_2), (2, .int i_33)]) hx hb dX13_layRings_82 hl (k := 3) rfl (by rw [e_37]; rfl) (by decide) rfl (fun ls hl => ?_)
        refine lv_goto (tgt := 51) hx hb dX13_layRings_85 (by decide) ?_
        exact hk_18 i_33 x_36 σ_34 hf H locs ls hW hS (lv_sub hl [1, 2, 3, 0] rfl)
      · refine lv_icmp_eq (tgt := 72) hx hb dX13_layRings_66 (by decide) (fun hc => ?_) (fun hc => ?_)
        · have hf := ift hc hf
          refine lv_aload_n hx hb dX13_layRings_72 rfl (lv_at hl 0 rfl) ?_
          refine gf_13_27 hx hb htg (htg _ lf_X13_47) hown hZ hW tz_64 dX13_layRings_73 ?_
          refine lv_iload_n hx hb dX13_layRings_76 rfl (lv_at hl 1 rfl) ?_
          refine lv_iload_n hx hb dX13_layRings_77 rfl (lv_at hl 3 rfl) ?_
          refine mst_i hx hb hZ hW hS tz_76 hf dX13_layRings_78 (fun σ_38 H locs hf hW hS => ?_)
          obtain ⟨x_39, e_40, hf⟩ := nm_s hf
          refine lv_iinc (v := x_39) (lv' := [(2, .int x_39), (0, .ref (bs g 64)), (1, .int i_2), (3, .int i_16)]) hx hb dX13_layRings_79 hl (k := 2) rfl (by rw [e_40]; rfl) (by decide) rfl (fun ls hl => ?_)
          exact hk_35 x_39 σ_38 hf H locs ls hW hS (lv_sub hl [1, 2, 0, 3] rfl)
        · have hf := iff_ hc hf
          refine lv_goto (tgt := 82) hx hb dX13_layRings_69 (by decide) ?_
          exact hk_35 i_15 σ_17 hf H locs ls hW hS (lv_sub hl [0, 1, 2, 3] rfl)
def f_X13_ring (σ : Mem) (a1 : Int32) : Option (Int32 × Mem) :=
  bd1 (f_X13_good σ) (fun (σ_1 : Mem) => bd1 (f_X13_isPerson σ_1 a1) (fun (r_2 : Int32) => (if r_2 = 0 then bd2 (f_X13_no σ_1 1) (fun (r_4 : Int32) (σ_5 : Mem) => some (r_4, σ_5)) else bd1 (f_X13_layRings σ_1) (fun (σ_3 : Mem) => ixd a1 (aln 78) (some (σ_3.1 78 a1.toNatClampNeg, σ_3))))))
set_option maxHeartbeats 4000000 in
set_option maxRecDepth 100000 in
theorem c_X13_ring (g : XG) (l : Launch) (σ : Mem) (a1 : Int32) (r : Int32) (τ : Mem) (hf : f_X13_ring σ a1 = some (r, τ)) : Met l yX13_ring (wx (.code yX13_ring cX13_ring 2 (some .int))) (kr 4 94) (va_Pc [.ref (bs g 64), .int a1] (WS g 0 81 σ)) (Qi' g 0 81 r τ) 0 0 (Ag g 0) := by
  refine Met.ofW (cc := cX13_ring) (maxL := 2) (ret := (some .int)) (by decide) rfl ?_
  intro p e s m args below meth c s₁ B hml hv
  obtain ⟨rfl, hZ, hT, hW⟩ := hv
  have hx := B.exec
  have hb := B.bytes
  have hr := B.returns
  have hts : ∀ w ∈ wx (.code yX13_ring cX13_ring 2 (some .int)), w.before _ s = true := atoms_spec B.pre
  have htg : ∀ w ∈ lwg, w.before _ s = true := fun w h => hts w (List.mem_cons_of_mem _ h)
  have hown : s.vm.findClass RX13 = some m.cls := findClass_of_methodNamed B.named
  have hlocks := B.notSynchronized
  change W p l e (kr 4 94) s m (List.toArray [.ref (bs g 64), .int a1]) below meth c s.heap [] 0 0 (MQ below (Qi' g 0 81 r τ) (List.toArray [.ref (bs g 64), .int a1]) s 0 0 (Ag g 0)) _
  generalize hQ : MQ below (Qi' g 0 81 r τ) (List.toArray [.ref (bs g 64), .int a1]) s 0 0 (Ag g 0) = Q
  have hS : va_S (Ag g 0) s.heap s.heap [] := va_S.rf
  have hl := lv_entry ([.ref (bs g 64), .int a1]) (n := 2) (Nat.le_of_ble_eq_true rfl)
  rw [lg_entry_eq]
  generalize (lg_sl ([.ref (bs g 64), .int a1]) ++ List.replicate (2 - (lg_sl ([.ref (bs g 64), .int a1])).length) Slot.unset).toArray = ls at hl ⊢
  have hl : lv_has ls 2 [(0, .ref (bs g 64)), (1, .int a1)] := hl
  delta f_X13_ring at hf
  obtain ⟨H, hH⟩ : ∃ H, H = s.heap := ⟨_, rfl⟩
  obtain ⟨locs, hLc⟩ : ∃ z : List Loc, z = [] := ⟨_, rfl⟩
  have hS : va_S (Ag g 0) s.heap H locs := by rw [hH, hLc]; exact hS
  have hW : Wd g 0 81 σ H := by rw [hH]; exact hW
  suffices hG : W p l e (kr 4 94) s m (List.toArray [.ref (bs g 64), .int a1]) below meth c H locs 0 0 Q (F0 m 0 ls []) by rw [hH, hLc] at hG; exact hG
  clear hH hLc
  refine lv_aload_n hx hb dX13_ring_0 rfl (lv_at hl 0 rfl) ?_
  refine mcv hf hS (fun τ h => va_runV (As := []) (rest := []) ⟨hx, hb, hml, hown, hts⟩ (c_X13_good g l σ τ h) (cl_X13_166 hts ⟨Nat.le_of_ble_eq_true rfl, Nat.le_of_ble_eq_true rfl⟩) (mpV_13 hZ hT hS hW tz_64 _) rfl rfl hl.1 rfl (lv_room (Nat.le_of_ble_eq_true rfl)) dX13_ring_1 ⟨Nat.zero_le _, Nat.zero_le _⟩) (fun σ_1 H locs hf hW hS => ?_)
  refine lv_aload_n hx hb dX13_ring_4 rfl (lv_at hl 0 rfl) ?_
  refine lv_iload_n hx hb dX13_ring_5 rfl (lv_at hl 1 rfl) ?_
  refine mcip hf hS (fun r h => va_runV (As := [.int a1]) (rest := []) ⟨hx, hb, hml, hown, hts⟩ (c_X13_isPerson g l σ_1 a1 r h) (cl_X13_275 hts ⟨Nat.le_of_ble_eq_true rfl, Nat.le_of_ble_eq_true rfl⟩) (mpV_13 hZ hT hS hW tz_64 _) rfl rfl hl.1 rfl (lv_room (Nat.le_of_ble_eq_true rfl)) dX13_ring_6 ⟨Nat.zero_le _, Nat.zero_le _⟩) (fun r_2 H locs hf hW hS => ?_)
  refine lv_if_ne (tgt := 18) hx hb dX13_ring_9 (by decide) (fun hc => ?_) (fun hc => ?_)
  · have hf := iff_ hc hf
    refine lv_aload_n hx hb dX13_ring_18 rfl (lv_at hl 0 rfl) ?_
    refine mcv hf hS (fun τ h => va_runV (As := []) (rest := []) ⟨hx, hb, hml, hown, hts⟩ (c_X13_layRings g l σ_1 τ h) (cl_X13_341 hts ⟨Nat.le_of_ble_eq_true rfl, Nat.le_of_ble_eq_true rfl⟩) (mpV_13 hZ hT hS hW tz_64 _) rfl rfl hl.1 rfl (lv_room (Nat.le_of_ble_eq_true rfl)) dX13_ring_19 ⟨Nat.zero_le _, Nat.zero_le _⟩) (fun σ_3 H locs hf hW hS => ?_)
    refine lv_aload_n hx hb dX13_ring_22 rfl (lv_at hl 0 rfl) ?_
    refine gf_13_29 hx hb htg (htg _ lf_X13_53) hown hZ hW tz_64 dX13_ring_23 ?_
    refine lv_iload_n hx hb dX13_ring_26 rfl (lv_at hl 1 rfl) ?_
    refine mld_i hx hb hZ hW tz_78 hf dX13_ring_27 (fun hf => ?_)
    subst hQ
    exact mri hx hb hr hlocks hZ hT hS hW (pr1 hf) dX13_ring_28
  · have hf := ift hc hf
    refine lv_aload_n hx hb dX13_ring_12 rfl (lv_at hl 0 rfl) ?_
    refine lv_iconst (v := 1) hx hb dX13_ring_13 (by decide) ?_
    refine mci hf hS (fun r τ h => va_runV (As := [.int 1]) (rest := []) ⟨hx, hb, hml, hown, hts⟩ (c_X13_no g l σ_1 1 r τ h) (cl_X13_169 hts ⟨Nat.le_of_ble_eq_true rfl, Nat.le_of_ble_eq_true rfl⟩) (mpV_13 hZ hT hS hW tz_64 _) rfl rfl hl.1 rfl (lv_room (Nat.le_of_ble_eq_true rfl)) dX13_ring_14 ⟨Nat.zero_le _, Nat.zero_le _⟩) (fun r_4 σ_5 H locs hf hW hS => ?_)
    subst hQ
    exact mri hx hb hr hlocks hZ hT hS hW (pr1 hf) dX13_ring_17
def f_X13_changed (σ : Mem)  : Option (Int32 × Mem) :=
  bd1 (f_X13_good σ) (fun (σ_1 : Mem) => (if (σ_1.1 64 14) = 0 then bd2 (f_X13_no σ_1 1) (fun (r_13 : Int32) (σ_14 : Mem) => some (r_13, σ_14)) else bd1 (f_X13_layRings σ_1) (fun (σ_2 : Mem) => fx2 FU (fun k_5 (i_3 : Int32) (i_4 : Int32) => ixd 4 (aln 67) ((if (σ_2.1 67 (4 : Int32).toNatClampNeg) ≤ i_4 then some (i_3, σ_2) else bd1 (f_X13_hasBit (σ_2.1 64 30) i_4) (fun (r_6 : Int32) => jn1 (fun (i_7 : Int32) => nm (i_3 + i_7) (fun (x_9 : Int32) => nm (i_4 + 1) (fun (x_10 : Int32) => k_5 x_9 x_10))) (fun k_8 => jn0 (k_8 0) (fun k_12 => (if r_6 = 0 then k_12 else ixd i_4 (aln 78) (ixd i_4 (aln 76) ((if (σ_2.1 78 i_4.toNatClampNeg) = (σ_2.1 76 i_4.toNatClampNeg) then k_12 else k_8 1)))))))))) 0 0)))
set_option maxHeartbeats 4000000 in
set_option maxRecDepth 100000 in
theorem c_X13_changed (g : XG) (l : Launch) (σ : Mem) (r : Int32) (τ : Mem) (hf : f_X13_changed σ = some (r, τ)) : Met l yX13_changed (wx (.code yX13_changed cX13_changed 3 (some .int))) (kr 4 94) (va_Pc [.ref (bs g 64)] (WS g 0 81 σ)) (Qi' g 0 81 r τ) 0 0 (Ag g 0) := by
  refine Met.ofW (cc := cX13_changed) (maxL := 3) (ret := (some .int)) (by decide) rfl ?_
  intro p e s m args below meth c s₁ B hml hv
  obtain ⟨rfl, hZ, hT, hW⟩ := hv
  have hx := B.exec
  have hb := B.bytes
  have hr := B.returns
  have hts : ∀ w ∈ wx (.code yX13_changed cX13_changed 3 (some .int)), w.before _ s = true := atoms_spec B.pre
  have htg : ∀ w ∈ lwg, w.before _ s = true := fun w h => hts w (List.mem_cons_of_mem _ h)
  have hown : s.vm.findClass RX13 = some m.cls := findClass_of_methodNamed B.named
  have hlocks := B.notSynchronized
  change W p l e (kr 4 94) s m (List.toArray [.ref (bs g 64)]) below meth c s.heap [] 0 0 (MQ below (Qi' g 0 81 r τ) (List.toArray [.ref (bs g 64)]) s 0 0 (Ag g 0)) _
  generalize hQ : MQ below (Qi' g 0 81 r τ) (List.toArray [.ref (bs g 64)]) s 0 0 (Ag g 0) = Q
  have hS : va_S (Ag g 0) s.heap s.heap [] := va_S.rf
  have hl := lv_entry ([.ref (bs g 64)]) (n := 3) (Nat.le_of_ble_eq_true rfl)
  rw [lg_entry_eq]
  generalize (lg_sl ([.ref (bs g 64)]) ++ List.replicate (3 - (lg_sl ([.ref (bs g 64)])).length) Slot.unset).toArray = ls at hl ⊢
  have hl : lv_has ls 3 [(0, .ref (bs g 64))] := hl
  delta f_X13_changed at hf
  obtain ⟨H, hH⟩ : ∃ H, H = s.heap := ⟨_, rfl⟩
  obtain ⟨locs, hLc⟩ : ∃ z : List Loc, z = [] := ⟨_, rfl⟩
  have hS : va_S (Ag g 0) s.heap H locs := by rw [hH, hLc]; exact hS
  have hW : Wd g 0 81 σ H := by rw [hH]; exact hW
  suffices hG : W p l e (kr 4 94) s m (List.toArray [.ref (bs g 64)]) below meth c H locs 0 0 Q (F0 m 0 ls []) by rw [hH, hLc] at hG; exact hG
  clear hH hLc
  refine lv_aload_n hx hb dX13_changed_0 rfl (lv_at hl 0 rfl) ?_
  refine mcv hf hS (fun τ h => va_runV (As := []) (rest := []) ⟨hx, hb, hml, hown, hts⟩ (c_X13_good g l σ τ h) (cl_X13_166 hts ⟨Nat.le_of_ble_eq_true rfl, Nat.le_of_ble_eq_true rfl⟩) (mpV_13 hZ hT hS hW tz_64 _) rfl rfl hl.1 rfl (lv_room (Nat.le_of_ble_eq_true rfl)) dX13_changed_1 ⟨Nat.zero_le _, Nat.zero_le _⟩) (fun σ_1 H locs hf hW hS => ?_)
  refine lv_aload_n hx hb dX13_changed_4 rfl (lv_at hl 0 rfl) ?_
  refine gf_13_14 hx hb htg (htg _ lf_X13_179) hown hZ hW tz_64 dX13_changed_5 ?_
  refine lv_if_ne (tgt := 17) hx hb dX13_changed_8 (by decide) (fun hc => ?_) (fun hc => ?_)
  · have hf := iff_ hc hf
    refine lv_aload_n hx hb dX13_changed_17 rfl (lv_at hl 0 rfl) ?_
    refine mcv hf hS (fun τ h => va_runV (As := []) (rest := []) ⟨hx, hb, hml, hown, hts⟩ (c_X13_layRings g l σ_1 τ h) (cl_X13_341 hts ⟨Nat.le_of_ble_eq_true rfl, Nat.le_of_ble_eq_true rfl⟩) (mpV_13 hZ hT hS hW tz_64 _) rfl rfl hl.1 rfl (lv_room (Nat.le_of_ble_eq_true rfl)) dX13_changed_18 ⟨Nat.zero_le _, Nat.zero_le _⟩) (fun σ_2 H locs hf hW hS => ?_)
    refine lv_iconst (v := 0) hx hb dX13_changed_21 (by decide) ?_
    refine lv_istore_n (lv' := [(1, .int 0), (0, .ref (bs g 64))]) hx hb dX13_changed_22 rfl hl (by decide) rfl (fun ls hl => ?_)
    refine lv_iconst (v := 0) hx hb dX13_changed_23 (by decide) ?_
    refine lv_istore_n (lv' := [(2, .int 0), (1, .int 0), (0, .ref (bs g 64))]) hx hb dX13_changed_24 rfl hl (by decide) rfl (fun ls hl => ?_)
    refine fx2_W (fun (i_3 : Int32) (i_4 : Int32) => ∀ (H : Heap) (locs : List Loc) (ls : Array Slot), Wd g 0 81 σ_2 H → va_S (Ag g 0) s.heap H locs → lv_has ls 3 [(0, .ref (bs g 64)), (1, .int i_3), (2, .int i_4)] → W p l e (kr 4 94) s m (List.toArray [.ref (bs g 64)]) below meth c H locs 0 0 Q (F0 m 25 ls [])) (fun k_5 hk_5 i_3 i_4 hf => ?_) FU 0 0 hf H locs ls hW hS (lv_sub hl [2, 1, 0] rfl)
    intro H locs ls hW hS hl
    refine lv_iload_n hx hb dX13_changed_25 rfl (lv_at hl 2 rfl) ?_
    refine lv_aload_n hx hb dX13_changed_26 rfl (lv_at hl 0 rfl) ?_
    refine gf_13_15 hx hb htg (htg _ lf_X13_20) hown hZ hW tz_64 dX13_changed_27 ?_
    refine lv_iconst (v := 4) hx hb dX13_changed_30 (by decide) ?_
    refine mld_i hx hb hZ hW tz_67 hf dX13_changed_31 (fun hf => ?_)
    refine lv_icmp_ge (tgt := 75) hx hb dX13_changed_32 (by decide) (fun hc => ?_) (fun hc => ?_)
    · have hf := ift hc hf
      refine lv_iload_n hx hb dX13_changed_75 rfl (lv_at hl 1 rfl) ?_
      subst hQ
      exact mri hx hb hr hlocks hZ hT hS hW (pr1 hf) dX13_changed_76
    · have hf := iff_ hc hf
      refine lv_iload_n hx hb dX13_changed_35 rfl (lv_at hl 1 rfl) ?_
      refine lv_aload_n hx hb dX13_changed_36 rfl (lv_at hl 0 rfl) ?_
      refine gf_13_30 hx hb htg (htg _ lf_X13_329) hown hZ hW tz_64 dX13_changed_37 ?_
      refine lv_iload_n hx hb dX13_changed_40 rfl (lv_at hl 2 rfl) ?_
      refine mcip hf hS (fun r h => va_runS (As := [.int (σ_2.1 64 30), .int i_4]) (rest := [.int i_3]) ⟨hx, hb, hml, hown, hts⟩ (c_X13_hasBit g l 0 81 σ_2 (σ_2.1 64 30) i_4 r h) (cl_X13_307 hts ⟨Nat.le_of_ble_eq_true rfl, Nat.le_of_ble_eq_true rfl⟩) (mpS hZ hT hS hW _) rfl rfl hl.1 rfl (lv_room (Nat.le_of_ble_eq_true rfl)) dX13_changed_41 ⟨Nat.zero_le _, Nat.zero_le _⟩) (fun r_6 H locs hf hW hS => ?_)
      refine jn1_W (fun (i_7 : Int32) => ∀ (H : Heap) (locs : List Loc) (ls : Array Slot), Wd g 0 81 σ_2 H → va_S (Ag g 0) s.heap H locs → lv_has ls 3 [(0, .ref (bs g 64)), (2, .int i_4)] → W p l e (kr 4 94) s m (List.toArray [.ref (bs g 64)]) below meth c H locs 0 0 Q (F0 m 67 ls [.int i_7, .int i_3])) hf (fun i_7 hf => ?_) (fun k_8 hk_8 hf => ?_)
      · intro H locs ls hW hS hl
        refine lv_iadd hx hb dX13_changed_67 ?_
        refine mnmi hf (fun (x_9 : Int32) hf => ?_)
        refine lv_istore_n (lv' := [(1, .int x_9), (0, .ref (bs g 64)), (2, .int i_4)]) hx hb dX13_changed_68 rfl hl (by decide) rfl (fun ls hl => ?_)
        obtain ⟨x_10, e_11, hf⟩ := nm_s hf
        refine lv_iinc (v := x_10) (lv' := [(2, .int x_10), (1, .int x_9), (0, .ref (bs g 64))]) hx hb dX13_changed_69 hl (k := 2) rfl (by rw [e_11]; rfl) (by decide) rfl (fun ls hl => ?_)
        refine lv_goto (tgt := 25) hx hb dX13_changed_72 (by decide) ?_
        exact hk_5 x_9 x_10 hf H locs ls hW hS (lv_sub hl [2, 1, 0] rfl)
      · refine jn0_W (∀ (H : Heap) (locs : List Loc) (ls : Array Slot), Wd g 0 81 σ_2 H → va_S (Ag g 0) s.heap H locs → lv_has ls 3 [(0, .ref (bs g 64)), (2, .int i_4)] → W p l e (kr 4 94) s m (List.toArray [.ref (bs g 64)]) below meth c H locs 0 0 Q (F0 m 66 ls [.int i_3])) hf (fun  hf => ?_) (fun k_12 hk_12 hf => ?_)
        · intro H locs ls hW hS hl
          refine lv_iconst (v := 0) hx hb dX13_changed_66 (by decide) ?_
          exact hk_8 0 hf H locs ls hW hS (lv_sub hl [0, 1] rfl)
        · refine lv_if_eq (tgt := 66) hx hb dX13_changed_44 (by decide) (fun hc => ?_) (fun hc => ?_)
          · have hf := ift hc hf
            exact hk_12  hf H locs ls hW hS (lv_sub hl [0, 2] rfl)
          · have hf := iff_ hc hf
            refine lv_aload_n hx hb dX13_changed_47 rfl (lv_at hl 0 rfl) ?_
            refine gf_13_29 hx hb htg (htg _ lf_X13_53) hown hZ hW tz_64 dX13_changed_48 ?_
            refine lv_iload_n hx hb dX13_changed_51 rfl (lv_at hl 2 rfl) ?_
            refine mld_i hx hb hZ hW tz_78 hf dX13_changed_52 (fun hf => ?_)
            refine lv_aload_n hx hb dX13_changed_53 rfl (lv_at hl 0 rfl) ?_
            refine gf_13_27 hx hb htg (htg _ lf_X13_47) hown hZ hW tz_64 dX13_changed_54 ?_
            refine lv_iload_n hx hb dX13_changed_57 rfl (lv_at hl 2 rfl) ?_
            refine mld_i hx hb hZ hW tz_76 hf dX13_changed_58 (fun hf => ?_)
            refine lv_icmp_eq (tgt := 66) hx hb dX13_changed_59 (by decide) (fun hc => ?_) (fun hc => ?_)
            · have hf := ift hc hf
              exact hk_12  hf H locs ls hW hS (lv_sub hl [0, 2] rfl)
            · have hf := iff_ hc hf
              refine lv_iconst (v := 1) hx hb dX13_changed_62 (by decide) ?_
              refine lv_goto (tgt := 67) hx hb dX13_changed_63 (by decide) ?_
              exact hk_8 1 hf H locs ls hW hS (lv_sub hl [0, 2] rfl)
  · have hf := ift hc hf
    refine lv_aload_n hx hb dX13_changed_11 rfl (lv_at hl 0 rfl) ?_
    refine lv_iconst (v := 1) hx hb dX13_changed_12 (by decide) ?_
    refine mci hf hS (fun r τ h => va_runV (As := [.int 1]) (rest := []) ⟨hx, hb, hml, hown, hts⟩ (c_X13_no g l σ_1 1 r τ h) (cl_X13_169 hts ⟨Nat.le_of_ble_eq_true rfl, Nat.le_of_ble_eq_true rfl⟩) (mpV_13 hZ hT hS hW tz_64 _) rfl rfl hl.1 rfl (lv_room (Nat.le_of_ble_eq_true rfl)) dX13_changed_13 ⟨Nat.zero_le _, Nat.zero_le _⟩) (fun r_13 σ_14 H locs hf hW hS => ?_)
    subst hQ
    exact mri hx hb hr hlocks hZ hT hS hW (pr1 hf) dX13_changed_16
def f_X13_oddsOf (σ : Mem) (a1 : Int32) (a2 : Int32) : Option (Int32) :=
  ixd ((100 + (5 * a1)) + a2) (aln 67) (some ((σ.1 67 ((100 + (5 * a1)) + a2).toNatClampNeg) - 1))
set_option maxHeartbeats 4000000 in
set_option maxRecDepth 100000 in
theorem c_X13_oddsOf (g : XG) (l : Launch) (σ : Mem) (a1 : Int32) (a2 : Int32) (r : Int32) (hf : f_X13_oddsOf σ a1 a2 = some r) : Met l yX13_oddsOf (wx (.code yX13_oddsOf cX13_oddsOf 3 (some .int))) (kr 0 0) (va_Pc [.ref (bs g 64), .int a1, .int a2] (WS g 0 81 σ)) (Qi' g 0 81 r σ) 0 0 (Ag g 0) := by
  refine Met.ofW (cc := cX13_oddsOf) (maxL := 3) (ret := (some .int)) (by decide) rfl ?_
  intro p e s m args below meth c s₁ B hml hv
  obtain ⟨rfl, hZ, hT, hW⟩ := hv
  have hx := B.exec
  have hb := B.bytes
  have hr := B.returns
  have hts : ∀ w ∈ wx (.code yX13_oddsOf cX13_oddsOf 3 (some .int)), w.before _ s = true := atoms_spec B.pre
  have htg : ∀ w ∈ lwg, w.before _ s = true := fun w h => hts w (List.mem_cons_of_mem _ h)
  have hown : s.vm.findClass RX13 = some m.cls := findClass_of_methodNamed B.named
  have hlocks := B.notSynchronized
  change W p l e (kr 0 0) s m (List.toArray [.ref (bs g 64), .int a1, .int a2]) below meth c s.heap [] 0 0 (MQ below (Qi' g 0 81 r σ) (List.toArray [.ref (bs g 64), .int a1, .int a2]) s 0 0 (Ag g 0)) _
  generalize hQ : MQ below (Qi' g 0 81 r σ) (List.toArray [.ref (bs g 64), .int a1, .int a2]) s 0 0 (Ag g 0) = Q
  have hS : va_S (Ag g 0) s.heap s.heap [] := va_S.rf
  have hl := lv_entry ([.ref (bs g 64), .int a1, .int a2]) (n := 3) (Nat.le_of_ble_eq_true rfl)
  rw [lg_entry_eq]
  generalize (lg_sl ([.ref (bs g 64), .int a1, .int a2]) ++ List.replicate (3 - (lg_sl ([.ref (bs g 64), .int a1, .int a2])).length) Slot.unset).toArray = ls at hl ⊢
  have hl : lv_has ls 3 [(0, .ref (bs g 64)), (1, .int a1), (2, .int a2)] := hl
  delta f_X13_oddsOf at hf
  obtain ⟨H, hH⟩ : ∃ H, H = s.heap := ⟨_, rfl⟩
  obtain ⟨locs, hLc⟩ : ∃ z : List Loc, z = [] := ⟨_, rfl⟩
  have hS : va_S (Ag g 0) s.heap H locs := by rw [hH, hLc]; exact hS
  have hW : Wd g 0 81 σ H := by rw [hH]; exact hW
  suffices hG : W p l e (kr 0 0) s m (List.toArray [.ref (bs g 64), .int a1, .int a2]) below meth c H locs 0 0 Q (F0 m 0 ls []) by rw [hH, hLc] at hG; exact hG
  clear hH hLc
  refine lv_aload_n hx hb dX13_oddsOf_0 rfl (lv_at hl 0 rfl) ?_
  refine gf_13_15 hx hb htg (htg _ lf_X13_20) hown hZ hW tz_64 dX13_oddsOf_1 ?_
  refine lv_bipush (v := 100) hx hb dX13_oddsOf_4 (by decide) ?_
  refine lv_iconst (v := 5) hx hb dX13_oddsOf_6 (by decide) ?_
  refine lv_iload_n hx hb dX13_oddsOf_7 rfl (lv_at hl 1 rfl) ?_
  refine lv_imul hx hb dX13_oddsOf_8 ?_
  refine lv_iadd hx hb dX13_oddsOf_9 ?_
  refine lv_iload_n hx hb dX13_oddsOf_10 rfl (lv_at hl 2 rfl) ?_
  refine lv_iadd hx hb dX13_oddsOf_11 ?_
  refine mld_i hx hb hZ hW tz_67 hf dX13_oddsOf_12 (fun hf => ?_)
  refine lv_iconst (v := 1) hx hb dX13_oddsOf_13 (by decide) ?_
  refine lv_isub hx hb dX13_oddsOf_14 ?_
  subst hQ
  exact mri hx hb hr hlocks hZ hT hS hW ⟨Option.some.inj hf, rfl⟩ dX13_oddsOf_15
def f_X13_truthOf (σ : Mem) (a1 : Int32) (a2 : Int32) : Option (Int64) :=
  fx2 FU (fun k_3 (j_1 : Int64) (i_2 : Int32) => ixd 4 (aln 67) ((if (1 <<< ((σ.1 67 (4 : Int32).toNatClampNeg) &&& 31)) ≤ i_2 then some j_1 else jn1 (fun (j_4 : Int64) => nm (i_2 + 1) (fun (x_6 : Int32) => k_3 j_4 x_6)) (fun k_5 => (if (i_2 &&& (a2 ^^^ (-1))) = 0 then bd1 (f_X13_ones i_2) (fun (r_8 : Int32) => bd1 (f_X13_ones a2) (fun (r_9 : Int32) => (if r_9 < (2 * r_8) then fx2 FU (fun k_12 (j_10 : Int64) (i_11 : Int32) => ixd 4 (aln 67) ((if (σ.1 67 (4 : Int32).toNatClampNeg) ≤ i_11 then nm (j_1 + j_10) (fun (x_13 : Int64) => k_5 x_13) else bd1 (f_X13_hasBit a2 i_11) (fun (r_14 : Int32) => jn1 (fun (j_15 : Int64) => nm (i_11 + 1) (fun (x_17 : Int32) => k_12 j_15 x_17)) (fun k_16 => (if r_14 = 0 then k_16 j_10 else bd1 (f_X13_hasBit i_2 i_11) (fun (r_19 : Int32) => jn1 (fun (j_20 : Int64) => nm (j_10 * j_20) (fun (x_22 : Int64) => k_16 x_22)) (fun k_21 => (if r_19 = 0 then bd1 (f_X13_oddsOf σ a1 i_11) (fun (r_23 : Int32) => k_21 ((100 - r_23).toInt64)) else bd1 (f_X13_oddsOf σ a1 i_11) (fun (r_24 : Int32) => k_21 (r_24.toInt64))))))))))) 1 0 else k_5 j_1))) else k_5 j_1))))) 0 0
set_option maxHeartbeats 4000000 in
set_option maxRecDepth 100000 in
theorem c_X13_truthOf (g : XG) (l : Launch) (σ : Mem) (a1 : Int32) (a2 : Int32) (r : Int64) (hf : f_X13_truthOf σ a1 a2 = some r) : Met l yX13_truthOf (wx (.code yX13_truthOf cX13_truthOf 9 (some .long))) (kr 1 22) (va_Pc [.ref (bs g 64), .int a1, .int a2] (WS g 0 81 σ)) (Ql' g 0 81 r σ) 0 0 (Ag g 0) := by
  refine Met.ofW (cc := cX13_truthOf) (maxL := 9) (ret := (some .long)) (by decide) rfl ?_
  intro p e s m args below meth c s₁ B hml hv
  obtain ⟨rfl, hZ, hT, hW⟩ := hv
  have hx := B.exec
  have hb := B.bytes
  have hr := B.returns
  have hts : ∀ w ∈ wx (.code yX13_truthOf cX13_truthOf 9 (some .long)), w.before _ s = true := atoms_spec B.pre
  have htg : ∀ w ∈ lwg, w.before _ s = true := fun w h => hts w (List.mem_cons_of_mem _ h)
  have hown : s.vm.findClass RX13 = some m.cls := findClass_of_methodNamed B.named
  have hlocks := B.notSynchronized
  change W p l e (kr 1 22) s m (List.toArray [.ref (bs g 64), .int a1, .int a2]) below meth c s.heap [] 0 0 (MQ below (Ql' g 0 81 r σ) (List.toArray [.ref (bs g 64), .int a1, .int a2]) s 0 0 (Ag g 0)) _
  generalize hQ : MQ below (Ql' g 0 81 r σ) (List.toArray [.ref (bs g 64), .int a1, .int a2]) s 0 0 (Ag g 0) = Q
  have hS : va_S (Ag g 0) s.heap s.heap [] := va_S.rf
  have hl := lv_entry ([.ref (bs g 64), .int a1, .int a2]) (n := 9) (Nat.le_of_ble_eq_true rfl)
  rw [lg_entry_eq]
  generalize (lg_sl ([.ref (bs g 64), .int a1, .int a2]) ++ List.replicate (9 - (lg_sl ([.ref (bs g 64), .int a1, .int a2])).length) Slot.unset).toArray = ls at hl ⊢
  have hl : lv_has ls 9 [(0, .ref (bs g 64)), (1, .int a1), (2, .int a2)] := hl
  delta f_X13_truthOf at hf
  obtain ⟨H, hH⟩ : ∃ H, H = s.heap := ⟨_, rfl⟩
  obtain ⟨locs, hLc⟩ : ∃ z : List Loc, z = [] := ⟨_, rfl⟩
  have hS : va_S (Ag g 0) s.heap H locs := by rw [hH, hLc]; exact hS
  have hW : Wd g 0 81 σ H := by rw [hH]; exact hW
  suffices hG : W p l e (kr 1 22) s m (List.toArray [.ref (bs g 64), .int a1, .int a2]) below meth c H locs 0 0 Q (F0 m 0 ls []) by rw [hH, hLc] at hG; exact hG
  clear hH hLc
  refine lv_lconst (v := 0) hx hb dX13_truthOf_0 (by decide) ?_
  refine lv_lstore_n (lv' := [(3, .long 0), (0, .ref (bs g 64)), (1, .int a1), (2, .int a2)]) hx hb dX13_truthOf_1 rfl hl (by decide) rfl (fun ls hl => ?_)
  refine lv_iconst (v := 0) hx hb dX13_truthOf_2 (by decide) ?_
  refine lv_istore (lv' := [(5, .int 0), (3, .long 0), (0, .ref (bs g 64)), (1, .int a1), (2, .int a2)]) hx hb dX13_truthOf_3 hl (by decide) rfl (fun ls hl => ?_)
  refine fx2_W (fun (j_1 : Int64) (i_2 : Int32) => ∀ (H : Heap) (locs : List Loc) (ls : Array Slot), Wd g 0 81 σ H → va_S (Ag g 0) s.heap H locs → lv_has ls 9 [(0, .ref (bs g 64)), (1, .int a1), (2, .int a2), (3, .long j_1), (5, .int i_2)] → W p l e (kr 1 22) s m (List.toArray [.ref (bs g 64), .int a1, .int a2]) below meth c H locs 0 0 Q (F0 m 5 ls [])) (fun k_3 hk_3 j_1 i_2 hf => ?_) FU 0 0 hf H locs ls hW hS (lv_sub hl [2, 3, 4, 1, 0] rfl)
  intro H locs ls hW hS hl
  refine lv_iload hx hb dX13_truthOf_5 (lv_at hl 4 rfl) ?_
  refine lv_iconst (v := 1) hx hb dX13_truthOf_7 (by decide) ?_
  refine lv_aload_n hx hb dX13_truthOf_8 rfl (lv_at hl 0 rfl) ?_
  refine gf_13_15 hx hb htg (htg _ lf_X13_20) hown hZ hW tz_64 dX13_truthOf_9 ?_
  refine lv_iconst (v := 4) hx hb dX13_truthOf_12 (by decide) ?_
  refine mld_i hx hb hZ hW tz_67 hf dX13_truthOf_13 (fun hf => ?_)
  refine lv_ishl hx hb dX13_truthOf_14 ?_
  refine lv_icmp_ge (tgt := 124) hx hb dX13_truthOf_15 (by decide) (fun hc => ?_) (fun hc => ?_)
  · have hf := ift hc hf
    refine lv_lload_n hx hb dX13_truthOf_124 rfl (lv_at hl 3 rfl) ?_
    subst hQ
    exact mrl hx hb hr hlocks hZ hT hS hW ⟨Option.some.inj hf, rfl⟩ dX13_truthOf_125
  · have hf := iff_ hc hf
    refine lv_iload hx hb dX13_truthOf_18 (lv_at hl 4 rfl) ?_
    refine lv_iload_n hx hb dX13_truthOf_20 rfl (lv_at hl 2 rfl) ?_
    refine lv_iconst (v := (-1)) hx hb dX13_truthOf_21 (by decide) ?_
    refine lv_ixor hx hb dX13_truthOf_22 ?_
    refine lv_iand hx hb dX13_truthOf_23 ?_
    refine jn1_W (fun (j_4 : Int64) => ∀ (H : Heap) (locs : List Loc) (ls : Array Slot), Wd g 0 81 σ H → va_S (Ag g 0) s.heap H locs → lv_has ls 9 [(0, .ref (bs g 64)), (1, .int a1), (2, .int a2), (3, .long j_4), (5, .int i_2)] → W p l e (kr 1 22) s m (List.toArray [.ref (bs g 64), .int a1, .int a2]) below meth c H locs 0 0 Q (F0 m 118 ls [])) hf (fun j_4 hf => ?_) (fun k_5 hk_5 hf => ?_)
    · intro H locs ls hW hS hl
      obtain ⟨x_6, e_7, hf⟩ := nm_s hf
      refine lv_iinc (v := x_6) (lv' := [(5, .int x_6), (0, .ref (bs g 64)), (1, .int a1), (2, .int a2), (3, .long j_4)]) hx hb dX13_truthOf_118 hl (k := 4) rfl (by rw [e_7]; rfl) (by decide) rfl (fun ls hl => ?_)
      refine lv_goto (tgt := 5) hx hb dX13_truthOf_121 (by decide) ?_
      exact hk_3 j_4 x_6 hf H locs ls hW hS (lv_sub hl [1, 2, 3, 4, 0] rfl)
    · refine lv_if_ne (tgt := 118) hx hb dX13_truthOf_24 (by decide) (fun hc => ?_) (fun hc => ?_)
      · have hf := iff_ hc hf
        exact hk_5 j_1 hf H locs ls hW hS (lv_sub hl [0, 1, 2, 3, 4] rfl)
      · have hf := ift hc hf
        refine lv_iconst (v := 2) hx hb dX13_truthOf_27 (by decide) ?_
        refine lv_iload hx hb dX13_truthOf_28 (lv_at hl 4 rfl) ?_
        refine mcip hf hS (fun r h => va_runS (As := [.int i_2]) (rest := [.int 2]) ⟨hx, hb, hml, hown, hts⟩ (c_X13_ones g l 0 81 σ i_2 r h) (cl_X13_298 hts ⟨Nat.le_of_ble_eq_true rfl, Nat.le_of_ble_eq_true rfl⟩) (mpS hZ hT hS hW _) rfl rfl hl.1 rfl (lv_room (Nat.le_of_ble_eq_true rfl)) dX13_truthOf_30 ⟨Nat.zero_le _, Nat.zero_le _⟩) (fun r_8 H locs hf hW hS => ?_)
        refine lv_imul hx hb dX13_truthOf_33 ?_
        refine lv_iload_n hx hb dX13_truthOf_34 rfl (lv_at hl 2 rfl) ?_
        refine mcip hf hS (fun r h => va_runS (As := [.int a2]) (rest := [.int (2 * r_8)]) ⟨hx, hb, hml, hown, hts⟩ (c_X13_ones g l 0 81 σ a2 r h) (cl_X13_298 hts ⟨Nat.le_of_ble_eq_true rfl, Nat.le_of_ble_eq_true rfl⟩) (mpS hZ hT hS hW _) rfl rfl hl.1 rfl (lv_room (Nat.le_of_ble_eq_true rfl)) dX13_truthOf_35 ⟨Nat.zero_le _, Nat.zero_le _⟩) (fun r_9 H locs hf hW hS => ?_)
        refine lv_icmp_gt (tgt := 44) hx hb dX13_truthOf_38 (by decide) (fun hc => ?_) (fun hc => ?_)
        · have hf := ift hc hf
          refine lv_lconst (v := 1) hx hb dX13_truthOf_44 (by decide) ?_
          refine lv_lstore (lv' := [(6, .long 1), (0, .ref (bs g 64)), (1, .int a1), (2, .int a2), (3, .long j_1), (5, .int i_2)]) hx hb dX13_truthOf_45 hl (by decide) rfl (fun ls hl => ?_)
          refine lv_iconst (v := 0) hx hb dX13_truthOf_47 (by decide) ?_
          refine lv_istore (lv' := [(8, .int 0), (6, .long 1), (0, .ref (bs g 64)), (1, .int a1), (2, .int a2), (3, .long j_1), (5, .int i_2)]) hx hb dX13_truthOf_48 hl (by decide) rfl (fun ls hl => ?_)
          refine fx2_W (fun (j_10 : Int64) (i_11 : Int32) => ∀ (H : Heap) (locs : List Loc) (ls : Array Slot), Wd g 0 81 σ H → va_S (Ag g 0) s.heap H locs → lv_has ls 9 [(0, .ref (bs g 64)), (1, .int a1), (2, .int a2), (3, .long j_1), (5, .int i_2), (6, .long j_10), (8, .int i_11)] → W p l e (kr 1 22) s m (List.toArray [.ref (bs g 64), .int a1, .int a2]) below meth c H locs 0 0 Q (F0 m 50 ls [])) (fun k_12 hk_12 j_10 i_11 hf => ?_) FU 1 0 hf H locs ls hW hS (lv_sub hl [2, 3, 4, 5, 6, 1, 0] rfl)
          intro H locs ls hW hS hl
          refine lv_iload hx hb dX13_truthOf_50 (lv_at hl 6 rfl) ?_
          refine lv_aload_n hx hb dX13_truthOf_52 rfl (lv_at hl 0 rfl) ?_
          refine gf_13_15 hx hb htg (htg _ lf_X13_20) hown hZ hW tz_64 dX13_truthOf_53 ?_
          refine lv_iconst (v := 4) hx hb dX13_truthOf_56 (by decide) ?_
          refine mld_i hx hb hZ hW tz_67 hf dX13_truthOf_57 (fun hf => ?_)
          refine lv_icmp_ge (tgt := 113) hx hb dX13_truthOf_58 (by decide) (fun hc => ?_) (fun hc => ?_)
          · have hf := ift hc hf
            refine lv_lload_n hx hb dX13_truthOf_113 rfl (lv_at hl 3 rfl) ?_
            refine lv_lload hx hb dX13_truthOf_114 (lv_at hl 5 rfl) ?_
            refine lv_ladd hx hb dX13_truthOf_116 ?_
            refine mnml hf (fun (x_13 : Int64) hf => ?_)
            refine lv_lstore_n (lv' := [(3, .long x_13), (0, .ref (bs g 64)), (1, .int a1), (2, .int a2), (5, .int i_2), (6, .long j_10), (8, .int i_11)]) hx hb dX13_truthOf_117 rfl hl (by decide) rfl (fun ls hl => ?_)
            exact hk_5 x_13 hf H locs ls hW hS (lv_sub hl [1, 2, 3, 0, 4] rfl)
          · have hf := iff_ hc hf
            refine lv_iload_n hx hb dX13_truthOf_61 rfl (lv_at hl 2 rfl) ?_
            refine lv_iload hx hb dX13_truthOf_62 (lv_at hl 6 rfl) ?_
            refine mcip hf hS (fun r h => va_runS (As := [.int a2, .int i_11]) (rest := []) ⟨hx, hb, hml, hown, hts⟩ (c_X13_hasBit g l 0 81 σ a2 i_11 r h) (cl_X13_307 hts ⟨Nat.le_of_ble_eq_true rfl, Nat.le_of_ble_eq_true rfl⟩) (mpS hZ hT hS hW _) rfl rfl hl.1 rfl (lv_room (Nat.le_of_ble_eq_true rfl)) dX13_truthOf_64 ⟨Nat.zero_le _, Nat.zero_le _⟩) (fun r_14 H locs hf hW hS => ?_)
            refine jn1_W (fun (j_15 : Int64) => ∀ (H : Heap) (locs : List Loc) (ls : Array Slot), Wd g 0 81 σ H → va_S (Ag g 0) s.heap H locs → lv_has ls 9 [(0, .ref (bs g 64)), (1, .int a1), (2, .int a2), (3, .long j_1), (5, .int i_2), (6, .long j_15), (8, .int i_11)] → W p l e (kr 1 22) s m (List.toArray [.ref (bs g 64), .int a1, .int a2]) below meth c H locs 0 0 Q (F0 m 107 ls [])) hf (fun j_15 hf => ?_) (fun k_16 hk_16 hf => ?_)
            · intro H locs ls hW hS hl
              obtain ⟨x_17, e_18, hf⟩ := nm_s hf
              refine lv_iinc (v := x_17) (lv' := [(8, .int x_17), (0, .ref (bs g 64)), (1, .int a1), (2, .int a2), (3, .long j_1), (5, .int i_2), (6, .long j_15)]) hx hb dX13_truthOf_107 hl (k := 6) rfl (by rw [e_18]; rfl) (by decide) rfl (fun ls hl => ?_)
              refine lv_goto (tgt := 50) hx hb dX13_truthOf_110 (by decide) ?_
              exact hk_12 j_15 x_17 hf H locs ls hW hS (lv_sub hl [1, 2, 3, 4, 5, 6, 0] rfl)
            · refine lv_if_eq (tgt := 107) hx hb dX13_truthOf_67 (by decide) (fun hc => ?_) (fun hc => ?_)
              · have hf := ift hc hf
                exact hk_16 j_10 hf H locs ls hW hS (lv_sub hl [0, 1, 2, 3, 4, 5, 6] rfl)
              · have hf := iff_ hc hf
                refine lv_lload hx hb dX13_truthOf_70 (lv_at hl 5 rfl) ?_
                refine lv_iload hx hb dX13_truthOf_72 (lv_at hl 4 rfl) ?_
                refine lv_iload hx hb dX13_truthOf_74 (lv_at hl 6 rfl) ?_
                refine mcip hf hS (fun r h => va_runS (As := [.int i_2, .int i_11]) (rest := [.long j_10]) ⟨hx, hb, hml, hown, hts⟩ (c_X13_hasBit g l 0 81 σ i_2 i_11 r h) (cl_X13_307 hts ⟨Nat.le_of_ble_eq_true rfl, Nat.le_of_ble_eq_true rfl⟩) (mpS hZ hT hS hW _) rfl rfl hl.1 rfl (lv_room (Nat.le_of_ble_eq_true rfl)) dX13_truthOf_76 ⟨Nat.zero_le _, Nat.zero_le _⟩) (fun r_19 H locs hf hW hS => ?_)
                refine jn1_W (fun (j_20 : Int64) => ∀ (H : Heap) (locs : List Loc) (ls : Array Slot), Wd g 0 81 σ H → va_S (Ag g 0) s.heap H locs → lv_has ls 9 [(0, .ref (bs g 64)), (1, .int a1), (2, .int a2), (3, .long j_1), (5, .int i_2), (8, .int i_11)] → W p l e (kr 1 22) s m (List.toArray [.ref (bs g 64), .int a1, .int a2]) below meth c H locs 0 0 Q (F0 m 104 ls [.long j_20, .long j_10])) hf (fun j_20 hf => ?_) (fun k_21 hk_21 hf => ?_)
                · intro H locs ls hW hS hl
                  refine lv_lmul hx hb dX13_truthOf_104 ?_
                  refine mnml hf (fun (x_22 : Int64) hf => ?_)
                  refine lv_lstore (lv' := [(6, .long x_22), (0, .ref (bs g 64)), (1, .int a1), (2, .int a2), (3, .long j_1), (5, .int i_2), (8, .int i_11)]) hx hb dX13_truthOf_105 hl (by decide) rfl (fun ls hl => ?_)
                  exact hk_16 x_22 hf H locs ls hW hS (lv_sub hl [1, 2, 3, 4, 5, 0, 6] rfl)
                · refine lv_if_eq (tgt := 93) hx hb dX13_truthOf_79 (by decide) (fun hc => ?_) (fun hc => ?_)
                  · have hf := ift hc hf
                    refine lv_bipush (v := 100) hx hb dX13_truthOf_93 (by decide) ?_
                    refine lv_aload_n hx hb dX13_truthOf_95 rfl (lv_at hl 0 rfl) ?_
                    refine lv_iload_n hx hb dX13_truthOf_96 rfl (lv_at hl 1 rfl) ?_
                    refine lv_iload hx hb dX13_truthOf_97 (lv_at hl 6 rfl) ?_
                    refine mcip hf hS (fun r h => va_runV (As := [.int a1, .int i_11]) (rest := [.int 100, .long j_10]) ⟨hx, hb, hml, hown, hts⟩ (c_X13_oddsOf g l σ a1 i_11 r h) (cl_X13_344 hts ⟨Nat.le_of_ble_eq_true rfl, Nat.le_of_ble_eq_true rfl⟩) (mpV_13 hZ hT hS hW tz_64 _) rfl rfl hl.1 rfl (lv_room (Nat.le_of_ble_eq_true rfl)) dX13_truthOf_99 ⟨Nat.zero_le _, Nat.zero_le _⟩) (fun r_23 H locs hf hW hS => ?_)
                    refine lv_isub hx hb dX13_truthOf_102 ?_
                    refine lv_i2l (v := (100 - r_23).toInt64) hx hb dX13_truthOf_103 rfl ?_
                    exact hk_21 ((100 - r_23).toInt64) hf H locs ls hW hS (lv_sub hl [0, 1, 2, 3, 4, 6] rfl)
                  · have hf := iff_ hc hf
                    refine lv_aload_n hx hb dX13_truthOf_82 rfl (lv_at hl 0 rfl) ?_
                    refine lv_iload_n hx hb dX13_truthOf_83 rfl (lv_at hl 1 rfl) ?_
                    refine lv_iload hx hb dX13_truthOf_84 (lv_at hl 6 rfl) ?_
                    refine mcip hf hS (fun r h => va_runV (As := [.int a1, .int i_11]) (rest := [.long j_10]) ⟨hx, hb, hml, hown, hts⟩ (c_X13_oddsOf g l σ a1 i_11 r h) (cl_X13_344 hts ⟨Nat.le_of_ble_eq_true rfl, Nat.le_of_ble_eq_true rfl⟩) (mpV_13 hZ hT hS hW tz_64 _) rfl rfl hl.1 rfl (lv_room (Nat.le_of_ble_eq_true rfl)) dX13_truthOf_86 ⟨Nat.zero_le _, Nat.zero_le _⟩) (fun r_24 H locs hf hW hS => ?_)
                    refine lv_i2l (v := r_24.toInt64) hx hb dX13_truthOf_89 rfl ?_
                    refine lv_goto (tgt := 104) hx hb dX13_truthOf_90 (by decide) ?_
                    exact hk_21 (r_24.toInt64) hf H locs ls hW hS (lv_sub hl [0, 1, 2, 3, 4, 6] rfl)
        · have hf := iff_ hc hf
          refine lv_goto (tgt := 118) hx hb dX13_truthOf_41 (by decide) ?_
          exact hk_5 j_1 hf H locs ls hW hS (lv_sub hl [0, 1, 2, 3, 4] rfl)
def f_X13_hundreds (a0 : Int32) : Option (Int64) :=
  fx2 FU (fun k_3 (j_1 : Int64) (i_2 : Int32) => (if a0 ≤ i_2 then some j_1 else nm (j_1 * 100) (fun (x_4 : Int64) => nm (i_2 + 1) (fun (x_5 : Int32) => k_3 x_4 x_5)))) 1 0
set_option maxHeartbeats 4000000 in
set_option maxRecDepth 100000 in
theorem c_X13_hundreds (g : XG) (l : Launch) (lo n : Nat) (σ : Mem) (a0 : Int32) (r : Int64) (hf : f_X13_hundreds a0 = some r) : Met l yX13_hundreds (wx (.code yX13_hundreds cX13_hundreds 4 (some .long))) (kr 0 0) (va_Pc [.int a0] (WS g lo n σ)) (Ql' g lo n r σ) 0 0 (Ag g lo) := by
  refine Met.ofW (cc := cX13_hundreds) (maxL := 4) (ret := (some .long)) (by decide) rfl ?_
  intro p e s m args below meth c s₁ B hml hv
  obtain ⟨rfl, hZ, hT, hW⟩ := hv
  have hx := B.exec
  have hb := B.bytes
  have hr := B.returns
  have hts : ∀ w ∈ wx (.code yX13_hundreds cX13_hundreds 4 (some .long)), w.before _ s = true := atoms_spec B.pre
  have htg : ∀ w ∈ lwg, w.before _ s = true := fun w h => hts w (List.mem_cons_of_mem _ h)
  have hown : s.vm.findClass RX13 = some m.cls := findClass_of_methodNamed B.named
  have hlocks := B.notSynchronized
  change W p l e (kr 0 0) s m (List.toArray [.int a0]) below meth c s.heap [] 0 0 (MQ below (Ql' g lo n r σ) (List.toArray [.int a0]) s 0 0 (Ag g lo)) _
  generalize hQ : MQ below (Ql' g lo n r σ) (List.toArray [.int a0]) s 0 0 (Ag g lo) = Q
  have hS : va_S (Ag g lo) s.heap s.heap [] := va_S.rf
  have hl := lv_entry ([.int a0]) (n := 4) (Nat.le_of_ble_eq_true rfl)
  rw [lg_entry_eq]
  generalize (lg_sl ([.int a0]) ++ List.replicate (4 - (lg_sl ([.int a0])).length) Slot.unset).toArray = ls at hl ⊢
  have hl : lv_has ls 4 [(0, .int a0)] := hl
  delta f_X13_hundreds at hf
  obtain ⟨H, hH⟩ : ∃ H, H = s.heap := ⟨_, rfl⟩
  obtain ⟨locs, hLc⟩ : ∃ z : List Loc, z = [] := ⟨_, rfl⟩
  have hS : va_S (Ag g lo) s.heap H locs := by rw [hH, hLc]; exact hS
  have hW : Wd g lo n σ H := by rw [hH]; exact hW
  suffices hG : W p l e (kr 0 0) s m (List.toArray [.int a0]) below meth c H locs 0 0 Q (F0 m 0 ls []) by rw [hH, hLc] at hG; exact hG
  clear hH hLc
  refine lv_lconst (v := 1) hx hb dX13_hundreds_0 (by decide) ?_
  refine lv_lstore_n (lv' := [(1, .long 1), (0, .int a0)]) hx hb dX13_hundreds_1 rfl hl (by decide) rfl (fun ls hl => ?_)
  refine lv_iconst (v := 0) hx hb dX13_hundreds_2 (by decide) ?_
  refine lv_istore_n (lv' := [(3, .int 0), (1, .long 1), (0, .int a0)]) hx hb dX13_hundreds_3 rfl hl (by decide) rfl (fun ls hl => ?_)
  refine fx2_W (fun (j_1 : Int64) (i_2 : Int32) => ∀ (H : Heap) (locs : List Loc) (ls : Array Slot), Wd g lo n σ H → va_S (Ag g lo) s.heap H locs → lv_has ls 4 [(0, .int a0), (1, .long j_1), (3, .int i_2)] → W p l e (kr 0 0) s m (List.toArray [.int a0]) below meth c H locs 0 0 Q (F0 m 4 ls [])) (fun k_3 hk_3 j_1 i_2 hf => ?_) FU 1 0 hf H locs ls hW hS (lv_sub hl [2, 1, 0] rfl)
  intro H locs ls hW hS hl
  refine lv_iload_n hx hb dX13_hundreds_4 rfl (lv_at hl 2 rfl) ?_
  refine lv_iload_n hx hb dX13_hundreds_5 rfl (lv_at hl 0 rfl) ?_
  refine lv_icmp_ge (tgt := 21) hx hb dX13_hundreds_6 (by decide) (fun hc => ?_) (fun hc => ?_)
  · have hf := ift hc hf
    refine lv_lload_n hx hb dX13_hundreds_21 rfl (lv_at hl 1 rfl) ?_
    subst hQ
    exact mrl hx hb hr hlocks hZ hT hS hW ⟨Option.some.inj hf, rfl⟩ dX13_hundreds_22
  · have hf := iff_ hc hf
    refine lv_lload_n hx hb dX13_hundreds_9 rfl (lv_at hl 1 rfl) ?_
    refine lv_ldc2 (v := 100) hx hb hown (htg _ lk_X13_347) dX13_hundreds_10 ?_
    refine lv_lmul hx hb dX13_hundreds_13 ?_
    refine mnml hf (fun (x_4 : Int64) hf => ?_)
    refine lv_lstore_n (lv' := [(1, .long x_4), (0, .int a0), (3, .int i_2)]) hx hb dX13_hundreds_14 rfl hl (by decide) rfl (fun ls hl => ?_)
    obtain ⟨x_5, e_6, hf⟩ := nm_s hf
    refine lv_iinc (v := x_5) (lv' := [(3, .int x_5), (1, .long x_4), (0, .int a0)]) hx hb dX13_hundreds_15 hl (k := 2) rfl (by rw [e_6]; rfl) (by decide) rfl (fun ls hl => ?_)
    refine lv_goto (tgt := 4) hx hb dX13_hundreds_18 (by decide) ?_
    exact hk_3 x_4 x_5 hf H locs ls hW hS (lv_sub hl [2, 1, 0] rfl)
def f_X13_askedBy (σ : Mem) (a1 : Int32) : Option (Int32) :=
  fx2 FU (fun k_3 (i_1 : Int32) (i_2 : Int32) => ixd 4 (aln 67) ((if (σ.1 67 (4 : Int32).toNatClampNeg) ≤ i_2 then some i_1 else ixd ((100 + (5 * a1)) + i_2) (aln 67) (jn1 (fun (i_4 : Int32) => nm (i_1 ||| i_4) (fun (x_6 : Int32) => nm (i_2 + 1) (fun (x_7 : Int32) => k_3 x_6 x_7))) (fun k_5 => (if (σ.1 67 ((100 + (5 * a1)) + i_2).toNatClampNeg) ≤ 0 then k_5 0 else k_5 (1 <<< (i_2 &&& 31)))))))) 0 0
set_option maxHeartbeats 4000000 in
set_option maxRecDepth 100000 in
theorem c_X13_askedBy (g : XG) (l : Launch) (σ : Mem) (a1 : Int32) (r : Int32) (hf : f_X13_askedBy σ a1 = some r) : Met l yX13_askedBy (wx (.code yX13_askedBy cX13_askedBy 4 (some .int))) (kr 0 0) (va_Pc [.ref (bs g 64), .int a1] (WS g 0 81 σ)) (Qi' g 0 81 r σ) 0 0 (Ag g 0) := by
  refine Met.ofW (cc := cX13_askedBy) (maxL := 4) (ret := (some .int)) (by decide) rfl ?_
  intro p e s m args below meth c s₁ B hml hv
  obtain ⟨rfl, hZ, hT, hW⟩ := hv
  have hx := B.exec
  have hb := B.bytes
  have hr := B.returns
  have hts : ∀ w ∈ wx (.code yX13_askedBy cX13_askedBy 4 (some .int)), w.before _ s = true := atoms_spec B.pre
  have htg : ∀ w ∈ lwg, w.before _ s = true := fun w h => hts w (List.mem_cons_of_mem _ h)
  have hown : s.vm.findClass RX13 = some m.cls := findClass_of_methodNamed B.named
  have hlocks := B.notSynchronized
  change W p l e (kr 0 0) s m (List.toArray [.ref (bs g 64), .int a1]) below meth c s.heap [] 0 0 (MQ below (Qi' g 0 81 r σ) (List.toArray [.ref (bs g 64), .int a1]) s 0 0 (Ag g 0)) _
  generalize hQ : MQ below (Qi' g 0 81 r σ) (List.toArray [.ref (bs g 64), .int a1]) s 0 0 (Ag g 0) = Q
  have hS : va_S (Ag g 0) s.heap s.heap [] := va_S.rf
  have hl := lv_entry ([.ref (bs g 64), .int a1]) (n := 4) (Nat.le_of_ble_eq_true rfl)
  rw [lg_entry_eq]
  generalize (lg_sl ([.ref (bs g 64), .int a1]) ++ List.replicate (4 - (lg_sl ([.ref (bs g 64), .int a1])).length) Slot.unset).toArray = ls at hl ⊢
  have hl : lv_has ls 4 [(0, .ref (bs g 64)), (1, .int a1)] := hl
  delta f_X13_askedBy at hf
  obtain ⟨H, hH⟩ : ∃ H, H = s.heap := ⟨_, rfl⟩
  obtain ⟨locs, hLc⟩ : ∃ z : List Loc, z = [] := ⟨_, rfl⟩
  have hS : va_S (Ag g 0) s.heap H locs := by rw [hH, hLc]; exact hS
  have hW : Wd g 0 81 σ H := by rw [hH]; exact hW
  suffices hG : W p l e (kr 0 0) s m (List.toArray [.ref (bs g 64), .int a1]) below meth c H locs 0 0 Q (F0 m 0 ls []) by rw [hH, hLc] at hG; exact hG
  clear hH hLc
  refine lv_iconst (v := 0) hx hb dX13_askedBy_0 (by decide) ?_
  refine lv_istore_n (lv' := [(2, .int 0), (0, .ref (bs g 64)), (1, .int a1)]) hx hb dX13_askedBy_1 rfl hl (by decide) rfl (fun ls hl => ?_)
  refine lv_iconst (v := 0) hx hb dX13_askedBy_2 (by decide) ?_
  refine lv_istore_n (lv' := [(3, .int 0), (2, .int 0), (0, .ref (bs g 64)), (1, .int a1)]) hx hb dX13_askedBy_3 rfl hl (by decide) rfl (fun ls hl => ?_)
  refine fx2_W (fun (i_1 : Int32) (i_2 : Int32) => ∀ (H : Heap) (locs : List Loc) (ls : Array Slot), Wd g 0 81 σ H → va_S (Ag g 0) s.heap H locs → lv_has ls 4 [(0, .ref (bs g 64)), (1, .int a1), (2, .int i_1), (3, .int i_2)] → W p l e (kr 0 0) s m (List.toArray [.ref (bs g 64), .int a1]) below meth c H locs 0 0 Q (F0 m 4 ls [])) (fun k_3 hk_3 i_1 i_2 hf => ?_) FU 0 0 hf H locs ls hW hS (lv_sub hl [2, 3, 1, 0] rfl)
  intro H locs ls hW hS hl
  refine lv_iload_n hx hb dX13_askedBy_4 rfl (lv_at hl 3 rfl) ?_
  refine lv_aload_n hx hb dX13_askedBy_5 rfl (lv_at hl 0 rfl) ?_
  refine gf_13_15 hx hb htg (htg _ lf_X13_20) hown hZ hW tz_64 dX13_askedBy_6 ?_
  refine lv_iconst (v := 4) hx hb dX13_askedBy_9 (by decide) ?_
  refine mld_i hx hb hZ hW tz_67 hf dX13_askedBy_10 (fun hf => ?_)
  refine lv_icmp_ge (tgt := 46) hx hb dX13_askedBy_11 (by decide) (fun hc => ?_) (fun hc => ?_)
  · have hf := ift hc hf
    refine lv_iload_n hx hb dX13_askedBy_46 rfl (lv_at hl 2 rfl) ?_
    subst hQ
    exact mri hx hb hr hlocks hZ hT hS hW ⟨Option.some.inj hf, rfl⟩ dX13_askedBy_47
  · have hf := iff_ hc hf
    refine lv_iload_n hx hb dX13_askedBy_14 rfl (lv_at hl 2 rfl) ?_
    refine lv_aload_n hx hb dX13_askedBy_15 rfl (lv_at hl 0 rfl) ?_
    refine gf_13_15 hx hb htg (htg _ lf_X13_20) hown hZ hW tz_64 dX13_askedBy_16 ?_
    refine lv_bipush (v := 100) hx hb dX13_askedBy_19 (by decide) ?_
    refine lv_iconst (v := 5) hx hb dX13_askedBy_21 (by decide) ?_
    refine lv_iload_n hx hb dX13_askedBy_22 rfl (lv_at hl 1 rfl) ?_
    refine lv_imul hx hb dX13_askedBy_23 ?_
    refine lv_iadd hx hb dX13_askedBy_24 ?_
    refine lv_iload_n hx hb dX13_askedBy_25 rfl (lv_at hl 3 rfl) ?_
    refine lv_iadd hx hb dX13_askedBy_26 ?_
    refine mld_i hx hb hZ hW tz_67 hf dX13_askedBy_27 (fun hf => ?_)
    refine jn1_W (fun (i_4 : Int32) => ∀ (H : Heap) (locs : List Loc) (ls : Array Slot), Wd g 0 81 σ H → va_S (Ag g 0) s.heap H locs → lv_has ls 4 [(0, .ref (bs g 64)), (1, .int a1), (3, .int i_2)] → W p l e (kr 0 0) s m (List.toArray [.ref (bs g 64), .int a1]) below meth c H locs 0 0 Q (F0 m 38 ls [.int i_4, .int i_1])) hf (fun i_4 hf => ?_) (fun k_5 hk_5 hf => ?_)
    · intro H locs ls hW hS hl
      refine lv_ior hx hb dX13_askedBy_38 ?_
      refine mnmi hf (fun (x_6 : Int32) hf => ?_)
      refine lv_istore_n (lv' := [(2, .int x_6), (0, .ref (bs g 64)), (1, .int a1), (3, .int i_2)]) hx hb dX13_askedBy_39 rfl hl (by decide) rfl (fun ls hl => ?_)
      obtain ⟨x_7, e_8, hf⟩ := nm_s hf
      refine lv_iinc (v := x_7) (lv' := [(3, .int x_7), (2, .int x_6), (0, .ref (bs g 64)), (1, .int a1)]) hx hb dX13_askedBy_40 hl (k := 3) rfl (by rw [e_8]; rfl) (by decide) rfl (fun ls hl => ?_)
      refine lv_goto (tgt := 4) hx hb dX13_askedBy_43 (by decide) ?_
      exact hk_3 x_6 x_7 hf H locs ls hW hS (lv_sub hl [2, 3, 1, 0] rfl)
    · refine lv_if_le (tgt := 37) hx hb dX13_askedBy_28 (by decide) (fun hc => ?_) (fun hc => ?_)
      · have hf := ift hc hf
        refine lv_iconst (v := 0) hx hb dX13_askedBy_37 (by decide) ?_
        exact hk_5 0 hf H locs ls hW hS (lv_sub hl [0, 1, 3] rfl)
      · have hf := iff_ hc hf
        refine lv_iconst (v := 1) hx hb dX13_askedBy_31 (by decide) ?_
        refine lv_iload_n hx hb dX13_askedBy_32 rfl (lv_at hl 3 rfl) ?_
        refine lv_ishl hx hb dX13_askedBy_33 ?_
        refine lv_goto (tgt := 38) hx hb dX13_askedBy_34 (by decide) ?_
        exact hk_5 (1 <<< (i_2 &&& 31)) hf H locs ls hW hS (lv_sub hl [0, 1, 3] rfl)
def f_X13_askOf (σ : Mem) (a1 : Int32) : Option (Int32) :=
  nm (-1) (fun (x_1 : Int64) => fx3 FU (fun k_5 (i_2 : Int32) (j_3 : Int64) (i_4 : Int32) => ixd 4 (aln 67) ((if (1 <<< ((σ.1 67 (4 : Int32).toNatClampNeg) &&& 31)) ≤ i_4 then some i_2 else bd1 (f_X13_askedBy σ a1) (fun (r_6 : Int32) => jn2 (fun (i_7 : Int32) (j_8 : Int64) => nm (i_4 + 1) (fun (x_10 : Int32) => k_5 i_7 j_8 x_10)) (fun k_9 => (if (i_4 &&& (r_6 ^^^ (-1))) = 0 then bd1 (f_X13_ones i_4) (fun (r_12 : Int32) => dvd 2 ((if (r_12 - r_12 / 2 * 2) = 0 then k_9 i_2 j_3 else bd1 (f_X13_truthOf σ a1 i_4) (fun (r_13 : Int64) => bd1 (f_X13_ones i_4) (fun (r_14 : Int32) => bd1 (f_X13_hundreds (5 - r_14)) (fun (r_15 : Int64) => nm (r_13 * r_15) (fun (x_16 : Int64) => (if (lg_cmp x_16 j_3) < 0 then k_9 i_2 j_3 else jn0 (k_9 i_4 x_16) (fun k_17 => (if (lg_cmp x_16 j_3) = 0 then bd1 (f_X13_ones i_4) (fun (r_18 : Int32) => bd1 (f_X13_ones i_2) (fun (r_19 : Int32) => (if r_18 < r_19 then k_17 else k_9 i_2 j_3))) else k_17)))))))))) else k_9 i_2 j_3)))))) 0 x_1 1)
set_option maxHeartbeats 4000000 in
set_option maxRecDepth 100000 in
theorem c_X13_askOf (g : XG) (l : Launch) (σ : Mem) (a1 : Int32) (r : Int32) (hf : f_X13_askOf σ a1 = some r) : Met l yX13_askOf (wx (.code yX13_askOf cX13_askOf 8 (some .int))) (kr 2 50) (va_Pc [.ref (bs g 64), .int a1] (WS g 0 81 σ)) (Qi' g 0 81 r σ) 0 0 (Ag g 0) := by
  refine Met.ofW (cc := cX13_askOf) (maxL := 8) (ret := (some .int)) (by decide) rfl ?_
  intro p e s m args below meth c s₁ B hml hv
  obtain ⟨rfl, hZ, hT, hW⟩ := hv
  have hx := B.exec
  have hb := B.bytes
  have hr := B.returns
  have hts : ∀ w ∈ wx (.code yX13_askOf cX13_askOf 8 (some .int)), w.before _ s = true := atoms_spec B.pre
  have htg : ∀ w ∈ lwg, w.before _ s = true := fun w h => hts w (List.mem_cons_of_mem _ h)
  have hown : s.vm.findClass RX13 = some m.cls := findClass_of_methodNamed B.named
  have hlocks := B.notSynchronized
  change W p l e (kr 2 50) s m (List.toArray [.ref (bs g 64), .int a1]) below meth c s.heap [] 0 0 (MQ below (Qi' g 0 81 r σ) (List.toArray [.ref (bs g 64), .int a1]) s 0 0 (Ag g 0)) _
  generalize hQ : MQ below (Qi' g 0 81 r σ) (List.toArray [.ref (bs g 64), .int a1]) s 0 0 (Ag g 0) = Q
  have hS : va_S (Ag g 0) s.heap s.heap [] := va_S.rf
  have hl := lv_entry ([.ref (bs g 64), .int a1]) (n := 8) (Nat.le_of_ble_eq_true rfl)
  rw [lg_entry_eq]
  generalize (lg_sl ([.ref (bs g 64), .int a1]) ++ List.replicate (8 - (lg_sl ([.ref (bs g 64), .int a1])).length) Slot.unset).toArray = ls at hl ⊢
  have hl : lv_has ls 8 [(0, .ref (bs g 64)), (1, .int a1)] := hl
  delta f_X13_askOf at hf
  obtain ⟨H, hH⟩ : ∃ H, H = s.heap := ⟨_, rfl⟩
  obtain ⟨locs, hLc⟩ : ∃ z : List Loc, z = [] := ⟨_, rfl⟩
  have hS : va_S (Ag g 0) s.heap H locs := by rw [hH, hLc]; exact hS
  have hW : Wd g 0 81 σ H := by rw [hH]; exact hW
  suffices hG : W p l e (kr 2 50) s m (List.toArray [.ref (bs g 64), .int a1]) below meth c H locs 0 0 Q (F0 m 0 ls []) by rw [hH, hLc] at hG; exact hG
  clear hH hLc
  refine lv_iconst (v := 0) hx hb dX13_askOf_0 (by decide) ?_
  refine lv_istore_n (lv' := [(2, .int 0), (0, .ref (bs g 64)), (1, .int a1)]) hx hb dX13_askOf_1 rfl hl (by decide) rfl (fun ls hl => ?_)
  refine lv_ldc2 (v := -1) hx hb hown (htg _ lk_X13_349) dX13_askOf_2 ?_
  refine mnml hf (fun (x_1 : Int64) hf => ?_)
  refine lv_lstore_n (lv' := [(3, .long x_1), (2, .int 0), (0, .ref (bs g 64)), (1, .int a1)]) hx hb dX13_askOf_5 rfl hl (by decide) rfl (fun ls hl => ?_)
  refine lv_iconst (v := 1) hx hb dX13_askOf_6 (by decide) ?_
  refine lv_istore (lv' := [(5, .int 1), (3, .long x_1), (2, .int 0), (0, .ref (bs g 64)), (1, .int a1)]) hx hb dX13_askOf_7 hl (by decide) rfl (fun ls hl => ?_)
  refine fx3_W (fun (i_2 : Int32) (j_3 : Int64) (i_4 : Int32) => ∀ (H : Heap) (locs : List Loc) (ls : Array Slot), Wd g 0 81 σ H → va_S (Ag g 0) s.heap H locs → lv_has ls 8 [(0, .ref (bs g 64)), (1, .int a1), (2, .int i_2), (3, .long j_3), (5, .int i_4)] → W p l e (kr 2 50) s m (List.toArray [.ref (bs g 64), .int a1]) below meth c H locs 0 0 Q (F0 m 9 ls [])) (fun k_5 hk_5 i_2 j_3 i_4 hf => ?_) FU 0 x_1 1 hf H locs ls hW hS (lv_sub hl [3, 4, 2, 1, 0] rfl)
  intro H locs ls hW hS hl
  refine lv_iload hx hb dX13_askOf_9 (lv_at hl 4 rfl) ?_
  refine lv_iconst (v := 1) hx hb dX13_askOf_11 (by decide) ?_
  refine lv_aload_n hx hb dX13_askOf_12 rfl (lv_at hl 0 rfl) ?_
  refine gf_13_15 hx hb htg (htg _ lf_X13_20) hown hZ hW tz_64 dX13_askOf_13 ?_
  refine lv_iconst (v := 4) hx hb dX13_askOf_16 (by decide) ?_
  refine mld_i hx hb hZ hW tz_67 hf dX13_askOf_17 (fun hf => ?_)
  refine lv_ishl hx hb dX13_askOf_18 ?_
  refine lv_icmp_ge (tgt := 109) hx hb dX13_askOf_19 (by decide) (fun hc => ?_) (fun hc => ?_)
  · have hf := ift hc hf
    refine lv_iload_n hx hb dX13_askOf_109 rfl (lv_at hl 2 rfl) ?_
    subst hQ
    exact mri hx hb hr hlocks hZ hT hS hW ⟨Option.some.inj hf, rfl⟩ dX13_askOf_110
  · have hf := iff_ hc hf
    refine lv_iload hx hb dX13_askOf_22 (lv_at hl 4 rfl) ?_
    refine lv_aload_n hx hb dX13_askOf_24 rfl (lv_at hl 0 rfl) ?_
    refine lv_iload_n hx hb dX13_askOf_25 rfl (lv_at hl 1 rfl) ?_
    refine mcip hf hS (fun r h => va_runV (As := [.int a1]) (rest := [.int i_4]) ⟨hx, hb, hml, hown, hts⟩ (c_X13_askedBy g l σ a1 r h) (cl_X13_351 hts ⟨Nat.le_of_ble_eq_true rfl, Nat.le_of_ble_eq_true rfl⟩) (mpV_13 hZ hT hS hW tz_64 _) rfl rfl hl.1 rfl (lv_room (Nat.le_of_ble_eq_true rfl)) dX13_askOf_26 ⟨Nat.zero_le _, Nat.zero_le _⟩) (fun r_6 H locs hf hW hS => ?_)
    refine lv_iconst (v := (-1)) hx hb dX13_askOf_29 (by decide) ?_
    refine lv_ixor hx hb dX13_askOf_30 ?_
    refine lv_iand hx hb dX13_askOf_31 ?_
    refine jn2_W (fun (i_7 : Int32) (j_8 : Int64) => ∀ (H : Heap) (locs : List Loc) (ls : Array Slot), Wd g 0 81 σ H → va_S (Ag g 0) s.heap H locs → lv_has ls 8 [(0, .ref (bs g 64)), (1, .int a1), (2, .int i_7), (3, .long j_8), (5, .int i_4)] → W p l e (kr 2 50) s m (List.toArray [.ref (bs g 64), .int a1]) below meth c H locs 0 0 Q (F0 m 103 ls [])) hf (fun i_7 j_8 hf => ?_) (fun k_9 hk_9 hf => ?_)
    · intro H locs ls hW hS hl
      obtain ⟨x_10, e_11, hf⟩ := nm_s hf
      refine lv_iinc (v := x_10) (lv' := [(5, .int x_10), (0, .ref (bs g 64)), (1, .int a1), (2, .int i_7), (3, .long j_8)]) hx hb dX13_askOf_103 hl (k := 4) rfl (by rw [e_11]; rfl) (by decide) rfl (fun ls hl => ?_)
      refine lv_goto (tgt := 9) hx hb dX13_askOf_106 (by decide) ?_
      exact hk_5 i_7 j_8 x_10 hf H locs ls hW hS (lv_sub hl [1, 2, 3, 4, 0] rfl)
    · refine lv_if_ne (tgt := 103) hx hb dX13_askOf_32 (by decide) (fun hc => ?_) (fun hc => ?_)
      · have hf := iff_ hc hf
        exact hk_9 i_2 j_3 hf H locs ls hW hS (lv_sub hl [0, 1, 2, 3, 4] rfl)
      · have hf := ift hc hf
        refine lv_iload hx hb dX13_askOf_35 (lv_at hl 4 rfl) ?_
        refine mcip hf hS (fun r h => va_runS (As := [.int i_4]) (rest := []) ⟨hx, hb, hml, hown, hts⟩ (c_X13_ones g l 0 81 σ i_4 r h) (cl_X13_298 hts ⟨Nat.le_of_ble_eq_true rfl, Nat.le_of_ble_eq_true rfl⟩) (mpS hZ hT hS hW _) rfl rfl hl.1 rfl (lv_room (Nat.le_of_ble_eq_true rfl)) dX13_askOf_37 ⟨Nat.zero_le _, Nat.zero_le _⟩) (fun r_12 H locs hf hW hS => ?_)
        refine lv_iconst (v := 2) hx hb dX13_askOf_40 (by decide) ?_
        obtain ⟨hd, hf⟩ := dvd_s hf
        refine lv_irem hx hb dX13_askOf_41 hd ?_
        refine lv_if_ne (tgt := 48) hx hb dX13_askOf_42 (by decide) (fun hc => ?_) (fun hc => ?_)
        · have hf := iff_ hc hf
          refine lv_aload_n hx hb dX13_askOf_48 rfl (lv_at hl 0 rfl) ?_
          refine lv_iload_n hx hb dX13_askOf_49 rfl (lv_at hl 1 rfl) ?_
          refine lv_iload hx hb dX13_askOf_50 (lv_at hl 4 rfl) ?_
          refine mclp hf hS (fun r h => va_runV (As := [.int a1, .int i_4]) (rest := []) ⟨hx, hb, hml, hown, hts⟩ (c_X13_truthOf g l σ a1 i_4 r h) (cl_X13_354 hts ⟨Nat.le_of_ble_eq_true rfl, Nat.le_of_ble_eq_true rfl⟩) (mpV_13 hZ hT hS hW tz_64 _) rfl rfl hl.1 rfl (lv_room (Nat.le_of_ble_eq_true rfl)) dX13_askOf_52 ⟨Nat.zero_le _, Nat.zero_le _⟩) (fun r_13 H locs hf hW hS => ?_)
          refine lv_iconst (v := 5) hx hb dX13_askOf_55 (by decide) ?_
          refine lv_iload hx hb dX13_askOf_56 (lv_at hl 4 rfl) ?_
          refine mcip hf hS (fun r h => va_runS (As := [.int i_4]) (rest := [.int 5, .long r_13]) ⟨hx, hb, hml, hown, hts⟩ (c_X13_ones g l 0 81 σ i_4 r h) (cl_X13_298 hts ⟨Nat.le_of_ble_eq_true rfl, Nat.le_of_ble_eq_true rfl⟩) (mpS hZ hT hS hW _) rfl rfl hl.1 rfl (lv_room (Nat.le_of_ble_eq_true rfl)) dX13_askOf_58 ⟨Nat.zero_le _, Nat.zero_le _⟩) (fun r_14 H locs hf hW hS => ?_)
          refine lv_isub hx hb dX13_askOf_61 ?_
          refine mclp hf hS (fun r h => va_runS (As := [.int (5 - r_14)]) (rest := [.long r_13]) ⟨hx, hb, hml, hown, hts⟩ (c_X13_hundreds g l 0 81 σ (5 - r_14) r h) (cl_X13_358 hts ⟨Nat.le_of_ble_eq_true rfl, Nat.le_of_ble_eq_true rfl⟩) (mpS hZ hT hS hW _) rfl rfl hl.1 rfl (lv_room (Nat.le_of_ble_eq_true rfl)) dX13_askOf_62 ⟨Nat.zero_le _, Nat.zero_le _⟩) (fun r_15 H locs hf hW hS => ?_)
          refine lv_lmul hx hb dX13_askOf_65 ?_
          refine mnml hf (fun (x_16 : Int64) hf => ?_)
          refine lv_lstore (lv' := [(6, .long x_16), (0, .ref (bs g 64)), (1, .int a1), (2, .int i_2), (3, .long j_3), (5, .int i_4)]) hx hb dX13_askOf_66 hl (by decide) rfl (fun ls hl => ?_)
          refine lv_lload hx hb dX13_askOf_68 (lv_at hl 0 rfl) ?_
          refine lv_lload_n hx hb dX13_askOf_70 rfl (lv_at hl 4 rfl) ?_
          refine W.lcmp hx hb dX13_askOf_71 ?_
          refine lv_if_lt (tgt := 103) hx hb dX13_askOf_72 (by decide) (fun hc => ?_) (fun hc => ?_)
          · have hf := ift hc hf
            exact hk_9 i_2 j_3 hf H locs ls hW hS (lv_sub hl [1, 2, 3, 4, 5] rfl)
          · have hf := iff_ hc hf
            refine lv_lload hx hb dX13_askOf_75 (lv_at hl 0 rfl) ?_
            refine lv_lload_n hx hb dX13_askOf_77 rfl (lv_at hl 4 rfl) ?_
            refine W.lcmp hx hb dX13_askOf_78 ?_
            refine jn0_W (∀ (H : Heap) (locs : List Loc) (ls : Array Slot), Wd g 0 81 σ H → va_S (Ag g 0) s.heap H locs → lv_has ls 8 [(0, .ref (bs g 64)), (1, .int a1), (5, .int i_4), (6, .long x_16)] → W p l e (kr 2 50) s m (List.toArray [.ref (bs g 64), .int a1]) below meth c H locs 0 0 Q (F0 m 97 ls [])) hf (fun  hf => ?_) (fun k_17 hk_17 hf => ?_)
            · intro H locs ls hW hS hl
              refine lv_iload hx hb dX13_askOf_97 (lv_at hl 2 rfl) ?_
              refine lv_istore_n (lv' := [(2, .int i_4), (0, .ref (bs g 64)), (1, .int a1), (5, .int i_4), (6, .long x_16)]) hx hb dX13_askOf_99 rfl hl (by decide) rfl (fun ls hl => ?_)
              refine lv_lload hx hb dX13_askOf_100 (lv_at hl 4 rfl) ?_
              refine lv_lstore_n (lv' := [(3, .long x_16), (2, .int i_4), (0, .ref (bs g 64)), (1, .int a1), (5, .int i_4), (6, .long x_16)]) hx hb dX13_askOf_102 rfl hl (by decide) rfl (fun ls hl => ?_)
              exact hk_9 i_4 x_16 hf H locs ls hW hS (lv_sub hl [2, 3, 1, 0, 4] rfl)
            · refine lv_if_ne (tgt := 97) hx hb dX13_askOf_79 (by decide) (fun hc => ?_) (fun hc => ?_)
              · have hf := iff_ hc hf
                exact hk_17  hf H locs ls hW hS (lv_sub hl [1, 2, 5, 0] rfl)
              · have hf := ift hc hf
                refine lv_iload hx hb dX13_askOf_82 (lv_at hl 5 rfl) ?_
                refine mcip hf hS (fun r h => va_runS (As := [.int i_4]) (rest := []) ⟨hx, hb, hml, hown, hts⟩ (c_X13_ones g l 0 81 σ i_4 r h) (cl_X13_298 hts ⟨Nat.le_of_ble_eq_true rfl, Nat.le_of_ble_eq_true rfl⟩) (mpS hZ hT hS hW _) rfl rfl hl.1 rfl (lv_room (Nat.le_of_ble_eq_true rfl)) dX13_askOf_84 ⟨Nat.zero_le _, Nat.zero_le _⟩) (fun r_18 H locs hf hW hS => ?_)
                refine lv_iload_n hx hb dX13_askOf_87 rfl (lv_at hl 3 rfl) ?_
                refine mcip hf hS (fun r h => va_runS (As := [.int i_2]) (rest := [.int r_18]) ⟨hx, hb, hml, hown, hts⟩ (c_X13_ones g l 0 81 σ i_2 r h) (cl_X13_298 hts ⟨Nat.le_of_ble_eq_true rfl, Nat.le_of_ble_eq_true rfl⟩) (mpS hZ hT hS hW _) rfl rfl hl.1 rfl (lv_room (Nat.le_of_ble_eq_true rfl)) dX13_askOf_88 ⟨Nat.zero_le _, Nat.zero_le _⟩) (fun r_19 H locs hf hW hS => ?_)
                refine lv_icmp_lt (tgt := 97) hx hb dX13_askOf_91 (by decide) (fun hc => ?_) (fun hc => ?_)
                · have hf := ift hc hf
                  exact hk_17  hf H locs ls hW hS (lv_sub hl [1, 2, 5, 0] rfl)
                · have hf := iff_ hc hf
                  refine lv_goto (tgt := 103) hx hb dX13_askOf_94 (by decide) ?_
                  exact hk_9 i_2 j_3 hf H locs ls hW hS (lv_sub hl [1, 2, 3, 4, 5] rfl)
        · have hf := ift hc hf
          refine lv_goto (tgt := 103) hx hb dX13_askOf_45 (by decide) ?_
          exact hk_9 i_2 j_3 hf H locs ls hW hS (lv_sub hl [0, 1, 2, 3, 4] rfl)
def f_X13_ask (σ : Mem) (a1 : Int32) : Option (Int32 × Mem) :=
  bd1 (f_X13_good σ) (fun (σ_1 : Mem) => bd1 (f_X13_isPerson σ_1 a1) (fun (r_2 : Int32) => (if r_2 = 0 then bd2 (f_X13_no σ_1 1) (fun (r_3 : Int32) (σ_4 : Mem) => some (r_3, σ_4)) else bd1 (f_X13_askOf σ_1 a1) (fun (r_5 : Int32) => some (r_5, σ_1)))))
set_option maxHeartbeats 4000000 in
set_option maxRecDepth 100000 in
theorem c_X13_ask (g : XG) (l : Launch) (σ : Mem) (a1 : Int32) (r : Int32) (τ : Mem) (hf : f_X13_ask σ a1 = some (r, τ)) : Met l yX13_ask (wx (.code yX13_ask cX13_ask 2 (some .int))) (kr 3 77) (va_Pc [.ref (bs g 64), .int a1] (WS g 0 81 σ)) (Qi' g 0 81 r τ) 0 0 (Ag g 0) := by
  refine Met.ofW (cc := cX13_ask) (maxL := 2) (ret := (some .int)) (by decide) rfl ?_
  intro p e s m args below meth c s₁ B hml hv
  obtain ⟨rfl, hZ, hT, hW⟩ := hv
  have hx := B.exec
  have hb := B.bytes
  have hr := B.returns
  have hts : ∀ w ∈ wx (.code yX13_ask cX13_ask 2 (some .int)), w.before _ s = true := atoms_spec B.pre
  have htg : ∀ w ∈ lwg, w.before _ s = true := fun w h => hts w (List.mem_cons_of_mem _ h)
  have hown : s.vm.findClass RX13 = some m.cls := findClass_of_methodNamed B.named
  have hlocks := B.notSynchronized
  change W p l e (kr 3 77) s m (List.toArray [.ref (bs g 64), .int a1]) below meth c s.heap [] 0 0 (MQ below (Qi' g 0 81 r τ) (List.toArray [.ref (bs g 64), .int a1]) s 0 0 (Ag g 0)) _
  generalize hQ : MQ below (Qi' g 0 81 r τ) (List.toArray [.ref (bs g 64), .int a1]) s 0 0 (Ag g 0) = Q
  have hS : va_S (Ag g 0) s.heap s.heap [] := va_S.rf
  have hl := lv_entry ([.ref (bs g 64), .int a1]) (n := 2) (Nat.le_of_ble_eq_true rfl)
  rw [lg_entry_eq]
  generalize (lg_sl ([.ref (bs g 64), .int a1]) ++ List.replicate (2 - (lg_sl ([.ref (bs g 64), .int a1])).length) Slot.unset).toArray = ls at hl ⊢
  have hl : lv_has ls 2 [(0, .ref (bs g 64)), (1, .int a1)] := hl
  delta f_X13_ask at hf
  obtain ⟨H, hH⟩ : ∃ H, H = s.heap := ⟨_, rfl⟩
  obtain ⟨locs, hLc⟩ : ∃ z : List Loc, z = [] := ⟨_, rfl⟩
  have hS : va_S (Ag g 0) s.heap H locs := by rw [hH, hLc]; exact hS
  have hW : Wd g 0 81 σ H := by rw [hH]; exact hW
  suffices hG : W p l e (kr 3 77) s m (List.toArray [.ref (bs g 64), .int a1]) below meth c H locs 0 0 Q (F0 m 0 ls []) by rw [hH, hLc] at hG; exact hG
  clear hH hLc
  refine lv_aload_n hx hb dX13_ask_0 rfl (lv_at hl 0 rfl) ?_
  refine mcv hf hS (fun τ h => va_runV (As := []) (rest := []) ⟨hx, hb, hml, hown, hts⟩ (c_X13_good g l σ τ h) (cl_X13_166 hts ⟨Nat.le_of_ble_eq_true rfl, Nat.le_of_ble_eq_true rfl⟩) (mpV_13 hZ hT hS hW tz_64 _) rfl rfl hl.1 rfl (lv_room (Nat.le_of_ble_eq_true rfl)) dX13_ask_1 ⟨Nat.zero_le _, Nat.zero_le _⟩) (fun σ_1 H locs hf hW hS => ?_)
  refine lv_aload_n hx hb dX13_ask_4 rfl (lv_at hl 0 rfl) ?_
  refine lv_iload_n hx hb dX13_ask_5 rfl (lv_at hl 1 rfl) ?_
  refine mcip hf hS (fun r h => va_runV (As := [.int a1]) (rest := []) ⟨hx, hb, hml, hown, hts⟩ (c_X13_isPerson g l σ_1 a1 r h) (cl_X13_275 hts ⟨Nat.le_of_ble_eq_true rfl, Nat.le_of_ble_eq_true rfl⟩) (mpV_13 hZ hT hS hW tz_64 _) rfl rfl hl.1 rfl (lv_room (Nat.le_of_ble_eq_true rfl)) dX13_ask_6 ⟨Nat.zero_le _, Nat.zero_le _⟩) (fun r_2 H locs hf hW hS => ?_)
  refine lv_if_eq (tgt := 20) hx hb dX13_ask_9 (by decide) (fun hc => ?_) (fun hc => ?_)
  · have hf := ift hc hf
    refine lv_aload_n hx hb dX13_ask_20 rfl (lv_at hl 0 rfl) ?_
    refine lv_iconst (v := 1) hx hb dX13_ask_21 (by decide) ?_
    refine mci hf hS (fun r τ h => va_runV (As := [.int 1]) (rest := []) ⟨hx, hb, hml, hown, hts⟩ (c_X13_no g l σ_1 1 r τ h) (cl_X13_169 hts ⟨Nat.le_of_ble_eq_true rfl, Nat.le_of_ble_eq_true rfl⟩) (mpV_13 hZ hT hS hW tz_64 _) rfl rfl hl.1 rfl (lv_room (Nat.le_of_ble_eq_true rfl)) dX13_ask_22 ⟨Nat.zero_le _, Nat.zero_le _⟩) (fun r_3 σ_4 H locs hf hW hS => ?_)
    subst hQ
    exact mri hx hb hr hlocks hZ hT hS hW (pr1 hf) dX13_ask_25
  · have hf := iff_ hc hf
    refine lv_aload_n hx hb dX13_ask_12 rfl (lv_at hl 0 rfl) ?_
    refine lv_iload_n hx hb dX13_ask_13 rfl (lv_at hl 1 rfl) ?_
    refine mcip hf hS (fun r h => va_runV (As := [.int a1]) (rest := []) ⟨hx, hb, hml, hown, hts⟩ (c_X13_askOf g l σ_1 a1 r h) (cl_X13_362 hts ⟨Nat.le_of_ble_eq_true rfl, Nat.le_of_ble_eq_true rfl⟩) (mpV_13 hZ hT hS hW tz_64 _) rfl rfl hl.1 rfl (lv_room (Nat.le_of_ble_eq_true rfl)) dX13_ask_14 ⟨Nat.zero_le _, Nat.zero_le _⟩) (fun r_5 H locs hf hW hS => ?_)
    refine lv_goto (tgt := 25) hx hb dX13_ask_17 (by decide) ?_
    subst hQ
    exact mri hx hb hr hlocks hZ hT hS hW (pr1 hf) dX13_ask_25
def f_X13_truth (σ : Mem) (a1 : Int32) (a2 : Int32) : Option (Int64 × Mem) :=
  bd1 (f_X13_good σ) (fun (σ_1 : Mem) => bd1 (f_X13_isPerson σ_1 a1) (fun (r_2 : Int32) => (if r_2 = 0 then bd2 (f_X13_no σ_1 1) (fun (r_10 : Int32) (σ_11 : Mem) => some (r_10.toInt64, σ_11)) else bd1 (f_X13_askOf σ_1 a1) (fun (r_3 : Int32) => jn1 (fun (j_4 : Int64) => bd1 (f_X13_ones r_3) (fun (r_6 : Int32) => bd1 (f_X13_hundreds r_6) (fun (r_7 : Int64) => bd1 (f_X13_lowest j_4 r_7 a2) (fun (r_8 : Int64) => some (r_8, σ_1))))) (fun k_5 => (if r_3 = 0 then k_5 0 else bd1 (f_X13_truthOf σ_1 a1 r_3) (fun (r_9 : Int64) => k_5 r_9)))))))
set_option maxHeartbeats 4000000 in
set_option maxRecDepth 100000 in
theorem c_X13_truth (g : XG) (l : Launch) (σ : Mem) (a1 : Int32) (a2 : Int32) (r : Int64) (τ : Mem) (hf : f_X13_truth σ a1 a2 = some (r, τ)) : Met l yX13_truth (wx (.code yX13_truth cX13_truth 4 (some .long))) (kr 3 77) (va_Pc [.ref (bs g 64), .int a1, .int a2] (WS g 0 81 σ)) (Ql' g 0 81 r τ) 0 0 (Ag g 0) := by
  refine Met.ofW (cc := cX13_truth) (maxL := 4) (ret := (some .long)) (by decide) rfl ?_
  intro p e s m args below meth c s₁ B hml hv
  obtain ⟨rfl, hZ, hT, hW⟩ := hv
  have hx := B.exec
  have hb := B.bytes
  have hr := B.returns
  have hts : ∀ w ∈ wx (.code yX13_truth cX13_truth 4 (some .long)), w.before _ s = true := atoms_spec B.pre
  have htg : ∀ w ∈ lwg, w.before _ s = true := fun w h => hts w (List.mem_cons_of_mem _ h)
  have hown : s.vm.findClass RX13 = some m.cls := findClass_of_methodNamed B.named
  have hlocks := B.notSynchronized
  change W p l e (kr 3 77) s m (List.toArray [.ref (bs g 64), .int a1, .int a2]) below meth c s.heap [] 0 0 (MQ below (Ql' g 0 81 r τ) (List.toArray [.ref (bs g 64), .int a1, .int a2]) s 0 0 (Ag g 0)) _
  generalize hQ : MQ below (Ql' g 0 81 r τ) (List.toArray [.ref (bs g 64), .int a1, .int a2]) s 0 0 (Ag g 0) = Q
  have hS : va_S (Ag g 0) s.heap s.heap [] := va_S.rf
  have hl := lv_entry ([.ref (bs g 64), .int a1, .int a2]) (n := 4) (Nat.le_of_ble_eq_true rfl)
  rw [lg_entry_eq]
  generalize (lg_sl ([.ref (bs g 64), .int a1, .int a2]) ++ List.replicate (4 - (lg_sl ([.ref (bs g 64), .int a1, .int a2])).length) Slot.unset).toArray = ls at hl ⊢
  have hl : lv_has ls 4 [(0, .ref (bs g 64)), (1, .int a1), (2, .int a2)] := hl
  delta f_X13_truth at hf
  obtain ⟨H, hH⟩ : ∃ H, H = s.heap := ⟨_, rfl⟩
  obtain ⟨locs, hLc⟩ : ∃ z : List Loc, z = [] := ⟨_, rfl⟩
  have hS : va_S (Ag g 0) s.heap H locs := by rw [hH, hLc]; exact hS
  have hW : Wd g 0 81 σ H := by rw [hH]; exact hW
  suffices hG : W p l e (kr 3 77) s m (List.toArray [.ref (bs g 64), .int a1, .int a2]) below meth c H locs 0 0 Q (F0 m 0 ls []) by rw [hH, hLc] at hG; exact hG
  clear hH hLc
  refine lv_aload_n hx hb dX13_truth_0 rfl (lv_at hl 0 rfl) ?_
  refine mcv hf hS (fun τ h => va_runV (As := []) (rest := []) ⟨hx, hb, hml, hown, hts⟩ (c_X13_good g l σ τ h) (cl_X13_166 hts ⟨Nat.le_of_ble_eq_true rfl, Nat.le_of_ble_eq_true rfl⟩) (mpV_13 hZ hT hS hW tz_64 _) rfl rfl hl.1 rfl (lv_room (Nat.le_of_ble_eq_true rfl)) dX13_truth_1 ⟨Nat.zero_le _, Nat.zero_le _⟩) (fun σ_1 H locs hf hW hS => ?_)
  refine lv_aload_n hx hb dX13_truth_4 rfl (lv_at hl 0 rfl) ?_
  refine lv_iload_n hx hb dX13_truth_5 rfl (lv_at hl 1 rfl) ?_
  refine mcip hf hS (fun r h => va_runV (As := [.int a1]) (rest := []) ⟨hx, hb, hml, hown, hts⟩ (c_X13_isPerson g l σ_1 a1 r h) (cl_X13_275 hts ⟨Nat.le_of_ble_eq_true rfl, Nat.le_of_ble_eq_true rfl⟩) (mpV_13 hZ hT hS hW tz_64 _) rfl rfl hl.1 rfl (lv_room (Nat.le_of_ble_eq_true rfl)) dX13_truth_6 ⟨Nat.zero_le _, Nat.zero_le _⟩) (fun r_2 H locs hf hW hS => ?_)
  refine lv_if_ne (tgt := 19) hx hb dX13_truth_9 (by decide) (fun hc => ?_) (fun hc => ?_)
  · have hf := iff_ hc hf
    refine lv_aload_n hx hb dX13_truth_19 rfl (lv_at hl 0 rfl) ?_
    refine lv_iload_n hx hb dX13_truth_20 rfl (lv_at hl 1 rfl) ?_
    refine mcip hf hS (fun r h => va_runV (As := [.int a1]) (rest := []) ⟨hx, hb, hml, hown, hts⟩ (c_X13_askOf g l σ_1 a1 r h) (cl_X13_362 hts ⟨Nat.le_of_ble_eq_true rfl, Nat.le_of_ble_eq_true rfl⟩) (mpV_13 hZ hT hS hW tz_64 _) rfl rfl hl.1 rfl (lv_room (Nat.le_of_ble_eq_true rfl)) dX13_truth_21 ⟨Nat.zero_le _, Nat.zero_le _⟩) (fun r_3 H locs hf hW hS => ?_)
    refine lv_istore_n (lv' := [(3, .int r_3), (0, .ref (bs g 64)), (1, .int a1), (2, .int a2)]) hx hb dX13_truth_24 rfl hl (by decide) rfl (fun ls hl => ?_)
    refine lv_iload_n hx hb dX13_truth_25 rfl (lv_at hl 0 rfl) ?_
    refine jn1_W (fun (j_4 : Int64) => ∀ (H : Heap) (locs : List Loc) (ls : Array Slot), Wd g 0 81 σ_1 H → va_S (Ag g 0) s.heap H locs → lv_has ls 4 [(2, .int a2), (3, .int r_3)] → W p l e (kr 3 77) s m (List.toArray [.ref (bs g 64), .int a1, .int a2]) below meth c H locs 0 0 Q (F0 m 39 ls [.long j_4])) hf (fun j_4 hf => ?_) (fun k_5 hk_5 hf => ?_)
    · intro H locs ls hW hS hl
      refine lv_iload_n hx hb dX13_truth_39 rfl (lv_at hl 1 rfl) ?_
      refine mcip hf hS (fun r h => va_runS (As := [.int r_3]) (rest := [.long j_4]) ⟨hx, hb, hml, hown, hts⟩ (c_X13_ones g l 0 81 σ_1 r_3 r h) (cl_X13_298 hts ⟨Nat.le_of_ble_eq_true rfl, Nat.le_of_ble_eq_true rfl⟩) (mpS hZ hT hS hW _) rfl rfl hl.1 rfl (lv_room (Nat.le_of_ble_eq_true rfl)) dX13_truth_40 ⟨Nat.zero_le _, Nat.zero_le _⟩) (fun r_6 H locs hf hW hS => ?_)
      refine mclp hf hS (fun r h => va_runS (As := [.int r_6]) (rest := [.long j_4]) ⟨hx, hb, hml, hown, hts⟩ (c_X13_hundreds g l 0 81 σ_1 r_6 r h) (cl_X13_358 hts ⟨Nat.le_of_ble_eq_true rfl, Nat.le_of_ble_eq_true rfl⟩) (mpS hZ hT hS hW _) rfl rfl hl.1 rfl (lv_room (Nat.le_of_ble_eq_true rfl)) dX13_truth_43 ⟨Nat.zero_le _, Nat.zero_le _⟩) (fun r_7 H locs hf hW hS => ?_)
      refine lv_iload_n hx hb dX13_truth_46 rfl (lv_at hl 0 rfl) ?_
      refine mclp hf hS (fun r h => va_runS (As := [.long j_4, .long r_7, .int a2]) (rest := []) ⟨hx, hb, hml, hown, hts⟩ (c_X13_lowest g l 0 81 σ_1 j_4 r_7 a2 r h) (cl_X13_365 hts ⟨Nat.le_of_ble_eq_true rfl, Nat.le_of_ble_eq_true rfl⟩) (mpS hZ hT hS hW _) rfl rfl hl.1 rfl (lv_room (Nat.le_of_ble_eq_true rfl)) dX13_truth_47 ⟨Nat.zero_le _, Nat.zero_le _⟩) (fun r_8 H locs hf hW hS => ?_)
      subst hQ
      exact mrl hx hb hr hlocks hZ hT hS hW (pr1 hf) dX13_truth_50
    · refine lv_if_ne (tgt := 33) hx hb dX13_truth_26 (by decide) (fun hc => ?_) (fun hc => ?_)
      · have hf := iff_ hc hf
        refine lv_aload_n hx hb dX13_truth_33 rfl (lv_at hl 1 rfl) ?_
        refine lv_iload_n hx hb dX13_truth_34 rfl (lv_at hl 2 rfl) ?_
        refine lv_iload_n hx hb dX13_truth_35 rfl (lv_at hl 0 rfl) ?_
        refine mclp hf hS (fun r h => va_runV (As := [.int a1, .int r_3]) (rest := []) ⟨hx, hb, hml, hown, hts⟩ (c_X13_truthOf g l σ_1 a1 r_3 r h) (cl_X13_354 hts ⟨Nat.le_of_ble_eq_true rfl, Nat.le_of_ble_eq_true rfl⟩) (mpV_13 hZ hT hS hW tz_64 _) rfl rfl hl.1 rfl (lv_room (Nat.le_of_ble_eq_true rfl)) dX13_truth_36 ⟨Nat.zero_le _, Nat.zero_le _⟩) (fun r_9 H locs hf hW hS => ?_)
        exact hk_5 r_9 hf H locs ls hW hS (lv_sub hl [3, 0] rfl)
      · have hf := ift hc hf
        refine lv_lconst (v := 0) hx hb dX13_truth_29 (by decide) ?_
        refine lv_goto (tgt := 39) hx hb dX13_truth_30 (by decide) ?_
        exact hk_5 0 hf H locs ls hW hS (lv_sub hl [3, 0] rfl)
  · have hf := ift hc hf
    refine lv_aload_n hx hb dX13_truth_12 rfl (lv_at hl 0 rfl) ?_
    refine lv_iconst (v := 1) hx hb dX13_truth_13 (by decide) ?_
    refine mci hf hS (fun r τ h => va_runV (As := [.int 1]) (rest := []) ⟨hx, hb, hml, hown, hts⟩ (c_X13_no g l σ_1 1 r τ h) (cl_X13_169 hts ⟨Nat.le_of_ble_eq_true rfl, Nat.le_of_ble_eq_true rfl⟩) (mpV_13 hZ hT hS hW tz_64 _) rfl rfl hl.1 rfl (lv_room (Nat.le_of_ble_eq_true rfl)) dX13_truth_14 ⟨Nat.zero_le _, Nat.zero_le _⟩) (fun r_10 σ_11 H locs hf hW hS => ?_)
    refine lv_i2l (v := r_10.toInt64) hx hb dX13_truth_17 rfl ?_
    subst hQ
    exact mrl hx hb hr hlocks hZ hT hS hW (pr1 hf) dX13_truth_18
def f_X13_allTell (σ : Mem) (a1 : Int32) (a2 : Int32) : Option (Int64 × Mem) :=
  bd1 (f_X13_good σ) (fun (σ_1 : Mem) => bd1 (f_X13_isPerson σ_1 a1) (fun (r_2 : Int32) => (if r_2 = 0 then bd2 (f_X13_no σ_1 1) (fun (r_18 : Int32) (σ_19 : Mem) => some (r_18.toInt64, σ_19)) else fx2 FU (fun k_5 (j_3 : Int64) (i_4 : Int32) => ixd 4 (aln 67) ((if (σ_1.1 67 (4 : Int32).toNatClampNeg) ≤ i_4 then bd1 (f_X13_askedBy σ_1 a1) (fun (r_6 : Int32) => bd1 (f_X13_ones r_6) (fun (r_7 : Int32) => bd1 (f_X13_hundreds r_7) (fun (r_8 : Int64) => bd1 (f_X13_lowest j_3 r_8 a2) (fun (r_9 : Int64) => some (r_9, σ_1))))) else bd1 (f_X13_askedBy σ_1 a1) (fun (r_10 : Int32) => bd1 (f_X13_hasBit r_10 i_4) (fun (r_11 : Int32) => jn1 (fun (j_12 : Int64) => nm (i_4 + 1) (fun (x_14 : Int32) => k_5 j_12 x_14)) (fun k_13 => (if r_11 = 0 then k_13 j_3 else bd1 (f_X13_oddsOf σ_1 a1 i_4) (fun (r_16 : Int32) => nm (j_3 * (r_16.toInt64)) (fun (x_17 : Int64) => k_13 x_17))))))))) 1 0)))
set_option maxHeartbeats 4000000 in
set_option maxRecDepth 100000 in
theorem c_X13_allTell (g : XG) (l : Launch) (σ : Mem) (a1 : Int32) (a2 : Int32) (r : Int64) (τ : Mem) (hf : f_X13_allTell σ a1 a2 = some (r, τ)) : Met l yX13_allTell (wx (.code yX13_allTell cX13_allTell 6 (some .long))) (kr 2 43) (va_Pc [.ref (bs g 64), .int a1, .int a2] (WS g 0 81 σ)) (Ql' g 0 81 r τ) 0 0 (Ag g 0) := by
  refine Met.ofW (cc := cX13_allTell) (maxL := 6) (ret := (some .long)) (by decide) rfl ?_
  intro p e s m args below meth c s₁ B hml hv
  obtain ⟨rfl, hZ, hT, hW⟩ := hv
  have hx := B.exec
  have hb := B.bytes
  have hr := B.returns
  have hts : ∀ w ∈ wx (.code yX13_allTell cX13_allTell 6 (some .long)), w.before _ s = true := atoms_spec B.pre
  have htg : ∀ w ∈ lwg, w.before _ s = true := fun w h => hts w (List.mem_cons_of_mem _ h)
  have hown : s.vm.findClass RX13 = some m.cls := findClass_of_methodNamed B.named
  have hlocks := B.notSynchronized
  change W p l e (kr 2 43) s m (List.toArray [.ref (bs g 64), .int a1, .int a2]) below meth c s.heap [] 0 0 (MQ below (Ql' g 0 81 r τ) (List.toArray [.ref (bs g 64), .int a1, .int a2]) s 0 0 (Ag g 0)) _
  generalize hQ : MQ below (Ql' g 0 81 r τ) (List.toArray [.ref (bs g 64), .int a1, .int a2]) s 0 0 (Ag g 0) = Q
  have hS : va_S (Ag g 0) s.heap s.heap [] := va_S.rf
  have hl := lv_entry ([.ref (bs g 64), .int a1, .int a2]) (n := 6) (Nat.le_of_ble_eq_true rfl)
  rw [lg_entry_eq]
  generalize (lg_sl ([.ref (bs g 64), .int a1, .int a2]) ++ List.replicate (6 - (lg_sl ([.ref (bs g 64), .int a1, .int a2])).length) Slot.unset).toArray = ls at hl ⊢
  have hl : lv_has ls 6 [(0, .ref (bs g 64)), (1, .int a1), (2, .int a2)] := hl
  delta f_X13_allTell at hf
  obtain ⟨H, hH⟩ : ∃ H, H = s.heap := ⟨_, rfl⟩
  obtain ⟨locs, hLc⟩ : ∃ z : List Loc, z = [] := ⟨_, rfl⟩
  have hS : va_S (Ag g 0) s.heap H locs := by rw [hH, hLc]; exact hS
  have hW : Wd g 0 81 σ H := by rw [hH]; exact hW
  suffices hG : W p l e (kr 2 43) s m (List.toArray [.ref (bs g 64), .int a1, .int a2]) below meth c H locs 0 0 Q (F0 m 0 ls []) by rw [hH, hLc] at hG; exact hG
  clear hH hLc
  refine lv_aload_n hx hb dX13_allTell_0 rfl (lv_at hl 0 rfl) ?_
  refine mcv hf hS (fun τ h => va_runV (As := []) (rest := []) ⟨hx, hb, hml, hown, hts⟩ (c_X13_good g l σ τ h) (cl_X13_166 hts ⟨Nat.le_of_ble_eq_true rfl, Nat.le_of_ble_eq_true rfl⟩) (mpV_13 hZ hT hS hW tz_64 _) rfl rfl hl.1 rfl (lv_room (Nat.le_of_ble_eq_true rfl)) dX13_allTell_1 ⟨Nat.zero_le _, Nat.zero_le _⟩) (fun σ_1 H locs hf hW hS => ?_)
  refine lv_aload_n hx hb dX13_allTell_4 rfl (lv_at hl 0 rfl) ?_
  refine lv_iload_n hx hb dX13_allTell_5 rfl (lv_at hl 1 rfl) ?_
  refine mcip hf hS (fun r h => va_runV (As := [.int a1]) (rest := []) ⟨hx, hb, hml, hown, hts⟩ (c_X13_isPerson g l σ_1 a1 r h) (cl_X13_275 hts ⟨Nat.le_of_ble_eq_true rfl, Nat.le_of_ble_eq_true rfl⟩) (mpV_13 hZ hT hS hW tz_64 _) rfl rfl hl.1 rfl (lv_room (Nat.le_of_ble_eq_true rfl)) dX13_allTell_6 ⟨Nat.zero_le _, Nat.zero_le _⟩) (fun r_2 H locs hf hW hS => ?_)
  refine lv_if_ne (tgt := 19) hx hb dX13_allTell_9 (by decide) (fun hc => ?_) (fun hc => ?_)
  · have hf := iff_ hc hf
    refine lv_lconst (v := 1) hx hb dX13_allTell_19 (by decide) ?_
    refine lv_lstore_n (lv' := [(3, .long 1), (0, .ref (bs g 64)), (1, .int a1), (2, .int a2)]) hx hb dX13_allTell_20 rfl hl (by decide) rfl (fun ls hl => ?_)
    refine lv_iconst (v := 0) hx hb dX13_allTell_21 (by decide) ?_
    refine lv_istore (lv' := [(5, .int 0), (3, .long 1), (0, .ref (bs g 64)), (1, .int a1), (2, .int a2)]) hx hb dX13_allTell_22 hl (by decide) rfl (fun ls hl => ?_)
    refine fx2_W (fun (j_3 : Int64) (i_4 : Int32) => ∀ (H : Heap) (locs : List Loc) (ls : Array Slot), Wd g 0 81 σ_1 H → va_S (Ag g 0) s.heap H locs → lv_has ls 6 [(0, .ref (bs g 64)), (1, .int a1), (2, .int a2), (3, .long j_3), (5, .int i_4)] → W p l e (kr 2 43) s m (List.toArray [.ref (bs g 64), .int a1, .int a2]) below meth c H locs 0 0 Q (F0 m 24 ls [])) (fun k_5 hk_5 j_3 i_4 hf => ?_) FU 1 0 hf H locs ls hW hS (lv_sub hl [2, 3, 4, 1, 0] rfl)
    intro H locs ls hW hS hl
    refine lv_iload hx hb dX13_allTell_24 (lv_at hl 4 rfl) ?_
    refine lv_aload_n hx hb dX13_allTell_26 rfl (lv_at hl 0 rfl) ?_
    refine gf_13_15 hx hb htg (htg _ lf_X13_20) hown hZ hW tz_64 dX13_allTell_27 ?_
    refine lv_iconst (v := 4) hx hb dX13_allTell_30 (by decide) ?_
    refine mld_i hx hb hZ hW tz_67 hf dX13_allTell_31 (fun hf => ?_)
    refine lv_icmp_ge (tgt := 65) hx hb dX13_allTell_32 (by decide) (fun hc => ?_) (fun hc => ?_)
    · have hf := ift hc hf
      refine lv_lload_n hx hb dX13_allTell_65 rfl (lv_at hl 3 rfl) ?_
      refine lv_aload_n hx hb dX13_allTell_66 rfl (lv_at hl 0 rfl) ?_
      refine lv_iload_n hx hb dX13_allTell_67 rfl (lv_at hl 1 rfl) ?_
      refine mcip hf hS (fun r h => va_runV (As := [.int a1]) (rest := [.long j_3]) ⟨hx, hb, hml, hown, hts⟩ (c_X13_askedBy g l σ_1 a1 r h) (cl_X13_351 hts ⟨Nat.le_of_ble_eq_true rfl, Nat.le_of_ble_eq_true rfl⟩) (mpV_13 hZ hT hS hW tz_64 _) rfl rfl hl.1 rfl (lv_room (Nat.le_of_ble_eq_true rfl)) dX13_allTell_68 ⟨Nat.zero_le _, Nat.zero_le _⟩) (fun r_6 H locs hf hW hS => ?_)
      refine mcip hf hS (fun r h => va_runS (As := [.int r_6]) (rest := [.long j_3]) ⟨hx, hb, hml, hown, hts⟩ (c_X13_ones g l 0 81 σ_1 r_6 r h) (cl_X13_298 hts ⟨Nat.le_of_ble_eq_true rfl, Nat.le_of_ble_eq_true rfl⟩) (mpS hZ hT hS hW _) rfl rfl hl.1 rfl (lv_room (Nat.le_of_ble_eq_true rfl)) dX13_allTell_71 ⟨Nat.zero_le _, Nat.zero_le _⟩) (fun r_7 H locs hf hW hS => ?_)
      refine mclp hf hS (fun r h => va_runS (As := [.int r_7]) (rest := [.long j_3]) ⟨hx, hb, hml, hown, hts⟩ (c_X13_hundreds g l 0 81 σ_1 r_7 r h) (cl_X13_358 hts ⟨Nat.le_of_ble_eq_true rfl, Nat.le_of_ble_eq_true rfl⟩) (mpS hZ hT hS hW _) rfl rfl hl.1 rfl (lv_room (Nat.le_of_ble_eq_true rfl)) dX13_allTell_74 ⟨Nat.zero_le _, Nat.zero_le _⟩) (fun r_8 H locs hf hW hS => ?_)
      refine lv_iload_n hx hb dX13_allTell_77 rfl (lv_at hl 2 rfl) ?_
      refine mclp hf hS (fun r h => va_runS (As := [.long j_3, .long r_8, .int a2]) (rest := []) ⟨hx, hb, hml, hown, hts⟩ (c_X13_lowest g l 0 81 σ_1 j_3 r_8 a2 r h) (cl_X13_365 hts ⟨Nat.le_of_ble_eq_true rfl, Nat.le_of_ble_eq_true rfl⟩) (mpS hZ hT hS hW _) rfl rfl hl.1 rfl (lv_room (Nat.le_of_ble_eq_true rfl)) dX13_allTell_78 ⟨Nat.zero_le _, Nat.zero_le _⟩) (fun r_9 H locs hf hW hS => ?_)
      subst hQ
      exact mrl hx hb hr hlocks hZ hT hS hW (pr1 hf) dX13_allTell_81
    · have hf := iff_ hc hf
      refine lv_aload_n hx hb dX13_allTell_35 rfl (lv_at hl 0 rfl) ?_
      refine lv_iload_n hx hb dX13_allTell_36 rfl (lv_at hl 1 rfl) ?_
      refine mcip hf hS (fun r h => va_runV (As := [.int a1]) (rest := []) ⟨hx, hb, hml, hown, hts⟩ (c_X13_askedBy g l σ_1 a1 r h) (cl_X13_351 hts ⟨Nat.le_of_ble_eq_true rfl, Nat.le_of_ble_eq_true rfl⟩) (mpV_13 hZ hT hS hW tz_64 _) rfl rfl hl.1 rfl (lv_room (Nat.le_of_ble_eq_true rfl)) dX13_allTell_37 ⟨Nat.zero_le _, Nat.zero_le _⟩) (fun r_10 H locs hf hW hS => ?_)
      refine lv_iload hx hb dX13_allTell_40 (lv_at hl 4 rfl) ?_
      refine mcip hf hS (fun r h => va_runS (As := [.int r_10, .int i_4]) (rest := []) ⟨hx, hb, hml, hown, hts⟩ (c_X13_hasBit g l 0 81 σ_1 r_10 i_4 r h) (cl_X13_307 hts ⟨Nat.le_of_ble_eq_true rfl, Nat.le_of_ble_eq_true rfl⟩) (mpS hZ hT hS hW _) rfl rfl hl.1 rfl (lv_room (Nat.le_of_ble_eq_true rfl)) dX13_allTell_42 ⟨Nat.zero_le _, Nat.zero_le _⟩) (fun r_11 H locs hf hW hS => ?_)
      refine jn1_W (fun (j_12 : Int64) => ∀ (H : Heap) (locs : List Loc) (ls : Array Slot), Wd g 0 81 σ_1 H → va_S (Ag g 0) s.heap H locs → lv_has ls 6 [(0, .ref (bs g 64)), (1, .int a1), (2, .int a2), (3, .long j_12), (5, .int i_4)] → W p l e (kr 2 43) s m (List.toArray [.ref (bs g 64), .int a1, .int a2]) below meth c H locs 0 0 Q (F0 m 59 ls [])) hf (fun j_12 hf => ?_) (fun k_13 hk_13 hf => ?_)
      · intro H locs ls hW hS hl
        obtain ⟨x_14, e_15, hf⟩ := nm_s hf
        refine lv_iinc (v := x_14) (lv' := [(5, .int x_14), (0, .ref (bs g 64)), (1, .int a1), (2, .int a2), (3, .long j_12)]) hx hb dX13_allTell_59 hl (k := 4) rfl (by rw [e_15]; rfl) (by decide) rfl (fun ls hl => ?_)
        refine lv_goto (tgt := 24) hx hb dX13_allTell_62 (by decide) ?_
        exact hk_5 j_12 x_14 hf H locs ls hW hS (lv_sub hl [1, 2, 3, 4, 0] rfl)
      · refine lv_if_eq (tgt := 59) hx hb dX13_allTell_45 (by decide) (fun hc => ?_) (fun hc => ?_)
        · have hf := ift hc hf
          exact hk_13 j_3 hf H locs ls hW hS (lv_sub hl [0, 1, 2, 3, 4] rfl)
        · have hf := iff_ hc hf
          refine lv_lload_n hx hb dX13_allTell_48 rfl (lv_at hl 3 rfl) ?_
          refine lv_aload_n hx hb dX13_allTell_49 rfl (lv_at hl 0 rfl) ?_
          refine lv_iload_n hx hb dX13_allTell_50 rfl (lv_at hl 1 rfl) ?_
          refine lv_iload hx hb dX13_allTell_51 (lv_at hl 4 rfl) ?_
          refine mcip hf hS (fun r h => va_runV (As := [.int a1, .int i_4]) (rest := [.long j_3]) ⟨hx, hb, hml, hown, hts⟩ (c_X13_oddsOf g l σ_1 a1 i_4 r h) (cl_X13_344 hts ⟨Nat.le_of_ble_eq_true rfl, Nat.le_of_ble_eq_true rfl⟩) (mpV_13 hZ hT hS hW tz_64 _) rfl rfl hl.1 rfl (lv_room (Nat.le_of_ble_eq_true rfl)) dX13_allTell_53 ⟨Nat.zero_le _, Nat.zero_le _⟩) (fun r_16 H locs hf hW hS => ?_)
          refine lv_i2l (v := r_16.toInt64) hx hb dX13_allTell_56 rfl ?_
          refine lv_lmul hx hb dX13_allTell_57 ?_
          refine mnml hf (fun (x_17 : Int64) hf => ?_)
          refine lv_lstore_n (lv' := [(3, .long x_17), (0, .ref (bs g 64)), (1, .int a1), (2, .int a2), (5, .int i_4)]) hx hb dX13_allTell_58 rfl hl (by decide) rfl (fun ls hl => ?_)
          exact hk_13 x_17 hf H locs ls hW hS (lv_sub hl [1, 2, 3, 0, 4] rfl)
  · have hf := ift hc hf
    refine lv_aload_n hx hb dX13_allTell_12 rfl (lv_at hl 0 rfl) ?_
    refine lv_iconst (v := 1) hx hb dX13_allTell_13 (by decide) ?_
    refine mci hf hS (fun r τ h => va_runV (As := [.int 1]) (rest := []) ⟨hx, hb, hml, hown, hts⟩ (c_X13_no g l σ_1 1 r τ h) (cl_X13_169 hts ⟨Nat.le_of_ble_eq_true rfl, Nat.le_of_ble_eq_true rfl⟩) (mpV_13 hZ hT hS hW tz_64 _) rfl rfl hl.1 rfl (lv_room (Nat.le_of_ble_eq_true rfl)) dX13_allTell_14 ⟨Nat.zero_le _, Nat.zero_le _⟩) (fun r_18 σ_19 H locs hf hW hS => ?_)
    refine lv_i2l (v := r_18.toInt64) hx hb dX13_allTell_17 rfl ?_
    subst hQ
    exact mrl hx hb hr hlocks hZ hT hS hW (pr1 hf) dX13_allTell_18
def f_X13_doesGuard (σ : Mem) (a1 : Int32) (a2 : Int32) : Option (Int32) :=
  fx1 FU (fun k_2 (i_1 : Int32) => ixd 4 (aln 67) ((if (σ.1 67 (4 : Int32).toNatClampNeg) ≤ i_1 then some 1 else fx1 FU (fun k_4 (i_3 : Int32) => ixd 4 (aln 67) ((if (σ.1 67 (4 : Int32).toNatClampNeg) ≤ i_3 then nm (i_1 + 1) (fun (x_5 : Int32) => k_2 x_5) else jn0 (nm (i_3 + 1) (fun (x_8 : Int32) => k_4 x_8)) (fun k_7 => (if i_1 = i_3 then k_7 else fx2 FU (fun k_12 (i_10 : Int32) (i_11 : Int32) => ixd 0 (aln 67) ((if (σ.1 67 (0 : Int32).toNatClampNeg) ≤ i_11 then (if i_10 = 0 then k_7 else some 0) else jn1 (fun (i_13 : Int32) => nm (i_11 + 1) (fun (x_15 : Int32) => k_12 i_13 x_15)) (fun k_14 => jn0 (k_14 0) (fun k_17 => (if i_10 = 0 then k_17 else bd1 (f_X13_hasBit a1 i_11) (fun (r_18 : Int32) => jn0 (k_14 1) (fun k_19 => (if r_18 = 0 then k_19 else bd1 (f_X13_lookOn σ i_1 a2) (fun (r_20 : Int32) => bd1 (f_X13_markOf r_20 i_11) (fun (r_21 : Int32) => bd1 (f_X13_papersOn σ i_3 a2) (fun (r_22 : Int32) => bd1 (f_X13_markOf r_22 i_11) (fun (r_23 : Int32) => (if r_21 = r_23 then k_19 else k_17)))))))))))))) 1 0))))) 0))) 0
set_option maxHeartbeats 4000000 in
set_option maxRecDepth 100000 in
theorem c_X13_doesGuard (g : XG) (l : Launch) (σ : Mem) (a1 : Int32) (a2 : Int32) (r : Int32) (hf : f_X13_doesGuard σ a1 a2 = some r) : Met l yX13_doesGuard (wx (.code yX13_doesGuard cX13_doesGuard 7 (some .boolean))) (kr 4 91) (va_Pc [.ref (bs g 64), .int a1, .int a2] (WS g 0 81 σ)) (Qi' g 0 81 r σ) 0 0 (Ag g 0) := by
  refine Met.ofW (cc := cX13_doesGuard) (maxL := 7) (ret := (some .boolean)) (by decide) rfl ?_
  intro p e s m args below meth c s₁ B hml hv
  obtain ⟨rfl, hZ, hT, hW⟩ := hv
  have hx := B.exec
  have hb := B.bytes
  have hr := B.returns
  have hts : ∀ w ∈ wx (.code yX13_doesGuard cX13_doesGuard 7 (some .boolean)), w.before _ s = true := atoms_spec B.pre
  have htg : ∀ w ∈ lwg, w.before _ s = true := fun w h => hts w (List.mem_cons_of_mem _ h)
  have hown : s.vm.findClass RX13 = some m.cls := findClass_of_methodNamed B.named
  have hlocks := B.notSynchronized
  change W p l e (kr 4 91) s m (List.toArray [.ref (bs g 64), .int a1, .int a2]) below meth c s.heap [] 0 0 (MQ below (Qi' g 0 81 r σ) (List.toArray [.ref (bs g 64), .int a1, .int a2]) s 0 0 (Ag g 0)) _
  generalize hQ : MQ below (Qi' g 0 81 r σ) (List.toArray [.ref (bs g 64), .int a1, .int a2]) s 0 0 (Ag g 0) = Q
  have hS : va_S (Ag g 0) s.heap s.heap [] := va_S.rf
  have hl := lv_entry ([.ref (bs g 64), .int a1, .int a2]) (n := 7) (Nat.le_of_ble_eq_true rfl)
  rw [lg_entry_eq]
  generalize (lg_sl ([.ref (bs g 64), .int a1, .int a2]) ++ List.replicate (7 - (lg_sl ([.ref (bs g 64), .int a1, .int a2])).length) Slot.unset).toArray = ls at hl ⊢
  have hl : lv_has ls 7 [(0, .ref (bs g 64)), (1, .int a1), (2, .int a2)] := hl
  delta f_X13_doesGuard at hf
  obtain ⟨H, hH⟩ : ∃ H, H = s.heap := ⟨_, rfl⟩
  obtain ⟨locs, hLc⟩ : ∃ z : List Loc, z = [] := ⟨_, rfl⟩
  have hS : va_S (Ag g 0) s.heap H locs := by rw [hH, hLc]; exact hS
  have hW : Wd g 0 81 σ H := by rw [hH]; exact hW
  suffices hG : W p l e (kr 4 91) s m (List.toArray [.ref (bs g 64), .int a1, .int a2]) below meth c H locs 0 0 Q (F0 m 0 ls []) by rw [hH, hLc] at hG; exact hG
  clear hH hLc
  refine lv_iconst (v := 0) hx hb dX13_doesGuard_0 (by decide) ?_
  refine lv_istore_n (lv' := [(3, .int 0), (0, .ref (bs g 64)), (1, .int a1), (2, .int a2)]) hx hb dX13_doesGuard_1 rfl hl (by decide) rfl (fun ls hl => ?_)
  refine fx1_W (fun (i_1 : Int32) => ∀ (H : Heap) (locs : List Loc) (ls : Array Slot), Wd g 0 81 σ H → va_S (Ag g 0) s.heap H locs → lv_has ls 7 [(0, .ref (bs g 64)), (1, .int a1), (2, .int a2), (3, .int i_1)] → W p l e (kr 4 91) s m (List.toArray [.ref (bs g 64), .int a1, .int a2]) below meth c H locs 0 0 Q (F0 m 2 ls [])) (fun k_2 hk_2 i_1 hf => ?_) FU 0 hf H locs ls hW hS (lv_sub hl [1, 2, 3, 0] rfl)
  intro H locs ls hW hS hl
  refine lv_iload_n hx hb dX13_doesGuard_2 rfl (lv_at hl 3 rfl) ?_
  refine lv_aload_n hx hb dX13_doesGuard_3 rfl (lv_at hl 0 rfl) ?_
  refine gf_13_15 hx hb htg (htg _ lf_X13_20) hown hZ hW tz_64 dX13_doesGuard_4 ?_
  refine lv_iconst (v := 4) hx hb dX13_doesGuard_7 (by decide) ?_
  refine mld_i hx hb hZ hW tz_67 hf dX13_doesGuard_8 (fun hf => ?_)
  refine lv_icmp_ge (tgt := 124) hx hb dX13_doesGuard_9 (by decide) (fun hc => ?_) (fun hc => ?_)
  · have hf := ift hc hf
    refine lv_iconst (v := 1) hx hb dX13_doesGuard_124 (by decide) ?_
    subst hQ
    exact mrz hx hb hr hlocks hZ hT hS hW (by decide) ⟨Option.some.inj hf, rfl⟩ dX13_doesGuard_125
  · have hf := iff_ hc hf
    refine lv_iconst (v := 0) hx hb dX13_doesGuard_12 (by decide) ?_
    refine lv_istore (lv' := [(4, .int 0), (0, .ref (bs g 64)), (1, .int a1), (2, .int a2), (3, .int i_1)]) hx hb dX13_doesGuard_13 hl (by decide) rfl (fun ls hl => ?_)
    refine fx1_W (fun (i_3 : Int32) => ∀ (H : Heap) (locs : List Loc) (ls : Array Slot), Wd g 0 81 σ H → va_S (Ag g 0) s.heap H locs → lv_has ls 7 [(0, .ref (bs g 64)), (1, .int a1), (2, .int a2), (3, .int i_1), (4, .int i_3)] → W p l e (kr 4 91) s m (List.toArray [.ref (bs g 64), .int a1, .int a2]) below meth c H locs 0 0 Q (F0 m 15 ls [])) (fun k_4 hk_4 i_3 hf => ?_) FU 0 hf H locs ls hW hS (lv_sub hl [1, 2, 3, 4, 0] rfl)
    intro H locs ls hW hS hl
    refine lv_iload hx hb dX13_doesGuard_15 (lv_at hl 4 rfl) ?_
    refine lv_aload_n hx hb dX13_doesGuard_17 rfl (lv_at hl 0 rfl) ?_
    refine gf_13_15 hx hb htg (htg _ lf_X13_20) hown hZ hW tz_64 dX13_doesGuard_18 ?_
    refine lv_iconst (v := 4) hx hb dX13_doesGuard_21 (by decide) ?_
    refine mld_i hx hb hZ hW tz_67 hf dX13_doesGuard_22 (fun hf => ?_)
    refine lv_icmp_ge (tgt := 118) hx hb dX13_doesGuard_23 (by decide) (fun hc => ?_) (fun hc => ?_)
    · have hf := ift hc hf
      obtain ⟨x_5, e_6, hf⟩ := nm_s hf
      refine lv_iinc (v := x_5) (lv' := [(3, .int x_5), (0, .ref (bs g 64)), (1, .int a1), (2, .int a2), (4, .int i_3)]) hx hb dX13_doesGuard_118 hl (k := 3) rfl (by rw [e_6]; rfl) (by decide) rfl (fun ls hl => ?_)
      refine lv_goto (tgt := 2) hx hb dX13_doesGuard_121 (by decide) ?_
      exact hk_2 x_5 hf H locs ls hW hS (lv_sub hl [1, 2, 3, 0] rfl)
    · have hf := iff_ hc hf
      refine lv_iload_n hx hb dX13_doesGuard_26 rfl (lv_at hl 3 rfl) ?_
      refine lv_iload hx hb dX13_doesGuard_27 (lv_at hl 4 rfl) ?_
      refine jn0_W (∀ (H : Heap) (locs : List Loc) (ls : Array Slot), Wd g 0 81 σ H → va_S (Ag g 0) s.heap H locs → lv_has ls 7 [(0, .ref (bs g 64)), (1, .int a1), (2, .int a2), (3, .int i_1), (4, .int i_3)] → W p l e (kr 4 91) s m (List.toArray [.ref (bs g 64), .int a1, .int a2]) below meth c H locs 0 0 Q (F0 m 112 ls [])) hf (fun  hf => ?_) (fun k_7 hk_7 hf => ?_)
      · intro H locs ls hW hS hl
        obtain ⟨x_8, e_9, hf⟩ := nm_s hf
        refine lv_iinc (v := x_8) (lv' := [(4, .int x_8), (0, .ref (bs g 64)), (1, .int a1), (2, .int a2), (3, .int i_1)]) hx hb dX13_doesGuard_112 hl (k := 4) rfl (by rw [e_9]; rfl) (by decide) rfl (fun ls hl => ?_)
        refine lv_goto (tgt := 15) hx hb dX13_doesGuard_115 (by decide) ?_
        exact hk_4 x_8 hf H locs ls hW hS (lv_sub hl [1, 2, 3, 4, 0] rfl)
      · refine lv_icmp_ne (tgt := 35) hx hb dX13_doesGuard_29 (by decide) (fun hc => ?_) (fun hc => ?_)
        · have hf := iff_ hc hf
          refine lv_iconst (v := 1) hx hb dX13_doesGuard_35 (by decide) ?_
          refine lv_istore (lv' := [(5, .int 1), (0, .ref (bs g 64)), (1, .int a1), (2, .int a2), (3, .int i_1), (4, .int i_3)]) hx hb dX13_doesGuard_36 hl (by decide) rfl (fun ls hl => ?_)
          refine lv_iconst (v := 0) hx hb dX13_doesGuard_38 (by decide) ?_
          refine lv_istore (lv' := [(6, .int 0), (5, .int 1), (0, .ref (bs g 64)), (1, .int a1), (2, .int a2), (3, .int i_1), (4, .int i_3)]) hx hb dX13_doesGuard_39 hl (by decide) rfl (fun ls hl => ?_)
          refine fx2_W (fun (i_10 : Int32) (i_11 : Int32) => ∀ (H : Heap) (locs : List Loc) (ls : Array Slot), Wd g 0 81 σ H → va_S (Ag g 0) s.heap H locs → lv_has ls 7 [(0, .ref (bs g 64)), (1, .int a1), (2, .int a2), (3, .int i_1), (4, .int i_3), (5, .int i_10), (6, .int i_11)] → W p l e (kr 4 91) s m (List.toArray [.ref (bs g 64), .int a1, .int a2]) below meth c H locs 0 0 Q (F0 m 41 ls [])) (fun k_12 hk_12 i_10 i_11 hf => ?_) FU 1 0 hf H locs ls hW hS (lv_sub hl [2, 3, 4, 5, 6, 1, 0] rfl)
          intro H locs ls hW hS hl
          refine lv_iload hx hb dX13_doesGuard_41 (lv_at hl 6 rfl) ?_
          refine lv_aload_n hx hb dX13_doesGuard_43 rfl (lv_at hl 0 rfl) ?_
          refine gf_13_15 hx hb htg (htg _ lf_X13_20) hown hZ hW tz_64 dX13_doesGuard_44 ?_
          refine lv_iconst (v := 0) hx hb dX13_doesGuard_47 (by decide) ?_
          refine mld_i hx hb hZ hW tz_67 hf dX13_doesGuard_48 (fun hf => ?_)
          refine lv_icmp_ge (tgt := 105) hx hb dX13_doesGuard_49 (by decide) (fun hc => ?_) (fun hc => ?_)
          · have hf := ift hc hf
            refine lv_iload hx hb dX13_doesGuard_105 (lv_at hl 5 rfl) ?_
            refine lv_if_eq (tgt := 112) hx hb dX13_doesGuard_107 (by decide) (fun hc => ?_) (fun hc => ?_)
            · have hf := ift hc hf
              exact hk_7  hf H locs ls hW hS (lv_sub hl [0, 1, 2, 3, 4] rfl)
            · have hf := iff_ hc hf
              refine lv_iconst (v := 0) hx hb dX13_doesGuard_110 (by decide) ?_
              subst hQ
              exact mrz hx hb hr hlocks hZ hT hS hW (by decide) ⟨Option.some.inj hf, rfl⟩ dX13_doesGuard_111
          · have hf := iff_ hc hf
            refine lv_iload hx hb dX13_doesGuard_52 (lv_at hl 5 rfl) ?_
            refine jn1_W (fun (i_13 : Int32) => ∀ (H : Heap) (locs : List Loc) (ls : Array Slot), Wd g 0 81 σ H → va_S (Ag g 0) s.heap H locs → lv_has ls 7 [(0, .ref (bs g 64)), (1, .int a1), (2, .int a2), (3, .int i_1), (4, .int i_3), (6, .int i_11)] → W p l e (kr 4 91) s m (List.toArray [.ref (bs g 64), .int a1, .int a2]) below meth c H locs 0 0 Q (F0 m 97 ls [.int i_13])) hf (fun i_13 hf => ?_) (fun k_14 hk_14 hf => ?_)
            · intro H locs ls hW hS hl
              refine lv_istore (lv' := [(5, .int i_13), (0, .ref (bs g 64)), (1, .int a1), (2, .int a2), (3, .int i_1), (4, .int i_3), (6, .int i_11)]) hx hb dX13_doesGuard_97 hl (by decide) rfl (fun ls hl => ?_)
              obtain ⟨x_15, e_16, hf⟩ := nm_s hf
              refine lv_iinc (v := x_15) (lv' := [(6, .int x_15), (5, .int i_13), (0, .ref (bs g 64)), (1, .int a1), (2, .int a2), (3, .int i_1), (4, .int i_3)]) hx hb dX13_doesGuard_99 hl (k := 6) rfl (by rw [e_16]; rfl) (by decide) rfl (fun ls hl => ?_)
              refine lv_goto (tgt := 41) hx hb dX13_doesGuard_102 (by decide) ?_
              exact hk_12 i_13 x_15 hf H locs ls hW hS (lv_sub hl [2, 3, 4, 5, 6, 1, 0] rfl)
            · refine jn0_W (∀ (H : Heap) (locs : List Loc) (ls : Array Slot), Wd g 0 81 σ H → va_S (Ag g 0) s.heap H locs → lv_has ls 7 [(0, .ref (bs g 64)), (1, .int a1), (2, .int a2), (3, .int i_1), (4, .int i_3), (6, .int i_11)] → W p l e (kr 4 91) s m (List.toArray [.ref (bs g 64), .int a1, .int a2]) below meth c H locs 0 0 Q (F0 m 96 ls [])) hf (fun  hf => ?_) (fun k_17 hk_17 hf => ?_)
              · intro H locs ls hW hS hl
                refine lv_iconst (v := 0) hx hb dX13_doesGuard_96 (by decide) ?_
                exact hk_14 0 hf H locs ls hW hS (lv_sub hl [0, 1, 2, 3, 4, 5] rfl)
              · refine lv_if_eq (tgt := 96) hx hb dX13_doesGuard_54 (by decide) (fun hc => ?_) (fun hc => ?_)
                · have hf := ift hc hf
                  exact hk_17  hf H locs ls hW hS (lv_sub hl [0, 1, 2, 3, 4, 6] rfl)
                · have hf := iff_ hc hf
                  refine lv_iload_n hx hb dX13_doesGuard_57 rfl (lv_at hl 1 rfl) ?_
                  refine lv_iload hx hb dX13_doesGuard_58 (lv_at hl 6 rfl) ?_
                  refine mcip hf hS (fun r h => va_runS (As := [.int a1, .int i_11]) (rest := []) ⟨hx, hb, hml, hown, hts⟩ (c_X13_hasBit g l 0 81 σ a1 i_11 r h) (cl_X13_307 hts ⟨Nat.le_of_ble_eq_true rfl, Nat.le_of_ble_eq_true rfl⟩) (mpS hZ hT hS hW _) rfl rfl hl.1 rfl (lv_room (Nat.le_of_ble_eq_true rfl)) dX13_doesGuard_60 ⟨Nat.zero_le _, Nat.zero_le _⟩) (fun r_18 H locs hf hW hS => ?_)
                  refine jn0_W (∀ (H : Heap) (locs : List Loc) (ls : Array Slot), Wd g 0 81 σ H → va_S (Ag g 0) s.heap H locs → lv_has ls 7 [(0, .ref (bs g 64)), (1, .int a1), (2, .int a2), (3, .int i_1), (4, .int i_3), (6, .int i_11)] → W p l e (kr 4 91) s m (List.toArray [.ref (bs g 64), .int a1, .int a2]) below meth c H locs 0 0 Q (F0 m 92 ls [])) hf (fun  hf => ?_) (fun k_19 hk_19 hf => ?_)
                  · intro H locs ls hW hS hl
                    refine lv_iconst (v := 1) hx hb dX13_doesGuard_92 (by decide) ?_
                    refine lv_goto (tgt := 97) hx hb dX13_doesGuard_93 (by decide) ?_
                    exact hk_14 1 hf H locs ls hW hS (lv_sub hl [0, 1, 2, 3, 4, 5] rfl)
                  · refine lv_if_eq (tgt := 92) hx hb dX13_doesGuard_63 (by decide) (fun hc => ?_) (fun hc => ?_)
                    · have hf := ift hc hf
                      exact hk_19  hf H locs ls hW hS (lv_sub hl [0, 1, 2, 3, 4, 6] rfl)
                    · have hf := iff_ hc hf
                      refine lv_aload_n hx hb dX13_doesGuard_66 rfl (lv_at hl 0 rfl) ?_
                      refine lv_iload_n hx hb dX13_doesGuard_67 rfl (lv_at hl 3 rfl) ?_
                      refine lv_iload_n hx hb dX13_doesGuard_68 rfl (lv_at hl 2 rfl) ?_
                      refine mcip hf hS (fun r h => va_runV (As := [.int i_1, .int a2]) (rest := []) ⟨hx, hb, hml, hown, hts⟩ (c_X13_lookOn g l σ i_1 a2 r h) (cl_X13_263 hts ⟨Nat.le_of_ble_eq_true rfl, Nat.le_of_ble_eq_true rfl⟩) (mpV_13 hZ hT hS hW tz_64 _) rfl rfl hl.1 rfl (lv_room (Nat.le_of_ble_eq_true rfl)) dX13_doesGuard_69 ⟨Nat.zero_le _, Nat.zero_le _⟩) (fun r_20 H locs hf hW hS => ?_)
                      refine lv_iload hx hb dX13_doesGuard_72 (lv_at hl 6 rfl) ?_
                      refine mcip hf hS (fun r h => va_runS (As := [.int r_20, .int i_11]) (rest := []) ⟨hx, hb, hml, hown, hts⟩ (c_X13_markOf g l 0 81 σ r_20 i_11 r h) (cl_X13_247 hts ⟨Nat.le_of_ble_eq_true rfl, Nat.le_of_ble_eq_true rfl⟩) (mpS hZ hT hS hW _) rfl rfl hl.1 rfl (lv_room (Nat.le_of_ble_eq_true rfl)) dX13_doesGuard_74 ⟨Nat.zero_le _, Nat.zero_le _⟩) (fun r_21 H locs hf hW hS => ?_)
                      refine lv_aload_n hx hb dX13_doesGuard_77 rfl (lv_at hl 0 rfl) ?_
                      refine lv_iload hx hb dX13_doesGuard_78 (lv_at hl 4 rfl) ?_
                      refine lv_iload_n hx hb dX13_doesGuard_80 rfl (lv_at hl 2 rfl) ?_
                      refine mcip hf hS (fun r h => va_runV (As := [.int i_3, .int a2]) (rest := [.int r_21]) ⟨hx, hb, hml, hown, hts⟩ (c_X13_papersOn g l σ i_3 a2 r h) (cl_X13_285 hts ⟨Nat.le_of_ble_eq_true rfl, Nat.le_of_ble_eq_true rfl⟩) (mpV_13 hZ hT hS hW tz_64 _) rfl rfl hl.1 rfl (lv_room (Nat.le_of_ble_eq_true rfl)) dX13_doesGuard_81 ⟨Nat.zero_le _, Nat.zero_le _⟩) (fun r_22 H locs hf hW hS => ?_)
                      refine lv_iload hx hb dX13_doesGuard_84 (lv_at hl 6 rfl) ?_
                      refine mcip hf hS (fun r h => va_runS (As := [.int r_22, .int i_11]) (rest := [.int r_21]) ⟨hx, hb, hml, hown, hts⟩ (c_X13_markOf g l 0 81 σ r_22 i_11 r h) (cl_X13_247 hts ⟨Nat.le_of_ble_eq_true rfl, Nat.le_of_ble_eq_true rfl⟩) (mpS hZ hT hS hW _) rfl rfl hl.1 rfl (lv_room (Nat.le_of_ble_eq_true rfl)) dX13_doesGuard_86 ⟨Nat.zero_le _, Nat.zero_le _⟩) (fun r_23 H locs hf hW hS => ?_)
                      refine lv_icmp_ne (tgt := 96) hx hb dX13_doesGuard_89 (by decide) (fun hc => ?_) (fun hc => ?_)
                      · have hf := iff_ hc hf
                        exact hk_17  hf H locs ls hW hS (lv_sub hl [0, 1, 2, 3, 4, 6] rfl)
                      · have hf := ift hc hf
                        exact hk_19  hf H locs ls hW hS (lv_sub hl [0, 1, 2, 3, 4, 6] rfl)
        · have hf := ift hc hf
          refine lv_goto (tgt := 112) hx hb dX13_doesGuard_32 (by decide) ?_
          exact hk_7  hf H locs ls hW hS (lv_sub hl [0, 1, 2, 3, 4] rfl)
