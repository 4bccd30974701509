def f_X12_idle (σ : Mem)  : Option (Int32 × Mem) :=
  bd1 (f_X12_ofTown σ) (fun (r_1 : Int32) => bd2 (f_X12_refused σ r_1) (fun (r_2 : Int32) (σ_3 : Mem) => (if r_2 = 0 then bd1 (f_X9_copy σ_3 32 28) (fun (σ_4 : Mem) => bd1 (f_X9_countHeld σ_4 28) (fun (r_5 : Int32) => fx3 FU (fun k_9 (i_6 : Int32) (i_7 : Int32) (σ_8 : Mem) => (if 30 ≤ i_7 then some (i_6, σ_8) else bd1 (f_X9_isAwaited σ_8 28 i_7) (fun (r_10 : Int32) => jn2 (fun (i_11 : Int32) (σ_12 : Mem) => nm (i_7 + 1) (fun (x_14 : Int32) => k_9 i_11 x_14 σ_12)) (fun k_13 => (if r_10 = 0 then k_13 i_6 σ_8 else bd1 (f_X9_setVisitor σ_8 32 i_7 (-2)) (fun (σ_16 : Mem) => bd1 (f_X9_countHeld σ_16 32) (fun (r_17 : Int32) => jn1 (fun (i_18 : Int32) => nm (i_6 ||| i_18) (fun (x_20 : Int32) => bd1 (f_X9_visitor σ_16 28 i_7) (fun (r_21 : Int32) => bd1 (f_X9_setVisitor σ_16 32 i_7 r_21) (fun (σ_22 : Mem) => k_13 x_20 σ_22)))) (fun k_19 => (if r_17 < r_5 then k_19 0 else k_19 (1 <<< (i_7 &&& 31))))))))))) 0 0 σ_4)) else some ((-1), σ_3))))
set_option maxHeartbeats 4000000 in
set_option maxRecDepth 100000 in
theorem c_X12_idle (g : XG) (l : Launch) (σ : Mem) (r : Int32) (τ : Mem) (hf : f_X12_idle σ = some (r, τ)) : Met l yX12_idle (wx (.code yX12_idle cX12_idle 4 (some .int))) (kr 6 170) (va_Pc [.ref (bs g 0)] (WS g 0 81 σ)) (Qi' g 0 81 r τ) 0 0 (Ag g 0) := by
  refine Met.ofW (cc := cX12_idle) (maxL := 4) (ret := (some .int)) (by decide) rfl ?_
  intro p e s m args below meth c s₁ B hml hv
  obtain ⟨rfl, hZ, hT, hW⟩ := hv
  have hx := B.exec
  have hb := B.bytes
  have hr := B.returns
  have hts : ∀ w ∈ wx (.code yX12_idle cX12_idle 4 (some .int)), w.before _ s = true := atoms_spec B.pre
  have htg : ∀ w ∈ lwg, w.before _ s = true := fun w h => hts w (List.mem_cons_of_mem _ h)
  have hown : s.vm.findClass RX12 = some m.cls := findClass_of_methodNamed B.named
  have hlocks := B.notSynchronized
  change W p l e (kr 6 170) s m (List.toArray [.ref (bs g 0)]) below meth c s.heap [] 0 0 (MQ below (Qi' g 0 81 r τ) (List.toArray [.ref (bs g 0)]) s 0 0 (Ag g 0)) _
  generalize hQ : MQ below (Qi' g 0 81 r τ) (List.toArray [.ref (bs g 0)]) s 0 0 (Ag g 0) = Q
  have hS : va_S (Ag g 0) s.heap s.heap [] := va_S.rf
  have hl := lv_entry ([.ref (bs g 0)]) (n := 4) (Nat.le_of_ble_eq_true rfl)
  rw [lg_entry_eq]
  generalize (lg_sl ([.ref (bs g 0)]) ++ List.replicate (4 - (lg_sl ([.ref (bs g 0)])).length) Slot.unset).toArray = ls at hl ⊢
  have hl : lv_has ls 4 [(0, .ref (bs g 0))] := hl
  delta f_X12_idle at hf
  obtain ⟨H, hH⟩ : ∃ H, H = s.heap := ⟨_, rfl⟩
  obtain ⟨locs, hLc⟩ : ∃ z : List Loc, z = [] := ⟨_, rfl⟩
  have hS : va_S (Ag g 0) s.heap H locs := by rw [hH, hLc]; exact hS
  have hW : Wd g 0 81 σ H := by rw [hH]; exact hW
  suffices hG : W p l e (kr 6 170) s m (List.toArray [.ref (bs g 0)]) below meth c H locs 0 0 Q (F0 m 0 ls []) by rw [hH, hLc] at hG; exact hG
  clear hH hLc
  refine lv_aload_n hx hb dX12_idle_0 rfl (lv_at hl 0 rfl) ?_
  refine lv_aload_n hx hb dX12_idle_1 rfl (lv_at hl 0 rfl) ?_
  refine mcip hf hS (fun r h => va_runV (As := []) (rest := [.ref (bs g 0)]) ⟨hx, hb, hml, hown, hts⟩ (c_X12_ofTown g l σ r h) (cl_X12_201 hts ⟨Nat.le_of_ble_eq_true rfl, Nat.le_of_ble_eq_true rfl⟩) (mpV_12 hZ hT hS hW tz_0 _) rfl rfl hl.1 rfl (lv_room (Nat.le_of_ble_eq_true rfl)) dX12_idle_2 ⟨Nat.zero_le _, Nat.zero_le _⟩) (fun r_1 H locs hf hW hS => ?_)
  refine mci hf hS (fun r τ h => va_runV (As := [.int r_1]) (rest := []) ⟨hx, hb, hml, hown, hts⟩ (c_X12_refused g l σ r_1 r τ h) (cl_X12_98 hts ⟨Nat.le_of_ble_eq_true rfl, Nat.le_of_ble_eq_true rfl⟩) (mpV_12 hZ hT hS hW tz_0 _) rfl rfl hl.1 rfl (lv_room (Nat.le_of_ble_eq_true rfl)) dX12_idle_5 ⟨Nat.zero_le _, Nat.zero_le _⟩) (fun r_2 σ_3 H locs hf hW hS => ?_)
  refine lv_if_eq (tgt := 13) hx hb dX12_idle_8 (by decide) (fun hc => ?_) (fun hc => ?_)
  · have hf := ift hc hf
    refine lv_aload_n hx hb dX12_idle_13 rfl (lv_at hl 0 rfl) ?_
    refine gf_12_3 hx hb htg (htg _ lf_X12_44) hown hZ hW tz_0 dX12_idle_14 ?_
    refine lv_aload_n hx hb dX12_idle_17 rfl (lv_at hl 0 rfl) ?_
    refine gf_12_2 hx hb htg (htg _ lf_X12_40) hown hZ hW tz_0 dX12_idle_18 ?_
    refine mcv hf hS (fun τ h => va_runV (As := [.ref (bs g 28)]) (rest := []) ⟨hx, hb, hml, hown, hts⟩ (c_X9_copy g l 0 81 σ_3 32 28 tz_32 tz_28 τ h) (cl_X12_230 hts ⟨Nat.le_of_ble_eq_true rfl, Nat.le_of_ble_eq_true rfl⟩) (mpV_9 hZ hT hS hW tz_32 _) rfl rfl hl.1 rfl (lv_room (Nat.le_of_ble_eq_true rfl)) dX12_idle_21 ⟨Nat.zero_le _, Nat.zero_le _⟩) (fun σ_4 H locs hf hW hS => ?_)
    refine lv_aload_n hx hb dX12_idle_24 rfl (lv_at hl 0 rfl) ?_
    refine gf_12_2 hx hb htg (htg _ lf_X12_40) hown hZ hW tz_0 dX12_idle_25 ?_
    refine mcip hf hS (fun r h => va_runV (As := []) (rest := []) ⟨hx, hb, hml, hown, hts⟩ (c_X9_countHeld g l 0 81 σ_4 28 tz_28 r h) (cl_X12_240 hts ⟨Nat.le_of_ble_eq_true rfl, Nat.le_of_ble_eq_true rfl⟩) (mpV_9 hZ hT hS hW tz_28 _) rfl rfl hl.1 rfl (lv_room (Nat.le_of_ble_eq_true rfl)) dX12_idle_28 ⟨Nat.zero_le _, Nat.zero_le _⟩) (fun r_5 H locs hf hW hS => ?_)
    refine lv_istore_n (lv' := [(1, .int r_5), (0, .ref (bs g 0))]) hx hb dX12_idle_31 rfl hl (by decide) rfl (fun ls hl => ?_)
    refine lv_iconst (v := 0) hx hb dX12_idle_32 (by decide) ?_
    refine lv_istore_n (lv' := [(2, .int 0), (1, .int r_5), (0, .ref (bs g 0))]) hx hb dX12_idle_33 rfl hl (by decide) rfl (fun ls hl => ?_)
    refine lv_iconst (v := 0) hx hb dX12_idle_34 (by decide) ?_
    refine lv_istore_n (lv' := [(3, .int 0), (2, .int 0), (1, .int r_5), (0, .ref (bs g 0))]) hx hb dX12_idle_35 rfl hl (by decide) rfl (fun ls hl => ?_)
    refine fx3_W (fun (i_6 : Int32) (i_7 : Int32) (σ_8 : Mem) => ∀ (H : Heap) (locs : List Loc) (ls : Array Slot), Wd g 0 81 σ_8 H → va_S (Ag g 0) s.heap H locs → lv_has ls 4 [(0, .ref (bs g 0)), (1, .int r_5), (2, .int i_6), (3, .int i_7)] → W p l e (kr 6 170) s m (List.toArray [.ref (bs g 0)]) below meth c H locs 0 0 Q (F0 m 36 ls [])) (fun k_9 hk_9 i_6 i_7 σ_8 hf => ?_) FU 0 0 σ_4 hf H locs ls hW hS (lv_sub hl [3, 2, 1, 0] rfl)
    intro H locs ls hW hS hl
    refine lv_iload_n hx hb dX12_idle_36 rfl (lv_at hl 3 rfl) ?_
    refine lv_bipush (v := 30) hx hb dX12_idle_37 (by decide) ?_
    refine lv_icmp_ge (tgt := 106) hx hb dX12_idle_39 (by decide) (fun hc => ?_) (fun hc => ?_)
    · have hf := ift hc hf
      refine lv_iload_n hx hb dX12_idle_106 rfl (lv_at hl 2 rfl) ?_
      subst hQ
      exact mri hx hb hr hlocks hZ hT hS hW (pr1 hf) dX12_idle_107
    · have hf := iff_ hc hf
      refine lv_aload_n hx hb dX12_idle_42 rfl (lv_at hl 0 rfl) ?_
      refine gf_12_2 hx hb htg (htg _ lf_X12_40) hown hZ hW tz_0 dX12_idle_43 ?_
      refine lv_iload_n hx hb dX12_idle_46 rfl (lv_at hl 3 rfl) ?_
      refine mcip hf hS (fun r h => va_runV (As := [.int i_7]) (rest := []) ⟨hx, hb, hml, hown, hts⟩ (c_X9_isAwaited g l 0 81 σ_8 28 i_7 tz_28 r h) (cl_X12_248 hts ⟨Nat.le_of_ble_eq_true rfl, Nat.le_of_ble_eq_true rfl⟩) (mpV_9 hZ hT hS hW tz_28 _) rfl rfl hl.1 rfl (lv_room (Nat.le_of_ble_eq_true rfl)) dX12_idle_47 ⟨Nat.zero_le _, Nat.zero_le _⟩) (fun r_10 H locs hf hW hS => ?_)
      refine jn2_W (fun (i_11 : Int32) (σ_12 : Mem) => ∀ (H : Heap) (locs : List Loc) (ls : Array Slot), Wd g 0 81 σ_12 H → va_S (Ag g 0) s.heap H locs → lv_has ls 4 [(0, .ref (bs g 0)), (1, .int r_5), (2, .int i_11), (3, .int i_7)] → W p l e (kr 6 170) s m (List.toArray [.ref (bs g 0)]) below meth c H locs 0 0 Q (F0 m 100 ls [])) hf (fun i_11 σ_12 hf => ?_) (fun k_13 hk_13 hf => ?_)
      · intro H locs ls hW hS hl
        obtain ⟨x_14, e_15, hf⟩ := nm_s hf
        refine lv_iinc (v := x_14) (lv' := [(3, .int x_14), (0, .ref (bs g 0)), (1, .int r_5), (2, .int i_11)]) hx hb dX12_idle_100 hl (k := 3) rfl (by rw [e_15]; rfl) (by decide) rfl (fun ls hl => ?_)
        refine lv_goto (tgt := 36) hx hb dX12_idle_103 (by decide) ?_
        exact hk_9 i_11 x_14 σ_12 hf H locs ls hW hS (lv_sub hl [1, 2, 3, 0] rfl)
      · refine lv_if_eq (tgt := 100) hx hb dX12_idle_50 (by decide) (fun hc => ?_) (fun hc => ?_)
        · have hf := ift hc hf
          exact hk_13 i_6 σ_8 hf H locs ls hW hS (lv_sub hl [0, 1, 2, 3] rfl)
        · have hf := iff_ hc hf
          refine lv_aload_n hx hb dX12_idle_53 rfl (lv_at hl 0 rfl) ?_
          refine gf_12_3 hx hb htg (htg _ lf_X12_44) hown hZ hW tz_0 dX12_idle_54 ?_
          refine lv_iload_n hx hb dX12_idle_57 rfl (lv_at hl 3 rfl) ?_
          refine lv_bipush (v := (-2)) hx hb dX12_idle_58 (by decide) ?_
          refine mcv hf hS (fun τ h => va_runV (As := [.int i_7, .int (-2)]) (rest := []) ⟨hx, hb, hml, hown, hts⟩ (c_X9_setVisitor g l 0 81 σ_8 32 i_7 (-2) tz_32 τ h) (cl_X12_236 hts ⟨Nat.le_of_ble_eq_true rfl, Nat.le_of_ble_eq_true rfl⟩) (mpV_9 hZ hT hS hW tz_32 _) rfl rfl hl.1 rfl (lv_room (Nat.le_of_ble_eq_true rfl)) dX12_idle_60 ⟨Nat.zero_le _, Nat.zero_le _⟩) (fun σ_16 H locs hf hW hS => ?_)
          refine lv_iload_n hx hb dX12_idle_63 rfl (lv_at hl 2 rfl) ?_
          refine lv_aload_n hx hb dX12_idle_64 rfl (lv_at hl 0 rfl) ?_
          refine gf_12_3 hx hb htg (htg _ lf_X12_44) hown hZ hW tz_0 dX12_idle_65 ?_
          refine mcip hf hS (fun r h => va_runV (As := []) (rest := [.int i_6]) ⟨hx, hb, hml, hown, hts⟩ (c_X9_countHeld g l 0 81 σ_16 32 tz_32 r h) (cl_X12_240 hts ⟨Nat.le_of_ble_eq_true rfl, Nat.le_of_ble_eq_true rfl⟩) (mpV_9 hZ hT hS hW tz_32 _) rfl rfl hl.1 rfl (lv_room (Nat.le_of_ble_eq_true rfl)) dX12_idle_68 ⟨Nat.zero_le _, Nat.zero_le _⟩) (fun r_17 H locs hf hW hS => ?_)
          refine lv_iload_n hx hb dX12_idle_71 rfl (lv_at hl 1 rfl) ?_
          refine jn1_W (fun (i_18 : Int32) => ∀ (H : Heap) (locs : List Loc) (ls : Array Slot), Wd g 0 81 σ_16 H → va_S (Ag g 0) s.heap H locs → lv_has ls 4 [(0, .ref (bs g 0)), (1, .int r_5), (3, .int i_7)] → W p l e (kr 6 170) s m (List.toArray [.ref (bs g 0)]) below meth c H locs 0 0 Q (F0 m 82 ls [.int i_18, .int i_6])) hf (fun i_18 hf => ?_) (fun k_19 hk_19 hf => ?_)
          · intro H locs ls hW hS hl
            refine lv_ior hx hb dX12_idle_82 ?_
            refine mnmi hf (fun (x_20 : Int32) hf => ?_)
            refine lv_istore_n (lv' := [(2, .int x_20), (0, .ref (bs g 0)), (1, .int r_5), (3, .int i_7)]) hx hb dX12_idle_83 rfl hl (by decide) rfl (fun ls hl => ?_)
            refine lv_aload_n hx hb dX12_idle_84 rfl (lv_at hl 1 rfl) ?_
            refine gf_12_3 hx hb htg (htg _ lf_X12_44) hown hZ hW tz_0 dX12_idle_85 ?_
            refine lv_iload_n hx hb dX12_idle_88 rfl (lv_at hl 3 rfl) ?_
            refine lv_aload_n hx hb dX12_idle_89 rfl (lv_at hl 1 rfl) ?_
            refine gf_12_2 hx hb htg (htg _ lf_X12_40) hown hZ hW tz_0 dX12_idle_90 ?_
            refine lv_iload_n hx hb dX12_idle_93 rfl (lv_at hl 3 rfl) ?_
            refine mcip hf hS (fun r h => va_runV (As := [.int i_7]) (rest := [.int i_7, .ref (bs g 32)]) ⟨hx, hb, hml, hown, hts⟩ (c_X9_visitor g l 0 81 σ_16 28 i_7 tz_28 r h) (cl_X12_181 hts ⟨Nat.le_of_ble_eq_true rfl, Nat.le_of_ble_eq_true rfl⟩) (mpV_9 hZ hT hS hW tz_28 _) rfl rfl hl.1 rfl (lv_room (Nat.le_of_ble_eq_true rfl)) dX12_idle_94 ⟨Nat.zero_le _, Nat.zero_le _⟩) (fun r_21 H locs hf hW hS => ?_)
            refine mcv hf hS (fun τ h => va_runV (As := [.int i_7, .int r_21]) (rest := []) ⟨hx, hb, hml, hown, hts⟩ (c_X9_setVisitor g l 0 81 σ_16 32 i_7 r_21 tz_32 τ h) (cl_X12_236 hts ⟨Nat.le_of_ble_eq_true rfl, Nat.le_of_ble_eq_true rfl⟩) (mpV_9 hZ hT hS hW tz_32 _) rfl rfl hl.1 rfl (lv_room (Nat.le_of_ble_eq_true rfl)) dX12_idle_97 ⟨Nat.zero_le _, Nat.zero_le _⟩) (fun σ_22 H locs hf hW hS => ?_)
            exact hk_13 x_20 σ_22 hf H locs ls hW hS (lv_sub hl [1, 2, 0, 3] rfl)
          · refine lv_icmp_lt (tgt := 81) hx hb dX12_idle_72 (by decide) (fun hc => ?_) (fun hc => ?_)
            · have hf := ift hc hf
              refine lv_iconst (v := 0) hx hb dX12_idle_81 (by decide) ?_
              exact hk_19 0 hf H locs ls hW hS (lv_sub hl [0, 1, 3] rfl)
            · have hf := iff_ hc hf
              refine lv_iconst (v := 1) hx hb dX12_idle_75 (by decide) ?_
              refine lv_iload_n hx hb dX12_idle_76 rfl (lv_at hl 3 rfl) ?_
              refine lv_ishl hx hb dX12_idle_77 ?_
              refine lv_goto (tgt := 82) hx hb dX12_idle_78 (by decide) ?_
              exact hk_19 (1 <<< (i_7 &&& 31)) hf H locs ls hW hS (lv_sub hl [0, 1, 3] rfl)
  · have hf := iff_ hc hf
    refine lv_iconst (v := (-1)) hx hb dX12_idle_11 (by decide) ?_
    subst hQ
    exact mri hx hb hr hlocks hZ hT hS hW (pr1 hf) dX12_idle_12
def f_X12_ofSwap (σ : Mem) (a1 : Int32) (a2 : Int32) : Option (Int32) :=
  bd1 (f_X12_ofDay σ a1) (fun (r_1 : Int32) => bd1 (f_X12_ofDay σ a2) (fun (r_2 : Int32) => nm (if r_1 < r_2 then r_2 else r_1) (fun (x_3 : Int32) => (if x_3 = 0 then jn0 (some 5) (fun k_4 => (if a1 = a2 then k_4 else bd1 (f_X9_isAwaited σ 28 a1) (fun (r_5 : Int32) => (if r_5 = 0 then k_4 else bd1 (f_X9_isAwaited σ 28 a2) (fun (r_6 : Int32) => (if r_6 = 0 then k_4 else some 0)))))) else some x_3))))
set_option maxHeartbeats 4000000 in
set_option maxRecDepth 100000 in
theorem c_X12_ofSwap (g : XG) (l : Launch) (σ : Mem) (a1 : Int32) (a2 : Int32) (r : Int32) (hf : f_X12_ofSwap σ a1 a2 = some r) : Met l yX12_ofSwap (wx (.code yX12_ofSwap cX12_ofSwap 4 (some .int))) (kr 4 82) (va_Pc [.ref (bs g 0), .int a1, .int a2] (WS g 0 81 σ)) (Qi' g 0 81 r σ) 0 0 (Ag g 0) := by
  refine Met.ofW (cc := cX12_ofSwap) (maxL := 4) (ret := (some .int)) (by decide) rfl ?_
  intro p e s m args below meth c s₁ B hml hv
  obtain ⟨rfl, hZ, hT, hW⟩ := hv
  have hx := B.exec
  have hb := B.bytes
  have hr := B.returns
  have hts : ∀ w ∈ wx (.code yX12_ofSwap cX12_ofSwap 4 (some .int)), w.before _ s = true := atoms_spec B.pre
  have htg : ∀ w ∈ lwg, w.before _ s = true := fun w h => hts w (List.mem_cons_of_mem _ h)
  have hown : s.vm.findClass RX12 = some m.cls := findClass_of_methodNamed B.named
  have hlocks := B.notSynchronized
  change W p l e (kr 4 82) s m (List.toArray [.ref (bs g 0), .int a1, .int a2]) below meth c s.heap [] 0 0 (MQ below (Qi' g 0 81 r σ) (List.toArray [.ref (bs g 0), .int a1, .int a2]) s 0 0 (Ag g 0)) _
  generalize hQ : MQ below (Qi' g 0 81 r σ) (List.toArray [.ref (bs g 0), .int a1, .int a2]) s 0 0 (Ag g 0) = Q
  have hS : va_S (Ag g 0) s.heap s.heap [] := va_S.rf
  have hl := lv_entry ([.ref (bs g 0), .int a1, .int a2]) (n := 4) (Nat.le_of_ble_eq_true rfl)
  rw [lg_entry_eq]
  generalize (lg_sl ([.ref (bs g 0), .int a1, .int a2]) ++ List.replicate (4 - (lg_sl ([.ref (bs g 0), .int a1, .int a2])).length) Slot.unset).toArray = ls at hl ⊢
  have hl : lv_has ls 4 [(0, .ref (bs g 0)), (1, .int a1), (2, .int a2)] := hl
  delta f_X12_ofSwap at hf
  obtain ⟨H, hH⟩ : ∃ H, H = s.heap := ⟨_, rfl⟩
  obtain ⟨locs, hLc⟩ : ∃ z : List Loc, z = [] := ⟨_, rfl⟩
  have hS : va_S (Ag g 0) s.heap H locs := by rw [hH, hLc]; exact hS
  have hW : Wd g 0 81 σ H := by rw [hH]; exact hW
  suffices hG : W p l e (kr 4 82) s m (List.toArray [.ref (bs g 0), .int a1, .int a2]) below meth c H locs 0 0 Q (F0 m 0 ls []) by rw [hH, hLc] at hG; exact hG
  clear hH hLc
  refine lv_aload_n hx hb dX12_ofSwap_0 rfl (lv_at hl 0 rfl) ?_
  refine lv_iload_n hx hb dX12_ofSwap_1 rfl (lv_at hl 1 rfl) ?_
  refine mcip hf hS (fun r h => va_runV (As := [.int a1]) (rest := []) ⟨hx, hb, hml, hown, hts⟩ (c_X12_ofDay g l σ a1 r h) (cl_X12_175 hts ⟨Nat.le_of_ble_eq_true rfl, Nat.le_of_ble_eq_true rfl⟩) (mpV_12 hZ hT hS hW tz_0 _) rfl rfl hl.1 rfl (lv_room (Nat.le_of_ble_eq_true rfl)) dX12_ofSwap_2 ⟨Nat.zero_le _, Nat.zero_le _⟩) (fun r_1 H locs hf hW hS => ?_)
  refine lv_aload_n hx hb dX12_ofSwap_5 rfl (lv_at hl 0 rfl) ?_
  refine lv_iload_n hx hb dX12_ofSwap_6 rfl (lv_at hl 2 rfl) ?_
  refine mcip hf hS (fun r h => va_runV (As := [.int a2]) (rest := [.int r_1]) ⟨hx, hb, hml, hown, hts⟩ (c_X12_ofDay g l σ a2 r h) (cl_X12_175 hts ⟨Nat.le_of_ble_eq_true rfl, Nat.le_of_ble_eq_true rfl⟩) (mpV_12 hZ hT hS hW tz_0 _) rfl rfl hl.1 rfl (lv_room (Nat.le_of_ble_eq_true rfl)) dX12_ofSwap_7 ⟨Nat.zero_le _, Nat.zero_le _⟩) (fun r_2 H locs hf hW hS => ?_)
  refine va_mmax hx hb (hml.trans hl.1.symm) hown (htg _ lm_X12_243) (htg _ lst_Math_max) (htg _ ini_Math) (htg _ lc_Math_max) (Nat.le_of_ble_eq_true rfl) (Nat.le_of_ble_eq_true rfl) (Nat.zero_le _) (Nat.zero_le _) dX12_ofSwap_10 ?_
  refine mnmi hf (fun (x_3 : Int32) hf => ?_)
  refine lv_istore_n (lv' := [(3, .int x_3), (0, .ref (bs g 0)), (1, .int a1), (2, .int a2)]) hx hb dX12_ofSwap_13 rfl hl (by decide) rfl (fun ls hl => ?_)
  refine lv_iload_n hx hb dX12_ofSwap_14 rfl (lv_at hl 0 rfl) ?_
  refine lv_if_eq (tgt := 20) hx hb dX12_ofSwap_15 (by decide) (fun hc => ?_) (fun hc => ?_)
  · have hf := ift hc hf
    refine lv_iload_n hx hb dX12_ofSwap_20 rfl (lv_at hl 2 rfl) ?_
    refine lv_iload_n hx hb dX12_ofSwap_21 rfl (lv_at hl 3 rfl) ?_
    refine jn0_W (∀ (H : Heap) (locs : List Loc) (ls : Array Slot), Wd g 0 81 σ H → va_S (Ag g 0) s.heap H locs → lv_has ls 4 [] → W p l e (kr 4 82) s m (List.toArray [.ref (bs g 0), .int a1, .int a2]) below meth c H locs 0 0 Q (F0 m 51 ls [])) hf (fun  hf => ?_) (fun k_4 hk_4 hf => ?_)
    · intro H locs ls hW hS hl
      refine lv_iconst (v := 5) hx hb dX12_ofSwap_51 (by decide) ?_
      subst hQ
      exact mri hx hb hr hlocks hZ hT hS hW ⟨Option.some.inj hf, rfl⟩ dX12_ofSwap_52
    · refine lv_icmp_eq (tgt := 51) hx hb dX12_ofSwap_22 (by decide) (fun hc => ?_) (fun hc => ?_)
      · have hf := ift hc hf
        exact hk_4  hf H locs ls hW hS (lv_sub hl [] rfl)
      · have hf := iff_ hc hf
        refine lv_aload_n hx hb dX12_ofSwap_25 rfl (lv_at hl 1 rfl) ?_
        refine gf_12_2 hx hb htg (htg _ lf_X12_40) hown hZ hW tz_0 dX12_ofSwap_26 ?_
        refine lv_iload_n hx hb dX12_ofSwap_29 rfl (lv_at hl 2 rfl) ?_
        refine mcip hf hS (fun r h => va_runV (As := [.int a1]) (rest := []) ⟨hx, hb, hml, hown, hts⟩ (c_X9_isAwaited g l 0 81 σ 28 a1 tz_28 r h) (cl_X12_248 hts ⟨Nat.le_of_ble_eq_true rfl, Nat.le_of_ble_eq_true rfl⟩) (mpV_9 hZ hT hS hW tz_28 _) rfl rfl hl.1 rfl (lv_room (Nat.le_of_ble_eq_true rfl)) dX12_ofSwap_30 ⟨Nat.zero_le _, Nat.zero_le _⟩) (fun r_5 H locs hf hW hS => ?_)
        refine lv_if_eq (tgt := 51) hx hb dX12_ofSwap_33 (by decide) (fun hc => ?_) (fun hc => ?_)
        · have hf := ift hc hf
          exact hk_4  hf H locs ls hW hS (lv_sub hl [] rfl)
        · have hf := iff_ hc hf
          refine lv_aload_n hx hb dX12_ofSwap_36 rfl (lv_at hl 1 rfl) ?_
          refine gf_12_2 hx hb htg (htg _ lf_X12_40) hown hZ hW tz_0 dX12_ofSwap_37 ?_
          refine lv_iload_n hx hb dX12_ofSwap_40 rfl (lv_at hl 3 rfl) ?_
          refine mcip hf hS (fun r h => va_runV (As := [.int a2]) (rest := []) ⟨hx, hb, hml, hown, hts⟩ (c_X9_isAwaited g l 0 81 σ 28 a2 tz_28 r h) (cl_X12_248 hts ⟨Nat.le_of_ble_eq_true rfl, Nat.le_of_ble_eq_true rfl⟩) (mpV_9 hZ hT hS hW tz_28 _) rfl rfl hl.1 rfl (lv_room (Nat.le_of_ble_eq_true rfl)) dX12_ofSwap_41 ⟨Nat.zero_le _, Nat.zero_le _⟩) (fun r_6 H locs hf hW hS => ?_)
          refine lv_if_eq (tgt := 51) hx hb dX12_ofSwap_44 (by decide) (fun hc => ?_) (fun hc => ?_)
          · have hf := ift hc hf
            exact hk_4  hf H locs ls hW hS (lv_sub hl [] rfl)
          · have hf := iff_ hc hf
            refine lv_iconst (v := 0) hx hb dX12_ofSwap_47 (by decide) ?_
            refine lv_goto (tgt := 52) hx hb dX12_ofSwap_48 (by decide) ?_
            subst hQ
            exact mri hx hb hr hlocks hZ hT hS hW ⟨Option.some.inj hf, rfl⟩ dX12_ofSwap_52
  · have hf := iff_ hc hf
    refine lv_iload_n hx hb dX12_ofSwap_18 rfl (lv_at hl 0 rfl) ?_
    subst hQ
    exact mri hx hb hr hlocks hZ hT hS hW ⟨Option.some.inj hf, rfl⟩ dX12_ofSwap_19
def f_X12_heldBySwap (σ : Mem) (a1 : Int32) (a2 : Int32) : Option (Int32 × Mem) :=
  bd1 (f_X9_visitor σ 28 a2) (fun (r_1 : Int32) => bd1 (f_X9_setVisitor σ 32 a1 r_1) (fun (σ_2 : Mem) => bd1 (f_X9_visitor σ_2 28 a1) (fun (r_3 : Int32) => bd1 (f_X9_setVisitor σ_2 32 a2 r_3) (fun (σ_4 : Mem) => bd1 (f_X9_countHeld σ_4 32) (fun (r_5 : Int32) => bd1 (f_X9_visitor σ_4 28 a1) (fun (r_6 : Int32) => bd1 (f_X9_setVisitor σ_4 32 a1 r_6) (fun (σ_7 : Mem) => bd1 (f_X9_visitor σ_7 28 a2) (fun (r_8 : Int32) => bd1 (f_X9_setVisitor σ_7 32 a2 r_8) (fun (σ_9 : Mem) => some (r_5, σ_9))))))))))
set_option maxHeartbeats 4000000 in
set_option maxRecDepth 100000 in
theorem c_X12_heldBySwap (g : XG) (l : Launch) (σ : Mem) (a1 : Int32) (a2 : Int32) (r : Int32) (τ : Mem) (hf : f_X12_heldBySwap σ a1 a2 = some (r, τ)) : Met l yX12_heldBySwap (wx (.code yX12_heldBySwap cX12_heldBySwap 4 (some .int))) (kr 6 170) (va_Pc [.ref (bs g 0), .int a1, .int a2] (WS g 0 81 σ)) (Qi' g 0 81 r τ) 0 0 (Ag g 0) := by
  refine Met.ofW (cc := cX12_heldBySwap) (maxL := 4) (ret := (some .int)) (by decide) rfl ?_
  intro p e s m args below meth c s₁ B hml hv
  obtain ⟨rfl, hZ, hT, hW⟩ := hv
  have hx := B.exec
  have hb := B.bytes
  have hr := B.returns
  have hts : ∀ w ∈ wx (.code yX12_heldBySwap cX12_heldBySwap 4 (some .int)), w.before _ s = true := atoms_spec B.pre
  have htg : ∀ w ∈ lwg, w.before _ s = true := fun w h => hts w (List.mem_cons_of_mem _ h)
  have hown : s.vm.findClass RX12 = some m.cls := findClass_of_methodNamed B.named
  have hlocks := B.notSynchronized
  change W p l e (kr 6 170) s m (List.toArray [.ref (bs g 0), .int a1, .int a2]) below meth c s.heap [] 0 0 (MQ below (Qi' g 0 81 r τ) (List.toArray [.ref (bs g 0), .int a1, .int a2]) s 0 0 (Ag g 0)) _
  generalize hQ : MQ below (Qi' g 0 81 r τ) (List.toArray [.ref (bs g 0), .int a1, .int a2]) s 0 0 (Ag g 0) = Q
  have hS : va_S (Ag g 0) s.heap s.heap [] := va_S.rf
  have hl := lv_entry ([.ref (bs g 0), .int a1, .int a2]) (n := 4) (Nat.le_of_ble_eq_true rfl)
  rw [lg_entry_eq]
  generalize (lg_sl ([.ref (bs g 0), .int a1, .int a2]) ++ List.replicate (4 - (lg_sl ([.ref (bs g 0), .int a1, .int a2])).length) Slot.unset).toArray = ls at hl ⊢
  have hl : lv_has ls 4 [(0, .ref (bs g 0)), (1, .int a1), (2, .int a2)] := hl
  delta f_X12_heldBySwap at hf
  obtain ⟨H, hH⟩ : ∃ H, H = s.heap := ⟨_, rfl⟩
  obtain ⟨locs, hLc⟩ : ∃ z : List Loc, z = [] := ⟨_, rfl⟩
  have hS : va_S (Ag g 0) s.heap H locs := by rw [hH, hLc]; exact hS
  have hW : Wd g 0 81 σ H := by rw [hH]; exact hW
  suffices hG : W p l e (kr 6 170) s m (List.toArray [.ref (bs g 0), .int a1, .int a2]) below meth c H locs 0 0 Q (F0 m 0 ls []) by rw [hH, hLc] at hG; exact hG
  clear hH hLc
  refine lv_aload_n hx hb dX12_heldBySwap_0 rfl (lv_at hl 0 rfl) ?_
  refine gf_12_3 hx hb htg (htg _ lf_X12_44) hown hZ hW tz_0 dX12_heldBySwap_1 ?_
  refine lv_iload_n hx hb dX12_heldBySwap_4 rfl (lv_at hl 1 rfl) ?_
  refine lv_aload_n hx hb dX12_heldBySwap_5 rfl (lv_at hl 0 rfl) ?_
  refine gf_12_2 hx hb htg (htg _ lf_X12_40) hown hZ hW tz_0 dX12_heldBySwap_6 ?_
  refine lv_iload_n hx hb dX12_heldBySwap_9 rfl (lv_at hl 2 rfl) ?_
  refine mcip hf hS (fun r h => va_runV (As := [.int a2]) (rest := [.int a1, .ref (bs g 32)]) ⟨hx, hb, hml, hown, hts⟩ (c_X9_visitor g l 0 81 σ 28 a2 tz_28 r h) (cl_X12_181 hts ⟨Nat.le_of_ble_eq_true rfl, Nat.le_of_ble_eq_true rfl⟩) (mpV_9 hZ hT hS hW tz_28 _) rfl rfl hl.1 rfl (lv_room (Nat.le_of_ble_eq_true rfl)) dX12_heldBySwap_10 ⟨Nat.zero_le _, Nat.zero_le _⟩) (fun r_1 H locs hf hW hS => ?_)
  refine mcv hf hS (fun τ h => va_runV (As := [.int a1, .int r_1]) (rest := []) ⟨hx, hb, hml, hown, hts⟩ (c_X9_setVisitor g l 0 81 σ 32 a1 r_1 tz_32 τ h) (cl_X12_236 hts ⟨Nat.le_of_ble_eq_true rfl, Nat.le_of_ble_eq_true rfl⟩) (mpV_9 hZ hT hS hW tz_32 _) rfl rfl hl.1 rfl (lv_room (Nat.le_of_ble_eq_true rfl)) dX12_heldBySwap_13 ⟨Nat.zero_le _, Nat.zero_le _⟩) (fun σ_2 H locs hf hW hS => ?_)
  refine lv_aload_n hx hb dX12_heldBySwap_16 rfl (lv_at hl 0 rfl) ?_
  refine gf_12_3 hx hb htg (htg _ lf_X12_44) hown hZ hW tz_0 dX12_heldBySwap_17 ?_
  refine lv_iload_n hx hb dX12_heldBySwap_20 rfl (lv_at hl 2 rfl) ?_
  refine lv_aload_n hx hb dX12_heldBySwap_21 rfl (lv_at hl 0 rfl) ?_
  refine gf_12_2 hx hb htg (htg _ lf_X12_40) hown hZ hW tz_0 dX12_heldBySwap_22 ?_
  refine lv_iload_n hx hb dX12_heldBySwap_25 rfl (lv_at hl 1 rfl) ?_
  refine mcip hf hS (fun r h => va_runV (As := [.int a1]) (rest := [.int a2, .ref (bs g 32)]) ⟨hx, hb, hml, hown, hts⟩ (c_X9_visitor g l 0 81 σ_2 28 a1 tz_28 r h) (cl_X12_181 hts ⟨Nat.le_of_ble_eq_true rfl, Nat.le_of_ble_eq_true rfl⟩) (mpV_9 hZ hT hS hW tz_28 _) rfl rfl hl.1 rfl (lv_room (Nat.le_of_ble_eq_true rfl)) dX12_heldBySwap_26 ⟨Nat.zero_le _, Nat.zero_le _⟩) (fun r_3 H locs hf hW hS => ?_)
  refine mcv hf hS (fun τ h => va_runV (As := [.int a2, .int r_3]) (rest := []) ⟨hx, hb, hml, hown, hts⟩ (c_X9_setVisitor g l 0 81 σ_2 32 a2 r_3 tz_32 τ h) (cl_X12_236 hts ⟨Nat.le_of_ble_eq_true rfl, Nat.le_of_ble_eq_true rfl⟩) (mpV_9 hZ hT hS hW tz_32 _) rfl rfl hl.1 rfl (lv_room (Nat.le_of_ble_eq_true rfl)) dX12_heldBySwap_29 ⟨Nat.zero_le _, Nat.zero_le _⟩) (fun σ_4 H locs hf hW hS => ?_)
  refine lv_aload_n hx hb dX12_heldBySwap_32 rfl (lv_at hl 0 rfl) ?_
  refine gf_12_3 hx hb htg (htg _ lf_X12_44) hown hZ hW tz_0 dX12_heldBySwap_33 ?_
  refine mcip hf hS (fun r h => va_runV (As := []) (rest := []) ⟨hx, hb, hml, hown, hts⟩ (c_X9_countHeld g l 0 81 σ_4 32 tz_32 r h) (cl_X12_240 hts ⟨Nat.le_of_ble_eq_true rfl, Nat.le_of_ble_eq_true rfl⟩) (mpV_9 hZ hT hS hW tz_32 _) rfl rfl hl.1 rfl (lv_room (Nat.le_of_ble_eq_true rfl)) dX12_heldBySwap_36 ⟨Nat.zero_le _, Nat.zero_le _⟩) (fun r_5 H locs hf hW hS => ?_)
  refine lv_istore_n (lv' := [(3, .int r_5), (0, .ref (bs g 0)), (1, .int a1), (2, .int a2)]) hx hb dX12_heldBySwap_39 rfl hl (by decide) rfl (fun ls hl => ?_)
  refine lv_aload_n hx hb dX12_heldBySwap_40 rfl (lv_at hl 1 rfl) ?_
  refine gf_12_3 hx hb htg (htg _ lf_X12_44) hown hZ hW tz_0 dX12_heldBySwap_41 ?_
  refine lv_iload_n hx hb dX12_heldBySwap_44 rfl (lv_at hl 2 rfl) ?_
  refine lv_aload_n hx hb dX12_heldBySwap_45 rfl (lv_at hl 1 rfl) ?_
  refine gf_12_2 hx hb htg (htg _ lf_X12_40) hown hZ hW tz_0 dX12_heldBySwap_46 ?_
  refine lv_iload_n hx hb dX12_heldBySwap_49 rfl (lv_at hl 2 rfl) ?_
  refine mcip hf hS (fun r h => va_runV (As := [.int a1]) (rest := [.int a1, .ref (bs g 32)]) ⟨hx, hb, hml, hown, hts⟩ (c_X9_visitor g l 0 81 σ_4 28 a1 tz_28 r h) (cl_X12_181 hts ⟨Nat.le_of_ble_eq_true rfl, Nat.le_of_ble_eq_true rfl⟩) (mpV_9 hZ hT hS hW tz_28 _) rfl rfl hl.1 rfl (lv_room (Nat.le_of_ble_eq_true rfl)) dX12_heldBySwap_50 ⟨Nat.zero_le _, Nat.zero_le _⟩) (fun r_6 H locs hf hW hS => ?_)
  refine mcv hf hS (fun τ h => va_runV (As := [.int a1, .int r_6]) (rest := []) ⟨hx, hb, hml, hown, hts⟩ (c_X9_setVisitor g l 0 81 σ_4 32 a1 r_6 tz_32 τ h) (cl_X12_236 hts ⟨Nat.le_of_ble_eq_true rfl, Nat.le_of_ble_eq_true rfl⟩) (mpV_9 hZ hT hS hW tz_32 _) rfl rfl hl.1 rfl (lv_room (Nat.le_of_ble_eq_true rfl)) dX12_heldBySwap_53 ⟨Nat.zero_le _, Nat.zero_le _⟩) (fun σ_7 H locs hf hW hS => ?_)
  refine lv_aload_n hx hb dX12_heldBySwap_56 rfl (lv_at hl 1 rfl) ?_
  refine gf_12_3 hx hb htg (htg _ lf_X12_44) hown hZ hW tz_0 dX12_heldBySwap_57 ?_
  refine lv_iload_n hx hb dX12_heldBySwap_60 rfl (lv_at hl 3 rfl) ?_
  refine lv_aload_n hx hb dX12_heldBySwap_61 rfl (lv_at hl 1 rfl) ?_
  refine gf_12_2 hx hb htg (htg _ lf_X12_40) hown hZ hW tz_0 dX12_heldBySwap_62 ?_
  refine lv_iload_n hx hb dX12_heldBySwap_65 rfl (lv_at hl 3 rfl) ?_
  refine mcip hf hS (fun r h => va_runV (As := [.int a2]) (rest := [.int a2, .ref (bs g 32)]) ⟨hx, hb, hml, hown, hts⟩ (c_X9_visitor g l 0 81 σ_7 28 a2 tz_28 r h) (cl_X12_181 hts ⟨Nat.le_of_ble_eq_true rfl, Nat.le_of_ble_eq_true rfl⟩) (mpV_9 hZ hT hS hW tz_28 _) rfl rfl hl.1 rfl (lv_room (Nat.le_of_ble_eq_true rfl)) dX12_heldBySwap_66 ⟨Nat.zero_le _, Nat.zero_le _⟩) (fun r_8 H locs hf hW hS => ?_)
  refine mcv hf hS (fun τ h => va_runV (As := [.int a2, .int r_8]) (rest := []) ⟨hx, hb, hml, hown, hts⟩ (c_X9_setVisitor g l 0 81 σ_7 32 a2 r_8 tz_32 τ h) (cl_X12_236 hts ⟨Nat.le_of_ble_eq_true rfl, Nat.le_of_ble_eq_true rfl⟩) (mpV_9 hZ hT hS hW tz_32 _) rfl rfl hl.1 rfl (lv_room (Nat.le_of_ble_eq_true rfl)) dX12_heldBySwap_69 ⟨Nat.zero_le _, Nat.zero_le _⟩) (fun σ_9 H locs hf hW hS => ?_)
  refine lv_iload_n hx hb dX12_heldBySwap_72 rfl (lv_at hl 0 rfl) ?_
  subst hQ
  exact mri hx hb hr hlocks hZ hT hS hW (pr1 hf) dX12_heldBySwap_73
def f_X12_swapped (σ : Mem) (a1 : Int32) (a2 : Int32) : Option (Int32 × Mem) :=
  bd1 (f_X12_ofSwap σ a1 a2) (fun (r_1 : Int32) => bd2 (f_X12_refused σ r_1) (fun (r_2 : Int32) (σ_3 : Mem) => (if r_2 = 0 then bd1 (f_X9_copy σ_3 32 28) (fun (σ_4 : Mem) => bd2 (f_X12_heldBySwap σ_4 a1 a2) (fun (r_5 : Int32) (σ_6 : Mem) => some (r_5, σ_6))) else some ((-1), σ_3))))
set_option maxHeartbeats 4000000 in
set_option maxRecDepth 100000 in
theorem c_X12_swapped (g : XG) (l : Launch) (σ : Mem) (a1 : Int32) (a2 : Int32) (r : Int32) (τ : Mem) (hf : f_X12_swapped σ a1 a2 = some (r, τ)) : Met l yX12_swapped (wx (.code yX12_swapped cX12_swapped 3 (some .int))) (kr 7 193) (va_Pc [.ref (bs g 0), .int a1, .int a2] (WS g 0 81 σ)) (Qi' g 0 81 r τ) 0 0 (Ag g 0) := by
  refine Met.ofW (cc := cX12_swapped) (maxL := 3) (ret := (some .int)) (by decide) rfl ?_
  intro p e s m args below meth c s₁ B hml hv
  obtain ⟨rfl, hZ, hT, hW⟩ := hv
  have hx := B.exec
  have hb := B.bytes
  have hr := B.returns
  have hts : ∀ w ∈ wx (.code yX12_swapped cX12_swapped 3 (some .int)), w.before _ s = true := atoms_spec B.pre
  have htg : ∀ w ∈ lwg, w.before _ s = true := fun w h => hts w (List.mem_cons_of_mem _ h)
  have hown : s.vm.findClass RX12 = some m.cls := findClass_of_methodNamed B.named
  have hlocks := B.notSynchronized
  change W p l e (kr 7 193) s m (List.toArray [.ref (bs g 0), .int a1, .int a2]) below meth c s.heap [] 0 0 (MQ below (Qi' g 0 81 r τ) (List.toArray [.ref (bs g 0), .int a1, .int a2]) s 0 0 (Ag g 0)) _
  generalize hQ : MQ below (Qi' g 0 81 r τ) (List.toArray [.ref (bs g 0), .int a1, .int a2]) s 0 0 (Ag g 0) = Q
  have hS : va_S (Ag g 0) s.heap s.heap [] := va_S.rf
  have hl := lv_entry ([.ref (bs g 0), .int a1, .int a2]) (n := 3) (Nat.le_of_ble_eq_true rfl)
  rw [lg_entry_eq]
  generalize (lg_sl ([.ref (bs g 0), .int a1, .int a2]) ++ List.replicate (3 - (lg_sl ([.ref (bs g 0), .int a1, .int a2])).length) Slot.unset).toArray = ls at hl ⊢
  have hl : lv_has ls 3 [(0, .ref (bs g 0)), (1, .int a1), (2, .int a2)] := hl
  delta f_X12_swapped at hf
  obtain ⟨H, hH⟩ : ∃ H, H = s.heap := ⟨_, rfl⟩
  obtain ⟨locs, hLc⟩ : ∃ z : List Loc, z = [] := ⟨_, rfl⟩
  have hS : va_S (Ag g 0) s.heap H locs := by rw [hH, hLc]; exact hS
  have hW : Wd g 0 81 σ H := by rw [hH]; exact hW
  suffices hG : W p l e (kr 7 193) s m (List.toArray [.ref (bs g 0), .int a1, .int a2]) below meth c H locs 0 0 Q (F0 m 0 ls []) by rw [hH, hLc] at hG; exact hG
  clear hH hLc
  refine lv_aload_n hx hb dX12_swapped_0 rfl (lv_at hl 0 rfl) ?_
  refine lv_aload_n hx hb dX12_swapped_1 rfl (lv_at hl 0 rfl) ?_
  refine lv_iload_n hx hb dX12_swapped_2 rfl (lv_at hl 1 rfl) ?_
  refine lv_iload_n hx hb dX12_swapped_3 rfl (lv_at hl 2 rfl) ?_
  refine mcip hf hS (fun r h => va_runV (As := [.int a1, .int a2]) (rest := [.ref (bs g 0)]) ⟨hx, hb, hml, hown, hts⟩ (c_X12_ofSwap g l σ a1 a2 r h) (cl_X12_251 hts ⟨Nat.le_of_ble_eq_true rfl, Nat.le_of_ble_eq_true rfl⟩) (mpV_12 hZ hT hS hW tz_0 _) rfl rfl hl.1 rfl (lv_room (Nat.le_of_ble_eq_true rfl)) dX12_swapped_4 ⟨Nat.zero_le _, Nat.zero_le _⟩) (fun r_1 H locs hf hW hS => ?_)
  refine mci hf hS (fun r τ h => va_runV (As := [.int r_1]) (rest := []) ⟨hx, hb, hml, hown, hts⟩ (c_X12_refused g l σ r_1 r τ h) (cl_X12_98 hts ⟨Nat.le_of_ble_eq_true rfl, Nat.le_of_ble_eq_true rfl⟩) (mpV_12 hZ hT hS hW tz_0 _) rfl rfl hl.1 rfl (lv_room (Nat.le_of_ble_eq_true rfl)) dX12_swapped_7 ⟨Nat.zero_le _, Nat.zero_le _⟩) (fun r_2 σ_3 H locs hf hW hS => ?_)
  refine lv_if_eq (tgt := 15) hx hb dX12_swapped_10 (by decide) (fun hc => ?_) (fun hc => ?_)
  · have hf := ift hc hf
    refine lv_aload_n hx hb dX12_swapped_15 rfl (lv_at hl 0 rfl) ?_
    refine gf_12_3 hx hb htg (htg _ lf_X12_44) hown hZ hW tz_0 dX12_swapped_16 ?_
    refine lv_aload_n hx hb dX12_swapped_19 rfl (lv_at hl 0 rfl) ?_
    refine gf_12_2 hx hb htg (htg _ lf_X12_40) hown hZ hW tz_0 dX12_swapped_20 ?_
    refine mcv hf hS (fun τ h => va_runV (As := [.ref (bs g 28)]) (rest := []) ⟨hx, hb, hml, hown, hts⟩ (c_X9_copy g l 0 81 σ_3 32 28 tz_32 tz_28 τ h) (cl_X12_230 hts ⟨Nat.le_of_ble_eq_true rfl, Nat.le_of_ble_eq_true rfl⟩) (mpV_9 hZ hT hS hW tz_32 _) rfl rfl hl.1 rfl (lv_room (Nat.le_of_ble_eq_true rfl)) dX12_swapped_23 ⟨Nat.zero_le _, Nat.zero_le _⟩) (fun σ_4 H locs hf hW hS => ?_)
    refine lv_aload_n hx hb dX12_swapped_26 rfl (lv_at hl 0 rfl) ?_
    refine lv_iload_n hx hb dX12_swapped_27 rfl (lv_at hl 1 rfl) ?_
    refine lv_iload_n hx hb dX12_swapped_28 rfl (lv_at hl 2 rfl) ?_
    refine mci hf hS (fun r τ h => va_runV (As := [.int a1, .int a2]) (rest := []) ⟨hx, hb, hml, hown, hts⟩ (c_X12_heldBySwap g l σ_4 a1 a2 r τ h) (cl_X12_254 hts ⟨Nat.le_of_ble_eq_true rfl, Nat.le_of_ble_eq_true rfl⟩) (mpV_12 hZ hT hS hW tz_0 _) rfl rfl hl.1 rfl (lv_room (Nat.le_of_ble_eq_true rfl)) dX12_swapped_29 ⟨Nat.zero_le _, Nat.zero_le _⟩) (fun r_5 σ_6 H locs hf hW hS => ?_)
    subst hQ
    exact mri hx hb hr hlocks hZ hT hS hW (pr1 hf) dX12_swapped_32
  · have hf := iff_ hc hf
    refine lv_iconst (v := (-1)) hx hb dX12_swapped_13 (by decide) ?_
    subst hQ
    exact mri hx hb hr hlocks hZ hT hS hW (pr1 hf) dX12_swapped_14
def f_X12_bestSwap (σ : Mem)  : Option (Int32 × Mem) :=
  bd1 (f_X12_ofTown σ) (fun (r_1 : Int32) => bd2 (f_X12_refused σ r_1) (fun (r_2 : Int32) (σ_3 : Mem) => (if r_2 = 0 then bd1 (f_X9_copy σ_3 32 28) (fun (σ_4 : Mem) => bd1 (f_X9_countHeld σ_4 28) (fun (r_5 : Int32) => fx4 FU (fun k_10 (i_6 : Int32) (i_7 : Int32) (i_8 : Int32) (σ_9 : Mem) => (if 30 ≤ i_8 then some (i_6, σ_9) else nm (i_8 + 1) (fun (x_11 : Int32) => fx4 FU (fun k_16 (i_12 : Int32) (i_13 : Int32) (i_14 : Int32) (σ_15 : Mem) => jn0 (nm (i_8 + 1) (fun (x_18 : Int32) => k_10 i_12 i_13 x_18 σ_15)) (fun k_17 => (if 30 ≤ i_14 then k_17 else bd1 (f_X9_isAwaited σ_15 28 i_8) (fun (r_20 : Int32) => (if r_20 = 0 then k_17 else bd1 (f_X9_isAwaited σ_15 28 i_14) (fun (r_21 : Int32) => jn2 (fun (i_22 : Int32) (σ_23 : Mem) => jn1 (fun (i_25 : Int32) => nm (if i_22 < i_13 then i_13 else i_22) (fun (x_27 : Int32) => nm (i_14 + 1) (fun (x_28 : Int32) => k_16 i_25 x_27 x_28 σ_23))) (fun k_26 => (if i_22 ≤ i_13 then k_26 i_12 else k_26 ((100 * i_8) + i_14)))) (fun k_24 => (if r_21 = 0 then k_24 0 σ_15 else bd2 (f_X12_heldBySwap σ_15 i_8 i_14) (fun (r_30 : Int32) (σ_31 : Mem) => k_24 r_30 σ_31))))))))) i_6 i_7 x_11 σ_9))) (-2) r_5 0 σ_4)) else some ((-1), σ_3))))
set_option maxHeartbeats 4000000 in
set_option maxRecDepth 100000 in
theorem c_X12_bestSwap (g : XG) (l : Launch) (σ : Mem) (r : Int32) (τ : Mem) (hf : f_X12_bestSwap σ = some (r, τ)) : Met l yX12_bestSwap (wx (.code yX12_bestSwap cX12_bestSwap 6 (some .int))) (kr 7 193) (va_Pc [.ref (bs g 0)] (WS g 0 81 σ)) (Qi' g 0 81 r τ) 0 0 (Ag g 0) := by
  refine Met.ofW (cc := cX12_bestSwap) (maxL := 6) (ret := (some .int)) (by decide) rfl ?_
  intro p e s m args below meth c s₁ B hml hv
  obtain ⟨rfl, hZ, hT, hW⟩ := hv
  have hx := B.exec
  have hb := B.bytes
  have hr := B.returns
  have hts : ∀ w ∈ wx (.code yX12_bestSwap cX12_bestSwap 6 (some .int)), w.before _ s = true := atoms_spec B.pre
  have htg : ∀ w ∈ lwg, w.before _ s = true := fun w h => hts w (List.mem_cons_of_mem _ h)
  have hown : s.vm.findClass RX12 = some m.cls := findClass_of_methodNamed B.named
  have hlocks := B.notSynchronized
  change W p l e (kr 7 193) s m (List.toArray [.ref (bs g 0)]) below meth c s.heap [] 0 0 (MQ below (Qi' g 0 81 r τ) (List.toArray [.ref (bs g 0)]) s 0 0 (Ag g 0)) _
  generalize hQ : MQ below (Qi' g 0 81 r τ) (List.toArray [.ref (bs g 0)]) s 0 0 (Ag g 0) = Q
  have hS : va_S (Ag g 0) s.heap s.heap [] := va_S.rf
  have hl := lv_entry ([.ref (bs g 0)]) (n := 6) (Nat.le_of_ble_eq_true rfl)
  rw [lg_entry_eq]
  generalize (lg_sl ([.ref (bs g 0)]) ++ List.replicate (6 - (lg_sl ([.ref (bs g 0)])).length) Slot.unset).toArray = ls at hl ⊢
  have hl : lv_has ls 6 [(0, .ref (bs g 0))] := hl
  delta f_X12_bestSwap at hf
  obtain ⟨H, hH⟩ : ∃ H, H = s.heap := ⟨_, rfl⟩
  obtain ⟨locs, hLc⟩ : ∃ z : List Loc, z = [] := ⟨_, rfl⟩
  have hS : va_S (Ag g 0) s.heap H locs := by rw [hH, hLc]; exact hS
  have hW : Wd g 0 81 σ H := by rw [hH]; exact hW
  suffices hG : W p l e (kr 7 193) s m (List.toArray [.ref (bs g 0)]) below meth c H locs 0 0 Q (F0 m 0 ls []) by rw [hH, hLc] at hG; exact hG
  clear hH hLc
  refine lv_aload_n hx hb dX12_bestSwap_0 rfl (lv_at hl 0 rfl) ?_
  refine lv_aload_n hx hb dX12_bestSwap_1 rfl (lv_at hl 0 rfl) ?_
  refine mcip hf hS (fun r h => va_runV (As := []) (rest := [.ref (bs g 0)]) ⟨hx, hb, hml, hown, hts⟩ (c_X12_ofTown g l σ r h) (cl_X12_201 hts ⟨Nat.le_of_ble_eq_true rfl, Nat.le_of_ble_eq_true rfl⟩) (mpV_12 hZ hT hS hW tz_0 _) rfl rfl hl.1 rfl (lv_room (Nat.le_of_ble_eq_true rfl)) dX12_bestSwap_2 ⟨Nat.zero_le _, Nat.zero_le _⟩) (fun r_1 H locs hf hW hS => ?_)
  refine mci hf hS (fun r τ h => va_runV (As := [.int r_1]) (rest := []) ⟨hx, hb, hml, hown, hts⟩ (c_X12_refused g l σ r_1 r τ h) (cl_X12_98 hts ⟨Nat.le_of_ble_eq_true rfl, Nat.le_of_ble_eq_true rfl⟩) (mpV_12 hZ hT hS hW tz_0 _) rfl rfl hl.1 rfl (lv_room (Nat.le_of_ble_eq_true rfl)) dX12_bestSwap_5 ⟨Nat.zero_le _, Nat.zero_le _⟩) (fun r_2 σ_3 H locs hf hW hS => ?_)
  refine lv_if_eq (tgt := 13) hx hb dX12_bestSwap_8 (by decide) (fun hc => ?_) (fun hc => ?_)
  · have hf := ift hc hf
    refine lv_aload_n hx hb dX12_bestSwap_13 rfl (lv_at hl 0 rfl) ?_
    refine gf_12_3 hx hb htg (htg _ lf_X12_44) hown hZ hW tz_0 dX12_bestSwap_14 ?_
    refine lv_aload_n hx hb dX12_bestSwap_17 rfl (lv_at hl 0 rfl) ?_
    refine gf_12_2 hx hb htg (htg _ lf_X12_40) hown hZ hW tz_0 dX12_bestSwap_18 ?_
    refine mcv hf hS (fun τ h => va_runV (As := [.ref (bs g 28)]) (rest := []) ⟨hx, hb, hml, hown, hts⟩ (c_X9_copy g l 0 81 σ_3 32 28 tz_32 tz_28 τ h) (cl_X12_230 hts ⟨Nat.le_of_ble_eq_true rfl, Nat.le_of_ble_eq_true rfl⟩) (mpV_9 hZ hT hS hW tz_32 _) rfl rfl hl.1 rfl (lv_room (Nat.le_of_ble_eq_true rfl)) dX12_bestSwap_21 ⟨Nat.zero_le _, Nat.zero_le _⟩) (fun σ_4 H locs hf hW hS => ?_)
    refine lv_bipush (v := (-2)) hx hb dX12_bestSwap_24 (by decide) ?_
    refine lv_istore_n (lv' := [(1, .int (-2)), (0, .ref (bs g 0))]) hx hb dX12_bestSwap_26 rfl hl (by decide) rfl (fun ls hl => ?_)
    refine lv_aload_n hx hb dX12_bestSwap_27 rfl (lv_at hl 1 rfl) ?_
    refine gf_12_2 hx hb htg (htg _ lf_X12_40) hown hZ hW tz_0 dX12_bestSwap_28 ?_
    refine mcip hf hS (fun r h => va_runV (As := []) (rest := []) ⟨hx, hb, hml, hown, hts⟩ (c_X9_countHeld g l 0 81 σ_4 28 tz_28 r h) (cl_X12_240 hts ⟨Nat.le_of_ble_eq_true rfl, Nat.le_of_ble_eq_true rfl⟩) (mpV_9 hZ hT hS hW tz_28 _) rfl rfl hl.1 rfl (lv_room (Nat.le_of_ble_eq_true rfl)) dX12_bestSwap_31 ⟨Nat.zero_le _, Nat.zero_le _⟩) (fun r_5 H locs hf hW hS => ?_)
    refine lv_istore_n (lv' := [(2, .int r_5), (1, .int (-2)), (0, .ref (bs g 0))]) hx hb dX12_bestSwap_34 rfl hl (by decide) rfl (fun ls hl => ?_)
    refine lv_iconst (v := 0) hx hb dX12_bestSwap_35 (by decide) ?_
    refine lv_istore_n (lv' := [(3, .int 0), (2, .int r_5), (1, .int (-2)), (0, .ref (bs g 0))]) hx hb dX12_bestSwap_36 rfl hl (by decide) rfl (fun ls hl => ?_)
    refine fx4_W (fun (i_6 : Int32) (i_7 : Int32) (i_8 : Int32) (σ_9 : Mem) => ∀ (H : Heap) (locs : List Loc) (ls : Array Slot), Wd g 0 81 σ_9 H → va_S (Ag g 0) s.heap H locs → lv_has ls 6 [(0, .ref (bs g 0)), (1, .int i_6), (2, .int i_7), (3, .int i_8)] → W p l e (kr 7 193) s m (List.toArray [.ref (bs g 0)]) below meth c H locs 0 0 Q (F0 m 37 ls [])) (fun k_10 hk_10 i_6 i_7 i_8 σ_9 hf => ?_) FU (-2) r_5 0 σ_4 hf H locs ls hW hS (lv_sub hl [3, 2, 1, 0] rfl)
    intro H locs ls hW hS hl
    refine lv_iload_n hx hb dX12_bestSwap_37 rfl (lv_at hl 3 rfl) ?_
    refine lv_bipush (v := 30) hx hb dX12_bestSwap_38 (by decide) ?_
    refine lv_icmp_ge (tgt := 128) hx hb dX12_bestSwap_40 (by decide) (fun hc => ?_) (fun hc => ?_)
    · have hf := ift hc hf
      refine lv_iload_n hx hb dX12_bestSwap_128 rfl (lv_at hl 1 rfl) ?_
      subst hQ
      exact mri hx hb hr hlocks hZ hT hS hW (pr1 hf) dX12_bestSwap_129
    · have hf := iff_ hc hf
      refine lv_iload_n hx hb dX12_bestSwap_43 rfl (lv_at hl 3 rfl) ?_
      refine lv_iconst (v := 1) hx hb dX12_bestSwap_44 (by decide) ?_
      refine lv_iadd hx hb dX12_bestSwap_45 ?_
      refine mnmi hf (fun (x_11 : Int32) hf => ?_)
      refine lv_istore (lv' := [(4, .int x_11), (0, .ref (bs g 0)), (1, .int i_6), (2, .int i_7), (3, .int i_8)]) hx hb dX12_bestSwap_46 hl (by decide) rfl (fun ls hl => ?_)
      refine fx4_W (fun (i_12 : Int32) (i_13 : Int32) (i_14 : Int32) (σ_15 : Mem) => ∀ (H : Heap) (locs : List Loc) (ls : Array Slot), Wd g 0 81 σ_15 H → va_S (Ag g 0) s.heap H locs → lv_has ls 6 [(0, .ref (bs g 0)), (1, .int i_12), (2, .int i_13), (3, .int i_8), (4, .int i_14)] → W p l e (kr 7 193) s m (List.toArray [.ref (bs g 0)]) below meth c H locs 0 0 Q (F0 m 48 ls [])) (fun k_16 hk_16 i_12 i_13 i_14 σ_15 hf => ?_) FU i_6 i_7 x_11 σ_9 hf H locs ls hW hS (lv_sub hl [1, 2, 3, 4, 0] rfl)
      intro H locs ls hW hS hl
      refine lv_iload hx hb dX12_bestSwap_48 (lv_at hl 4 rfl) ?_
      refine lv_bipush (v := 30) hx hb dX12_bestSwap_50 (by decide) ?_
      refine jn0_W (∀ (H : Heap) (locs : List Loc) (ls : Array Slot), Wd g 0 81 σ_15 H → va_S (Ag g 0) s.heap H locs → lv_has ls 6 [(0, .ref (bs g 0)), (1, .int i_12), (2, .int i_13), (3, .int i_8)] → W p l e (kr 7 193) s m (List.toArray [.ref (bs g 0)]) below meth c H locs 0 0 Q (F0 m 122 ls [])) hf (fun  hf => ?_) (fun k_17 hk_17 hf => ?_)
      · intro H locs ls hW hS hl
        obtain ⟨x_18, e_19, hf⟩ := nm_s hf
        refine lv_iinc (v := x_18) (lv' := [(3, .int x_18), (0, .ref (bs g 0)), (1, .int i_12), (2, .int i_13)]) hx hb dX12_bestSwap_122 hl (k := 3) rfl (by rw [e_19]; rfl) (by decide) rfl (fun ls hl => ?_)
        refine lv_goto (tgt := 37) hx hb dX12_bestSwap_125 (by decide) ?_
        exact hk_10 i_12 i_13 x_18 σ_15 hf H locs ls hW hS (lv_sub hl [1, 2, 3, 0] rfl)
      · refine lv_icmp_ge (tgt := 122) hx hb dX12_bestSwap_52 (by decide) (fun hc => ?_) (fun hc => ?_)
        · have hf := ift hc hf
          exact hk_17  hf H locs ls hW hS (lv_sub hl [0, 1, 2, 3] rfl)
        · have hf := iff_ hc hf
          refine lv_aload_n hx hb dX12_bestSwap_55 rfl (lv_at hl 0 rfl) ?_
          refine gf_12_2 hx hb htg (htg _ lf_X12_40) hown hZ hW tz_0 dX12_bestSwap_56 ?_
          refine lv_iload_n hx hb dX12_bestSwap_59 rfl (lv_at hl 3 rfl) ?_
          refine mcip hf hS (fun r h => va_runV (As := [.int i_8]) (rest := []) ⟨hx, hb, hml, hown, hts⟩ (c_X9_isAwaited g l 0 81 σ_15 28 i_8 tz_28 r h) (cl_X12_248 hts ⟨Nat.le_of_ble_eq_true rfl, Nat.le_of_ble_eq_true rfl⟩) (mpV_9 hZ hT hS hW tz_28 _) rfl rfl hl.1 rfl (lv_room (Nat.le_of_ble_eq_true rfl)) dX12_bestSwap_60 ⟨Nat.zero_le _, Nat.zero_le _⟩) (fun r_20 H locs hf hW hS => ?_)
          refine lv_if_eq (tgt := 122) hx hb dX12_bestSwap_63 (by decide) (fun hc => ?_) (fun hc => ?_)
          · have hf := ift hc hf
            exact hk_17  hf H locs ls hW hS (lv_sub hl [0, 1, 2, 3] rfl)
          · have hf := iff_ hc hf
            refine lv_aload_n hx hb dX12_bestSwap_66 rfl (lv_at hl 0 rfl) ?_
            refine gf_12_2 hx hb htg (htg _ lf_X12_40) hown hZ hW tz_0 dX12_bestSwap_67 ?_
            refine lv_iload hx hb dX12_bestSwap_70 (lv_at hl 4 rfl) ?_
            refine mcip hf hS (fun r h => va_runV (As := [.int i_14]) (rest := []) ⟨hx, hb, hml, hown, hts⟩ (c_X9_isAwaited g l 0 81 σ_15 28 i_14 tz_28 r h) (cl_X12_248 hts ⟨Nat.le_of_ble_eq_true rfl, Nat.le_of_ble_eq_true rfl⟩) (mpV_9 hZ hT hS hW tz_28 _) rfl rfl hl.1 rfl (lv_room (Nat.le_of_ble_eq_true rfl)) dX12_bestSwap_72 ⟨Nat.zero_le _, Nat.zero_le _⟩) (fun r_21 H locs hf hW hS => ?_)
            refine jn2_W (fun (i_22 : Int32) (σ_23 : Mem) => ∀ (H : Heap) (locs : List Loc) (ls : Array Slot), Wd g 0 81 σ_23 H → va_S (Ag g 0) s.heap H locs → lv_has ls 6 [(0, .ref (bs g 0)), (1, .int i_12), (2, .int i_13), (3, .int i_8), (4, .int i_14)] → W p l e (kr 7 193) s m (List.toArray [.ref (bs g 0)]) below meth c H locs 0 0 Q (F0 m 89 ls [.int i_22])) hf (fun i_22 σ_23 hf => ?_) (fun k_24 hk_24 hf => ?_)
            · intro H locs ls hW hS hl
              refine lv_istore (lv' := [(5, .int i_22), (0, .ref (bs g 0)), (1, .int i_12), (2, .int i_13), (3, .int i_8), (4, .int i_14)]) hx hb dX12_bestSwap_89 hl (by decide) rfl (fun ls hl => ?_)
              refine lv_iload hx hb dX12_bestSwap_91 (lv_at hl 0 rfl) ?_
              refine lv_iload_n hx hb dX12_bestSwap_93 rfl (lv_at hl 3 rfl) ?_
              refine jn1_W (fun (i_25 : Int32) => ∀ (H : Heap) (locs : List Loc) (ls : Array Slot), Wd g 0 81 σ_23 H → va_S (Ag g 0) s.heap H locs → lv_has ls 6 [(0, .ref (bs g 0)), (2, .int i_13), (3, .int i_8), (4, .int i_14), (5, .int i_22)] → W p l e (kr 7 193) s m (List.toArray [.ref (bs g 0)]) below meth c H locs 0 0 Q (F0 m 108 ls [.int i_25])) hf (fun i_25 hf => ?_) (fun k_26 hk_26 hf => ?_)
              · intro H locs ls hW hS hl
                refine lv_istore_n (lv' := [(1, .int i_25), (0, .ref (bs g 0)), (2, .int i_13), (3, .int i_8), (4, .int i_14), (5, .int i_22)]) hx hb dX12_bestSwap_108 rfl hl (by decide) rfl (fun ls hl => ?_)
                refine lv_iload hx hb dX12_bestSwap_109 (lv_at hl 5 rfl) ?_
                refine lv_iload_n hx hb dX12_bestSwap_111 rfl (lv_at hl 2 rfl) ?_
                refine va_mmax hx hb (hml.trans hl.1.symm) hown (htg _ lm_X12_243) (htg _ lst_Math_max) (htg _ ini_Math) (htg _ lc_Math_max) (Nat.le_of_ble_eq_true rfl) (Nat.le_of_ble_eq_true rfl) (Nat.zero_le _) (Nat.zero_le _) dX12_bestSwap_112 ?_
                refine mnmi hf (fun (x_27 : Int32) hf => ?_)
                refine lv_istore_n (lv' := [(2, .int x_27), (1, .int i_25), (0, .ref (bs g 0)), (3, .int i_8), (4, .int i_14), (5, .int i_22)]) hx hb dX12_bestSwap_115 rfl hl (by decide) rfl (fun ls hl => ?_)
                obtain ⟨x_28, e_29, hf⟩ := nm_s hf
                refine lv_iinc (v := x_28) (lv' := [(4, .int x_28), (2, .int x_27), (1, .int i_25), (0, .ref (bs g 0)), (3, .int i_8), (5, .int i_22)]) hx hb dX12_bestSwap_116 hl (k := 4) rfl (by rw [e_29]; rfl) (by decide) rfl (fun ls hl => ?_)
                refine lv_goto (tgt := 48) hx hb dX12_bestSwap_119 (by decide) ?_
                exact hk_16 i_25 x_27 x_28 σ_23 hf H locs ls hW hS (lv_sub hl [3, 2, 1, 4, 0] rfl)
              · refine lv_icmp_le (tgt := 107) hx hb dX12_bestSwap_94 (by decide) (fun hc => ?_) (fun hc => ?_)
                · have hf := ift hc hf
                  refine lv_iload_n hx hb dX12_bestSwap_107 rfl (lv_at hl 2 rfl) ?_
                  exact hk_26 i_12 hf H locs ls hW hS (lv_sub hl [1, 3, 4, 5, 0] rfl)
                · have hf := iff_ hc hf
                  refine lv_bipush (v := 100) hx hb dX12_bestSwap_97 (by decide) ?_
                  refine lv_iload_n hx hb dX12_bestSwap_99 rfl (lv_at hl 4 rfl) ?_
                  refine lv_imul hx hb dX12_bestSwap_100 ?_
                  refine lv_iload hx hb dX12_bestSwap_101 (lv_at hl 5 rfl) ?_
                  refine lv_iadd hx hb dX12_bestSwap_103 ?_
                  refine lv_goto (tgt := 108) hx hb dX12_bestSwap_104 (by decide) ?_
                  exact hk_26 ((100 * i_8) + i_14) hf H locs ls hW hS (lv_sub hl [1, 3, 4, 5, 0] rfl)
            · refine lv_if_eq (tgt := 88) hx hb dX12_bestSwap_75 (by decide) (fun hc => ?_) (fun hc => ?_)
              · have hf := ift hc hf
                refine lv_iconst (v := 0) hx hb dX12_bestSwap_88 (by decide) ?_
                exact hk_24 0 σ_15 hf H locs ls hW hS (lv_sub hl [0, 1, 2, 3, 4] rfl)
              · have hf := iff_ hc hf
                refine lv_aload_n hx hb dX12_bestSwap_78 rfl (lv_at hl 0 rfl) ?_
                refine lv_iload_n hx hb dX12_bestSwap_79 rfl (lv_at hl 3 rfl) ?_
                refine lv_iload hx hb dX12_bestSwap_80 (lv_at hl 4 rfl) ?_
                refine mci hf hS (fun r τ h => va_runV (As := [.int i_8, .int i_14]) (rest := []) ⟨hx, hb, hml, hown, hts⟩ (c_X12_heldBySwap g l σ_15 i_8 i_14 r τ h) (cl_X12_254 hts ⟨Nat.le_of_ble_eq_true rfl, Nat.le_of_ble_eq_true rfl⟩) (mpV_12 hZ hT hS hW tz_0 _) rfl rfl hl.1 rfl (lv_room (Nat.le_of_ble_eq_true rfl)) dX12_bestSwap_82 ⟨Nat.zero_le _, Nat.zero_le _⟩) (fun r_30 σ_31 H locs hf hW hS => ?_)
                refine lv_goto (tgt := 89) hx hb dX12_bestSwap_85 (by decide) ?_
                exact hk_24 r_30 σ_31 hf H locs ls hW hS (lv_sub hl [0, 1, 2, 3, 4] rfl)
  · have hf := iff_ hc hf
    refine lv_iconst (v := (-1)) hx hb dX12_bestSwap_11 (by decide) ?_
    subst hQ
    exact mri hx hb hr hlocks hZ hT hS hW (pr1 hf) dX12_bestSwap_12
def f_X12_ask (σ : Mem) (a1 : Int32) : Option (Int32 × Mem) :=
  bd1 (f_X12_ofPerson σ a1) (fun (r_1 : Int32) => bd2 (f_X12_refused σ r_1) (fun (r_2 : Int32) (σ_3 : Mem) => (if r_2 = 0 then rfc (σ_3.2.2 0 10) (fun (T_4 : Nat) => bd2 (f_X2_bestToAsk σ_3 T_4 a1) (fun (r_5 : Int32) (σ_6 : Mem) => some (r_5, σ_6))) else some ((-1), σ_3))))
set_option maxHeartbeats 4000000 in
set_option maxRecDepth 100000 in
theorem c_X12_ask (g : XG) (l : Launch) (σ : Mem) (a1 : Int32) (r : Int32) (τ : Mem) (hf : f_X12_ask σ a1 = some (r, τ)) : Met l yX12_ask (wx (.code yX12_ask cX12_ask 2 (some .int))) (kr 6 138) (va_Pc [.ref (bs g 0), .int a1] (WS g 0 81 σ)) (Qi' g 0 81 r τ) 0 0 (Ag g 0) := by
  refine Met.ofW (cc := cX12_ask) (maxL := 2) (ret := (some .int)) (by decide) rfl ?_
  intro p e s m args below meth c s₁ B hml hv
  obtain ⟨rfl, hZ, hT, hW⟩ := hv
  have hx := B.exec
  have hb := B.bytes
  have hr := B.returns
  have hts : ∀ w ∈ wx (.code yX12_ask cX12_ask 2 (some .int)), w.before _ s = true := atoms_spec B.pre
  have htg : ∀ w ∈ lwg, w.before _ s = true := fun w h => hts w (List.mem_cons_of_mem _ h)
  have hown : s.vm.findClass RX12 = some m.cls := findClass_of_methodNamed B.named
  have hlocks := B.notSynchronized
  change W p l e (kr 6 138) s m (List.toArray [.ref (bs g 0), .int a1]) below meth c s.heap [] 0 0 (MQ below (Qi' g 0 81 r τ) (List.toArray [.ref (bs g 0), .int a1]) s 0 0 (Ag g 0)) _
  generalize hQ : MQ below (Qi' g 0 81 r τ) (List.toArray [.ref (bs g 0), .int a1]) s 0 0 (Ag g 0) = Q
  have hS : va_S (Ag g 0) s.heap s.heap [] := va_S.rf
  have hl := lv_entry ([.ref (bs g 0), .int a1]) (n := 2) (Nat.le_of_ble_eq_true rfl)
  rw [lg_entry_eq]
  generalize (lg_sl ([.ref (bs g 0), .int a1]) ++ List.replicate (2 - (lg_sl ([.ref (bs g 0), .int a1])).length) Slot.unset).toArray = ls at hl ⊢
  have hl : lv_has ls 2 [(0, .ref (bs g 0)), (1, .int a1)] := hl
  delta f_X12_ask at hf
  obtain ⟨H, hH⟩ : ∃ H, H = s.heap := ⟨_, rfl⟩
  obtain ⟨locs, hLc⟩ : ∃ z : List Loc, z = [] := ⟨_, rfl⟩
  have hS : va_S (Ag g 0) s.heap H locs := by rw [hH, hLc]; exact hS
  have hW : Wd g 0 81 σ H := by rw [hH]; exact hW
  suffices hG : W p l e (kr 6 138) s m (List.toArray [.ref (bs g 0), .int a1]) below meth c H locs 0 0 Q (F0 m 0 ls []) by rw [hH, hLc] at hG; exact hG
  clear hH hLc
  refine lv_aload_n hx hb dX12_ask_0 rfl (lv_at hl 0 rfl) ?_
  refine lv_aload_n hx hb dX12_ask_1 rfl (lv_at hl 0 rfl) ?_
  refine lv_iload_n hx hb dX12_ask_2 rfl (lv_at hl 1 rfl) ?_
  refine mcip hf hS (fun r h => va_runV (As := [.int a1]) (rest := [.ref (bs g 0)]) ⟨hx, hb, hml, hown, hts⟩ (c_X12_ofPerson g l σ a1 r h) (cl_X12_157 hts ⟨Nat.le_of_ble_eq_true rfl, Nat.le_of_ble_eq_true rfl⟩) (mpV_12 hZ hT hS hW tz_0 _) rfl rfl hl.1 rfl (lv_room (Nat.le_of_ble_eq_true rfl)) dX12_ask_3 ⟨Nat.zero_le _, Nat.zero_le _⟩) (fun r_1 H locs hf hW hS => ?_)
  refine mci hf hS (fun r τ h => va_runV (As := [.int r_1]) (rest := []) ⟨hx, hb, hml, hown, hts⟩ (c_X12_refused g l σ r_1 r τ h) (cl_X12_98 hts ⟨Nat.le_of_ble_eq_true rfl, Nat.le_of_ble_eq_true rfl⟩) (mpV_12 hZ hT hS hW tz_0 _) rfl rfl hl.1 rfl (lv_room (Nat.le_of_ble_eq_true rfl)) dX12_ask_6 ⟨Nat.zero_le _, Nat.zero_le _⟩) (fun r_2 σ_3 H locs hf hW hS => ?_)
  refine lv_if_eq (tgt := 16) hx hb dX12_ask_9 (by decide) (fun hc => ?_) (fun hc => ?_)
  · have hf := ift hc hf
    refine lv_aload_n hx hb dX12_ask_16 rfl (lv_at hl 0 rfl) ?_
    refine gf_12_8 hx hb htg (htg _ lf_X12_75) hown hZ hW tz_0 dX12_ask_17 ?_
    refine lv_aload_n hx hb dX12_ask_20 rfl (lv_at hl 0 rfl) ?_
    refine gf_12_10 hx hb htg (htg _ lf_X12_19) hown hZ hW tz_0 dX12_ask_21 hf (fun T_4 tT_4 hf => ?_)
    refine lv_iload_n hx hb dX12_ask_24 rfl (lv_at hl 1 rfl) ?_
    refine mci hf hS (fun r τ h => va_runV (As := [.ref (bs g T_4), .int a1]) (rest := []) ⟨hx, hb, hml, hown, hts⟩ (c_X2_bestToAsk g l σ_3 T_4 a1 tT_4 r τ h) (cl_X12_257 hts ⟨Nat.le_of_ble_eq_true rfl, Nat.le_of_ble_eq_true rfl⟩) (mpV_2 hZ hT hS hW tz_59 _) rfl rfl hl.1 rfl (lv_room (Nat.le_of_ble_eq_true rfl)) dX12_ask_25 ⟨Nat.zero_le _, Nat.zero_le _⟩) (fun r_5 σ_6 H locs hf hW hS => ?_)
    subst hQ
    exact mri hx hb hr hlocks hZ hT hS hW (pr1 hf) dX12_ask_28
  · have hf := iff_ hc hf
    refine lv_iconst (v := (-1)) hx hb dX12_ask_12 (by decide) ?_
    refine lv_goto (tgt := 28) hx hb dX12_ask_13 (by decide) ?_
    subst hQ
    exact mri hx hb hr hlocks hZ hT hS hW (pr1 hf) dX12_ask_28
def f_X12_truth (σ : Mem) (a1 : Int32) (a2 : Int32) : Option (Int64 × Mem) :=
  bd1 (f_X12_ofPerson σ a1) (fun (r_1 : Int32) => bd2 (f_X12_refused σ r_1) (fun (r_2 : Int32) (σ_3 : Mem) => (if r_2 = 0 then rfc (σ_3.2.2 0 10) (fun (T_4 : Nat) => rfc (σ_3.2.2 0 10) (fun (T_5 : Nat) => bd2 (f_X2_bestToAsk σ_3 T_5 a1) (fun (r_6 : Int32) (σ_7 : Mem) => bd2 (f_X2_chanceOfMost σ_7 T_4 a1 r_6) (fun (r_8 : Int64) (σ_9 : Mem) => bd1 (f_X2_lowestTerm r_8 a2) (fun (r_10 : Int64) => some (r_10, σ_9)))))) else some (-1, σ_3))))
set_option maxHeartbeats 4000000 in
set_option maxRecDepth 100000 in
theorem c_X12_truth (g : XG) (l : Launch) (σ : Mem) (a1 : Int32) (a2 : Int32) (r : Int64) (τ : Mem) (hf : f_X12_truth σ a1 a2 = some (r, τ)) : Met l yX12_truth (wx (.code yX12_truth cX12_truth 3 (some .long))) (kr 6 138) (va_Pc [.ref (bs g 0), .int a1, .int a2] (WS g 0 81 σ)) (Ql' g 0 81 r τ) 0 0 (Ag g 0) := by
  refine Met.ofW (cc := cX12_truth) (maxL := 3) (ret := (some .long)) (by decide) rfl ?_
  intro p e s m args below meth c s₁ B hml hv
  obtain ⟨rfl, hZ, hT, hW⟩ := hv
  have hx := B.exec
  have hb := B.bytes
  have hr := B.returns
  have hts : ∀ w ∈ wx (.code yX12_truth cX12_truth 3 (some .long)), w.before _ s = true := atoms_spec B.pre
  have htg : ∀ w ∈ lwg, w.before _ s = true := fun w h => hts w (List.mem_cons_of_mem _ h)
  have hown : s.vm.findClass RX12 = some m.cls := findClass_of_methodNamed B.named
  have hlocks := B.notSynchronized
  change W p l e (kr 6 138) s m (List.toArray [.ref (bs g 0), .int a1, .int a2]) below meth c s.heap [] 0 0 (MQ below (Ql' g 0 81 r τ) (List.toArray [.ref (bs g 0), .int a1, .int a2]) s 0 0 (Ag g 0)) _
  generalize hQ : MQ below (Ql' g 0 81 r τ) (List.toArray [.ref (bs g 0), .int a1, .int a2]) s 0 0 (Ag g 0) = Q
  have hS : va_S (Ag g 0) s.heap s.heap [] := va_S.rf
  have hl := lv_entry ([.ref (bs g 0), .int a1, .int a2]) (n := 3) (Nat.le_of_ble_eq_true rfl)
  rw [lg_entry_eq]
  generalize (lg_sl ([.ref (bs g 0), .int a1, .int a2]) ++ List.replicate (3 - (lg_sl ([.ref (bs g 0), .int a1, .int a2])).length) Slot.unset).toArray = ls at hl ⊢
  have hl : lv_has ls 3 [(0, .ref (bs g 0)), (1, .int a1), (2, .int a2)] := hl
  delta f_X12_truth at hf
  obtain ⟨H, hH⟩ : ∃ H, H = s.heap := ⟨_, rfl⟩
  obtain ⟨locs, hLc⟩ : ∃ z : List Loc, z = [] := ⟨_, rfl⟩
  have hS : va_S (Ag g 0) s.heap H locs := by rw [hH, hLc]; exact hS
  have hW : Wd g 0 81 σ H := by rw [hH]; exact hW
  suffices hG : W p l e (kr 6 138) s m (List.toArray [.ref (bs g 0), .int a1, .int a2]) below meth c H locs 0 0 Q (F0 m 0 ls []) by rw [hH, hLc] at hG; exact hG
  clear hH hLc
  refine lv_aload_n hx hb dX12_truth_0 rfl (lv_at hl 0 rfl) ?_
  refine lv_aload_n hx hb dX12_truth_1 rfl (lv_at hl 0 rfl) ?_
  refine lv_iload_n hx hb dX12_truth_2 rfl (lv_at hl 1 rfl) ?_
  refine mcip hf hS (fun r h => va_runV (As := [.int a1]) (rest := [.ref (bs g 0)]) ⟨hx, hb, hml, hown, hts⟩ (c_X12_ofPerson g l σ a1 r h) (cl_X12_157 hts ⟨Nat.le_of_ble_eq_true rfl, Nat.le_of_ble_eq_true rfl⟩) (mpV_12 hZ hT hS hW tz_0 _) rfl rfl hl.1 rfl (lv_room (Nat.le_of_ble_eq_true rfl)) dX12_truth_3 ⟨Nat.zero_le _, Nat.zero_le _⟩) (fun r_1 H locs hf hW hS => ?_)
  refine mci hf hS (fun r τ h => va_runV (As := [.int r_1]) (rest := []) ⟨hx, hb, hml, hown, hts⟩ (c_X12_refused g l σ r_1 r τ h) (cl_X12_98 hts ⟨Nat.le_of_ble_eq_true rfl, Nat.le_of_ble_eq_true rfl⟩) (mpV_12 hZ hT hS hW tz_0 _) rfl rfl hl.1 rfl (lv_room (Nat.le_of_ble_eq_true rfl)) dX12_truth_6 ⟨Nat.zero_le _, Nat.zero_le _⟩) (fun r_2 σ_3 H locs hf hW hS => ?_)
  refine lv_if_eq (tgt := 16) hx hb dX12_truth_9 (by decide) (fun hc => ?_) (fun hc => ?_)
  · have hf := ift hc hf
    refine lv_aload_n hx hb dX12_truth_16 rfl (lv_at hl 0 rfl) ?_
    refine gf_12_8 hx hb htg (htg _ lf_X12_75) hown hZ hW tz_0 dX12_truth_17 ?_
    refine lv_aload_n hx hb dX12_truth_20 rfl (lv_at hl 0 rfl) ?_
    refine gf_12_10 hx hb htg (htg _ lf_X12_19) hown hZ hW tz_0 dX12_truth_21 hf (fun T_4 tT_4 hf => ?_)
    refine lv_iload_n hx hb dX12_truth_24 rfl (lv_at hl 1 rfl) ?_
    refine lv_aload_n hx hb dX12_truth_25 rfl (lv_at hl 0 rfl) ?_
    refine gf_12_8 hx hb htg (htg _ lf_X12_75) hown hZ hW tz_0 dX12_truth_26 ?_
    refine lv_aload_n hx hb dX12_truth_29 rfl (lv_at hl 0 rfl) ?_
    refine gf_12_10 hx hb htg (htg _ lf_X12_19) hown hZ hW tz_0 dX12_truth_30 hf (fun T_5 tT_5 hf => ?_)
    refine lv_iload_n hx hb dX12_truth_33 rfl (lv_at hl 1 rfl) ?_
    refine mci hf hS (fun r τ h => va_runV (As := [.ref (bs g T_5), .int a1]) (rest := [.int a1, .ref (bs g T_4), .ref (bs g 59)]) ⟨hx, hb, hml, hown, hts⟩ (c_X2_bestToAsk g l σ_3 T_5 a1 tT_5 r τ h) (cl_X12_257 hts ⟨Nat.le_of_ble_eq_true rfl, Nat.le_of_ble_eq_true rfl⟩) (mpV_2 hZ hT hS hW tz_59 _) rfl rfl hl.1 rfl (lv_room (Nat.le_of_ble_eq_true rfl)) dX12_truth_34 ⟨Nat.zero_le _, Nat.zero_le _⟩) (fun r_6 σ_7 H locs hf hW hS => ?_)
    refine mcl hf hS (fun r τ h => va_runV (As := [.ref (bs g T_4), .int a1, .int r_6]) (rest := []) ⟨hx, hb, hml, hown, hts⟩ (c_X2_chanceOfMost g l σ_7 T_4 a1 r_6 tT_4 r τ h) (cl_X12_262 hts ⟨Nat.le_of_ble_eq_true rfl, Nat.le_of_ble_eq_true rfl⟩) (mpV_2 hZ hT hS hW tz_59 _) rfl rfl hl.1 rfl (lv_room (Nat.le_of_ble_eq_true rfl)) dX12_truth_37 ⟨Nat.zero_le _, Nat.zero_le _⟩) (fun r_8 σ_9 H locs hf hW hS => ?_)
    refine lv_iload_n hx hb dX12_truth_40 rfl (lv_at hl 2 rfl) ?_
    refine mclp hf hS (fun r h => va_runS (As := [.long r_8, .int a2]) (rest := []) ⟨hx, hb, hml, hown, hts⟩ (c_X2_lowestTerm g l 0 81 σ_9 r_8 a2 r h) (cl_X12_266 hts ⟨Nat.le_of_ble_eq_true rfl, Nat.le_of_ble_eq_true rfl⟩) (mpS hZ hT hS hW _) rfl rfl hl.1 rfl (lv_room (Nat.le_of_ble_eq_true rfl)) dX12_truth_41 ⟨Nat.zero_le _, Nat.zero_le _⟩) (fun r_10 H locs hf hW hS => ?_)
    subst hQ
    exact mrl hx hb hr hlocks hZ hT hS hW (pr1 hf) dX12_truth_44
  · have hf := iff_ hc hf
    refine lv_ldc2 (v := -1) hx hb hown (htg _ lk_X12_260) dX12_truth_12 ?_
    subst hQ
    exact mrl hx hb hr hlocks hZ hT hS hW (pr1 hf) dX12_truth_15
def f_X12_allTell (σ : Mem) (a1 : Int32) (a2 : Int32) : Option (Int64 × Mem) :=
  bd1 (f_X12_ofPerson σ a1) (fun (r_1 : Int32) => bd2 (f_X12_refused σ r_1) (fun (r_2 : Int32) (σ_3 : Mem) => (if r_2 = 0 then rfc (σ_3.2.2 0 10) (fun (T_4 : Nat) => bd1 (f_X2_chanceOfAll σ_3 T_4 a1) (fun (r_5 : Int64) => bd1 (f_X2_lowestTerm r_5 a2) (fun (r_6 : Int64) => some (r_6, σ_3)))) else some (-1, σ_3))))
set_option maxHeartbeats 4000000 in
set_option maxRecDepth 100000 in
theorem c_X12_allTell (g : XG) (l : Launch) (σ : Mem) (a1 : Int32) (a2 : Int32) (r : Int64) (τ : Mem) (hf : f_X12_allTell σ a1 a2 = some (r, τ)) : Met l yX12_allTell (wx (.code yX12_allTell cX12_allTell 3 (some .long))) (kr 5 109) (va_Pc [.ref (bs g 0), .int a1, .int a2] (WS g 0 81 σ)) (Ql' g 0 81 r τ) 0 0 (Ag g 0) := by
  refine Met.ofW (cc := cX12_allTell) (maxL := 3) (ret := (some .long)) (by decide) rfl ?_
  intro p e s m args below meth c s₁ B hml hv
  obtain ⟨rfl, hZ, hT, hW⟩ := hv
  have hx := B.exec
  have hb := B.bytes
  have hr := B.returns
  have hts : ∀ w ∈ wx (.code yX12_allTell cX12_allTell 3 (some .long)), w.before _ s = true := atoms_spec B.pre
  have htg : ∀ w ∈ lwg, w.before _ s = true := fun w h => hts w (List.mem_cons_of_mem _ h)
  have hown : s.vm.findClass RX12 = some m.cls := findClass_of_methodNamed B.named
  have hlocks := B.notSynchronized
  change W p l e (kr 5 109) s m (List.toArray [.ref (bs g 0), .int a1, .int a2]) below meth c s.heap [] 0 0 (MQ below (Ql' g 0 81 r τ) (List.toArray [.ref (bs g 0), .int a1, .int a2]) s 0 0 (Ag g 0)) _
  generalize hQ : MQ below (Ql' g 0 81 r τ) (List.toArray [.ref (bs g 0), .int a1, .int a2]) s 0 0 (Ag g 0) = Q
  have hS : va_S (Ag g 0) s.heap s.heap [] := va_S.rf
  have hl := lv_entry ([.ref (bs g 0), .int a1, .int a2]) (n := 3) (Nat.le_of_ble_eq_true rfl)
  rw [lg_entry_eq]
  generalize (lg_sl ([.ref (bs g 0), .int a1, .int a2]) ++ List.replicate (3 - (lg_sl ([.ref (bs g 0), .int a1, .int a2])).length) Slot.unset).toArray = ls at hl ⊢
  have hl : lv_has ls 3 [(0, .ref (bs g 0)), (1, .int a1), (2, .int a2)] := hl
  delta f_X12_allTell at hf
  obtain ⟨H, hH⟩ : ∃ H, H = s.heap := ⟨_, rfl⟩
  obtain ⟨locs, hLc⟩ : ∃ z : List Loc, z = [] := ⟨_, rfl⟩
  have hS : va_S (Ag g 0) s.heap H locs := by rw [hH, hLc]; exact hS
  have hW : Wd g 0 81 σ H := by rw [hH]; exact hW
  suffices hG : W p l e (kr 5 109) s m (List.toArray [.ref (bs g 0), .int a1, .int a2]) below meth c H locs 0 0 Q (F0 m 0 ls []) by rw [hH, hLc] at hG; exact hG
  clear hH hLc
  refine lv_aload_n hx hb dX12_allTell_0 rfl (lv_at hl 0 rfl) ?_
  refine lv_aload_n hx hb dX12_allTell_1 rfl (lv_at hl 0 rfl) ?_
  refine lv_iload_n hx hb dX12_allTell_2 rfl (lv_at hl 1 rfl) ?_
  refine mcip hf hS (fun r h => va_runV (As := [.int a1]) (rest := [.ref (bs g 0)]) ⟨hx, hb, hml, hown, hts⟩ (c_X12_ofPerson g l σ a1 r h) (cl_X12_157 hts ⟨Nat.le_of_ble_eq_true rfl, Nat.le_of_ble_eq_true rfl⟩) (mpV_12 hZ hT hS hW tz_0 _) rfl rfl hl.1 rfl (lv_room (Nat.le_of_ble_eq_true rfl)) dX12_allTell_3 ⟨Nat.zero_le _, Nat.zero_le _⟩) (fun r_1 H locs hf hW hS => ?_)
  refine mci hf hS (fun r τ h => va_runV (As := [.int r_1]) (rest := []) ⟨hx, hb, hml, hown, hts⟩ (c_X12_refused g l σ r_1 r τ h) (cl_X12_98 hts ⟨Nat.le_of_ble_eq_true rfl, Nat.le_of_ble_eq_true rfl⟩) (mpV_12 hZ hT hS hW tz_0 _) rfl rfl hl.1 rfl (lv_room (Nat.le_of_ble_eq_true rfl)) dX12_allTell_6 ⟨Nat.zero_le _, Nat.zero_le _⟩) (fun r_2 σ_3 H locs hf hW hS => ?_)
  refine lv_if_eq (tgt := 18) hx hb dX12_allTell_9 (by decide) (fun hc => ?_) (fun hc => ?_)
  · have hf := ift hc hf
    refine lv_aload_n hx hb dX12_allTell_18 rfl (lv_at hl 0 rfl) ?_
    refine gf_12_10 hx hb htg (htg _ lf_X12_19) hown hZ hW tz_0 dX12_allTell_19 hf (fun T_4 tT_4 hf => ?_)
    refine lv_iload_n hx hb dX12_allTell_22 rfl (lv_at hl 1 rfl) ?_
    refine mclp hf hS (fun r h => va_runS (As := [.ref (bs g T_4), .int a1]) (rest := []) ⟨hx, hb, hml, hown, hts⟩ (c_X2_chanceOfAll g l 0 81 σ_3 T_4 a1 tT_4 r h) (cl_X12_270 hts ⟨Nat.le_of_ble_eq_true rfl, Nat.le_of_ble_eq_true rfl⟩) (mpS hZ hT hS hW _) rfl rfl hl.1 rfl (lv_room (Nat.le_of_ble_eq_true rfl)) dX12_allTell_23 ⟨Nat.zero_le _, Nat.zero_le _⟩) (fun r_5 H locs hf hW hS => ?_)
    refine lv_iload_n hx hb dX12_allTell_26 rfl (lv_at hl 2 rfl) ?_
    refine mclp hf hS (fun r h => va_runS (As := [.long r_5, .int a2]) (rest := []) ⟨hx, hb, hml, hown, hts⟩ (c_X2_lowestTerm g l 0 81 σ_3 r_5 a2 r h) (cl_X12_266 hts ⟨Nat.le_of_ble_eq_true rfl, Nat.le_of_ble_eq_true rfl⟩) (mpS hZ hT hS hW _) rfl rfl hl.1 rfl (lv_room (Nat.le_of_ble_eq_true rfl)) dX12_allTell_27 ⟨Nat.zero_le _, Nat.zero_le _⟩) (fun r_6 H locs hf hW hS => ?_)
    subst hQ
    exact mrl hx hb hr hlocks hZ hT hS hW (pr1 hf) dX12_allTell_30
  · have hf := iff_ hc hf
    refine lv_ldc2 (v := -1) hx hb hown (htg _ lk_X12_260) dX12_allTell_12 ?_
    refine lv_goto (tgt := 30) hx hb dX12_allTell_15 (by decide) ?_
    subst hQ
    exact mrl hx hb hr hlocks hZ hT hS hW (pr1 hf) dX12_allTell_30
def f_X12_guard (σ : Mem) (a1 : Int32) : Option (Int32 × Mem) :=
  bd1 (f_X12_ofDay σ a1) (fun (r_1 : Int32) => bd2 (f_X12_refused σ r_1) (fun (r_2 : Int32) (σ_3 : Mem) => (if r_2 = 0 then bd2 (f_X7_marksToGuard σ_3 28 a1) (fun (r_4 : Int32) (σ_5 : Mem) => some (r_4, σ_5)) else some ((-1), σ_3))))
set_option maxHeartbeats 4000000 in
set_option maxRecDepth 100000 in
theorem c_X12_guard (g : XG) (l : Launch) (σ : Mem) (a1 : Int32) (r : Int32) (τ : Mem) (hf : f_X12_guard σ a1 = some (r, τ)) : Met l yX12_guard (wx (.code yX12_guard cX12_guard 2 (some .int))) (kr 6 156) (va_Pc [.ref (bs g 0), .int a1] (WS g 0 81 σ)) (Qi' g 0 81 r τ) 0 0 (Ag g 0) := by
  refine Met.ofW (cc := cX12_guard) (maxL := 2) (ret := (some .int)) (by decide) rfl ?_
  intro p e s m args below meth c s₁ B hml hv
  obtain ⟨rfl, hZ, hT, hW⟩ := hv
  have hx := B.exec
  have hb := B.bytes
  have hr := B.returns
  have hts : ∀ w ∈ wx (.code yX12_guard cX12_guard 2 (some .int)), w.before _ s = true := atoms_spec B.pre
  have htg : ∀ w ∈ lwg, w.before _ s = true := fun w h => hts w (List.mem_cons_of_mem _ h)
  have hown : s.vm.findClass RX12 = some m.cls := findClass_of_methodNamed B.named
  have hlocks := B.notSynchronized
  change W p l e (kr 6 156) s m (List.toArray [.ref (bs g 0), .int a1]) below meth c s.heap [] 0 0 (MQ below (Qi' g 0 81 r τ) (List.toArray [.ref (bs g 0), .int a1]) s 0 0 (Ag g 0)) _
  generalize hQ : MQ below (Qi' g 0 81 r τ) (List.toArray [.ref (bs g 0), .int a1]) s 0 0 (Ag g 0) = Q
  have hS : va_S (Ag g 0) s.heap s.heap [] := va_S.rf
  have hl := lv_entry ([.ref (bs g 0), .int a1]) (n := 2) (Nat.le_of_ble_eq_true rfl)
  rw [lg_entry_eq]
  generalize (lg_sl ([.ref (bs g 0), .int a1]) ++ List.replicate (2 - (lg_sl ([.ref (bs g 0), .int a1])).length) Slot.unset).toArray = ls at hl ⊢
  have hl : lv_has ls 2 [(0, .ref (bs g 0)), (1, .int a1)] := hl
  delta f_X12_guard at hf
  obtain ⟨H, hH⟩ : ∃ H, H = s.heap := ⟨_, rfl⟩
  obtain ⟨locs, hLc⟩ : ∃ z : List Loc, z = [] := ⟨_, rfl⟩
  have hS : va_S (Ag g 0) s.heap H locs := by rw [hH, hLc]; exact hS
  have hW : Wd g 0 81 σ H := by rw [hH]; exact hW
  suffices hG : W p l e (kr 6 156) s m (List.toArray [.ref (bs g 0), .int a1]) below meth c H locs 0 0 Q (F0 m 0 ls []) by rw [hH, hLc] at hG; exact hG
  clear hH hLc
  refine lv_aload_n hx hb dX12_guard_0 rfl (lv_at hl 0 rfl) ?_
  refine lv_aload_n hx hb dX12_guard_1 rfl (lv_at hl 0 rfl) ?_
  refine lv_iload_n hx hb dX12_guard_2 rfl (lv_at hl 1 rfl) ?_
  refine mcip hf hS (fun r h => va_runV (As := [.int a1]) (rest := [.ref (bs g 0)]) ⟨hx, hb, hml, hown, hts⟩ (c_X12_ofDay g l σ a1 r h) (cl_X12_175 hts ⟨Nat.le_of_ble_eq_true rfl, Nat.le_of_ble_eq_true rfl⟩) (mpV_12 hZ hT hS hW tz_0 _) rfl rfl hl.1 rfl (lv_room (Nat.le_of_ble_eq_true rfl)) dX12_guard_3 ⟨Nat.zero_le _, Nat.zero_le _⟩) (fun r_1 H locs hf hW hS => ?_)
  refine mci hf hS (fun r τ h => va_runV (As := [.int r_1]) (rest := []) ⟨hx, hb, hml, hown, hts⟩ (c_X12_refused g l σ r_1 r τ h) (cl_X12_98 hts ⟨Nat.le_of_ble_eq_true rfl, Nat.le_of_ble_eq_true rfl⟩) (mpV_12 hZ hT hS hW tz_0 _) rfl rfl hl.1 rfl (lv_room (Nat.le_of_ble_eq_true rfl)) dX12_guard_6 ⟨Nat.zero_le _, Nat.zero_le _⟩) (fun r_2 σ_3 H locs hf hW hS => ?_)
  refine lv_if_eq (tgt := 16) hx hb dX12_guard_9 (by decide) (fun hc => ?_) (fun hc => ?_)
  · have hf := ift hc hf
    refine lv_aload_n hx hb dX12_guard_16 rfl (lv_at hl 0 rfl) ?_
    refine gf_12_9 hx hb htg (htg _ lf_X12_82) hown hZ hW tz_0 dX12_guard_17 ?_
    refine lv_aload_n hx hb dX12_guard_20 rfl (lv_at hl 0 rfl) ?_
    refine gf_12_2 hx hb htg (htg _ lf_X12_40) hown hZ hW tz_0 dX12_guard_21 ?_
    refine lv_iload_n hx hb dX12_guard_24 rfl (lv_at hl 1 rfl) ?_
    refine mci hf hS (fun r τ h => va_runV (As := [.ref (bs g 28), .int a1]) (rest := []) ⟨hx, hb, hml, hown, hts⟩ (c_X7_marksToGuard g l σ_3 28 a1 tz_28 r τ h) (cl_X12_274 hts ⟨Nat.le_of_ble_eq_true rfl, Nat.le_of_ble_eq_true rfl⟩) (mpV_7 hZ hT hS hW tz_61 _) rfl rfl hl.1 rfl (lv_room (Nat.le_of_ble_eq_true rfl)) dX12_guard_25 ⟨Nat.zero_le _, Nat.zero_le _⟩) (fun r_4 σ_5 H locs hf hW hS => ?_)
    subst hQ
    exact mri hx hb hr hlocks hZ hT hS hW (pr1 hf) dX12_guard_28
  · have hf := iff_ hc hf
    refine lv_iconst (v := (-1)) hx hb dX12_guard_12 (by decide) ?_
    refine lv_goto (tgt := 28) hx hb dX12_guard_13 (by decide) ?_
    subst hQ
    exact mri hx hb hr hlocks hZ hT hS hW (pr1 hf) dX12_guard_28
def f_X12_unknown (σ : Mem)  : Option (Int32 × Mem) :=
  bd1 (f_X12_ofTown σ) (fun (r_1 : Int32) => bd2 (f_X12_refused σ r_1) (fun (r_2 : Int32) (σ_3 : Mem) => (if r_2 = 0 then rfc (σ_3.2.2 0 10) (fun (T_4 : Nat) => bd1 (f_X7_countFitting σ_3 T_4) (fun (r_5 : Int32) => some (r_5, σ_3))) else some ((-1), σ_3))))
set_option maxHeartbeats 4000000 in
set_option maxRecDepth 100000 in
theorem c_X12_unknown (g : XG) (l : Launch) (σ : Mem) (r : Int32) (τ : Mem) (hf : f_X12_unknown σ = some (r, τ)) : Met l yX12_unknown (wx (.code yX12_unknown cX12_unknown 1 (some .int))) (kr 5 108) (va_Pc [.ref (bs g 0)] (WS g 0 81 σ)) (Qi' g 0 81 r τ) 0 0 (Ag g 0) := by
  refine Met.ofW (cc := cX12_unknown) (maxL := 1) (ret := (some .int)) (by decide) rfl ?_
  intro p e s m args below meth c s₁ B hml hv
  obtain ⟨rfl, hZ, hT, hW⟩ := hv
  have hx := B.exec
  have hb := B.bytes
  have hr := B.returns
  have hts : ∀ w ∈ wx (.code yX12_unknown cX12_unknown 1 (some .int)), w.before _ s = true := atoms_spec B.pre
  have htg : ∀ w ∈ lwg, w.before _ s = true := fun w h => hts w (List.mem_cons_of_mem _ h)
  have hown : s.vm.findClass RX12 = some m.cls := findClass_of_methodNamed B.named
  have hlocks := B.notSynchronized
  change W p l e (kr 5 108) s m (List.toArray [.ref (bs g 0)]) below meth c s.heap [] 0 0 (MQ below (Qi' g 0 81 r τ) (List.toArray [.ref (bs g 0)]) s 0 0 (Ag g 0)) _
  generalize hQ : MQ below (Qi' g 0 81 r τ) (List.toArray [.ref (bs g 0)]) s 0 0 (Ag g 0) = Q
  have hS : va_S (Ag g 0) s.heap s.heap [] := va_S.rf
  have hl := lv_entry ([.ref (bs g 0)]) (n := 1) (Nat.le_of_ble_eq_true rfl)
  rw [lg_entry_eq]
  generalize (lg_sl ([.ref (bs g 0)]) ++ List.replicate (1 - (lg_sl ([.ref (bs g 0)])).length) Slot.unset).toArray = ls at hl ⊢
  have hl : lv_has ls 1 [(0, .ref (bs g 0))] := hl
  delta f_X12_unknown at hf
  obtain ⟨H, hH⟩ : ∃ H, H = s.heap := ⟨_, rfl⟩
  obtain ⟨locs, hLc⟩ : ∃ z : List Loc, z = [] := ⟨_, rfl⟩
  have hS : va_S (Ag g 0) s.heap H locs := by rw [hH, hLc]; exact hS
  have hW : Wd g 0 81 σ H := by rw [hH]; exact hW
  suffices hG : W p l e (kr 5 108) s m (List.toArray [.ref (bs g 0)]) below meth c H locs 0 0 Q (F0 m 0 ls []) by rw [hH, hLc] at hG; exact hG
  clear hH hLc
  refine lv_aload_n hx hb dX12_unknown_0 rfl (lv_at hl 0 rfl) ?_
  refine lv_aload_n hx hb dX12_unknown_1 rfl (lv_at hl 0 rfl) ?_
  refine mcip hf hS (fun r h => va_runV (As := []) (rest := [.ref (bs g 0)]) ⟨hx, hb, hml, hown, hts⟩ (c_X12_ofTown g l σ r h) (cl_X12_201 hts ⟨Nat.le_of_ble_eq_true rfl, Nat.le_of_ble_eq_true rfl⟩) (mpV_12 hZ hT hS hW tz_0 _) rfl rfl hl.1 rfl (lv_room (Nat.le_of_ble_eq_true rfl)) dX12_unknown_2 ⟨Nat.zero_le _, Nat.zero_le _⟩) (fun r_1 H locs hf hW hS => ?_)
  refine mci hf hS (fun r τ h => va_runV (As := [.int r_1]) (rest := []) ⟨hx, hb, hml, hown, hts⟩ (c_X12_refused g l σ r_1 r τ h) (cl_X12_98 hts ⟨Nat.le_of_ble_eq_true rfl, Nat.le_of_ble_eq_true rfl⟩) (mpV_12 hZ hT hS hW tz_0 _) rfl rfl hl.1 rfl (lv_room (Nat.le_of_ble_eq_true rfl)) dX12_unknown_5 ⟨Nat.zero_le _, Nat.zero_le _⟩) (fun r_2 σ_3 H locs hf hW hS => ?_)
  refine lv_if_eq (tgt := 15) hx hb dX12_unknown_8 (by decide) (fun hc => ?_) (fun hc => ?_)
  · have hf := ift hc hf
    refine lv_aload_n hx hb dX12_unknown_15 rfl (lv_at hl 0 rfl) ?_
    refine gf_12_10 hx hb htg (htg _ lf_X12_19) hown hZ hW tz_0 dX12_unknown_16 hf (fun T_4 tT_4 hf => ?_)
    refine mcip hf hS (fun r h => va_runS (As := [.ref (bs g T_4)]) (rest := []) ⟨hx, hb, hml, hown, hts⟩ (c_X7_countFitting g l 0 81 σ_3 T_4 tT_4 r h) (cl_X12_278 hts ⟨Nat.le_of_ble_eq_true rfl, Nat.le_of_ble_eq_true rfl⟩) (mpS hZ hT hS hW _) rfl rfl hl.1 rfl (lv_room (Nat.le_of_ble_eq_true rfl)) dX12_unknown_19 ⟨Nat.zero_le _, Nat.zero_le _⟩) (fun r_5 H locs hf hW hS => ?_)
    subst hQ
    exact mri hx hb hr hlocks hZ hT hS hW (pr1 hf) dX12_unknown_22
  · have hf := iff_ hc hf
    refine lv_iconst (v := (-1)) hx hb dX12_unknown_11 (by decide) ?_
    refine lv_goto (tgt := 22) hx hb dX12_unknown_12 (by decide) ?_
    subst hQ
    exact mri hx hb hr hlocks hZ hT hS hW (pr1 hf) dX12_unknown_22
def f_X12_unknownAt (σ : Mem) (a1 : Int32) : Option (Int32 × Mem) :=
  bd1 (f_X12_ofTown σ) (fun (r_1 : Int32) => jn1 (fun (i_2 : Int32) => jn1 (fun (i_4 : Int32) => bd2 (f_X12_refused σ i_4) (fun (r_6 : Int32) (σ_7 : Mem) => (if r_6 = 0 then rfc (σ_7.2.2 0 10) (fun (T_8 : Nat) => bd1 (f_X5_digits i_2 (σ_7.1 T_8 0)) (fun (r_9 : Int32) => some (r_9, σ_7))) else some ((-1), σ_7)))) (fun k_5 => (if 0 ≤ i_2 then k_5 0 else k_5 1))) (fun k_3 => (if r_1 = 0 then rfc (σ.2.2 0 10) (fun (T_10 : Nat) => bd1 (f_X7_fittingAt σ T_10 a1) (fun (r_11 : Int32) => k_3 r_11)) else k_3 (-2))))
set_option maxHeartbeats 4000000 in
set_option maxRecDepth 100000 in
theorem c_X12_unknownAt (g : XG) (l : Launch) (σ : Mem) (a1 : Int32) (r : Int32) (τ : Mem) (hf : f_X12_unknownAt σ a1 = some (r, τ)) : Met l yX12_unknownAt (wx (.code yX12_unknownAt cX12_unknownAt 3 (some .int))) (kr 5 109) (va_Pc [.ref (bs g 0), .int a1] (WS g 0 81 σ)) (Qi' g 0 81 r τ) 0 0 (Ag g 0) := by
  refine Met.ofW (cc := cX12_unknownAt) (maxL := 3) (ret := (some .int)) (by decide) rfl ?_
  intro p e s m args below meth c s₁ B hml hv
  obtain ⟨rfl, hZ, hT, hW⟩ := hv
  have hx := B.exec
  have hb := B.bytes
  have hr := B.returns
  have hts : ∀ w ∈ wx (.code yX12_unknownAt cX12_unknownAt 3 (some .int)), w.before _ s = true := atoms_spec B.pre
  have htg : ∀ w ∈ lwg, w.before _ s = true := fun w h => hts w (List.mem_cons_of_mem _ h)
  have hown : s.vm.findClass RX12 = some m.cls := findClass_of_methodNamed B.named
  have hlocks := B.notSynchronized
  change W p l e (kr 5 109) s m (List.toArray [.ref (bs g 0), .int a1]) below meth c s.heap [] 0 0 (MQ below (Qi' g 0 81 r τ) (List.toArray [.ref (bs g 0), .int a1]) s 0 0 (Ag g 0)) _
  generalize hQ : MQ below (Qi' g 0 81 r τ) (List.toArray [.ref (bs g 0), .int a1]) s 0 0 (Ag g 0) = Q
  have hS : va_S (Ag g 0) s.heap s.heap [] := va_S.rf
  have hl := lv_entry ([.ref (bs g 0), .int a1]) (n := 3) (Nat.le_of_ble_eq_true rfl)
  rw [lg_entry_eq]
  generalize (lg_sl ([.ref (bs g 0), .int a1]) ++ List.replicate (3 - (lg_sl ([.ref (bs g 0), .int a1])).length) Slot.unset).toArray = ls at hl ⊢
  have hl : lv_has ls 3 [(0, .ref (bs g 0)), (1, .int a1)] := hl
  delta f_X12_unknownAt at hf
  obtain ⟨H, hH⟩ : ∃ H, H = s.heap := ⟨_, rfl⟩
  obtain ⟨locs, hLc⟩ : ∃ z : List Loc, z = [] := ⟨_, rfl⟩
  have hS : va_S (Ag g 0) s.heap H locs := by rw [hH, hLc]; exact hS
  have hW : Wd g 0 81 σ H := by rw [hH]; exact hW
  suffices hG : W p l e (kr 5 109) s m (List.toArray [.ref (bs g 0), .int a1]) below meth c H locs 0 0 Q (F0 m 0 ls []) by rw [hH, hLc] at hG; exact hG
  clear hH hLc
  refine lv_aload_n hx hb dX12_unknownAt_0 rfl (lv_at hl 0 rfl) ?_
  refine mcip hf hS (fun r h => va_runV (As := []) (rest := []) ⟨hx, hb, hml, hown, hts⟩ (c_X12_ofTown g l σ r h) (cl_X12_201 hts ⟨Nat.le_of_ble_eq_true rfl, Nat.le_of_ble_eq_true rfl⟩) (mpV_12 hZ hT hS hW tz_0 _) rfl rfl hl.1 rfl (lv_room (Nat.le_of_ble_eq_true rfl)) dX12_unknownAt_1 ⟨Nat.zero_le _, Nat.zero_le _⟩) (fun r_1 H locs hf hW hS => ?_)
  refine jn1_W (fun (i_2 : Int32) => ∀ (H : Heap) (locs : List Loc) (ls : Array Slot), Wd g 0 81 σ H → va_S (Ag g 0) s.heap H locs → lv_has ls 3 [(0, .ref (bs g 0))] → W p l e (kr 5 109) s m (List.toArray [.ref (bs g 0), .int a1]) below meth c H locs 0 0 Q (F0 m 20 ls [.int i_2])) hf (fun i_2 hf => ?_) (fun k_3 hk_3 hf => ?_)
  · intro H locs ls hW hS hl
    refine lv_istore_n (lv' := [(2, .int i_2), (0, .ref (bs g 0))]) hx hb dX12_unknownAt_20 rfl hl (by decide) rfl (fun ls hl => ?_)
    refine lv_aload_n hx hb dX12_unknownAt_21 rfl (lv_at hl 1 rfl) ?_
    refine lv_iload_n hx hb dX12_unknownAt_22 rfl (lv_at hl 0 rfl) ?_
    refine jn1_W (fun (i_4 : Int32) => ∀ (H : Heap) (locs : List Loc) (ls : Array Slot), Wd g 0 81 σ H → va_S (Ag g 0) s.heap H locs → lv_has ls 3 [(0, .ref (bs g 0)), (2, .int i_2)] → W p l e (kr 5 109) s m (List.toArray [.ref (bs g 0), .int a1]) below meth c H locs 0 0 Q (F0 m 31 ls [.int i_4, .ref (bs g 0)])) hf (fun i_4 hf => ?_) (fun k_5 hk_5 hf => ?_)
    · intro H locs ls hW hS hl
      refine mci hf hS (fun r τ h => va_runV (As := [.int i_4]) (rest := []) ⟨hx, hb, hml, hown, hts⟩ (c_X12_refused g l σ i_4 r τ h) (cl_X12_98 hts ⟨Nat.le_of_ble_eq_true rfl, Nat.le_of_ble_eq_true rfl⟩) (mpV_12 hZ hT hS hW tz_0 _) rfl rfl hl.1 rfl (lv_room (Nat.le_of_ble_eq_true rfl)) dX12_unknownAt_31 ⟨Nat.zero_le _, Nat.zero_le _⟩) (fun r_6 σ_7 H locs hf hW hS => ?_)
      refine lv_if_eq (tgt := 39) hx hb dX12_unknownAt_34 (by decide) (fun hc => ?_) (fun hc => ?_)
      · have hf := ift hc hf
        refine lv_iload_n hx hb dX12_unknownAt_39 rfl (lv_at hl 1 rfl) ?_
        refine lv_aload_n hx hb dX12_unknownAt_40 rfl (lv_at hl 0 rfl) ?_
        refine gf_12_10 hx hb htg (htg _ lf_X12_19) hown hZ hW tz_0 dX12_unknownAt_41 hf (fun T_8 tT_8 hf => ?_)
        refine gfN_11_0 hx hb htg ln_X12_285 hown hZ hW tT_8 dX12_unknownAt_44 ?_
        refine mcip hf hS (fun r h => va_runS (As := [.int i_2, .int (σ_7.1 T_8 0)]) (rest := []) ⟨hx, hb, hml, hown, hts⟩ (c_X5_digits g l 0 81 σ_7 i_2 (σ_7.1 T_8 0) r h) (cl_X12_288 hts ⟨Nat.le_of_ble_eq_true rfl, Nat.le_of_ble_eq_true rfl⟩) (mpS hZ hT hS hW _) rfl rfl hl.1 rfl (lv_room (Nat.le_of_ble_eq_true rfl)) dX12_unknownAt_47 ⟨Nat.zero_le _, Nat.zero_le _⟩) (fun r_9 H locs hf hW hS => ?_)
        subst hQ
        exact mri hx hb hr hlocks hZ hT hS hW (pr1 hf) dX12_unknownAt_50
      · have hf := iff_ hc hf
        refine lv_iconst (v := (-1)) hx hb dX12_unknownAt_37 (by decide) ?_
        subst hQ
        exact mri hx hb hr hlocks hZ hT hS hW (pr1 hf) dX12_unknownAt_38
    · refine lv_if_ge (tgt := 30) hx hb dX12_unknownAt_23 (by decide) (fun hc => ?_) (fun hc => ?_)
      · have hf := ift hc hf
        refine lv_iconst (v := 0) hx hb dX12_unknownAt_30 (by decide) ?_
        exact hk_5 0 hf H locs ls hW hS (lv_sub hl [1, 0] rfl)
      · have hf := iff_ hc hf
        refine lv_iconst (v := 1) hx hb dX12_unknownAt_26 (by decide) ?_
        refine lv_goto (tgt := 31) hx hb dX12_unknownAt_27 (by decide) ?_
        exact hk_5 1 hf H locs ls hW hS (lv_sub hl [1, 0] rfl)
  · refine lv_if_ne (tgt := 18) hx hb dX12_unknownAt_4 (by decide) (fun hc => ?_) (fun hc => ?_)
    · have hf := iff_ hc hf
      refine lv_bipush (v := (-2)) hx hb dX12_unknownAt_18 (by decide) ?_
      exact hk_3 (-2) hf H locs ls hW hS (lv_sub hl [0] rfl)
    · have hf := ift hc hf
      refine lv_aload_n hx hb dX12_unknownAt_7 rfl (lv_at hl 0 rfl) ?_
      refine gf_12_10 hx hb htg (htg _ lf_X12_19) hown hZ hW tz_0 dX12_unknownAt_8 hf (fun T_10 tT_10 hf => ?_)
      refine lv_iload_n hx hb dX12_unknownAt_11 rfl (lv_at hl 1 rfl) ?_
      refine mcip hf hS (fun r h => va_runS (As := [.ref (bs g T_10), .int a1]) (rest := []) ⟨hx, hb, hml, hown, hts⟩ (c_X7_fittingAt g l 0 81 σ T_10 a1 tT_10 r h) (cl_X12_282 hts ⟨Nat.le_of_ble_eq_true rfl, Nat.le_of_ble_eq_true rfl⟩) (mpS hZ hT hS hW _) rfl rfl hl.1 rfl (lv_room (Nat.le_of_ble_eq_true rfl)) dX12_unknownAt_12 ⟨Nat.zero_le _, Nat.zero_le _⟩) (fun r_11 H locs hf hW hS => ?_)
      refine lv_goto (tgt := 20) hx hb dX12_unknownAt_15 (by decide) ?_
      exact hk_3 r_11 hf H locs ls hW hS (lv_sub hl [0] rfl)
def f_X12_pass (σ : Mem)  : Option (Int32 × Mem) :=
  bd1 (f_X12_ofTown σ) (fun (r_1 : Int32) => bd2 (f_X12_refused σ r_1) (fun (r_2 : Int32) (σ_3 : Mem) => (if r_2 = 0 then rfc (σ_3.2.2 0 10) (fun (T_4 : Nat) => bd1 (f_X7_choosePass σ_3 T_4) (fun (σ_5 : Mem) => some (σ_5.1 61 3, σ_5))) else some ((-1), σ_3))))
set_option maxHeartbeats 4000000 in
set_option maxRecDepth 100000 in
theorem c_X12_pass (g : XG) (l : Launch) (σ : Mem) (r : Int32) (τ : Mem) (hf : f_X12_pass σ = some (r, τ)) : Met l yX12_pass (wx (.code yX12_pass cX12_pass 1 (some .int))) (kr 6 136) (va_Pc [.ref (bs g 0)] (WS g 0 81 σ)) (Qi' g 0 81 r τ) 0 0 (Ag g 0) := by
  refine Met.ofW (cc := cX12_pass) (maxL := 1) (ret := (some .int)) (by decide) rfl ?_
  intro p e s m args below meth c s₁ B hml hv
  obtain ⟨rfl, hZ, hT, hW⟩ := hv
  have hx := B.exec
  have hb := B.bytes
  have hr := B.returns
  have hts : ∀ w ∈ wx (.code yX12_pass cX12_pass 1 (some .int)), w.before _ s = true := atoms_spec B.pre
  have htg : ∀ w ∈ lwg, w.before _ s = true := fun w h => hts w (List.mem_cons_of_mem _ h)
  have hown : s.vm.findClass RX12 = some m.cls := findClass_of_methodNamed B.named
  have hlocks := B.notSynchronized
  change W p l e (kr 6 136) s m (List.toArray [.ref (bs g 0)]) below meth c s.heap [] 0 0 (MQ below (Qi' g 0 81 r τ) (List.toArray [.ref (bs g 0)]) s 0 0 (Ag g 0)) _
  generalize hQ : MQ below (Qi' g 0 81 r τ) (List.toArray [.ref (bs g 0)]) s 0 0 (Ag g 0) = Q
  have hS : va_S (Ag g 0) s.heap s.heap [] := va_S.rf
  have hl := lv_entry ([.ref (bs g 0)]) (n := 1) (Nat.le_of_ble_eq_true rfl)
  rw [lg_entry_eq]
  generalize (lg_sl ([.ref (bs g 0)]) ++ List.replicate (1 - (lg_sl ([.ref (bs g 0)])).length) Slot.unset).toArray = ls at hl ⊢
  have hl : lv_has ls 1 [(0, .ref (bs g 0))] := hl
  delta f_X12_pass at hf
  obtain ⟨H, hH⟩ : ∃ H, H = s.heap := ⟨_, rfl⟩
  obtain ⟨locs, hLc⟩ : ∃ z : List Loc, z = [] := ⟨_, rfl⟩
  have hS : va_S (Ag g 0) s.heap H locs := by rw [hH, hLc]; exact hS
  have hW : Wd g 0 81 σ H := by rw [hH]; exact hW
  suffices hG : W p l e (kr 6 136) s m (List.toArray [.ref (bs g 0)]) below meth c H locs 0 0 Q (F0 m 0 ls []) by rw [hH, hLc] at hG; exact hG
  clear hH hLc
  refine lv_aload_n hx hb dX12_pass_0 rfl (lv_at hl 0 rfl) ?_
  refine lv_aload_n hx hb dX12_pass_1 rfl (lv_at hl 0 rfl) ?_
  refine mcip hf hS (fun r h => va_runV (As := []) (rest := [.ref (bs g 0)]) ⟨hx, hb, hml, hown, hts⟩ (c_X12_ofTown g l σ r h) (cl_X12_201 hts ⟨Nat.le_of_ble_eq_true rfl, Nat.le_of_ble_eq_true rfl⟩) (mpV_12 hZ hT hS hW tz_0 _) rfl rfl hl.1 rfl (lv_room (Nat.le_of_ble_eq_true rfl)) dX12_pass_2 ⟨Nat.zero_le _, Nat.zero_le _⟩) (fun r_1 H locs hf hW hS => ?_)
  refine mci hf hS (fun r τ h => va_runV (As := [.int r_1]) (rest := []) ⟨hx, hb, hml, hown, hts⟩ (c_X12_refused g l σ r_1 r τ h) (cl_X12_98 hts ⟨Nat.le_of_ble_eq_true rfl, Nat.le_of_ble_eq_true rfl⟩) (mpV_12 hZ hT hS hW tz_0 _) rfl rfl hl.1 rfl (lv_room (Nat.le_of_ble_eq_true rfl)) dX12_pass_5 ⟨Nat.zero_le _, Nat.zero_le _⟩) (fun r_2 σ_3 H locs hf hW hS => ?_)
  refine lv_if_eq (tgt := 13) hx hb dX12_pass_8 (by decide) (fun hc => ?_) (fun hc => ?_)
  · have hf := ift hc hf
    refine lv_aload_n hx hb dX12_pass_13 rfl (lv_at hl 0 rfl) ?_
    refine gf_12_9 hx hb htg (htg _ lf_X12_82) hown hZ hW tz_0 dX12_pass_14 ?_
    refine lv_aload_n hx hb dX12_pass_17 rfl (lv_at hl 0 rfl) ?_
    refine gf_12_10 hx hb htg (htg _ lf_X12_19) hown hZ hW tz_0 dX12_pass_18 hf (fun T_4 tT_4 hf => ?_)
    refine mcv hf hS (fun τ h => va_runV (As := [.ref (bs g T_4)]) (rest := []) ⟨hx, hb, hml, hown, hts⟩ (c_X7_choosePass g l σ_3 T_4 tT_4 τ h) (cl_X12_291 hts ⟨Nat.le_of_ble_eq_true rfl, Nat.le_of_ble_eq_true rfl⟩) (mpV_7 hZ hT hS hW tz_61 _) rfl rfl hl.1 rfl (lv_room (Nat.le_of_ble_eq_true rfl)) dX12_pass_21 ⟨Nat.zero_le _, Nat.zero_le _⟩) (fun σ_5 H locs hf hW hS => ?_)
    refine lv_aload_n hx hb dX12_pass_24 rfl (lv_at hl 0 rfl) ?_
    refine gf_12_9 hx hb htg (htg _ lf_X12_82) hown hZ hW tz_0 dX12_pass_25 ?_
    refine gfN_7_3 hx hb htg ln_X12_294 hown hZ hW tz_61 dX12_pass_28 ?_
    subst hQ
    exact mri hx hb hr hlocks hZ hT hS hW (pr1 hf) dX12_pass_31
  · have hf := iff_ hc hf
    refine lv_iconst (v := (-1)) hx hb dX12_pass_11 (by decide) ?_
    subst hQ
    exact mri hx hb hr hlocks hZ hT hS hW (pr1 hf) dX12_pass_12
def f_X12_passLeaves (σ : Mem)  : Option (Int32 × Mem) :=
  bd1 (f_X12_ofTown σ) (fun (r_1 : Int32) => bd2 (f_X12_refused σ r_1) (fun (r_2 : Int32) (σ_3 : Mem) => (if r_2 = 0 then rfc (σ_3.2.2 0 10) (fun (T_4 : Nat) => bd1 (f_X7_choosePass σ_3 T_4) (fun (σ_5 : Mem) => some (σ_5.1 61 4, σ_5))) else some ((-1), σ_3))))
set_option maxHeartbeats 4000000 in
set_option maxRecDepth 100000 in
theorem c_X12_passLeaves (g : XG) (l : Launch) (σ : Mem) (r : Int32) (τ : Mem) (hf : f_X12_passLeaves σ = some (r, τ)) : Met l yX12_passLeaves (wx (.code yX12_passLeaves cX12_passLeaves 1 (some .int))) (kr 6 136) (va_Pc [.ref (bs g 0)] (WS g 0 81 σ)) (Qi' g 0 81 r τ) 0 0 (Ag g 0) := by
  refine Met.ofW (cc := cX12_passLeaves) (maxL := 1) (ret := (some .int)) (by decide) rfl ?_
  intro p e s m args below meth c s₁ B hml hv
  obtain ⟨rfl, hZ, hT, hW⟩ := hv
  have hx := B.exec
  have hb := B.bytes
  have hr := B.returns
  have hts : ∀ w ∈ wx (.code yX12_passLeaves cX12_passLeaves 1 (some .int)), w.before _ s = true := atoms_spec B.pre
  have htg : ∀ w ∈ lwg, w.before _ s = true := fun w h => hts w (List.mem_cons_of_mem _ h)
  have hown : s.vm.findClass RX12 = some m.cls := findClass_of_methodNamed B.named
  have hlocks := B.notSynchronized
  change W p l e (kr 6 136) s m (List.toArray [.ref (bs g 0)]) below meth c s.heap [] 0 0 (MQ below (Qi' g 0 81 r τ) (List.toArray [.ref (bs g 0)]) s 0 0 (Ag g 0)) _
  generalize hQ : MQ below (Qi' g 0 81 r τ) (List.toArray [.ref (bs g 0)]) s 0 0 (Ag g 0) = Q
  have hS : va_S (Ag g 0) s.heap s.heap [] := va_S.rf
  have hl := lv_entry ([.ref (bs g 0)]) (n := 1) (Nat.le_of_ble_eq_true rfl)
  rw [lg_entry_eq]
  generalize (lg_sl ([.ref (bs g 0)]) ++ List.replicate (1 - (lg_sl ([.ref (bs g 0)])).length) Slot.unset).toArray = ls at hl ⊢
  have hl : lv_has ls 1 [(0, .ref (bs g 0))] := hl
  delta f_X12_passLeaves at hf
  obtain ⟨H, hH⟩ : ∃ H, H = s.heap := ⟨_, rfl⟩
  obtain ⟨locs, hLc⟩ : ∃ z : List Loc, z = [] := ⟨_, rfl⟩
  have hS : va_S (Ag g 0) s.heap H locs := by rw [hH, hLc]; exact hS
  have hW : Wd g 0 81 σ H := by rw [hH]; exact hW
  suffices hG : W p l e (kr 6 136) s m (List.toArray [.ref (bs g 0)]) below meth c H locs 0 0 Q (F0 m 0 ls []) by rw [hH, hLc] at hG; exact hG
  clear hH hLc
  refine lv_aload_n hx hb dX12_passLeaves_0 rfl (lv_at hl 0 rfl) ?_
  refine lv_aload_n hx hb dX12_passLeaves_1 rfl (lv_at hl 0 rfl) ?_
  refine mcip hf hS (fun r h => va_runV (As := []) (rest := [.ref (bs g 0)]) ⟨hx, hb, hml, hown, hts⟩ (c_X12_ofTown g l σ r h) (cl_X12_201 hts ⟨Nat.le_of_ble_eq_true rfl, Nat.le_of_ble_eq_true rfl⟩) (mpV_12 hZ hT hS hW tz_0 _) rfl rfl hl.1 rfl (lv_room (Nat.le_of_ble_eq_true rfl)) dX12_passLeaves_2 ⟨Nat.zero_le _, Nat.zero_le _⟩) (fun r_1 H locs hf hW hS => ?_)
  refine mci hf hS (fun r τ h => va_runV (As := [.int r_1]) (rest := []) ⟨hx, hb, hml, hown, hts⟩ (c_X12_refused g l σ r_1 r τ h) (cl_X12_98 hts ⟨Nat.le_of_ble_eq_true rfl, Nat.le_of_ble_eq_true rfl⟩) (mpV_12 hZ hT hS hW tz_0 _) rfl rfl hl.1 rfl (lv_room (Nat.le_of_ble_eq_true rfl)) dX12_passLeaves_5 ⟨Nat.zero_le _, Nat.zero_le _⟩) (fun r_2 σ_3 H locs hf hW hS => ?_)
  refine lv_if_eq (tgt := 13) hx hb dX12_passLeaves_8 (by decide) (fun hc => ?_) (fun hc => ?_)
  · have hf := ift hc hf
    refine lv_aload_n hx hb dX12_passLeaves_13 rfl (lv_at hl 0 rfl) ?_
    refine gf_12_9 hx hb htg (htg _ lf_X12_82) hown hZ hW tz_0 dX12_passLeaves_14 ?_
    refine lv_aload_n hx hb dX12_passLeaves_17 rfl (lv_at hl 0 rfl) ?_
    refine gf_12_10 hx hb htg (htg _ lf_X12_19) hown hZ hW tz_0 dX12_passLeaves_18 hf (fun T_4 tT_4 hf => ?_)
    refine mcv hf hS (fun τ h => va_runV (As := [.ref (bs g T_4)]) (rest := []) ⟨hx, hb, hml, hown, hts⟩ (c_X7_choosePass g l σ_3 T_4 tT_4 τ h) (cl_X12_291 hts ⟨Nat.le_of_ble_eq_true rfl, Nat.le_of_ble_eq_true rfl⟩) (mpV_7 hZ hT hS hW tz_61 _) rfl rfl hl.1 rfl (lv_room (Nat.le_of_ble_eq_true rfl)) dX12_passLeaves_21 ⟨Nat.zero_le _, Nat.zero_le _⟩) (fun σ_5 H locs hf hW hS => ?_)
    refine lv_aload_n hx hb dX12_passLeaves_24 rfl (lv_at hl 0 rfl) ?_
    refine gf_12_9 hx hb htg (htg _ lf_X12_82) hown hZ hW tz_0 dX12_passLeaves_25 ?_
    refine gfN_7_4 hx hb htg ln_X12_297 hown hZ hW tz_61 dX12_passLeaves_28 ?_
    subst hQ
    exact mri hx hb hr hlocks hZ hT hS hW (pr1 hf) dX12_passLeaves_31
  · have hf := iff_ hc hf
    refine lv_iconst (v := (-1)) hx hb dX12_passLeaves_11 (by decide) ?_
    subst hQ
    exact mri hx hb hr hlocks hZ hT hS hW (pr1 hf) dX12_passLeaves_12
def f_X12_month (σ : Mem) (a1 : Int32) : Option (Int32 × Mem) :=
  bd1 (f_X12_ofTown σ) (fun (r_1 : Int32) => jn1 (fun (i_2 : Int32) => bd2 (f_X12_refused σ i_2) (fun (r_4 : Int32) (σ_5 : Mem) => (if r_4 = 0 then bd1 (f_X9_copy σ_5 32 28) (fun (σ_6 : Mem) => bd2 (f_X9_drift σ_6 32 a1) (fun (r_7 : Int32) (σ_8 : Mem) => rfc (σ_8.2.2 0 10) (fun (T_9 : Nat) => bd1 (f_X11_people σ_8 T_9) (fun (r_10 : Int32) => nm ((1 <<< (r_10 &&& 31)) - 1) (fun (x_11 : Int32) => fx2 FU (fun k_14 (i_12 : Int32) (i_13 : Int32) => (if 30 ≤ i_13 then some (i_12, σ_8) else bd1 (f_X9_knowing σ_8 32 i_13) (fun (r_15 : Int32) => jn1 (fun (i_16 : Int32) => nm (i_12 + i_16) (fun (x_18 : Int32) => nm (i_13 + 1) (fun (x_19 : Int32) => k_14 x_18 x_19))) (fun k_17 => (if r_15 = x_11 then k_17 0 else k_17 1))))) 0 0))))) else some ((-1), σ_5)))) (fun k_3 => (if r_1 = 0 then bd1 (f_X12_inside a1 65537) (fun (r_21 : Int32) => (if r_21 = 0 then k_3 2 else k_3 0)) else k_3 1)))
set_option maxHeartbeats 4000000 in
set_option maxRecDepth 100000 in
theorem c_X12_month (g : XG) (l : Launch) (σ : Mem) (a1 : Int32) (r : Int32) (τ : Mem) (hf : f_X12_month σ a1 = some (r, τ)) : Met l yX12_month (wx (.code yX12_month cX12_month 5 (some .int))) (kr 5 151) (va_Pc [.ref (bs g 0), .int a1] (WS g 0 81 σ)) (Qi' g 0 81 r τ) 0 0 (Ag g 0) := by
  refine Met.ofW (cc := cX12_month) (maxL := 5) (ret := (some .int)) (by decide) rfl ?_
  intro p e s m args below meth c s₁ B hml hv
  obtain ⟨rfl, hZ, hT, hW⟩ := hv
  have hx := B.exec
  have hb := B.bytes
  have hr := B.returns
  have hts : ∀ w ∈ wx (.code yX12_month cX12_month 5 (some .int)), w.before _ s = true := atoms_spec B.pre
  have htg : ∀ w ∈ lwg, w.before _ s = true := fun w h => hts w (List.mem_cons_of_mem _ h)
  have hown : s.vm.findClass RX12 = some m.cls := findClass_of_methodNamed B.named
  have hlocks := B.notSynchronized
  change W p l e (kr 5 151) s m (List.toArray [.ref (bs g 0), .int a1]) below meth c s.heap [] 0 0 (MQ below (Qi' g 0 81 r τ) (List.toArray [.ref (bs g 0), .int a1]) s 0 0 (Ag g 0)) _
  generalize hQ : MQ below (Qi' g 0 81 r τ) (List.toArray [.ref (bs g 0), .int a1]) s 0 0 (Ag g 0) = Q
  have hS : va_S (Ag g 0) s.heap s.heap [] := va_S.rf
  have hl := lv_entry ([.ref (bs g 0), .int a1]) (n := 5) (Nat.le_of_ble_eq_true rfl)
  rw [lg_entry_eq]
  generalize (lg_sl ([.ref (bs g 0), .int a1]) ++ List.replicate (5 - (lg_sl ([.ref (bs g 0), .int a1])).length) Slot.unset).toArray = ls at hl ⊢
  have hl : lv_has ls 5 [(0, .ref (bs g 0)), (1, .int a1)] := hl
  delta f_X12_month at hf
  obtain ⟨H, hH⟩ : ∃ H, H = s.heap := ⟨_, rfl⟩
  obtain ⟨locs, hLc⟩ : ∃ z : List Loc, z = [] := ⟨_, rfl⟩
  have hS : va_S (Ag g 0) s.heap H locs := by rw [hH, hLc]; exact hS
  have hW : Wd g 0 81 σ H := by rw [hH]; exact hW
  suffices hG : W p l e (kr 5 151) s m (List.toArray [.ref (bs g 0), .int a1]) below meth c H locs 0 0 Q (F0 m 0 ls []) by rw [hH, hLc] at hG; exact hG
  clear hH hLc
  refine lv_aload_n hx hb dX12_month_0 rfl (lv_at hl 0 rfl) ?_
  refine lv_aload_n hx hb dX12_month_1 rfl (lv_at hl 0 rfl) ?_
  refine mcip hf hS (fun r h => va_runV (As := []) (rest := [.ref (bs g 0)]) ⟨hx, hb, hml, hown, hts⟩ (c_X12_ofTown g l σ r h) (cl_X12_201 hts ⟨Nat.le_of_ble_eq_true rfl, Nat.le_of_ble_eq_true rfl⟩) (mpV_12 hZ hT hS hW tz_0 _) rfl rfl hl.1 rfl (lv_room (Nat.le_of_ble_eq_true rfl)) dX12_month_2 ⟨Nat.zero_le _, Nat.zero_le _⟩) (fun r_1 H locs hf hW hS => ?_)
  refine jn1_W (fun (i_2 : Int32) => ∀ (H : Heap) (locs : List Loc) (ls : Array Slot), Wd g 0 81 σ H → va_S (Ag g 0) s.heap H locs → lv_has ls 5 [(0, .ref (bs g 0)), (1, .int a1)] → W p l e (kr 5 151) s m (List.toArray [.ref (bs g 0), .int a1]) below meth c H locs 0 0 Q (F0 m 27 ls [.int i_2, .ref (bs g 0)])) hf (fun i_2 hf => ?_) (fun k_3 hk_3 hf => ?_)
  · intro H locs ls hW hS hl
    refine mci hf hS (fun r τ h => va_runV (As := [.int i_2]) (rest := []) ⟨hx, hb, hml, hown, hts⟩ (c_X12_refused g l σ i_2 r τ h) (cl_X12_98 hts ⟨Nat.le_of_ble_eq_true rfl, Nat.le_of_ble_eq_true rfl⟩) (mpV_12 hZ hT hS hW tz_0 _) rfl rfl hl.1 rfl (lv_room (Nat.le_of_ble_eq_true rfl)) dX12_month_27 ⟨Nat.zero_le _, Nat.zero_le _⟩) (fun r_4 σ_5 H locs hf hW hS => ?_)
    refine lv_if_eq (tgt := 35) hx hb dX12_month_30 (by decide) (fun hc => ?_) (fun hc => ?_)
    · have hf := ift hc hf
      refine lv_aload_n hx hb dX12_month_35 rfl (lv_at hl 0 rfl) ?_
      refine gf_12_3 hx hb htg (htg _ lf_X12_44) hown hZ hW tz_0 dX12_month_36 ?_
      refine lv_aload_n hx hb dX12_month_39 rfl (lv_at hl 0 rfl) ?_
      refine gf_12_2 hx hb htg (htg _ lf_X12_40) hown hZ hW tz_0 dX12_month_40 ?_
      refine mcv hf hS (fun τ h => va_runV (As := [.ref (bs g 28)]) (rest := []) ⟨hx, hb, hml, hown, hts⟩ (c_X9_copy g l 0 81 σ_5 32 28 tz_32 tz_28 τ h) (cl_X12_230 hts ⟨Nat.le_of_ble_eq_true rfl, Nat.le_of_ble_eq_true rfl⟩) (mpV_9 hZ hT hS hW tz_32 _) rfl rfl hl.1 rfl (lv_room (Nat.le_of_ble_eq_true rfl)) dX12_month_43 ⟨Nat.zero_le _, Nat.zero_le _⟩) (fun σ_6 H locs hf hW hS => ?_)
      refine lv_aload_n hx hb dX12_month_46 rfl (lv_at hl 0 rfl) ?_
      refine gf_12_3 hx hb htg (htg _ lf_X12_44) hown hZ hW tz_0 dX12_month_47 ?_
      refine lv_iload_n hx hb dX12_month_50 rfl (lv_at hl 1 rfl) ?_
      refine mci hf hS (fun r τ h => va_runV (As := [.int a1]) (rest := []) ⟨hx, hb, hml, hown, hts⟩ (c_X9_drift g l 0 81 σ_6 32 a1 tz_32 r τ h) (cl_X12_301 hts ⟨Nat.le_of_ble_eq_true rfl, Nat.le_of_ble_eq_true rfl⟩) (mpV_9 hZ hT hS hW tz_32 _) rfl rfl hl.1 rfl (lv_room (Nat.le_of_ble_eq_true rfl)) dX12_month_51 ⟨Nat.zero_le _, Nat.zero_le _⟩) (fun r_7 σ_8 H locs hf hW hS => ?_)
      refine lv_pop hx hb dX12_month_54 rfl ?_
      refine lv_iconst (v := 1) hx hb dX12_month_55 (by decide) ?_
      refine lv_aload_n hx hb dX12_month_56 rfl (lv_at hl 0 rfl) ?_
      refine gf_12_10 hx hb htg (htg _ lf_X12_19) hown hZ hW tz_0 dX12_month_57 hf (fun T_9 tT_9 hf => ?_)
      refine mcip hf hS (fun r h => va_runV (As := []) (rest := [.int 1]) ⟨hx, hb, hml, hown, hts⟩ (c_X11_people g l 0 81 σ_8 T_9 tT_9 r h) (cl_X12_127 hts ⟨Nat.le_of_ble_eq_true rfl, Nat.le_of_ble_eq_true rfl⟩) (mpV_11 hZ hT hS hW tT_9 _) rfl rfl hl.1 rfl (lv_room (Nat.le_of_ble_eq_true rfl)) dX12_month_60 ⟨Nat.zero_le _, Nat.zero_le _⟩) (fun r_10 H locs hf hW hS => ?_)
      refine lv_ishl hx hb dX12_month_63 ?_
      refine lv_iconst (v := 1) hx hb dX12_month_64 (by decide) ?_
      refine lv_isub hx hb dX12_month_65 ?_
      refine mnmi hf (fun (x_11 : Int32) hf => ?_)
      refine lv_istore_n (lv' := [(2, .int x_11), (0, .ref (bs g 0)), (1, .int a1)]) hx hb dX12_month_66 rfl hl (by decide) rfl (fun ls hl => ?_)
      refine lv_iconst (v := 0) hx hb dX12_month_67 (by decide) ?_
      refine lv_istore_n (lv' := [(3, .int 0), (2, .int x_11), (0, .ref (bs g 0)), (1, .int a1)]) hx hb dX12_month_68 rfl hl (by decide) rfl (fun ls hl => ?_)
      refine lv_iconst (v := 0) hx hb dX12_month_69 (by decide) ?_
      refine lv_istore (lv' := [(4, .int 0), (3, .int 0), (2, .int x_11), (0, .ref (bs g 0)), (1, .int a1)]) hx hb dX12_month_70 hl (by decide) rfl (fun ls hl => ?_)
      refine fx2_W (fun (i_12 : Int32) (i_13 : Int32) => ∀ (H : Heap) (locs : List Loc) (ls : Array Slot), Wd g 0 81 σ_8 H → va_S (Ag g 0) s.heap H locs → lv_has ls 5 [(0, .ref (bs g 0)), (2, .int x_11), (3, .int i_12), (4, .int i_13)] → W p l e (kr 5 151) s m (List.toArray [.ref (bs g 0), .int a1]) below meth c H locs 0 0 Q (F0 m 72 ls [])) (fun k_14 hk_14 i_12 i_13 hf => ?_) FU 0 0 hf H locs ls hW hS (lv_sub hl [3, 2, 1, 0] rfl)
      intro H locs ls hW hS hl
      refine lv_iload hx hb dX12_month_72 (lv_at hl 3 rfl) ?_
      refine lv_bipush (v := 30) hx hb dX12_month_74 (by decide) ?_
      refine lv_icmp_ge (tgt := 106) hx hb dX12_month_76 (by decide) (fun hc => ?_) (fun hc => ?_)
      · have hf := ift hc hf
        refine lv_iload_n hx hb dX12_month_106 rfl (lv_at hl 2 rfl) ?_
        subst hQ
        exact mri hx hb hr hlocks hZ hT hS hW (pr1 hf) dX12_month_107
      · have hf := iff_ hc hf
        refine lv_iload_n hx hb dX12_month_79 rfl (lv_at hl 2 rfl) ?_
        refine lv_aload_n hx hb dX12_month_80 rfl (lv_at hl 0 rfl) ?_
        refine gf_12_3 hx hb htg (htg _ lf_X12_44) hown hZ hW tz_0 dX12_month_81 ?_
        refine lv_iload hx hb dX12_month_84 (lv_at hl 3 rfl) ?_
        refine mcip hf hS (fun r h => va_runV (As := [.int i_13]) (rest := [.int i_12]) ⟨hx, hb, hml, hown, hts⟩ (c_X9_knowing g l 0 81 σ_8 32 i_13 tz_32 r h) (cl_X12_187 hts ⟨Nat.le_of_ble_eq_true rfl, Nat.le_of_ble_eq_true rfl⟩) (mpV_9 hZ hT hS hW tz_32 _) rfl rfl hl.1 rfl (lv_room (Nat.le_of_ble_eq_true rfl)) dX12_month_86 ⟨Nat.zero_le _, Nat.zero_le _⟩) (fun r_15 H locs hf hW hS => ?_)
        refine lv_iload_n hx hb dX12_month_89 rfl (lv_at hl 1 rfl) ?_
        refine jn1_W (fun (i_16 : Int32) => ∀ (H : Heap) (locs : List Loc) (ls : Array Slot), Wd g 0 81 σ_8 H → va_S (Ag g 0) s.heap H locs → lv_has ls 5 [(0, .ref (bs g 0)), (2, .int x_11), (4, .int i_13)] → W p l e (kr 5 151) s m (List.toArray [.ref (bs g 0), .int a1]) below meth c H locs 0 0 Q (F0 m 98 ls [.int i_16, .int i_12])) hf (fun i_16 hf => ?_) (fun k_17 hk_17 hf => ?_)
        · intro H locs ls hW hS hl
          refine lv_iadd hx hb dX12_month_98 ?_
          refine mnmi hf (fun (x_18 : Int32) hf => ?_)
          refine lv_istore_n (lv' := [(3, .int x_18), (0, .ref (bs g 0)), (2, .int x_11), (4, .int i_13)]) hx hb dX12_month_99 rfl hl (by decide) rfl (fun ls hl => ?_)
          obtain ⟨x_19, e_20, hf⟩ := nm_s hf
          refine lv_iinc (v := x_19) (lv' := [(4, .int x_19), (3, .int x_18), (0, .ref (bs g 0)), (2, .int x_11)]) hx hb dX12_month_100 hl (k := 3) rfl (by rw [e_20]; rfl) (by decide) rfl (fun ls hl => ?_)
          refine lv_goto (tgt := 72) hx hb dX12_month_103 (by decide) ?_
          exact hk_14 x_18 x_19 hf H locs ls hW hS (lv_sub hl [2, 3, 1, 0] rfl)
        · refine lv_icmp_eq (tgt := 97) hx hb dX12_month_90 (by decide) (fun hc => ?_) (fun hc => ?_)
          · have hf := ift hc hf
            refine lv_iconst (v := 0) hx hb dX12_month_97 (by decide) ?_
            exact hk_17 0 hf H locs ls hW hS (lv_sub hl [0, 1, 3] rfl)
          · have hf := iff_ hc hf
            refine lv_iconst (v := 1) hx hb dX12_month_93 (by decide) ?_
            refine lv_goto (tgt := 98) hx hb dX12_month_94 (by decide) ?_
            exact hk_17 1 hf H locs ls hW hS (lv_sub hl [0, 1, 3] rfl)
    · have hf := iff_ hc hf
      refine lv_iconst (v := (-1)) hx hb dX12_month_33 (by decide) ?_
      subst hQ
      exact mri hx hb hr hlocks hZ hT hS hW (pr1 hf) dX12_month_34
  · refine lv_if_eq (tgt := 12) hx hb dX12_month_5 (by decide) (fun hc => ?_) (fun hc => ?_)
    · have hf := ift hc hf
      refine lv_iload_n hx hb dX12_month_12 rfl (lv_at hl 1 rfl) ?_
      refine lv_ldcw (v := 65537) hx hb hown (htg _ lk_X12_300) dX12_month_13 ?_
      refine mcip hf hS (fun r h => va_runS (As := [.int a1, .int 65537]) (rest := [.ref (bs g 0)]) ⟨hx, hb, hml, hown, hts⟩ (c_X12_inside g l 0 81 σ a1 65537 r h) (cl_X12_215 hts ⟨Nat.le_of_ble_eq_true rfl, Nat.le_of_ble_eq_true rfl⟩) (mpS hZ hT hS hW _) rfl rfl hl.1 rfl (lv_room (Nat.le_of_ble_eq_true rfl)) dX12_month_16 ⟨Nat.zero_le _, Nat.zero_le _⟩) (fun r_21 H locs hf hW hS => ?_)
      refine lv_if_eq (tgt := 26) hx hb dX12_month_19 (by decide) (fun hc => ?_) (fun hc => ?_)
      · have hf := ift hc hf
        refine lv_iconst (v := 2) hx hb dX12_month_26 (by decide) ?_
        exact hk_3 2 hf H locs ls hW hS (lv_sub hl [0, 1] rfl)
      · have hf := iff_ hc hf
        refine lv_iconst (v := 0) hx hb dX12_month_22 (by decide) ?_
        refine lv_goto (tgt := 27) hx hb dX12_month_23 (by decide) ?_
        exact hk_3 0 hf H locs ls hW hS (lv_sub hl [0, 1] rfl)
    · have hf := iff_ hc hf
      refine lv_iconst (v := 1) hx hb dX12_month_8 (by decide) ?_
      refine lv_goto (tgt := 27) hx hb dX12_month_9 (by decide) ?_
      exact hk_3 1 hf H locs ls hW hS (lv_sub hl [0, 1] rfl)
def f_X12_lost (σ : Mem) (a1 : Int32) (a2 : Int32) (a3 : Int32) : Option (Int32 × Mem) :=
  bd1 (f_X12_inside a2 65537) (fun (r_1 : Int32) => jn1 (fun (i_2 : Int32) => bd1 (f_X12_ofPerson σ a1) (fun (r_4 : Int32) => jn1 (fun (i_5 : Int32) => bd2 (f_X12_refused σ i_5) (fun (r_7 : Int32) (σ_8 : Mem) => (if r_7 = 0 then fx4 FU (fun k_13 (i_9 : Int32) (i_10 : Int32) (i_11 : Int32) (σ_12 : Mem) => (if a3 ≤ i_11 then some (i_9, σ_12) else bd1 (f_X9_copy σ_12 32 28) (fun (σ_14 : Mem) => bd2 (f_X9_drift σ_14 32 i_10) (fun (r_15 : Int32) (σ_16 : Mem) => bd1 (f_X9_daysLost σ_16 32 a1) (fun (r_17 : Int32) => nm (i_9 + r_17) (fun (x_18 : Int32) => nm (i_11 + 1) (fun (x_19 : Int32) => k_13 x_18 r_15 x_19 σ_16))))))) 0 a2 0 σ_8 else some ((-1), σ_8)))) (fun k_6 => (if r_4 = 0 then (if i_2 = 0 then k_6 2 else k_6 0) else k_6 1)))) (fun k_3 => jn0 (k_3 0) (fun k_21 => (if r_1 = 0 then k_21 else (if a3 < 1 then k_21 else (if 20 < a3 then k_21 else k_3 1))))))
set_option maxHeartbeats 4000000 in
set_option maxRecDepth 100000 in
theorem c_X12_lost (g : XG) (l : Launch) (σ : Mem) (a1 : Int32) (a2 : Int32) (a3 : Int32) (r : Int32) (τ : Mem) (hf : f_X12_lost σ a1 a2 a3 = some (r, τ)) : Met l yX12_lost (wx (.code yX12_lost cX12_lost 8 (some .int))) (kr 5 151) (va_Pc [.ref (bs g 0), .int a1, .int a2, .int a3] (WS g 0 81 σ)) (Qi' g 0 81 r τ) 0 0 (Ag g 0) := by
  refine Met.ofW (cc := cX12_lost) (maxL := 8) (ret := (some .int)) (by decide) rfl ?_
  intro p e s m args below meth c s₁ B hml hv
  obtain ⟨rfl, hZ, hT, hW⟩ := hv
  have hx := B.exec
  have hb := B.bytes
  have hr := B.returns
  have hts : ∀ w ∈ wx (.code yX12_lost cX12_lost 8 (some .int)), w.before _ s = true := atoms_spec B.pre
  have htg : ∀ w ∈ lwg, w.before _ s = true := fun w h => hts w (List.mem_cons_of_mem _ h)
  have hown : s.vm.findClass RX12 = some m.cls := findClass_of_methodNamed B.named
  have hlocks := B.notSynchronized
  change W p l e (kr 5 151) s m (List.toArray [.ref (bs g 0), .int a1, .int a2, .int a3]) below meth c s.heap [] 0 0 (MQ below (Qi' g 0 81 r τ) (List.toArray [.ref (bs g 0), .int a1, .int a2, .int a3]) s 0 0 (Ag g 0)) _
  generalize hQ : MQ below (Qi' g 0 81 r τ) (List.toArray [.ref (bs g 0), .int a1, .int a2, .int a3]) s 0 0 (Ag g 0) = Q
  have hS : va_S (Ag g 0) s.heap s.heap [] := va_S.rf
  have hl := lv_entry ([.ref (bs g 0), .int a1, .int a2, .int a3]) (n := 8) (Nat.le_of_ble_eq_true rfl)
  rw [lg_entry_eq]
  generalize (lg_sl ([.ref (bs g 0), .int a1, .int a2, .int a3]) ++ List.replicate (8 - (lg_sl ([.ref (bs g 0), .int a1, .int a2, .int a3])).length) Slot.unset).toArray = ls at hl ⊢
  have hl : lv_has ls 8 [(0, .ref (bs g 0)), (1, .int a1), (2, .int a2), (3, .int a3)] := hl
  delta f_X12_lost at hf
  obtain ⟨H, hH⟩ : ∃ H, H = s.heap := ⟨_, rfl⟩
  obtain ⟨locs, hLc⟩ : ∃ z : List Loc, z = [] := ⟨_, rfl⟩
  have hS : va_S (Ag g 0) s.heap H locs := by rw [hH, hLc]; exact hS
  have hW : Wd g 0 81 σ H := by rw [hH]; exact hW
  suffices hG : W p l e (kr 5 151) s m (List.toArray [.ref (bs g 0), .int a1, .int a2, .int a3]) below meth c H locs 0 0 Q (F0 m 0 ls []) by rw [hH, hLc] at hG; exact hG
  clear hH hLc
  refine lv_iload_n hx hb dX12_lost_0 rfl (lv_at hl 2 rfl) ?_
  refine lv_ldcw (v := 65537) hx hb hown (htg _ lk_X12_300) dX12_lost_1 ?_
  refine mcip hf hS (fun r h => va_runS (As := [.int a2, .int 65537]) (rest := []) ⟨hx, hb, hml, hown, hts⟩ (c_X12_inside g l 0 81 σ a2 65537 r h) (cl_X12_215 hts ⟨Nat.le_of_ble_eq_true rfl, Nat.le_of_ble_eq_true rfl⟩) (mpS hZ hT hS hW _) rfl rfl hl.1 rfl (lv_room (Nat.le_of_ble_eq_true rfl)) dX12_lost_4 ⟨Nat.zero_le _, Nat.zero_le _⟩) (fun r_1 H locs hf hW hS => ?_)
  refine jn1_W (fun (i_2 : Int32) => ∀ (H : Heap) (locs : List Loc) (ls : Array Slot), Wd g 0 81 σ H → va_S (Ag g 0) s.heap H locs → lv_has ls 8 [(0, .ref (bs g 0)), (1, .int a1), (2, .int a2), (3, .int a3)] → W p l e (kr 5 151) s m (List.toArray [.ref (bs g 0), .int a1, .int a2, .int a3]) below meth c H locs 0 0 Q (F0 m 26 ls [.int i_2])) hf (fun i_2 hf => ?_) (fun k_3 hk_3 hf => ?_)
  · intro H locs ls hW hS hl
    refine lv_istore (lv' := [(4, .int i_2), (0, .ref (bs g 0)), (1, .int a1), (2, .int a2), (3, .int a3)]) hx hb dX12_lost_26 hl (by decide) rfl (fun ls hl => ?_)
    refine lv_aload_n hx hb dX12_lost_28 rfl (lv_at hl 1 rfl) ?_
    refine lv_aload_n hx hb dX12_lost_29 rfl (lv_at hl 1 rfl) ?_
    refine lv_iload_n hx hb dX12_lost_30 rfl (lv_at hl 2 rfl) ?_
    refine mcip hf hS (fun r h => va_runV (As := [.int a1]) (rest := [.ref (bs g 0)]) ⟨hx, hb, hml, hown, hts⟩ (c_X12_ofPerson g l σ a1 r h) (cl_X12_157 hts ⟨Nat.le_of_ble_eq_true rfl, Nat.le_of_ble_eq_true rfl⟩) (mpV_12 hZ hT hS hW tz_0 _) rfl rfl hl.1 rfl (lv_room (Nat.le_of_ble_eq_true rfl)) dX12_lost_31 ⟨Nat.zero_le _, Nat.zero_le _⟩) (fun r_4 H locs hf hW hS => ?_)
    refine jn1_W (fun (i_5 : Int32) => ∀ (H : Heap) (locs : List Loc) (ls : Array Slot), Wd g 0 81 σ H → va_S (Ag g 0) s.heap H locs → lv_has ls 8 [(0, .ref (bs g 0)), (1, .int a1), (2, .int a2), (3, .int a3)] → W p l e (kr 5 151) s m (List.toArray [.ref (bs g 0), .int a1, .int a2, .int a3]) below meth c H locs 0 0 Q (F0 m 51 ls [.int i_5, .ref (bs g 0)])) hf (fun i_5 hf => ?_) (fun k_6 hk_6 hf => ?_)
    · intro H locs ls hW hS hl
      refine mci hf hS (fun r τ h => va_runV (As := [.int i_5]) (rest := []) ⟨hx, hb, hml, hown, hts⟩ (c_X12_refused g l σ i_5 r τ h) (cl_X12_98 hts ⟨Nat.le_of_ble_eq_true rfl, Nat.le_of_ble_eq_true rfl⟩) (mpV_12 hZ hT hS hW tz_0 _) rfl rfl hl.1 rfl (lv_room (Nat.le_of_ble_eq_true rfl)) dX12_lost_51 ⟨Nat.zero_le _, Nat.zero_le _⟩) (fun r_7 σ_8 H locs hf hW hS => ?_)
      refine lv_if_eq (tgt := 59) hx hb dX12_lost_54 (by decide) (fun hc => ?_) (fun hc => ?_)
      · have hf := ift hc hf
        refine lv_iconst (v := 0) hx hb dX12_lost_59 (by decide) ?_
        refine lv_istore (lv' := [(5, .int 0), (0, .ref (bs g 0)), (1, .int a1), (2, .int a2), (3, .int a3)]) hx hb dX12_lost_60 hl (by decide) rfl (fun ls hl => ?_)
        refine lv_iload_n hx hb dX12_lost_62 rfl (lv_at hl 3 rfl) ?_
        refine lv_istore (lv' := [(6, .int a2), (5, .int 0), (0, .ref (bs g 0)), (1, .int a1), (2, .int a2), (3, .int a3)]) hx hb dX12_lost_63 hl (by decide) rfl (fun ls hl => ?_)
        refine lv_iconst (v := 0) hx hb dX12_lost_65 (by decide) ?_
        refine lv_istore (lv' := [(7, .int 0), (6, .int a2), (5, .int 0), (0, .ref (bs g 0)), (1, .int a1), (2, .int a2), (3, .int a3)]) hx hb dX12_lost_66 hl (by decide) rfl (fun ls hl => ?_)
        refine fx4_W (fun (i_9 : Int32) (i_10 : Int32) (i_11 : Int32) (σ_12 : Mem) => ∀ (H : Heap) (locs : List Loc) (ls : Array Slot), Wd g 0 81 σ_12 H → va_S (Ag g 0) s.heap H locs → lv_has ls 8 [(0, .ref (bs g 0)), (1, .int a1), (3, .int a3), (5, .int i_9), (6, .int i_10), (7, .int i_11)] → W p l e (kr 5 151) s m (List.toArray [.ref (bs g 0), .int a1, .int a2, .int a3]) below meth c H locs 0 0 Q (F0 m 68 ls [])) (fun k_13 hk_13 i_9 i_10 i_11 σ_12 hf => ?_) FU 0 a2 0 σ_8 hf H locs ls hW hS (lv_sub hl [3, 4, 6, 2, 1, 0] rfl)
        intro H locs ls hW hS hl
        refine lv_iload hx hb dX12_lost_68 (lv_at hl 5 rfl) ?_
        refine lv_iload_n hx hb dX12_lost_70 rfl (lv_at hl 2 rfl) ?_
        refine lv_icmp_ge (tgt := 115) hx hb dX12_lost_71 (by decide) (fun hc => ?_) (fun hc => ?_)
        · have hf := ift hc hf
          refine lv_iload hx hb dX12_lost_115 (lv_at hl 3 rfl) ?_
          subst hQ
          exact mri hx hb hr hlocks hZ hT hS hW (pr1 hf) dX12_lost_117
        · have hf := iff_ hc hf
          refine lv_aload_n hx hb dX12_lost_74 rfl (lv_at hl 0 rfl) ?_
          refine gf_12_3 hx hb htg (htg _ lf_X12_44) hown hZ hW tz_0 dX12_lost_75 ?_
          refine lv_aload_n hx hb dX12_lost_78 rfl (lv_at hl 0 rfl) ?_
          refine gf_12_2 hx hb htg (htg _ lf_X12_40) hown hZ hW tz_0 dX12_lost_79 ?_
          refine mcv hf hS (fun τ h => va_runV (As := [.ref (bs g 28)]) (rest := []) ⟨hx, hb, hml, hown, hts⟩ (c_X9_copy g l 0 81 σ_12 32 28 tz_32 tz_28 τ h) (cl_X12_230 hts ⟨Nat.le_of_ble_eq_true rfl, Nat.le_of_ble_eq_true rfl⟩) (mpV_9 hZ hT hS hW tz_32 _) rfl rfl hl.1 rfl (lv_room (Nat.le_of_ble_eq_true rfl)) dX12_lost_82 ⟨Nat.zero_le _, Nat.zero_le _⟩) (fun σ_14 H locs hf hW hS => ?_)
          refine lv_aload_n hx hb dX12_lost_85 rfl (lv_at hl 0 rfl) ?_
          refine gf_12_3 hx hb htg (htg _ lf_X12_44) hown hZ hW tz_0 dX12_lost_86 ?_
          refine lv_iload hx hb dX12_lost_89 (lv_at hl 4 rfl) ?_
          refine mci hf hS (fun r τ h => va_runV (As := [.int i_10]) (rest := []) ⟨hx, hb, hml, hown, hts⟩ (c_X9_drift g l 0 81 σ_14 32 i_10 tz_32 r τ h) (cl_X12_301 hts ⟨Nat.le_of_ble_eq_true rfl, Nat.le_of_ble_eq_true rfl⟩) (mpV_9 hZ hT hS hW tz_32 _) rfl rfl hl.1 rfl (lv_room (Nat.le_of_ble_eq_true rfl)) dX12_lost_91 ⟨Nat.zero_le _, Nat.zero_le _⟩) (fun r_15 σ_16 H locs hf hW hS => ?_)
          refine lv_istore (lv' := [(6, .int r_15), (0, .ref (bs g 0)), (1, .int a1), (3, .int a3), (5, .int i_9), (7, .int i_11)]) hx hb dX12_lost_94 hl (by decide) rfl (fun ls hl => ?_)
          refine lv_iload hx hb dX12_lost_96 (lv_at hl 4 rfl) ?_
          refine lv_aload_n hx hb dX12_lost_98 rfl (lv_at hl 1 rfl) ?_
          refine gf_12_3 hx hb htg (htg _ lf_X12_44) hown hZ hW tz_0 dX12_lost_99 ?_
          refine lv_iload_n hx hb dX12_lost_102 rfl (lv_at hl 2 rfl) ?_
          refine mcip hf hS (fun r h => va_runV (As := [.int a1]) (rest := [.int i_9]) ⟨hx, hb, hml, hown, hts⟩ (c_X9_daysLost g l 0 81 σ_16 32 a1 tz_32 r h) (cl_X12_198 hts ⟨Nat.le_of_ble_eq_true rfl, Nat.le_of_ble_eq_true rfl⟩) (mpV_9 hZ hT hS hW tz_32 _) rfl rfl hl.1 rfl (lv_room (Nat.le_of_ble_eq_true rfl)) dX12_lost_103 ⟨Nat.zero_le _, Nat.zero_le _⟩) (fun r_17 H locs hf hW hS => ?_)
          refine lv_iadd hx hb dX12_lost_106 ?_
          refine mnmi hf (fun (x_18 : Int32) hf => ?_)
          refine lv_istore (lv' := [(5, .int x_18), (6, .int r_15), (0, .ref (bs g 0)), (1, .int a1), (3, .int a3), (7, .int i_11)]) hx hb dX12_lost_107 hl (by decide) rfl (fun ls hl => ?_)
          obtain ⟨x_19, e_20, hf⟩ := nm_s hf
          refine lv_iinc (v := x_19) (lv' := [(7, .int x_19), (5, .int x_18), (6, .int r_15), (0, .ref (bs g 0)), (1, .int a1), (3, .int a3)]) hx hb dX12_lost_109 hl (k := 5) rfl (by rw [e_20]; rfl) (by decide) rfl (fun ls hl => ?_)
          refine lv_goto (tgt := 68) hx hb dX12_lost_112 (by decide) ?_
          exact hk_13 x_18 r_15 x_19 σ_16 hf H locs ls hW hS (lv_sub hl [3, 4, 5, 1, 2, 0] rfl)
      · have hf := iff_ hc hf
        refine lv_iconst (v := (-1)) hx hb dX12_lost_57 (by decide) ?_
        subst hQ
        exact mri hx hb hr hlocks hZ hT hS hW (pr1 hf) dX12_lost_58
    · refine lv_if_eq (tgt := 41) hx hb dX12_lost_34 (by decide) (fun hc => ?_) (fun hc => ?_)
      · have hf := ift hc hf
        refine lv_iload hx hb dX12_lost_41 (lv_at hl 0 rfl) ?_
        refine lv_if_eq (tgt := 50) hx hb dX12_lost_43 (by decide) (fun hc => ?_) (fun hc => ?_)
        · have hf := ift hc hf
          refine lv_iconst (v := 2) hx hb dX12_lost_50 (by decide) ?_
          exact hk_6 2 hf H locs ls hW hS (lv_sub hl [1, 2, 3, 4] rfl)
        · have hf := iff_ hc hf
          refine lv_iconst (v := 0) hx hb dX12_lost_46 (by decide) ?_
          refine lv_goto (tgt := 51) hx hb dX12_lost_47 (by decide) ?_
          exact hk_6 0 hf H locs ls hW hS (lv_sub hl [1, 2, 3, 4] rfl)
      · have hf := iff_ hc hf
        refine lv_iconst (v := 1) hx hb dX12_lost_37 (by decide) ?_
        refine lv_goto (tgt := 51) hx hb dX12_lost_38 (by decide) ?_
        exact hk_6 1 hf H locs ls hW hS (lv_sub hl [1, 2, 3, 4] rfl)
  · refine jn0_W (∀ (H : Heap) (locs : List Loc) (ls : Array Slot), Wd g 0 81 σ H → va_S (Ag g 0) s.heap H locs → lv_has ls 8 [(0, .ref (bs g 0)), (1, .int a1), (2, .int a2), (3, .int a3)] → W p l e (kr 5 151) s m (List.toArray [.ref (bs g 0), .int a1, .int a2, .int a3]) below meth c H locs 0 0 Q (F0 m 25 ls [])) hf (fun  hf => ?_) (fun k_21 hk_21 hf => ?_)
    · intro H locs ls hW hS hl
      refine lv_iconst (v := 0) hx hb dX12_lost_25 (by decide) ?_
      exact hk_3 0 hf H locs ls hW hS (lv_sub hl [0, 1, 2, 3] rfl)
    · refine lv_if_eq (tgt := 25) hx hb dX12_lost_7 (by decide) (fun hc => ?_) (fun hc => ?_)
      · have hf := ift hc hf
        exact hk_21  hf H locs ls hW hS (lv_sub hl [0, 1, 2, 3] rfl)
      · have hf := iff_ hc hf
        refine lv_iload_n hx hb dX12_lost_10 rfl (lv_at hl 3 rfl) ?_
        refine lv_iconst (v := 1) hx hb dX12_lost_11 (by decide) ?_
        refine lv_icmp_lt (tgt := 25) hx hb dX12_lost_12 (by decide) (fun hc => ?_) (fun hc => ?_)
        · have hf := ift hc hf
          exact hk_21  hf H locs ls hW hS (lv_sub hl [0, 1, 2, 3] rfl)
        · have hf := iff_ hc hf
          refine lv_iload_n hx hb dX12_lost_15 rfl (lv_at hl 3 rfl) ?_
          refine lv_bipush (v := 20) hx hb dX12_lost_16 (by decide) ?_
          refine lv_icmp_gt (tgt := 25) hx hb dX12_lost_18 (by decide) (fun hc => ?_) (fun hc => ?_)
          · have hf := ift hc hf
            exact hk_21  hf H locs ls hW hS (lv_sub hl [0, 1, 2, 3] rfl)
          · have hf := iff_ hc hf
            refine lv_iconst (v := 1) hx hb dX12_lost_21 (by decide) ?_
            refine lv_goto (tgt := 26) hx hb dX12_lost_22 (by decide) ?_
            exact hk_3 1 hf H locs ls hW hS (lv_sub hl [0, 1, 2, 3] rfl)
def f_X12_book (σ : Mem) (a1 : Int32) (a2 : Int32) : Option (Int32 × Mem) :=
  bd1 (f_X12_ofPersonOnDay σ a1 a2) (fun (r_1 : Int32) => jn1 (fun (i_2 : Int32) => bd2 (f_X12_refused σ i_2) (fun (r_4 : Int32) (σ_5 : Mem) => (if r_4 = 0 then bd1 (f_X9_setVisitor σ_5 28 a2 a1) (fun (σ_6 : Mem) => bd1 (f_X1_note σ_6 0 a2 0 0) (fun (σ_7 : Mem) => some (1, σ_7))) else some (0, σ_5)))) (fun k_3 => jn0 (k_3 r_1) (fun k_8 => (if r_1 = 0 then bd1 (f_X9_isFree σ 28 a2) (fun (r_9 : Int32) => (if r_9 = 0 then k_3 5 else k_8)) else k_8))))
set_option maxHeartbeats 4000000 in
set_option maxRecDepth 100000 in
theorem c_X12_book (g : XG) (l : Launch) (σ : Mem) (a1 : Int32) (a2 : Int32) (r : Int32) (τ : Mem) (hf : f_X12_book σ a1 a2 = some (r, τ)) : Met l yX12_book (wx (.code yX12_book cX12_book 4 (some .boolean))) (kr 5 104) (va_Pc [.ref (bs g 0), .int a1, .int a2] (WS g 0 81 σ)) (Qi' g 0 81 r τ) 0 0 (Ag g 0) := by
  refine Met.ofW (cc := cX12_book) (maxL := 4) (ret := (some .boolean)) (by decide) rfl ?_
  intro p e s m args below meth c s₁ B hml hv
  obtain ⟨rfl, hZ, hT, hW⟩ := hv
  have hx := B.exec
  have hb := B.bytes
  have hr := B.returns
  have hts : ∀ w ∈ wx (.code yX12_book cX12_book 4 (some .boolean)), w.before _ s = true := atoms_spec B.pre
  have htg : ∀ w ∈ lwg, w.before _ s = true := fun w h => hts w (List.mem_cons_of_mem _ h)
  have hown : s.vm.findClass RX12 = some m.cls := findClass_of_methodNamed B.named
  have hlocks := B.notSynchronized
  change W p l e (kr 5 104) s m (List.toArray [.ref (bs g 0), .int a1, .int a2]) below meth c s.heap [] 0 0 (MQ below (Qi' g 0 81 r τ) (List.toArray [.ref (bs g 0), .int a1, .int a2]) s 0 0 (Ag g 0)) _
  generalize hQ : MQ below (Qi' g 0 81 r τ) (List.toArray [.ref (bs g 0), .int a1, .int a2]) s 0 0 (Ag g 0) = Q
  have hS : va_S (Ag g 0) s.heap s.heap [] := va_S.rf
  have hl := lv_entry ([.ref (bs g 0), .int a1, .int a2]) (n := 4) (Nat.le_of_ble_eq_true rfl)
  rw [lg_entry_eq]
  generalize (lg_sl ([.ref (bs g 0), .int a1, .int a2]) ++ List.replicate (4 - (lg_sl ([.ref (bs g 0), .int a1, .int a2])).length) Slot.unset).toArray = ls at hl ⊢
  have hl : lv_has ls 4 [(0, .ref (bs g 0)), (1, .int a1), (2, .int a2)] := hl
  delta f_X12_book at hf
  obtain ⟨H, hH⟩ : ∃ H, H = s.heap := ⟨_, rfl⟩
  obtain ⟨locs, hLc⟩ : ∃ z : List Loc, z = [] := ⟨_, rfl⟩
  have hS : va_S (Ag g 0) s.heap H locs := by rw [hH, hLc]; exact hS
  have hW : Wd g 0 81 σ H := by rw [hH]; exact hW
  suffices hG : W p l e (kr 5 104) s m (List.toArray [.ref (bs g 0), .int a1, .int a2]) below meth c H locs 0 0 Q (F0 m 0 ls []) by rw [hH, hLc] at hG; exact hG
  clear hH hLc
  refine lv_aload_n hx hb dX12_book_0 rfl (lv_at hl 0 rfl) ?_
  refine lv_iload_n hx hb dX12_book_1 rfl (lv_at hl 1 rfl) ?_
  refine lv_iload_n hx hb dX12_book_2 rfl (lv_at hl 2 rfl) ?_
  refine mcip hf hS (fun r h => va_runV (As := [.int a1, .int a2]) (rest := []) ⟨hx, hb, hml, hown, hts⟩ (c_X12_ofPersonOnDay g l σ a1 a2 r h) (cl_X12_169 hts ⟨Nat.le_of_ble_eq_true rfl, Nat.le_of_ble_eq_true rfl⟩) (mpV_12 hZ hT hS hW tz_0 _) rfl rfl hl.1 rfl (lv_room (Nat.le_of_ble_eq_true rfl)) dX12_book_3 ⟨Nat.zero_le _, Nat.zero_le _⟩) (fun r_1 H locs hf hW hS => ?_)
  refine lv_istore_n (lv' := [(3, .int r_1), (0, .ref (bs g 0)), (1, .int a1), (2, .int a2)]) hx hb dX12_book_6 rfl hl (by decide) rfl (fun ls hl => ?_)
  refine lv_aload_n hx hb dX12_book_7 rfl (lv_at hl 1 rfl) ?_
  refine lv_iload_n hx hb dX12_book_8 rfl (lv_at hl 0 rfl) ?_
  refine jn1_W (fun (i_2 : Int32) => ∀ (H : Heap) (locs : List Loc) (ls : Array Slot), Wd g 0 81 σ H → va_S (Ag g 0) s.heap H locs → lv_has ls 4 [(0, .ref (bs g 0)), (1, .int a1), (2, .int a2)] → W p l e (kr 5 104) s m (List.toArray [.ref (bs g 0), .int a1, .int a2]) below meth c H locs 0 0 Q (F0 m 28 ls [.int i_2, .ref (bs g 0)])) hf (fun i_2 hf => ?_) (fun k_3 hk_3 hf => ?_)
  · intro H locs ls hW hS hl
    refine mci hf hS (fun r τ h => va_runV (As := [.int i_2]) (rest := []) ⟨hx, hb, hml, hown, hts⟩ (c_X12_refused g l σ i_2 r τ h) (cl_X12_98 hts ⟨Nat.le_of_ble_eq_true rfl, Nat.le_of_ble_eq_true rfl⟩) (mpV_12 hZ hT hS hW tz_0 _) rfl rfl hl.1 rfl (lv_room (Nat.le_of_ble_eq_true rfl)) dX12_book_28 ⟨Nat.zero_le _, Nat.zero_le _⟩) (fun r_4 σ_5 H locs hf hW hS => ?_)
    refine lv_if_eq (tgt := 36) hx hb dX12_book_31 (by decide) (fun hc => ?_) (fun hc => ?_)
    · have hf := ift hc hf
      refine lv_aload_n hx hb dX12_book_36 rfl (lv_at hl 0 rfl) ?_
      refine gf_12_2 hx hb htg (htg _ lf_X12_40) hown hZ hW tz_0 dX12_book_37 ?_
      refine lv_iload_n hx hb dX12_book_40 rfl (lv_at hl 2 rfl) ?_
      refine lv_iload_n hx hb dX12_book_41 rfl (lv_at hl 1 rfl) ?_
      refine mcv hf hS (fun τ h => va_runV (As := [.int a2, .int a1]) (rest := []) ⟨hx, hb, hml, hown, hts⟩ (c_X9_setVisitor g l 0 81 σ_5 28 a2 a1 tz_28 τ h) (cl_X12_236 hts ⟨Nat.le_of_ble_eq_true rfl, Nat.le_of_ble_eq_true rfl⟩) (mpV_9 hZ hT hS hW tz_28 _) rfl rfl hl.1 rfl (lv_room (Nat.le_of_ble_eq_true rfl)) dX12_book_42 ⟨Nat.zero_le _, Nat.zero_le _⟩) (fun σ_6 H locs hf hW hS => ?_)
      refine lv_aload_n hx hb dX12_book_45 rfl (lv_at hl 0 rfl) ?_
      refine gf_12_5 hx hb htg (htg _ lf_X12_54) hown hZ hW tz_0 dX12_book_46 ?_
      refine lv_iconst (v := 0) hx hb dX12_book_49 (by decide) ?_
      refine lv_iload_n hx hb dX12_book_50 rfl (lv_at hl 2 rfl) ?_
      refine lv_iconst (v := 0) hx hb dX12_book_51 (by decide) ?_
      refine lv_iconst (v := 0) hx hb dX12_book_52 (by decide) ?_
      refine mcv hf hS (fun τ h => va_runV (As := [.int 0, .int a2, .int 0, .int 0]) (rest := []) ⟨hx, hb, hml, hown, hts⟩ (c_X1_note g l σ_6 0 a2 0 0 τ h) (cl_X12_304 hts ⟨Nat.le_of_ble_eq_true rfl, Nat.le_of_ble_eq_true rfl⟩) (mpV_1 hZ hT hS hW tz_49 _) rfl rfl hl.1 rfl (lv_room (Nat.le_of_ble_eq_true rfl)) dX12_book_53 ⟨Nat.zero_le _, Nat.zero_le _⟩) (fun σ_7 H locs hf hW hS => ?_)
      refine lv_iconst (v := 1) hx hb dX12_book_56 (by decide) ?_
      subst hQ
      exact mrz hx hb hr hlocks hZ hT hS hW (by decide) (pr1 hf) dX12_book_57
    · have hf := iff_ hc hf
      refine lv_iconst (v := 0) hx hb dX12_book_34 (by decide) ?_
      subst hQ
      exact mrz hx hb hr hlocks hZ hT hS hW (by decide) (pr1 hf) dX12_book_35
  · refine jn0_W (∀ (H : Heap) (locs : List Loc) (ls : Array Slot), Wd g 0 81 σ H → va_S (Ag g 0) s.heap H locs → lv_has ls 4 [(0, .ref (bs g 0)), (1, .int a1), (2, .int a2), (3, .int r_1)] → W p l e (kr 5 104) s m (List.toArray [.ref (bs g 0), .int a1, .int a2]) below meth c H locs 0 0 Q (F0 m 27 ls [.ref (bs g 0)])) hf (fun  hf => ?_) (fun k_8 hk_8 hf => ?_)
    · intro H locs ls hW hS hl
      refine lv_iload_n hx hb dX12_book_27 rfl (lv_at hl 3 rfl) ?_
      exact hk_3 r_1 hf H locs ls hW hS (lv_sub hl [0, 1, 2] rfl)
    · refine lv_if_ne (tgt := 27) hx hb dX12_book_9 (by decide) (fun hc => ?_) (fun hc => ?_)
      · have hf := iff_ hc hf
        exact hk_8  hf H locs ls hW hS (lv_sub hl [1, 2, 3, 0] rfl)
      · have hf := ift hc hf
        refine lv_aload_n hx hb dX12_book_12 rfl (lv_at hl 1 rfl) ?_
        refine gf_12_2 hx hb htg (htg _ lf_X12_40) hown hZ hW tz_0 dX12_book_13 ?_
        refine lv_iload_n hx hb dX12_book_16 rfl (lv_at hl 3 rfl) ?_
        refine mcip hf hS (fun r h => va_runV (As := [.int a2]) (rest := [.ref (bs g 0)]) ⟨hx, hb, hml, hown, hts⟩ (c_X9_isFree g l 0 81 σ 28 a2 tz_28 r h) (cl_X12_233 hts ⟨Nat.le_of_ble_eq_true rfl, Nat.le_of_ble_eq_true rfl⟩) (mpV_9 hZ hT hS hW tz_28 _) rfl rfl hl.1 rfl (lv_room (Nat.le_of_ble_eq_true rfl)) dX12_book_17 ⟨Nat.zero_le _, Nat.zero_le _⟩) (fun r_9 H locs hf hW hS => ?_)
        refine lv_if_ne (tgt := 27) hx hb dX12_book_20 (by decide) (fun hc => ?_) (fun hc => ?_)
        · have hf := iff_ hc hf
          exact hk_8  hf H locs ls hW hS (lv_sub hl [1, 2, 3, 0] rfl)
        · have hf := ift hc hf
          refine lv_iconst (v := 5) hx hb dX12_book_23 (by decide) ?_
          refine lv_goto (tgt := 28) hx hb dX12_book_24 (by decide) ?_
          exact hk_3 5 hf H locs ls hW hS (lv_sub hl [1, 2, 3] rfl)
def f_X12_callOff (σ : Mem) (a1 : Int32) : Option (Int32 × Mem) :=
  bd1 (f_X12_ofDay σ a1) (fun (r_1 : Int32) => jn1 (fun (i_2 : Int32) => bd2 (f_X12_refused σ i_2) (fun (r_4 : Int32) (σ_5 : Mem) => (if r_4 = 0 then bd1 (f_X9_visitor σ_5 28 a1) (fun (r_6 : Int32) => bd1 (f_X1_note σ_5 1 a1 r_6 0) (fun (σ_7 : Mem) => bd1 (f_X9_setVisitor σ_7 28 a1 (-2)) (fun (σ_8 : Mem) => some (1, σ_8)))) else some (0, σ_5)))) (fun k_3 => jn0 (k_3 r_1) (fun k_9 => (if r_1 = 0 then bd1 (f_X9_isAwaited σ 28 a1) (fun (r_10 : Int32) => (if r_10 = 0 then k_3 5 else k_9)) else k_9))))
set_option maxHeartbeats 4000000 in
set_option maxRecDepth 100000 in
theorem c_X12_callOff (g : XG) (l : Launch) (σ : Mem) (a1 : Int32) (r : Int32) (τ : Mem) (hf : f_X12_callOff σ a1 = some (r, τ)) : Met l yX12_callOff (wx (.code yX12_callOff cX12_callOff 3 (some .boolean))) (kr 4 85) (va_Pc [.ref (bs g 0), .int a1] (WS g 0 81 σ)) (Qi' g 0 81 r τ) 0 0 (Ag g 0) := by
  refine Met.ofW (cc := cX12_callOff) (maxL := 3) (ret := (some .boolean)) (by decide) rfl ?_
  intro p e s m args below meth c s₁ B hml hv
  obtain ⟨rfl, hZ, hT, hW⟩ := hv
  have hx := B.exec
  have hb := B.bytes
  have hr := B.returns
  have hts : ∀ w ∈ wx (.code yX12_callOff cX12_callOff 3 (some .boolean)), w.before _ s = true := atoms_spec B.pre
  have htg : ∀ w ∈ lwg, w.before _ s = true := fun w h => hts w (List.mem_cons_of_mem _ h)
  have hown : s.vm.findClass RX12 = some m.cls := findClass_of_methodNamed B.named
  have hlocks := B.notSynchronized
  change W p l e (kr 4 85) s m (List.toArray [.ref (bs g 0), .int a1]) below meth c s.heap [] 0 0 (MQ below (Qi' g 0 81 r τ) (List.toArray [.ref (bs g 0), .int a1]) s 0 0 (Ag g 0)) _
  generalize hQ : MQ below (Qi' g 0 81 r τ) (List.toArray [.ref (bs g 0), .int a1]) s 0 0 (Ag g 0) = Q
  have hS : va_S (Ag g 0) s.heap s.heap [] := va_S.rf
  have hl := lv_entry ([.ref (bs g 0), .int a1]) (n := 3) (Nat.le_of_ble_eq_true rfl)
  rw [lg_entry_eq]
  generalize (lg_sl ([.ref (bs g 0), .int a1]) ++ List.replicate (3 - (lg_sl ([.ref (bs g 0), .int a1])).length) Slot.unset).toArray = ls at hl ⊢
  have hl : lv_has ls 3 [(0, .ref (bs g 0)), (1, .int a1)] := hl
  delta f_X12_callOff at hf
  obtain ⟨H, hH⟩ : ∃ H, H = s.heap := ⟨_, rfl⟩
  obtain ⟨locs, hLc⟩ : ∃ z : List Loc, z = [] := ⟨_, rfl⟩
  have hS : va_S (Ag g 0) s.heap H locs := by rw [hH, hLc]; exact hS
  have hW : Wd g 0 81 σ H := by rw [hH]; exact hW
  suffices hG : W p l e (kr 4 85) s m (List.toArray [.ref (bs g 0), .int a1]) below meth c H locs 0 0 Q (F0 m 0 ls []) by rw [hH, hLc] at hG; exact hG
  clear hH hLc
  refine lv_aload_n hx hb dX12_callOff_0 rfl (lv_at hl 0 rfl) ?_
  refine lv_iload_n hx hb dX12_callOff_1 rfl (lv_at hl 1 rfl) ?_
  refine mcip hf hS (fun r h => va_runV (As := [.int a1]) (rest := []) ⟨hx, hb, hml, hown, hts⟩ (c_X12_ofDay g l σ a1 r h) (cl_X12_175 hts ⟨Nat.le_of_ble_eq_true rfl, Nat.le_of_ble_eq_true rfl⟩) (mpV_12 hZ hT hS hW tz_0 _) rfl rfl hl.1 rfl (lv_room (Nat.le_of_ble_eq_true rfl)) dX12_callOff_2 ⟨Nat.zero_le _, Nat.zero_le _⟩) (fun r_1 H locs hf hW hS => ?_)
  refine lv_istore_n (lv' := [(2, .int r_1), (0, .ref (bs g 0)), (1, .int a1)]) hx hb dX12_callOff_5 rfl hl (by decide) rfl (fun ls hl => ?_)
  refine lv_aload_n hx hb dX12_callOff_6 rfl (lv_at hl 1 rfl) ?_
  refine lv_iload_n hx hb dX12_callOff_7 rfl (lv_at hl 0 rfl) ?_
  refine jn1_W (fun (i_2 : Int32) => ∀ (H : Heap) (locs : List Loc) (ls : Array Slot), Wd g 0 81 σ H → va_S (Ag g 0) s.heap H locs → lv_has ls 3 [(0, .ref (bs g 0)), (1, .int a1)] → W p l e (kr 4 85) s m (List.toArray [.ref (bs g 0), .int a1]) below meth c H locs 0 0 Q (F0 m 27 ls [.int i_2, .ref (bs g 0)])) hf (fun i_2 hf => ?_) (fun k_3 hk_3 hf => ?_)
  · intro H locs ls hW hS hl
    refine mci hf hS (fun r τ h => va_runV (As := [.int i_2]) (rest := []) ⟨hx, hb, hml, hown, hts⟩ (c_X12_refused g l σ i_2 r τ h) (cl_X12_98 hts ⟨Nat.le_of_ble_eq_true rfl, Nat.le_of_ble_eq_true rfl⟩) (mpV_12 hZ hT hS hW tz_0 _) rfl rfl hl.1 rfl (lv_room (Nat.le_of_ble_eq_true rfl)) dX12_callOff_27 ⟨Nat.zero_le _, Nat.zero_le _⟩) (fun r_4 σ_5 H locs hf hW hS => ?_)
    refine lv_if_eq (tgt := 35) hx hb dX12_callOff_30 (by decide) (fun hc => ?_) (fun hc => ?_)
    · have hf := ift hc hf
      refine lv_aload_n hx hb dX12_callOff_35 rfl (lv_at hl 0 rfl) ?_
      refine gf_12_5 hx hb htg (htg _ lf_X12_54) hown hZ hW tz_0 dX12_callOff_36 ?_
      refine lv_iconst (v := 1) hx hb dX12_callOff_39 (by decide) ?_
      refine lv_iload_n hx hb dX12_callOff_40 rfl (lv_at hl 1 rfl) ?_
      refine lv_aload_n hx hb dX12_callOff_41 rfl (lv_at hl 0 rfl) ?_
      refine gf_12_2 hx hb htg (htg _ lf_X12_40) hown hZ hW tz_0 dX12_callOff_42 ?_
      refine lv_iload_n hx hb dX12_callOff_45 rfl (lv_at hl 1 rfl) ?_
      refine mcip hf hS (fun r h => va_runV (As := [.int a1]) (rest := [.int a1, .int 1, .ref (bs g 49)]) ⟨hx, hb, hml, hown, hts⟩ (c_X9_visitor g l 0 81 σ_5 28 a1 tz_28 r h) (cl_X12_181 hts ⟨Nat.le_of_ble_eq_true rfl, Nat.le_of_ble_eq_true rfl⟩) (mpV_9 hZ hT hS hW tz_28 _) rfl rfl hl.1 rfl (lv_room (Nat.le_of_ble_eq_true rfl)) dX12_callOff_46 ⟨Nat.zero_le _, Nat.zero_le _⟩) (fun r_6 H locs hf hW hS => ?_)
      refine lv_iconst (v := 0) hx hb dX12_callOff_49 (by decide) ?_
      refine mcv hf hS (fun τ h => va_runV (As := [.int 1, .int a1, .int r_6, .int 0]) (rest := []) ⟨hx, hb, hml, hown, hts⟩ (c_X1_note g l σ_5 1 a1 r_6 0 τ h) (cl_X12_304 hts ⟨Nat.le_of_ble_eq_true rfl, Nat.le_of_ble_eq_true rfl⟩) (mpV_1 hZ hT hS hW tz_49 _) rfl rfl hl.1 rfl (lv_room (Nat.le_of_ble_eq_true rfl)) dX12_callOff_50 ⟨Nat.zero_le _, Nat.zero_le _⟩) (fun σ_7 H locs hf hW hS => ?_)
      refine lv_aload_n hx hb dX12_callOff_53 rfl (lv_at hl 0 rfl) ?_
      refine gf_12_2 hx hb htg (htg _ lf_X12_40) hown hZ hW tz_0 dX12_callOff_54 ?_
      refine lv_iload_n hx hb dX12_callOff_57 rfl (lv_at hl 1 rfl) ?_
      refine lv_bipush (v := (-2)) hx hb dX12_callOff_58 (by decide) ?_
      refine mcv hf hS (fun τ h => va_runV (As := [.int a1, .int (-2)]) (rest := []) ⟨hx, hb, hml, hown, hts⟩ (c_X9_setVisitor g l 0 81 σ_7 28 a1 (-2) tz_28 τ h) (cl_X12_236 hts ⟨Nat.le_of_ble_eq_true rfl, Nat.le_of_ble_eq_true rfl⟩) (mpV_9 hZ hT hS hW tz_28 _) rfl rfl hl.1 rfl (lv_room (Nat.le_of_ble_eq_true rfl)) dX12_callOff_60 ⟨Nat.zero_le _, Nat.zero_le _⟩) (fun σ_8 H locs hf hW hS => ?_)
      refine lv_iconst (v := 1) hx hb dX12_callOff_63 (by decide) ?_
      subst hQ
      exact mrz hx hb hr hlocks hZ hT hS hW (by decide) (pr1 hf) dX12_callOff_64
    · have hf := iff_ hc hf
      refine lv_iconst (v := 0) hx hb dX12_callOff_33 (by decide) ?_
      subst hQ
      exact mrz hx hb hr hlocks hZ hT hS hW (by decide) (pr1 hf) dX12_callOff_34
  · refine jn0_W (∀ (H : Heap) (locs : List Loc) (ls : Array Slot), Wd g 0 81 σ H → va_S (Ag g 0) s.heap H locs → lv_has ls 3 [(0, .ref (bs g 0)), (1, .int a1), (2, .int r_1)] → W p l e (kr 4 85) s m (List.toArray [.ref (bs g 0), .int a1]) below meth c H locs 0 0 Q (F0 m 26 ls [.ref (bs g 0)])) hf (fun  hf => ?_) (fun k_9 hk_9 hf => ?_)
    · intro H locs ls hW hS hl
      refine lv_iload_n hx hb dX12_callOff_26 rfl (lv_at hl 2 rfl) ?_
      exact hk_3 r_1 hf H locs ls hW hS (lv_sub hl [0, 1] rfl)
    · refine lv_if_ne (tgt := 26) hx hb dX12_callOff_8 (by decide) (fun hc => ?_) (fun hc => ?_)
      · have hf := iff_ hc hf
        exact hk_9  hf H locs ls hW hS (lv_sub hl [1, 2, 0] rfl)
      · have hf := ift hc hf
        refine lv_aload_n hx hb dX12_callOff_11 rfl (lv_at hl 1 rfl) ?_
        refine gf_12_2 hx hb htg (htg _ lf_X12_40) hown hZ hW tz_0 dX12_callOff_12 ?_
        refine lv_iload_n hx hb dX12_callOff_15 rfl (lv_at hl 2 rfl) ?_
        refine mcip hf hS (fun r h => va_runV (As := [.int a1]) (rest := [.ref (bs g 0)]) ⟨hx, hb, hml, hown, hts⟩ (c_X9_isAwaited g l 0 81 σ 28 a1 tz_28 r h) (cl_X12_248 hts ⟨Nat.le_of_ble_eq_true rfl, Nat.le_of_ble_eq_true rfl⟩) (mpV_9 hZ hT hS hW tz_28 _) rfl rfl hl.1 rfl (lv_room (Nat.le_of_ble_eq_true rfl)) dX12_callOff_16 ⟨Nat.zero_le _, Nat.zero_le _⟩) (fun r_10 H locs hf hW hS => ?_)
        refine lv_if_ne (tgt := 26) hx hb dX12_callOff_19 (by decide) (fun hc => ?_) (fun hc => ?_)
        · have hf := iff_ hc hf
          exact hk_9  hf H locs ls hW hS (lv_sub hl [1, 2, 0] rfl)
        · have hf := ift hc hf
          refine lv_iconst (v := 5) hx hb dX12_callOff_22 (by decide) ?_
          refine lv_goto (tgt := 27) hx hb dX12_callOff_23 (by decide) ?_
          exact hk_3 5 hf H locs ls hW hS (lv_sub hl [1, 2] rfl)
def f_X12_ofShock (σ : Mem) (a1 : Int32) (a2 : Int32) (a3 : Int32) : Option (Int32) :=
  bd1 (f_X12_ofPerson σ a1) (fun (r_1 : Int32) => (if r_1 = 0 then rfc (σ.2.2 0 10) (fun (T_2 : Nat) => bd1 (f_X12_inside a2 (σ.1 T_2 0)) (fun (r_3 : Int32) => (if r_3 = 0 then some 1 else (if a3 < 1 then some 2 else (if a3 < 4 then (if (σ.1 28 2) < 12 then some 0 else some 3) else some 2))))) else some 1))
set_option maxHeartbeats 4000000 in
set_option maxRecDepth 100000 in
theorem c_X12_ofShock (g : XG) (l : Launch) (σ : Mem) (a1 : Int32) (a2 : Int32) (a3 : Int32) (r : Int32) (hf : f_X12_ofShock σ a1 a2 a3 = some r) : Met l yX12_ofShock (wx (.code yX12_ofShock cX12_ofShock 4 (some .int))) (kr 3 62) (va_Pc [.ref (bs g 0), .int a1, .int a2, .int a3] (WS g 0 81 σ)) (Qi' g 0 81 r σ) 0 0 (Ag g 0) := by
  refine Met.ofW (cc := cX12_ofShock) (maxL := 4) (ret := (some .int)) (by decide) rfl ?_
  intro p e s m args below meth c s₁ B hml hv
  obtain ⟨rfl, hZ, hT, hW⟩ := hv
  have hx := B.exec
  have hb := B.bytes
  have hr := B.returns
  have hts : ∀ w ∈ wx (.code yX12_ofShock cX12_ofShock 4 (some .int)), w.before _ s = true := atoms_spec B.pre
  have htg : ∀ w ∈ lwg, w.before _ s = true := fun w h => hts w (List.mem_cons_of_mem _ h)
  have hown : s.vm.findClass RX12 = some m.cls := findClass_of_methodNamed B.named
  have hlocks := B.notSynchronized
  change W p l e (kr 3 62) s m (List.toArray [.ref (bs g 0), .int a1, .int a2, .int a3]) below meth c s.heap [] 0 0 (MQ below (Qi' g 0 81 r σ) (List.toArray [.ref (bs g 0), .int a1, .int a2, .int a3]) s 0 0 (Ag g 0)) _
  generalize hQ : MQ below (Qi' g 0 81 r σ) (List.toArray [.ref (bs g 0), .int a1, .int a2, .int a3]) s 0 0 (Ag g 0) = Q
  have hS : va_S (Ag g 0) s.heap s.heap [] := va_S.rf
  have hl := lv_entry ([.ref (bs g 0), .int a1, .int a2, .int a3]) (n := 4) (Nat.le_of_ble_eq_true rfl)
  rw [lg_entry_eq]
  generalize (lg_sl ([.ref (bs g 0), .int a1, .int a2, .int a3]) ++ List.replicate (4 - (lg_sl ([.ref (bs g 0), .int a1, .int a2, .int a3])).length) Slot.unset).toArray = ls at hl ⊢
  have hl : lv_has ls 4 [(0, .ref (bs g 0)), (1, .int a1), (2, .int a2), (3, .int a3)] := hl
  delta f_X12_ofShock at hf
  obtain ⟨H, hH⟩ : ∃ H, H = s.heap := ⟨_, rfl⟩
  obtain ⟨locs, hLc⟩ : ∃ z : List Loc, z = [] := ⟨_, rfl⟩
  have hS : va_S (Ag g 0) s.heap H locs := by rw [hH, hLc]; exact hS
  have hW : Wd g 0 81 σ H := by rw [hH]; exact hW
  suffices hG : W p l e (kr 3 62) s m (List.toArray [.ref (bs g 0), .int a1, .int a2, .int a3]) below meth c H locs 0 0 Q (F0 m 0 ls []) by rw [hH, hLc] at hG; exact hG
  clear hH hLc
  refine lv_aload_n hx hb dX12_ofShock_0 rfl (lv_at hl 0 rfl) ?_
  refine lv_iload_n hx hb dX12_ofShock_1 rfl (lv_at hl 1 rfl) ?_
  refine mcip hf hS (fun r h => va_runV (As := [.int a1]) (rest := []) ⟨hx, hb, hml, hown, hts⟩ (c_X12_ofPerson g l σ a1 r h) (cl_X12_157 hts ⟨Nat.le_of_ble_eq_true rfl, Nat.le_of_ble_eq_true rfl⟩) (mpV_12 hZ hT hS hW tz_0 _) rfl rfl hl.1 rfl (lv_room (Nat.le_of_ble_eq_true rfl)) dX12_ofShock_2 ⟨Nat.zero_le _, Nat.zero_le _⟩) (fun r_1 H locs hf hW hS => ?_)
  refine lv_if_ne (tgt := 22) hx hb dX12_ofShock_5 (by decide) (fun hc => ?_) (fun hc => ?_)
  · have hf := iff_ hc hf
    refine lv_iconst (v := 1) hx hb dX12_ofShock_22 (by decide) ?_
    subst hQ
    exact mri hx hb hr hlocks hZ hT hS hW ⟨Option.some.inj hf, rfl⟩ dX12_ofShock_23
  · have hf := ift hc hf
    refine lv_iload_n hx hb dX12_ofShock_8 rfl (lv_at hl 2 rfl) ?_
    refine lv_aload_n hx hb dX12_ofShock_9 rfl (lv_at hl 0 rfl) ?_
    refine gf_12_10 hx hb htg (htg _ lf_X12_19) hown hZ hW tz_0 dX12_ofShock_10 hf (fun T_2 tT_2 hf => ?_)
    refine gfN_11_0 hx hb htg ln_X12_285 hown hZ hW tT_2 dX12_ofShock_13 ?_
    refine mcip hf hS (fun r h => va_runS (As := [.int a2, .int (σ.1 T_2 0)]) (rest := []) ⟨hx, hb, hml, hown, hts⟩ (c_X12_inside g l 0 81 σ a2 (σ.1 T_2 0) r h) (cl_X12_215 hts ⟨Nat.le_of_ble_eq_true rfl, Nat.le_of_ble_eq_true rfl⟩) (mpS hZ hT hS hW _) rfl rfl hl.1 rfl (lv_room (Nat.le_of_ble_eq_true rfl)) dX12_ofShock_16 ⟨Nat.zero_le _, Nat.zero_le _⟩) (fun r_3 H locs hf hW hS => ?_)
    refine lv_if_ne (tgt := 24) hx hb dX12_ofShock_19 (by decide) (fun hc => ?_) (fun hc => ?_)
    · have hf := iff_ hc hf
      refine lv_iload_n hx hb dX12_ofShock_24 rfl (lv_at hl 3 rfl) ?_
      refine lv_iconst (v := 1) hx hb dX12_ofShock_25 (by decide) ?_
      refine lv_icmp_lt (tgt := 34) hx hb dX12_ofShock_26 (by decide) (fun hc => ?_) (fun hc => ?_)
      · have hf := ift hc hf
        refine lv_iconst (v := 2) hx hb dX12_ofShock_34 (by decide) ?_
        subst hQ
        exact mri hx hb hr hlocks hZ hT hS hW ⟨Option.some.inj hf, rfl⟩ dX12_ofShock_35
      · have hf := iff_ hc hf
        refine lv_iload_n hx hb dX12_ofShock_29 rfl (lv_at hl 3 rfl) ?_
        refine lv_iconst (v := 4) hx hb dX12_ofShock_30 (by decide) ?_
        refine lv_icmp_lt (tgt := 36) hx hb dX12_ofShock_31 (by decide) (fun hc => ?_) (fun hc => ?_)
        · have hf := ift hc hf
          refine lv_aload_n hx hb dX12_ofShock_36 rfl (lv_at hl 0 rfl) ?_
          refine gf_12_2 hx hb htg (htg _ lf_X12_40) hown hZ hW tz_0 dX12_ofShock_37 ?_
          refine gfN_9_2 hx hb htg ln_X12_317 hown hZ hW tz_28 dX12_ofShock_40 ?_
          refine lv_bipush (v := 12) hx hb dX12_ofShock_43 (by decide) ?_
          refine lv_icmp_lt (tgt := 52) hx hb dX12_ofShock_45 (by decide) (fun hc => ?_) (fun hc => ?_)
          · have hf := ift hc hf
            refine lv_iconst (v := 0) hx hb dX12_ofShock_52 (by decide) ?_
            subst hQ
            exact mri hx hb hr hlocks hZ hT hS hW ⟨Option.some.inj hf, rfl⟩ dX12_ofShock_53
          · have hf := iff_ hc hf
            refine lv_iconst (v := 3) hx hb dX12_ofShock_48 (by decide) ?_
            refine lv_goto (tgt := 53) hx hb dX12_ofShock_49 (by decide) ?_
            subst hQ
            exact mri hx hb hr hlocks hZ hT hS hW ⟨Option.some.inj hf, rfl⟩ dX12_ofShock_53
        · have hf := iff_ hc hf
          refine lv_iconst (v := 2) hx hb dX12_ofShock_34 (by decide) ?_
          subst hQ
          exact mri hx hb hr hlocks hZ hT hS hW ⟨Option.some.inj hf, rfl⟩ dX12_ofShock_35
    · have hf := ift hc hf
      refine lv_iconst (v := 1) hx hb dX12_ofShock_22 (by decide) ?_
      subst hQ
      exact mri hx hb hr hlocks hZ hT hS hW ⟨Option.some.inj hf, rfl⟩ dX12_ofShock_23
def f_X12_shock (σ : Mem) (a1 : Int32) (a2 : Int32) (a3 : Int32) : Option (Int32 × Mem) :=
  bd1 (f_X12_ofShock σ a1 a2 a3) (fun (r_1 : Int32) => bd2 (f_X12_refused σ r_1) (fun (r_2 : Int32) (σ_3 : Mem) => (if r_2 = 0 then bd1 (f_X5_goOn σ_3 (28 + 2) a1 a2 (σ_3.1 28 1) a3) (fun (σ_4 : Mem) => nm (sI σ_4 28 2 ((σ_4.1 28 2) + 1)) (fun (σ_5 : Mem) => bd1 (f_X1_note σ_5 2 a1 a2 a3) (fun (σ_6 : Mem) => some (1, σ_6)))) else some (0, σ_3))))
set_option maxHeartbeats 4000000 in
set_option maxRecDepth 100000 in
theorem c_X12_shock (g : XG) (l : Launch) (σ : Mem) (a1 : Int32) (a2 : Int32) (a3 : Int32) (r : Int32) (τ : Mem) (hf : f_X12_shock σ a1 a2 a3 = some (r, τ)) : Met l yX12_shock (wx (.code yX12_shock cX12_shock 4 (some .boolean))) (kr 4 85) (va_Pc [.ref (bs g 0), .int a1, .int a2, .int a3] (WS g 0 81 σ)) (Qi' g 0 81 r τ) 0 0 (Ag g 0) := by
  refine Met.ofW (cc := cX12_shock) (maxL := 4) (ret := (some .boolean)) (by decide) rfl ?_
  intro p e s m args below meth c s₁ B hml hv
  obtain ⟨rfl, hZ, hT, hW⟩ := hv
  have hx := B.exec
  have hb := B.bytes
  have hr := B.returns
  have hts : ∀ w ∈ wx (.code yX12_shock cX12_shock 4 (some .boolean)), w.before _ s = true := atoms_spec B.pre
  have htg : ∀ w ∈ lwg, w.before _ s = true := fun w h => hts w (List.mem_cons_of_mem _ h)
  have hown : s.vm.findClass RX12 = some m.cls := findClass_of_methodNamed B.named
  have hlocks := B.notSynchronized
  change W p l e (kr 4 85) s m (List.toArray [.ref (bs g 0), .int a1, .int a2, .int a3]) below meth c s.heap [] 0 0 (MQ below (Qi' g 0 81 r τ) (List.toArray [.ref (bs g 0), .int a1, .int a2, .int a3]) s 0 0 (Ag g 0)) _
  generalize hQ : MQ below (Qi' g 0 81 r τ) (List.toArray [.ref (bs g 0), .int a1, .int a2, .int a3]) s 0 0 (Ag g 0) = Q
  have hS : va_S (Ag g 0) s.heap s.heap [] := va_S.rf
  have hl := lv_entry ([.ref (bs g 0), .int a1, .int a2, .int a3]) (n := 4) (Nat.le_of_ble_eq_true rfl)
  rw [lg_entry_eq]
  generalize (lg_sl ([.ref (bs g 0), .int a1, .int a2, .int a3]) ++ List.replicate (4 - (lg_sl ([.ref (bs g 0), .int a1, .int a2, .int a3])).length) Slot.unset).toArray = ls at hl ⊢
  have hl : lv_has ls 4 [(0, .ref (bs g 0)), (1, .int a1), (2, .int a2), (3, .int a3)] := hl
  delta f_X12_shock at hf
  obtain ⟨H, hH⟩ : ∃ H, H = s.heap := ⟨_, rfl⟩
  obtain ⟨locs, hLc⟩ : ∃ z : List Loc, z = [] := ⟨_, rfl⟩
  have hS : va_S (Ag g 0) s.heap H locs := by rw [hH, hLc]; exact hS
  have hW : Wd g 0 81 σ H := by rw [hH]; exact hW
  suffices hG : W p l e (kr 4 85) s m (List.toArray [.ref (bs g 0), .int a1, .int a2, .int a3]) below meth c H locs 0 0 Q (F0 m 0 ls []) by rw [hH, hLc] at hG; exact hG
  clear hH hLc
  refine lv_aload_n hx hb dX12_shock_0 rfl (lv_at hl 0 rfl) ?_
  refine lv_aload_n hx hb dX12_shock_1 rfl (lv_at hl 0 rfl) ?_
  refine lv_iload_n hx hb dX12_shock_2 rfl (lv_at hl 1 rfl) ?_
  refine lv_iload_n hx hb dX12_shock_3 rfl (lv_at hl 2 rfl) ?_
  refine lv_iload_n hx hb dX12_shock_4 rfl (lv_at hl 3 rfl) ?_
  refine mcip hf hS (fun r h => va_runV (As := [.int a1, .int a2, .int a3]) (rest := [.ref (bs g 0)]) ⟨hx, hb, hml, hown, hts⟩ (c_X12_ofShock g l σ a1 a2 a3 r h) (cl_X12_308 hts ⟨Nat.le_of_ble_eq_true rfl, Nat.le_of_ble_eq_true rfl⟩) (mpV_12 hZ hT hS hW tz_0 _) rfl rfl hl.1 rfl (lv_room (Nat.le_of_ble_eq_true rfl)) dX12_shock_5 ⟨Nat.zero_le _, Nat.zero_le _⟩) (fun r_1 H locs hf hW hS => ?_)
  refine mci hf hS (fun r τ h => va_runV (As := [.int r_1]) (rest := []) ⟨hx, hb, hml, hown, hts⟩ (c_X12_refused g l σ r_1 r τ h) (cl_X12_98 hts ⟨Nat.le_of_ble_eq_true rfl, Nat.le_of_ble_eq_true rfl⟩) (mpV_12 hZ hT hS hW tz_0 _) rfl rfl hl.1 rfl (lv_room (Nat.le_of_ble_eq_true rfl)) dX12_shock_8 ⟨Nat.zero_le _, Nat.zero_le _⟩) (fun r_2 σ_3 H locs hf hW hS => ?_)
  refine lv_if_eq (tgt := 16) hx hb dX12_shock_11 (by decide) (fun hc => ?_) (fun hc => ?_)
  · have hf := ift hc hf
    refine lv_aload_n hx hb dX12_shock_16 rfl (lv_at hl 0 rfl) ?_
    refine gf_12_2 hx hb htg (htg _ lf_X12_40) hown hZ hW tz_0 dX12_shock_17 ?_
    refine gfN_9_4 hx hb htg ln_X12_138 hown hZ hW tz_28 dX12_shock_20 ?_
    refine lv_iload_n hx hb dX12_shock_23 rfl (lv_at hl 1 rfl) ?_
    refine lv_iload_n hx hb dX12_shock_24 rfl (lv_at hl 2 rfl) ?_
    refine lv_aload_n hx hb dX12_shock_25 rfl (lv_at hl 0 rfl) ?_
    refine gf_12_2 hx hb htg (htg _ lf_X12_40) hown hZ hW tz_0 dX12_shock_26 ?_
    refine gfN_9_1 hx hb htg ln_X12_311 hown hZ hW tz_28 dX12_shock_29 ?_
    refine lv_iload_n hx hb dX12_shock_32 rfl (lv_at hl 3 rfl) ?_
    refine mcv hf hS (fun τ h => va_runV (As := [.int a1, .int a2, .int (σ_3.1 28 1), .int a3]) (rest := []) ⟨hx, hb, hml, hown, hts⟩ (c_X5_goOn g l 0 81 σ_3 (28 + 2) a1 a2 (σ_3.1 28 1) a3 (tz_28.sub 5 2 so_9_5_2) τ h) (cl_X12_314 hts ⟨Nat.le_of_ble_eq_true rfl, Nat.le_of_ble_eq_true rfl⟩) (mpV_5 hZ hT hS hW (tz_28.sub 5 2 so_9_5_2) _) rfl rfl hl.1 rfl (lv_room (Nat.le_of_ble_eq_true rfl)) dX12_shock_33 ⟨Nat.zero_le _, Nat.zero_le _⟩) (fun σ_4 H locs hf hW hS => ?_)
    refine lv_aload_n hx hb dX12_shock_36 rfl (lv_at hl 0 rfl) ?_
    refine gf_12_2 hx hb htg (htg _ lf_X12_40) hown hZ hW tz_0 dX12_shock_37 ?_
    refine lv_dup hx hb dX12_shock_40 rfl ?_
    refine gfN_9_2 hx hb htg ln_X12_317 hown hZ hW tz_28 dX12_shock_41 ?_
    refine lv_iconst (v := 1) hx hb dX12_shock_44 (by decide) ?_
    refine lv_iadd hx hb dX12_shock_45 ?_
    refine pfN_9_2 hx hb htg ln_X12_317 hown hZ hW hS tz_28 dX12_shock_46 hf (fun σ_5 H locs hf hW hS => ?_)
    refine lv_aload_n hx hb dX12_shock_49 rfl (lv_at hl 0 rfl) ?_
    refine gf_12_5 hx hb htg (htg _ lf_X12_54) hown hZ hW tz_0 dX12_shock_50 ?_
    refine lv_iconst (v := 2) hx hb dX12_shock_53 (by decide) ?_
    refine lv_iload_n hx hb dX12_shock_54 rfl (lv_at hl 1 rfl) ?_
    refine lv_iload_n hx hb dX12_shock_55 rfl (lv_at hl 2 rfl) ?_
    refine lv_iload_n hx hb dX12_shock_56 rfl (lv_at hl 3 rfl) ?_
    refine mcv hf hS (fun τ h => va_runV (As := [.int 2, .int a1, .int a2, .int a3]) (rest := []) ⟨hx, hb, hml, hown, hts⟩ (c_X1_note g l σ_5 2 a1 a2 a3 τ h) (cl_X12_304 hts ⟨Nat.le_of_ble_eq_true rfl, Nat.le_of_ble_eq_true rfl⟩) (mpV_1 hZ hT hS hW tz_49 _) rfl rfl hl.1 rfl (lv_room (Nat.le_of_ble_eq_true rfl)) dX12_shock_57 ⟨Nat.zero_le _, Nat.zero_le _⟩) (fun σ_6 H locs hf hW hS => ?_)
    refine lv_iconst (v := 1) hx hb dX12_shock_60 (by decide) ?_
    subst hQ
    exact mrz hx hb hr hlocks hZ hT hS hW (by decide) (pr1 hf) dX12_shock_61
  · have hf := iff_ hc hf
    refine lv_iconst (v := 0) hx hb dX12_shock_14 (by decide) ?_
    subst hQ
    exact mrz hx hb hr hlocks hZ hT hS hW (by decide) (pr1 hf) dX12_shock_15
def f_X12_ofGoingBy (σ : Mem) (a1 : Int32) : Option (Int32) :=
  bd1 (f_X12_ofTown σ) (fun (r_1 : Int32) => (if r_1 = 0 then (if a1 < 1 then some 2 else (if a1 < 30 then (if ((σ.1 28 1) + a1) < 30 then some 0 else some 3) else some 2)) else some 1))
set_option maxHeartbeats 4000000 in
set_option maxRecDepth 100000 in
theorem c_X12_ofGoingBy (g : XG) (l : Launch) (σ : Mem) (a1 : Int32) (r : Int32) (hf : f_X12_ofGoingBy σ a1 = some r) : Met l yX12_ofGoingBy (wx (.code yX12_ofGoingBy cX12_ofGoingBy 2 (some .int))) (kr 3 61) (va_Pc [.ref (bs g 0), .int a1] (WS g 0 81 σ)) (Qi' g 0 81 r σ) 0 0 (Ag g 0) := by
  refine Met.ofW (cc := cX12_ofGoingBy) (maxL := 2) (ret := (some .int)) (by decide) rfl ?_
  intro p e s m args below meth c s₁ B hml hv
  obtain ⟨rfl, hZ, hT, hW⟩ := hv
  have hx := B.exec
  have hb := B.bytes
  have hr := B.returns
  have hts : ∀ w ∈ wx (.code yX12_ofGoingBy cX12_ofGoingBy 2 (some .int)), w.before _ s = true := atoms_spec B.pre
  have htg : ∀ w ∈ lwg, w.before _ s = true := fun w h => hts w (List.mem_cons_of_mem _ h)
  have hown : s.vm.findClass RX12 = some m.cls := findClass_of_methodNamed B.named
  have hlocks := B.notSynchronized
  change W p l e (kr 3 61) s m (List.toArray [.ref (bs g 0), .int a1]) below meth c s.heap [] 0 0 (MQ below (Qi' g 0 81 r σ) (List.toArray [.ref (bs g 0), .int a1]) s 0 0 (Ag g 0)) _
  generalize hQ : MQ below (Qi' g 0 81 r σ) (List.toArray [.ref (bs g 0), .int a1]) s 0 0 (Ag g 0) = Q
  have hS : va_S (Ag g 0) s.heap s.heap [] := va_S.rf
  have hl := lv_entry ([.ref (bs g 0), .int a1]) (n := 2) (Nat.le_of_ble_eq_true rfl)
  rw [lg_entry_eq]
  generalize (lg_sl ([.ref (bs g 0), .int a1]) ++ List.replicate (2 - (lg_sl ([.ref (bs g 0), .int a1])).length) Slot.unset).toArray = ls at hl ⊢
  have hl : lv_has ls 2 [(0, .ref (bs g 0)), (1, .int a1)] := hl
  delta f_X12_ofGoingBy at hf
  obtain ⟨H, hH⟩ : ∃ H, H = s.heap := ⟨_, rfl⟩
  obtain ⟨locs, hLc⟩ : ∃ z : List Loc, z = [] := ⟨_, rfl⟩
  have hS : va_S (Ag g 0) s.heap H locs := by rw [hH, hLc]; exact hS
  have hW : Wd g 0 81 σ H := by rw [hH]; exact hW
  suffices hG : W p l e (kr 3 61) s m (List.toArray [.ref (bs g 0), .int a1]) below meth c H locs 0 0 Q (F0 m 0 ls []) by rw [hH, hLc] at hG; exact hG
  clear hH hLc
  refine lv_aload_n hx hb dX12_ofGoingBy_0 rfl (lv_at hl 0 rfl) ?_
  refine mcip hf hS (fun r h => va_runV (As := []) (rest := []) ⟨hx, hb, hml, hown, hts⟩ (c_X12_ofTown g l σ r h) (cl_X12_201 hts ⟨Nat.le_of_ble_eq_true rfl, Nat.le_of_ble_eq_true rfl⟩) (mpV_12 hZ hT hS hW tz_0 _) rfl rfl hl.1 rfl (lv_room (Nat.le_of_ble_eq_true rfl)) dX12_ofGoingBy_1 ⟨Nat.zero_le _, Nat.zero_le _⟩) (fun r_1 H locs hf hW hS => ?_)
  refine lv_if_eq (tgt := 9) hx hb dX12_ofGoingBy_4 (by decide) (fun hc => ?_) (fun hc => ?_)
  · have hf := ift hc hf
    refine lv_iload_n hx hb dX12_ofGoingBy_9 rfl (lv_at hl 1 rfl) ?_
    refine lv_iconst (v := 1) hx hb dX12_ofGoingBy_10 (by decide) ?_
    refine lv_icmp_lt (tgt := 20) hx hb dX12_ofGoingBy_11 (by decide) (fun hc => ?_) (fun hc => ?_)
    · have hf := ift hc hf
      refine lv_iconst (v := 2) hx hb dX12_ofGoingBy_20 (by decide) ?_
      subst hQ
      exact mri hx hb hr hlocks hZ hT hS hW ⟨Option.some.inj hf, rfl⟩ dX12_ofGoingBy_21
    · have hf := iff_ hc hf
      refine lv_iload_n hx hb dX12_ofGoingBy_14 rfl (lv_at hl 1 rfl) ?_
      refine lv_bipush (v := 30) hx hb dX12_ofGoingBy_15 (by decide) ?_
      refine lv_icmp_lt (tgt := 22) hx hb dX12_ofGoingBy_17 (by decide) (fun hc => ?_) (fun hc => ?_)
      · have hf := ift hc hf
        refine lv_aload_n hx hb dX12_ofGoingBy_22 rfl (lv_at hl 0 rfl) ?_
        refine gf_12_2 hx hb htg (htg _ lf_X12_40) hown hZ hW tz_0 dX12_ofGoingBy_23 ?_
        refine gfN_9_1 hx hb htg ln_X12_311 hown hZ hW tz_28 dX12_ofGoingBy_26 ?_
        refine lv_iload_n hx hb dX12_ofGoingBy_29 rfl (lv_at hl 1 rfl) ?_
        refine lv_iadd hx hb dX12_ofGoingBy_30 ?_
        refine lv_bipush (v := 30) hx hb dX12_ofGoingBy_31 (by decide) ?_
        refine lv_icmp_lt (tgt := 40) hx hb dX12_ofGoingBy_33 (by decide) (fun hc => ?_) (fun hc => ?_)
        · have hf := ift hc hf
          refine lv_iconst (v := 0) hx hb dX12_ofGoingBy_40 (by decide) ?_
          subst hQ
          exact mri hx hb hr hlocks hZ hT hS hW ⟨Option.some.inj hf, rfl⟩ dX12_ofGoingBy_41
        · have hf := iff_ hc hf
          refine lv_iconst (v := 3) hx hb dX12_ofGoingBy_36 (by decide) ?_
          refine lv_goto (tgt := 41) hx hb dX12_ofGoingBy_37 (by decide) ?_
          subst hQ
          exact mri hx hb hr hlocks hZ hT hS hW ⟨Option.some.inj hf, rfl⟩ dX12_ofGoingBy_41
      · have hf := iff_ hc hf
        refine lv_iconst (v := 2) hx hb dX12_ofGoingBy_20 (by decide) ?_
        subst hQ
        exact mri hx hb hr hlocks hZ hT hS hW ⟨Option.some.inj hf, rfl⟩ dX12_ofGoingBy_21
  · have hf := iff_ hc hf
    refine lv_iconst (v := 1) hx hb dX12_ofGoingBy_7 (by decide) ?_
    subst hQ
    exact mri hx hb hr hlocks hZ hT hS hW ⟨Option.some.inj hf, rfl⟩ dX12_ofGoingBy_8
def f_X12_days (σ : Mem) (a1 : Int32) : Option (Int32 × Mem) :=
  bd1 (f_X12_ofGoingBy σ a1) (fun (r_1 : Int32) => bd2 (f_X12_refused σ r_1) (fun (r_2 : Int32) (σ_3 : Mem) => (if r_2 = 0 then nm (sI σ_3 28 1 ((σ_3.1 28 1) + a1)) (fun (σ_4 : Mem) => bd1 (f_X1_note σ_4 3 a1 0 0) (fun (σ_5 : Mem) => some (σ_5.1 28 1, σ_5))) else some ((-1), σ_3))))
set_option maxHeartbeats 4000000 in
set_option maxRecDepth 100000 in
theorem c_X12_days (g : XG) (l : Launch) (σ : Mem) (a1 : Int32) (r : Int32) (τ : Mem) (hf : f_X12_days σ a1 = some (r, τ)) : Met l yX12_days (wx (.code yX12_days cX12_days 2 (some .int))) (kr 4 85) (va_Pc [.ref (bs g 0), .int a1] (WS g 0 81 σ)) (Qi' g 0 81 r τ) 0 0 (Ag g 0) := by
  refine Met.ofW (cc := cX12_days) (maxL := 2) (ret := (some .int)) (by decide) rfl ?_
  intro p e s m args below meth c s₁ B hml hv
  obtain ⟨rfl, hZ, hT, hW⟩ := hv
  have hx := B.exec
  have hb := B.bytes
  have hr := B.returns
  have hts : ∀ w ∈ wx (.code yX12_days cX12_days 2 (some .int)), w.before _ s = true := atoms_spec B.pre
  have htg : ∀ w ∈ lwg, w.before _ s = true := fun w h => hts w (List.mem_cons_of_mem _ h)
  have hown : s.vm.findClass RX12 = some m.cls := findClass_of_methodNamed B.named
  have hlocks := B.notSynchronized
  change W p l e (kr 4 85) s m (List.toArray [.ref (bs g 0), .int a1]) below meth c s.heap [] 0 0 (MQ below (Qi' g 0 81 r τ) (List.toArray [.ref (bs g 0), .int a1]) s 0 0 (Ag g 0)) _
  generalize hQ : MQ below (Qi' g 0 81 r τ) (List.toArray [.ref (bs g 0), .int a1]) s 0 0 (Ag g 0) = Q
  have hS : va_S (Ag g 0) s.heap s.heap [] := va_S.rf
  have hl := lv_entry ([.ref (bs g 0), .int a1]) (n := 2) (Nat.le_of_ble_eq_true rfl)
  rw [lg_entry_eq]
  generalize (lg_sl ([.ref (bs g 0), .int a1]) ++ List.replicate (2 - (lg_sl ([.ref (bs g 0), .int a1])).length) Slot.unset).toArray = ls at hl ⊢
  have hl : lv_has ls 2 [(0, .ref (bs g 0)), (1, .int a1)] := hl
  delta f_X12_days at hf
  obtain ⟨H, hH⟩ : ∃ H, H = s.heap := ⟨_, rfl⟩
  obtain ⟨locs, hLc⟩ : ∃ z : List Loc, z = [] := ⟨_, rfl⟩
  have hS : va_S (Ag g 0) s.heap H locs := by rw [hH, hLc]; exact hS
  have hW : Wd g 0 81 σ H := by rw [hH]; exact hW
  suffices hG : W p l e (kr 4 85) s m (List.toArray [.ref (bs g 0), .int a1]) below meth c H locs 0 0 Q (F0 m 0 ls []) by rw [hH, hLc] at hG; exact hG
  clear hH hLc
  refine lv_aload_n hx hb dX12_days_0 rfl (lv_at hl 0 rfl) ?_
  refine lv_aload_n hx hb dX12_days_1 rfl (lv_at hl 0 rfl) ?_
  refine lv_iload_n hx hb dX12_days_2 rfl (lv_at hl 1 rfl) ?_
  refine mcip hf hS (fun r h => va_runV (As := [.int a1]) (rest := [.ref (bs g 0)]) ⟨hx, hb, hml, hown, hts⟩ (c_X12_ofGoingBy g l σ a1 r h) (cl_X12_320 hts ⟨Nat.le_of_ble_eq_true rfl, Nat.le_of_ble_eq_true rfl⟩) (mpV_12 hZ hT hS hW tz_0 _) rfl rfl hl.1 rfl (lv_room (Nat.le_of_ble_eq_true rfl)) dX12_days_3 ⟨Nat.zero_le _, Nat.zero_le _⟩) (fun r_1 H locs hf hW hS => ?_)
  refine mci hf hS (fun r τ h => va_runV (As := [.int r_1]) (rest := []) ⟨hx, hb, hml, hown, hts⟩ (c_X12_refused g l σ r_1 r τ h) (cl_X12_98 hts ⟨Nat.le_of_ble_eq_true rfl, Nat.le_of_ble_eq_true rfl⟩) (mpV_12 hZ hT hS hW tz_0 _) rfl rfl hl.1 rfl (lv_room (Nat.le_of_ble_eq_true rfl)) dX12_days_6 ⟨Nat.zero_le _, Nat.zero_le _⟩) (fun r_2 σ_3 H locs hf hW hS => ?_)
  refine lv_if_eq (tgt := 14) hx hb dX12_days_9 (by decide) (fun hc => ?_) (fun hc => ?_)
  · have hf := ift hc hf
    refine lv_aload_n hx hb dX12_days_14 rfl (lv_at hl 0 rfl) ?_
    refine gf_12_2 hx hb htg (htg _ lf_X12_40) hown hZ hW tz_0 dX12_days_15 ?_
    refine lv_dup hx hb dX12_days_18 rfl ?_
    refine gfN_9_1 hx hb htg ln_X12_311 hown hZ hW tz_28 dX12_days_19 ?_
    refine lv_iload_n hx hb dX12_days_22 rfl (lv_at hl 1 rfl) ?_
    refine lv_iadd hx hb dX12_days_23 ?_
    refine pfN_9_1 hx hb htg ln_X12_311 hown hZ hW hS tz_28 dX12_days_24 hf (fun σ_4 H locs hf hW hS => ?_)
    refine lv_aload_n hx hb dX12_days_27 rfl (lv_at hl 0 rfl) ?_
    refine gf_12_5 hx hb htg (htg _ lf_X12_54) hown hZ hW tz_0 dX12_days_28 ?_
    refine lv_iconst (v := 3) hx hb dX12_days_31 (by decide) ?_
    refine lv_iload_n hx hb dX12_days_32 rfl (lv_at hl 1 rfl) ?_
    refine lv_iconst (v := 0) hx hb dX12_days_33 (by decide) ?_
    refine lv_iconst (v := 0) hx hb dX12_days_34 (by decide) ?_
    refine mcv hf hS (fun τ h => va_runV (As := [.int 3, .int a1, .int 0, .int 0]) (rest := []) ⟨hx, hb, hml, hown, hts⟩ (c_X1_note g l σ_4 3 a1 0 0 τ h) (cl_X12_304 hts ⟨Nat.le_of_ble_eq_true rfl, Nat.le_of_ble_eq_true rfl⟩) (mpV_1 hZ hT hS hW tz_49 _) rfl rfl hl.1 rfl (lv_room (Nat.le_of_ble_eq_true rfl)) dX12_days_35 ⟨Nat.zero_le _, Nat.zero_le _⟩) (fun σ_5 H locs hf hW hS => ?_)
    refine lv_aload_n hx hb dX12_days_38 rfl (lv_at hl 0 rfl) ?_
    refine gf_12_2 hx hb htg (htg _ lf_X12_40) hown hZ hW tz_0 dX12_days_39 ?_
    refine gfN_9_1 hx hb htg ln_X12_311 hown hZ hW tz_28 dX12_days_42 ?_
    subst hQ
    exact mri hx hb hr hlocks hZ hT hS hW (pr1 hf) dX12_days_45
  · have hf := iff_ hc hf
    refine lv_iconst (v := (-1)) hx hb dX12_days_12 (by decide) ?_
    subst hQ
    exact mri hx hb hr hlocks hZ hT hS hW (pr1 hf) dX12_days_13
def f_X12_undo (σ : Mem)  : Option (Int32 × Mem) :=
  jn1 (fun (i_1 : Int32) => bd2 (f_X12_refused σ i_1) (fun (r_3 : Int32) (σ_4 : Mem) => (if r_3 = 0 then bd1 (f_X1_takeBack σ_4 28) (fun (σ_5 : Mem) => some (1, σ_5)) else some (0, σ_4)))) (fun k_2 => (if (σ.1 49 1) = 0 then k_2 6 else k_2 0))
set_option maxHeartbeats 4000000 in
set_option maxRecDepth 100000 in
theorem c_X12_undo (g : XG) (l : Launch) (σ : Mem) (r : Int32) (τ : Mem) (hf : f_X12_undo σ = some (r, τ)) : Met l yX12_undo (wx (.code yX12_undo cX12_undo 1 (some .boolean))) (kr 3 109) (va_Pc [.ref (bs g 0)] (WS g 0 81 σ)) (Qi' g 0 81 r τ) 0 0 (Ag g 0) := by
  refine Met.ofW (cc := cX12_undo) (maxL := 1) (ret := (some .boolean)) (by decide) rfl ?_
  intro p e s m args below meth c s₁ B hml hv
  obtain ⟨rfl, hZ, hT, hW⟩ := hv
  have hx := B.exec
  have hb := B.bytes
  have hr := B.returns
  have hts : ∀ w ∈ wx (.code yX12_undo cX12_undo 1 (some .boolean)), w.before _ s = true := atoms_spec B.pre
  have htg : ∀ w ∈ lwg, w.before _ s = true := fun w h => hts w (List.mem_cons_of_mem _ h)
  have hown : s.vm.findClass RX12 = some m.cls := findClass_of_methodNamed B.named
  have hlocks := B.notSynchronized
  change W p l e (kr 3 109) s m (List.toArray [.ref (bs g 0)]) below meth c s.heap [] 0 0 (MQ below (Qi' g 0 81 r τ) (List.toArray [.ref (bs g 0)]) s 0 0 (Ag g 0)) _
  generalize hQ : MQ below (Qi' g 0 81 r τ) (List.toArray [.ref (bs g 0)]) s 0 0 (Ag g 0) = Q
  have hS : va_S (Ag g 0) s.heap s.heap [] := va_S.rf
  have hl := lv_entry ([.ref (bs g 0)]) (n := 1) (Nat.le_of_ble_eq_true rfl)
  rw [lg_entry_eq]
  generalize (lg_sl ([.ref (bs g 0)]) ++ List.replicate (1 - (lg_sl ([.ref (bs g 0)])).length) Slot.unset).toArray = ls at hl ⊢
  have hl : lv_has ls 1 [(0, .ref (bs g 0))] := hl
  delta f_X12_undo at hf
  obtain ⟨H, hH⟩ : ∃ H, H = s.heap := ⟨_, rfl⟩
  obtain ⟨locs, hLc⟩ : ∃ z : List Loc, z = [] := ⟨_, rfl⟩
  have hS : va_S (Ag g 0) s.heap H locs := by rw [hH, hLc]; exact hS
  have hW : Wd g 0 81 σ H := by rw [hH]; exact hW
  suffices hG : W p l e (kr 3 109) s m (List.toArray [.ref (bs g 0)]) below meth c H locs 0 0 Q (F0 m 0 ls []) by rw [hH, hLc] at hG; exact hG
  clear hH hLc
  refine lv_aload_n hx hb dX12_undo_0 rfl (lv_at hl 0 rfl) ?_
  refine lv_aload_n hx hb dX12_undo_1 rfl (lv_at hl 0 rfl) ?_
  refine gf_12_5 hx hb htg (htg _ lf_X12_54) hown hZ hW tz_0 dX12_undo_2 ?_
  refine gfN_1_1 hx hb htg ln_X12_323 hown hZ hW tz_49 dX12_undo_5 ?_
  refine jn1_W (fun (i_1 : Int32) => ∀ (H : Heap) (locs : List Loc) (ls : Array Slot), Wd g 0 81 σ H → va_S (Ag g 0) s.heap H locs → lv_has ls 1 [(0, .ref (bs g 0))] → W p l e (kr 3 109) s m (List.toArray [.ref (bs g 0)]) below meth c H locs 0 0 Q (F0 m 17 ls [.int i_1, .ref (bs g 0)])) hf (fun i_1 hf => ?_) (fun k_2 hk_2 hf => ?_)
  · intro H locs ls hW hS hl
    refine mci hf hS (fun r τ h => va_runV (As := [.int i_1]) (rest := []) ⟨hx, hb, hml, hown, hts⟩ (c_X12_refused g l σ i_1 r τ h) (cl_X12_98 hts ⟨Nat.le_of_ble_eq_true rfl, Nat.le_of_ble_eq_true rfl⟩) (mpV_12 hZ hT hS hW tz_0 _) rfl rfl hl.1 rfl (lv_room (Nat.le_of_ble_eq_true rfl)) dX12_undo_17 ⟨Nat.zero_le _, Nat.zero_le _⟩) (fun r_3 σ_4 H locs hf hW hS => ?_)
    refine lv_if_eq (tgt := 25) hx hb dX12_undo_20 (by decide) (fun hc => ?_) (fun hc => ?_)
    · have hf := ift hc hf
      refine lv_aload_n hx hb dX12_undo_25 rfl (lv_at hl 0 rfl) ?_
      refine gf_12_5 hx hb htg (htg _ lf_X12_54) hown hZ hW tz_0 dX12_undo_26 ?_
      refine lv_aload_n hx hb dX12_undo_29 rfl (lv_at hl 0 rfl) ?_
      refine gf_12_2 hx hb htg (htg _ lf_X12_40) hown hZ hW tz_0 dX12_undo_30 ?_
      refine mcv hf hS (fun τ h => va_runV (As := [.ref (bs g 28)]) (rest := []) ⟨hx, hb, hml, hown, hts⟩ (c_X1_takeBack g l σ_4 28 tz_28 τ h) (cl_X12_324 hts ⟨Nat.le_of_ble_eq_true rfl, Nat.le_of_ble_eq_true rfl⟩) (mpV_1 hZ hT hS hW tz_49 _) rfl rfl hl.1 rfl (lv_room (Nat.le_of_ble_eq_true rfl)) dX12_undo_33 ⟨Nat.zero_le _, Nat.zero_le _⟩) (fun σ_5 H locs hf hW hS => ?_)
      refine lv_iconst (v := 1) hx hb dX12_undo_36 (by decide) ?_
      subst hQ
      exact mrz hx hb hr hlocks hZ hT hS hW (by decide) (pr1 hf) dX12_undo_37
    · have hf := iff_ hc hf
      refine lv_iconst (v := 0) hx hb dX12_undo_23 (by decide) ?_
      subst hQ
      exact mrz hx hb hr hlocks hZ hT hS hW (by decide) (pr1 hf) dX12_undo_24
  · refine lv_if_ne (tgt := 16) hx hb dX12_undo_8 (by decide) (fun hc => ?_) (fun hc => ?_)
    · have hf := iff_ hc hf
      refine lv_iconst (v := 0) hx hb dX12_undo_16 (by decide) ?_
      exact hk_2 0 hf H locs ls hW hS (lv_sub hl [0] rfl)
    · have hf := ift hc hf
      refine lv_bipush (v := 6) hx hb dX12_undo_11 (by decide) ?_
      refine lv_goto (tgt := 17) hx hb dX12_undo_13 (by decide) ?_
      exact hk_2 6 hf H locs ls hW hS (lv_sub hl [0] rfl)
def f_X12_pictureOf (σ : Mem) (a1 : Int32) : Option (Option Nat) :=
  bd1 (f_X12_inside a1 (σ.1 0 12)) (fun (r_1 : Int32) => jn0 (some none) (fun k_2 => (if r_1 = 0 then k_2 else bd1 (f_X12_inside a1 (nI (aln 36))) (fun (r_3 : Int32) => (if r_3 = 0 then k_2 else ixd a1 (aln 36) (rfc (σ.2.2 36 a1.toNatClampNeg) (fun (T_4 : Nat) => some (some T_4))))))))
set_option maxHeartbeats 4000000 in
set_option maxRecDepth 100000 in
theorem c_X12_pictureOf (g : XG) (l : Launch) (σ : Mem) (a1 : Int32) (r : Option Nat) (hf : f_X12_pictureOf σ a1 = some r) : Met l yX12_pictureOf (wx (.code yX12_pictureOf cX12_pictureOf 2 (some (.object "MirrorHour$State")))) (kr 1 21) (va_Pc [.ref (bs g 0), .int a1] (WS g 0 81 σ)) (Qq' g 0 81 r σ) 0 0 (Ag g 0) := by
  refine Met.ofW (cc := cX12_pictureOf) (maxL := 2) (ret := (some (.object "MirrorHour$State"))) (by decide) rfl ?_
  intro p e s m args below meth c s₁ B hml hv
  obtain ⟨rfl, hZ, hT, hW⟩ := hv
  have hx := B.exec
  have hb := B.bytes
  have hr := B.returns
  have hts : ∀ w ∈ wx (.code yX12_pictureOf cX12_pictureOf 2 (some (.object "MirrorHour$State"))), w.before _ s = true := atoms_spec B.pre
  have htg : ∀ w ∈ lwg, w.before _ s = true := fun w h => hts w (List.mem_cons_of_mem _ h)
  have hown : s.vm.findClass RX12 = some m.cls := findClass_of_methodNamed B.named
  have hlocks := B.notSynchronized
  change W p l e (kr 1 21) s m (List.toArray [.ref (bs g 0), .int a1]) below meth c s.heap [] 0 0 (MQ below (Qq' g 0 81 r σ) (List.toArray [.ref (bs g 0), .int a1]) s 0 0 (Ag g 0)) _
  generalize hQ : MQ below (Qq' g 0 81 r σ) (List.toArray [.ref (bs g 0), .int a1]) s 0 0 (Ag g 0) = Q
  have hS : va_S (Ag g 0) s.heap s.heap [] := va_S.rf
  have hl := lv_entry ([.ref (bs g 0), .int a1]) (n := 2) (Nat.le_of_ble_eq_true rfl)
  rw [lg_entry_eq]
  generalize (lg_sl ([.ref (bs g 0), .int a1]) ++ List.replicate (2 - (lg_sl ([.ref (bs g 0), .int a1])).length) Slot.unset).toArray = ls at hl ⊢
  have hl : lv_has ls 2 [(0, .ref (bs g 0)), (1, .int a1)] := hl
  delta f_X12_pictureOf at hf
  obtain ⟨H, hH⟩ : ∃ H, H = s.heap := ⟨_, rfl⟩
  obtain ⟨locs, hLc⟩ : ∃ z : List Loc, z = [] := ⟨_, rfl⟩
  have hS : va_S (Ag g 0) s.heap H locs := by rw [hH, hLc]; exact hS
  have hW : Wd g 0 81 σ H := by rw [hH]; exact hW
  suffices hG : W p l e (kr 1 21) s m (List.toArray [.ref (bs g 0), .int a1]) below meth c H locs 0 0 Q (F0 m 0 ls []) by rw [hH, hLc] at hG; exact hG
  clear hH hLc
  refine lv_iload_n hx hb dX12_pictureOf_0 rfl (lv_at hl 1 rfl) ?_
  refine lv_aload_n hx hb dX12_pictureOf_1 rfl (lv_at hl 0 rfl) ?_
  refine gf_12_12 hx hb htg (htg _ lf_X12_124) hown hZ hW tz_0 dX12_pictureOf_2 ?_
  refine mcip hf hS (fun r h => va_runS (As := [.int a1, .int (σ.1 0 12)]) (rest := []) ⟨hx, hb, hml, hown, hts⟩ (c_X12_inside g l 0 81 σ a1 (σ.1 0 12) r h) (cl_X12_215 hts ⟨Nat.le_of_ble_eq_true rfl, Nat.le_of_ble_eq_true rfl⟩) (mpS hZ hT hS hW _) rfl rfl hl.1 rfl (lv_room (Nat.le_of_ble_eq_true rfl)) dX12_pictureOf_5 ⟨Nat.zero_le _, Nat.zero_le _⟩) (fun r_1 H locs hf hW hS => ?_)
  refine jn0_W (∀ (H : Heap) (locs : List Loc) (ls : Array Slot), Wd g 0 81 σ H → va_S (Ag g 0) s.heap H locs → lv_has ls 2 [] → W p l e (kr 1 21) s m (List.toArray [.ref (bs g 0), .int a1]) below meth c H locs 0 0 Q (F0 m 32 ls [])) hf (fun  hf => ?_) (fun k_2 hk_2 hf => ?_)
  · intro H locs ls hW hS hl
    refine lv_null hx hb dX12_pictureOf_32 ?_
    subst hQ
    exact mrq hx hb hr hlocks hZ hT hS hW (x := none) rfl ⟨Option.some.inj hf, rfl⟩ dX12_pictureOf_33
  · refine lv_if_eq (tgt := 32) hx hb dX12_pictureOf_8 (by decide) (fun hc => ?_) (fun hc => ?_)
    · have hf := ift hc hf
      exact hk_2  hf H locs ls hW hS (lv_sub hl [] rfl)
    · have hf := iff_ hc hf
      refine lv_iload_n hx hb dX12_pictureOf_11 rfl (lv_at hl 1 rfl) ?_
      refine lv_aload_n hx hb dX12_pictureOf_12 rfl (lv_at hl 0 rfl) ?_
      refine gf_12_4 hx hb htg (htg _ lf_X12_47) hown hZ hW tz_0 dX12_pictureOf_13 ?_
      refine mln_q hx hb hZ hW tz_36 dX12_pictureOf_16 ?_
      refine mcip hf hS (fun r h => va_runS (As := [.int a1, .int (nI (aln 36))]) (rest := []) ⟨hx, hb, hml, hown, hts⟩ (c_X12_inside g l 0 81 σ a1 (nI (aln 36)) r h) (cl_X12_215 hts ⟨Nat.le_of_ble_eq_true rfl, Nat.le_of_ble_eq_true rfl⟩) (mpS hZ hT hS hW _) rfl rfl hl.1 rfl (lv_room (Nat.le_of_ble_eq_true rfl)) dX12_pictureOf_17 ⟨Nat.zero_le _, Nat.zero_le _⟩) (fun r_3 H locs hf hW hS => ?_)
      refine lv_if_eq (tgt := 32) hx hb dX12_pictureOf_20 (by decide) (fun hc => ?_) (fun hc => ?_)
      · have hf := ift hc hf
        exact hk_2  hf H locs ls hW hS (lv_sub hl [] rfl)
      · have hf := iff_ hc hf
        refine lv_aload_n hx hb dX12_pictureOf_23 rfl (lv_at hl 0 rfl) ?_
        refine gf_12_4 hx hb htg (htg _ lf_X12_47) hown hZ hW tz_0 dX12_pictureOf_24 ?_
        refine lv_iload_n hx hb dX12_pictureOf_27 rfl (lv_at hl 1 rfl) ?_
        refine mld_q hx hb hZ hW tz_36 hf dX12_pictureOf_28 (fun T_4 tT_4 _ hf => ?_)
        refine lv_goto (tgt := 33) hx hb dX12_pictureOf_29 (by decide) ?_
        subst hQ
        exact mrq hx hb hr hlocks hZ hT hS hW (x := (some T_4)) rfl ⟨Option.some.inj hf, rfl⟩ dX12_pictureOf_33
theorem bn_X12_pictureOf : ∀ (σ : Mem) (a1 : Int32) {T : Nat}, TR 0 81 σ → f_X12_pictureOf σ a1 = some (some T) → tp 9 0 81 T := by
  intro σ a1 T hR h
  delta f_X12_pictureOf at h
  obtain ⟨r, -, h⟩ := bd1_s h
  refine jn0_W (out := some T) (tp 9 0 81 T) h (fun h => by cases h) (fun k' hk h => ?_)
  by_cases c : r = 0
  · rw [if_pos c] at h; exact hk h
  · rw [if_neg c] at h
    obtain ⟨r2, -, h⟩ := bd1_s h
    by_cases c2 : r2 = 0
    · rw [if_pos c2] at h; exact hk h
    · rw [if_neg c2] at h
      obtain ⟨-, h⟩ := ixd_s h
      obtain ⟨T4, h1, h2⟩ := rfc_s h
      have e : T4 = T := Option.some.inj (Option.some.inj h2)
      subst e
      exact (hR 36 _ T4 (Nat.zero_le _) (by decide) h1).1 rfl

def f_X12_image (σ : Mem)  : Option (Int32 × Mem) :=
  bd1 (f_X12_ofTown σ) (fun (r_1 : Int32) => jn1 (fun (i_2 : Int32) => bd2 (f_X12_refused σ i_2) (fun (r_4 : Int32) (σ_5 : Mem) => (if r_4 = 0 then nm (σ_5.1 0 12) (fun (x_6 : Int32) => nm (sI σ_5 0 12 ((σ_5.1 0 12) + 1)) (fun (σ_7 : Mem) => bd1 (f_X12_pictureOf σ_7 x_6) (fun (o_8 : Option Nat) => onm o_8 (some (x_6, σ_7)) (fun (T_9 : Nat) => bd1 (f_X9_copy σ_7 T_9 28) (fun (σ_10 : Mem) => some (x_6, σ_10)))))) else some ((-1), σ_5)))) (fun k_3 => (if r_1 = 0 then (if (σ.1 0 12) < 3 then k_3 0 else k_3 3) else k_3 1)))
set_option maxHeartbeats 4000000 in
set_option maxRecDepth 100000 in
theorem c_X12_image (g : XG) (l : Launch) (σ : Mem) (r : Int32) (τ : Mem) (hf : f_X12_image σ = some (r, τ)) : Met l yX12_image (wx (.code yX12_image cX12_image 3 (some .int))) (kr 4 123) (va_Pc [.ref (bs g 0)] (WS g 0 81 σ)) (Qi' g 0 81 r τ) 0 0 (Ag g 0) := by
  refine Met.ofW (cc := cX12_image) (maxL := 3) (ret := (some .int)) (by decide) rfl ?_
  intro p e s m args below meth c s₁ B hml hv
  obtain ⟨rfl, hZ, hT, hW⟩ := hv
  have hx := B.exec
  have hb := B.bytes
  have hr := B.returns
  have hts : ∀ w ∈ wx (.code yX12_image cX12_image 3 (some .int)), w.before _ s = true := atoms_spec B.pre
  have htg : ∀ w ∈ lwg, w.before _ s = true := fun w h => hts w (List.mem_cons_of_mem _ h)
  have hown : s.vm.findClass RX12 = some m.cls := findClass_of_methodNamed B.named
  have hlocks := B.notSynchronized
  change W p l e (kr 4 123) s m (List.toArray [.ref (bs g 0)]) below meth c s.heap [] 0 0 (MQ below (Qi' g 0 81 r τ) (List.toArray [.ref (bs g 0)]) s 0 0 (Ag g 0)) _
  generalize hQ : MQ below (Qi' g 0 81 r τ) (List.toArray [.ref (bs g 0)]) s 0 0 (Ag g 0) = Q
  have hS : va_S (Ag g 0) s.heap s.heap [] := va_S.rf
  have hl := lv_entry ([.ref (bs g 0)]) (n := 3) (Nat.le_of_ble_eq_true rfl)
  rw [lg_entry_eq]
  generalize (lg_sl ([.ref (bs g 0)]) ++ List.replicate (3 - (lg_sl ([.ref (bs g 0)])).length) Slot.unset).toArray = ls at hl ⊢
  have hl : lv_has ls 3 [(0, .ref (bs g 0))] := hl
  delta f_X12_image at hf
  obtain ⟨H, hH⟩ : ∃ H, H = s.heap := ⟨_, rfl⟩
  obtain ⟨locs, hLc⟩ : ∃ z : List Loc, z = [] := ⟨_, rfl⟩
  have hS : va_S (Ag g 0) s.heap H locs := by rw [hH, hLc]; exact hS
  have hW : Wd g 0 81 σ H := by rw [hH]; exact hW
  suffices hG : W p l e (kr 4 123) s m (List.toArray [.ref (bs g 0)]) below meth c H locs 0 0 Q (F0 m 0 ls []) by rw [hH, hLc] at hG; exact hG
  clear hH hLc
  refine lv_aload_n hx hb dX12_image_0 rfl (lv_at hl 0 rfl) ?_
  refine lv_aload_n hx hb dX12_image_1 rfl (lv_at hl 0 rfl) ?_
  refine mcip hf hS (fun r h => va_runV (As := []) (rest := [.ref (bs g 0)]) ⟨hx, hb, hml, hown, hts⟩ (c_X12_ofTown g l σ r h) (cl_X12_201 hts ⟨Nat.le_of_ble_eq_true rfl, Nat.le_of_ble_eq_true rfl⟩) (mpV_12 hZ hT hS hW tz_0 _) rfl rfl hl.1 rfl (lv_room (Nat.le_of_ble_eq_true rfl)) dX12_image_2 ⟨Nat.zero_le _, Nat.zero_le _⟩) (fun r_1 H locs hf hW hS => ?_)
  refine jn1_W (fun (i_2 : Int32) => ∀ (H : Heap) (locs : List Loc) (ls : Array Slot), Wd g 0 81 σ H → va_S (Ag g 0) s.heap H locs → lv_has ls 3 [(0, .ref (bs g 0))] → W p l e (kr 4 123) s m (List.toArray [.ref (bs g 0)]) below meth c H locs 0 0 Q (F0 m 25 ls [.int i_2, .ref (bs g 0)])) hf (fun i_2 hf => ?_) (fun k_3 hk_3 hf => ?_)
  · intro H locs ls hW hS hl
    refine mci hf hS (fun r τ h => va_runV (As := [.int i_2]) (rest := []) ⟨hx, hb, hml, hown, hts⟩ (c_X12_refused g l σ i_2 r τ h) (cl_X12_98 hts ⟨Nat.le_of_ble_eq_true rfl, Nat.le_of_ble_eq_true rfl⟩) (mpV_12 hZ hT hS hW tz_0 _) rfl rfl hl.1 rfl (lv_room (Nat.le_of_ble_eq_true rfl)) dX12_image_25 ⟨Nat.zero_le _, Nat.zero_le _⟩) (fun r_4 σ_5 H locs hf hW hS => ?_)
    refine lv_if_eq (tgt := 33) hx hb dX12_image_28 (by decide) (fun hc => ?_) (fun hc => ?_)
    · have hf := ift hc hf
      refine lv_aload_n hx hb dX12_image_33 rfl (lv_at hl 0 rfl) ?_
      refine gf_12_12 hx hb htg (htg _ lf_X12_124) hown hZ hW tz_0 dX12_image_34 ?_
      refine mnmi hf (fun (x_6 : Int32) hf => ?_)
      refine lv_istore_n (lv' := [(1, .int x_6), (0, .ref (bs g 0))]) hx hb dX12_image_37 rfl hl (by decide) rfl (fun ls hl => ?_)
      refine lv_aload_n hx hb dX12_image_38 rfl (lv_at hl 1 rfl) ?_
      refine lv_dup hx hb dX12_image_39 rfl ?_
      refine gf_12_12 hx hb htg (htg _ lf_X12_124) hown hZ hW tz_0 dX12_image_40 ?_
      refine lv_iconst (v := 1) hx hb dX12_image_43 (by decide) ?_
      refine lv_iadd hx hb dX12_image_44 ?_
      refine pf_12_12 hx hb htg (htg _ lf_X12_124) hown hZ hW hS tz_0 dX12_image_45 hf (fun σ_7 H locs hf hW hS => ?_)
      refine lv_aload_n hx hb dX12_image_48 rfl (lv_at hl 1 rfl) ?_
      refine lv_iload_n hx hb dX12_image_49 rfl (lv_at hl 0 rfl) ?_
      refine mcqp hf hS (fun r h => va_runV (As := [.int x_6]) (rest := []) ⟨hx, hb, hml, hown, hts⟩ (c_X12_pictureOf g l σ_7 x_6 r h) (cl_X12_327 hts ⟨Nat.le_of_ble_eq_true rfl, Nat.le_of_ble_eq_true rfl⟩) (mpV_12 hZ hT hS hW tz_0 _) rfl rfl hl.1 rfl (lv_room (Nat.le_of_ble_eq_true rfl)) dX12_image_50 ⟨Nat.zero_le _, Nat.zero_le _⟩) (fun o_8 H locs ho hf hW hS => ?_)
      cases o_8 with
      | none =>
        have hf := onm_n hf
        refine lv_astore_nN (lv' := [(2, .null), (1, .int x_6), (0, .ref (bs g 0))]) hx hb dX12_image_53 rfl hl (by decide) rfl (fun ls hl => ?_)
        refine lv_aload_nN hx hb dX12_image_54 rfl (lv_at hl 0 rfl) ?_
        refine lv_ifnullN (tgt := 66) hx hb dX12_image_55 (by decide) ?_
        refine lv_iload_n hx hb dX12_image_66 rfl (lv_at hl 1 rfl) ?_
        subst hQ
        exact mri hx hb hr hlocks hZ hT hS hW (pr1 hf) dX12_image_67
      | some T_9 =>
        have tT_9 := bn_X12_pictureOf σ_7 x_6 hW.2 ho
        have hf := onm_s hf
        refine lv_astore_n (lv' := [(2, .ref (bs g T_9)), (1, .int x_6), (0, .ref (bs g 0))]) hx hb dX12_image_53 rfl hl (by decide) rfl (fun ls hl => ?_)
        refine lv_aload_n hx hb dX12_image_54 rfl (lv_at hl 0 rfl) ?_
        refine lv_ifnull hx hb dX12_image_55 ?_
        refine lv_aload_n hx hb dX12_image_58 rfl (lv_at hl 0 rfl) ?_
        refine lv_aload_n hx hb dX12_image_59 rfl (lv_at hl 2 rfl) ?_
        refine gf_12_2 hx hb htg (htg _ lf_X12_40) hown hZ hW tz_0 dX12_image_60 ?_
        refine mcv hf hS (fun τ h => va_runV (As := [.ref (bs g 28)]) (rest := []) ⟨hx, hb, hml, hown, hts⟩ (c_X9_copy g l 0 81 σ_7 T_9 28 tT_9 tz_28 τ h) (cl_X12_230 hts ⟨Nat.le_of_ble_eq_true rfl, Nat.le_of_ble_eq_true rfl⟩) (mpV_9 hZ hT hS hW tT_9 _) rfl rfl hl.1 rfl (lv_room (Nat.le_of_ble_eq_true rfl)) dX12_image_63 ⟨Nat.zero_le _, Nat.zero_le _⟩) (fun σ_10 H locs hf hW hS => ?_)
        refine lv_iload_n hx hb dX12_image_66 rfl (lv_at hl 1 rfl) ?_
        subst hQ
        exact mri hx hb hr hlocks hZ hT hS hW (pr1 hf) dX12_image_67
    · have hf := iff_ hc hf
      refine lv_iconst (v := (-1)) hx hb dX12_image_31 (by decide) ?_
      subst hQ
      exact mri hx hb hr hlocks hZ hT hS hW (pr1 hf) dX12_image_32
  · refine lv_if_eq (tgt := 12) hx hb dX12_image_5 (by decide) (fun hc => ?_) (fun hc => ?_)
    · have hf := ift hc hf
      refine lv_aload_n hx hb dX12_image_12 rfl (lv_at hl 0 rfl) ?_
      refine gf_12_12 hx hb htg (htg _ lf_X12_124) hown hZ hW tz_0 dX12_image_13 ?_
      refine lv_iconst (v := 3) hx hb dX12_image_16 (by decide) ?_
      refine lv_icmp_lt (tgt := 24) hx hb dX12_image_17 (by decide) (fun hc => ?_) (fun hc => ?_)
      · have hf := ift hc hf
        refine lv_iconst (v := 0) hx hb dX12_image_24 (by decide) ?_
        exact hk_3 0 hf H locs ls hW hS (lv_sub hl [0] rfl)
      · have hf := iff_ hc hf
        refine lv_iconst (v := 3) hx hb dX12_image_20 (by decide) ?_
        refine lv_goto (tgt := 25) hx hb dX12_image_21 (by decide) ?_
        exact hk_3 3 hf H locs ls hW hS (lv_sub hl [0] rfl)
    · have hf := iff_ hc hf
      refine lv_iconst (v := 1) hx hb dX12_image_8 (by decide) ?_
      refine lv_goto (tgt := 25) hx hb dX12_image_9 (by decide) ?_
      exact hk_3 1 hf H locs ls hW hS (lv_sub hl [0] rfl)
def f_X12_back (σ : Mem) (a1 : Int32) : Option (Int32 × Mem) :=
  bd1 (f_X12_pictureOf σ a1) (fun (o_1 : Option Nat) => onm o_1 (bd2 (f_X12_refused σ 1) (fun (r_3 : Int32) (σ_4 : Mem) => (if r_3 = 0 then some (1, σ_4) else some (0, σ_4)))) (fun (T_2 : Nat) => bd1 (f_X9_copy σ 28 T_2) (fun (σ_5 : Mem) => bd1 (f_X1_forget σ_5) (fun (σ_6 : Mem) => bd2 (f_X12_refused σ_6 0) (fun (r_7 : Int32) (σ_8 : Mem) => (if r_7 = 0 then some (1, σ_8) else some (0, σ_8)))))))
set_option maxHeartbeats 4000000 in
set_option maxRecDepth 100000 in
theorem c_X12_back (g : XG) (l : Launch) (σ : Mem) (a1 : Int32) (r : Int32) (τ : Mem) (hf : f_X12_back σ a1 = some (r, τ)) : Met l yX12_back (wx (.code yX12_back cX12_back 3 (some .boolean))) (kr 4 123) (va_Pc [.ref (bs g 0), .int a1] (WS g 0 81 σ)) (Qi' g 0 81 r τ) 0 0 (Ag g 0) := by
  refine Met.ofW (cc := cX12_back) (maxL := 3) (ret := (some .boolean)) (by decide) rfl ?_
  intro p e s m args below meth c s₁ B hml hv
  obtain ⟨rfl, hZ, hT, hW⟩ := hv
  have hx := B.exec
  have hb := B.bytes
  have hr := B.returns
  have hts : ∀ w ∈ wx (.code yX12_back cX12_back 3 (some .boolean)), w.before _ s = true := atoms_spec B.pre
  have htg : ∀ w ∈ lwg, w.before _ s = true := fun w h => hts w (List.mem_cons_of_mem _ h)
  have hown : s.vm.findClass RX12 = some m.cls := findClass_of_methodNamed B.named
  have hlocks := B.notSynchronized
  change W p l e (kr 4 123) s m (List.toArray [.ref (bs g 0), .int a1]) below meth c s.heap [] 0 0 (MQ below (Qi' g 0 81 r τ) (List.toArray [.ref (bs g 0), .int a1]) s 0 0 (Ag g 0)) _
  generalize hQ : MQ below (Qi' g 0 81 r τ) (List.toArray [.ref (bs g 0), .int a1]) s 0 0 (Ag g 0) = Q
  have hS : va_S (Ag g 0) s.heap s.heap [] := va_S.rf
  have hl := lv_entry ([.ref (bs g 0), .int a1]) (n := 3) (Nat.le_of_ble_eq_true rfl)
  rw [lg_entry_eq]
  generalize (lg_sl ([.ref (bs g 0), .int a1]) ++ List.replicate (3 - (lg_sl ([.ref (bs g 0), .int a1])).length) Slot.unset).toArray = ls at hl ⊢
  have hl : lv_has ls 3 [(0, .ref (bs g 0)), (1, .int a1)] := hl
  delta f_X12_back at hf
  obtain ⟨H, hH⟩ : ∃ H, H = s.heap := ⟨_, rfl⟩
  obtain ⟨locs, hLc⟩ : ∃ z : List Loc, z = [] := ⟨_, rfl⟩
  have hS : va_S (Ag g 0) s.heap H locs := by rw [hH, hLc]; exact hS
  have hW : Wd g 0 81 σ H := by rw [hH]; exact hW
  suffices hG : W p l e (kr 4 123) s m (List.toArray [.ref (bs g 0), .int a1]) below meth c H locs 0 0 Q (F0 m 0 ls []) by rw [hH, hLc] at hG; exact hG
  clear hH hLc
  refine lv_aload_n hx hb dX12_back_0 rfl (lv_at hl 0 rfl) ?_
  refine lv_iload_n hx hb dX12_back_1 rfl (lv_at hl 1 rfl) ?_
  refine mcqp hf hS (fun r h => va_runV (As := [.int a1]) (rest := []) ⟨hx, hb, hml, hown, hts⟩ (c_X12_pictureOf g l σ a1 r h) (cl_X12_327 hts ⟨Nat.le_of_ble_eq_true rfl, Nat.le_of_ble_eq_true rfl⟩) (mpV_12 hZ hT hS hW tz_0 _) rfl rfl hl.1 rfl (lv_room (Nat.le_of_ble_eq_true rfl)) dX12_back_2 ⟨Nat.zero_le _, Nat.zero_le _⟩) (fun o_1 H locs ho hf hW hS => ?_)
  cases o_1 with
  | none =>
    have hf := onm_n hf
    refine lv_astore_nN (lv' := [(2, .null), (0, .ref (bs g 0)), (1, .int a1)]) hx hb dX12_back_5 rfl hl (by decide) rfl (fun ls hl => ?_)
    refine lv_aload_nN hx hb dX12_back_6 rfl (lv_at hl 0 rfl) ?_
    refine lv_ifnullN (tgt := 25) hx hb dX12_back_7 (by decide) ?_
    refine lv_aload_n hx hb dX12_back_25 rfl (lv_at hl 1 rfl) ?_
    refine lv_aload_nN hx hb dX12_back_26 rfl (lv_at hl 0 rfl) ?_
    refine lv_ifnonnullN hx hb dX12_back_27 ?_
    refine lv_iconst (v := 1) hx hb dX12_back_30 (by decide) ?_
    refine lv_goto (tgt := 35) hx hb dX12_back_31 (by decide) ?_
    refine mci hf hS (fun r τ h => va_runV (As := [.int 1]) (rest := []) ⟨hx, hb, hml, hown, hts⟩ (c_X12_refused g l σ 1 r τ h) (cl_X12_98 hts ⟨Nat.le_of_ble_eq_true rfl, Nat.le_of_ble_eq_true rfl⟩) (mpV_12 hZ hT hS hW tz_0 _) rfl rfl hl.1 rfl (lv_room (Nat.le_of_ble_eq_true rfl)) dX12_back_35 ⟨Nat.zero_le _, Nat.zero_le _⟩) (fun r_3 σ_4 H locs hf hW hS => ?_)
    refine lv_if_ne (tgt := 45) hx hb dX12_back_38 (by decide) (fun hc => ?_) (fun hc => ?_)
    · have hf := iff_ hc hf
      refine lv_iconst (v := 0) hx hb dX12_back_45 (by decide) ?_
      subst hQ
      exact mrz hx hb hr hlocks hZ hT hS hW (by decide) (pr1 hf) dX12_back_46
    · have hf := ift hc hf
      refine lv_iconst (v := 1) hx hb dX12_back_41 (by decide) ?_
      refine lv_goto (tgt := 46) hx hb dX12_back_42 (by decide) ?_
      subst hQ
      exact mrz hx hb hr hlocks hZ hT hS hW (by decide) (pr1 hf) dX12_back_46
  | some T_2 =>
    have tT_2 := bn_X12_pictureOf σ a1 hW.2 ho
    have hf := onm_s hf
    refine lv_astore_n (lv' := [(2, .ref (bs g T_2)), (0, .ref (bs g 0)), (1, .int a1)]) hx hb dX12_back_5 rfl hl (by decide) rfl (fun ls hl => ?_)
    refine lv_aload_n hx hb dX12_back_6 rfl (lv_at hl 0 rfl) ?_
    refine lv_ifnull hx hb dX12_back_7 ?_
    refine lv_aload_n hx hb dX12_back_10 rfl (lv_at hl 1 rfl) ?_
    refine gf_12_2 hx hb htg (htg _ lf_X12_40) hown hZ hW tz_0 dX12_back_11 ?_
    refine lv_aload_n hx hb dX12_back_14 rfl (lv_at hl 0 rfl) ?_
    refine mcv hf hS (fun τ h => va_runV (As := [.ref (bs g T_2)]) (rest := []) ⟨hx, hb, hml, hown, hts⟩ (c_X9_copy g l 0 81 σ 28 T_2 tz_28 tT_2 τ h) (cl_X12_230 hts ⟨Nat.le_of_ble_eq_true rfl, Nat.le_of_ble_eq_true rfl⟩) (mpV_9 hZ hT hS hW tz_28 _) rfl rfl hl.1 rfl (lv_room (Nat.le_of_ble_eq_true rfl)) dX12_back_15 ⟨Nat.zero_le _, Nat.zero_le _⟩) (fun σ_5 H locs hf hW hS => ?_)
    refine lv_aload_n hx hb dX12_back_18 rfl (lv_at hl 1 rfl) ?_
    refine gf_12_5 hx hb htg (htg _ lf_X12_54) hown hZ hW tz_0 dX12_back_19 ?_
    refine mcv hf hS (fun τ h => va_runV (As := []) (rest := []) ⟨hx, hb, hml, hown, hts⟩ (c_X1_forget g l σ_5 τ h) (cl_X12_121 hts ⟨Nat.le_of_ble_eq_true rfl, Nat.le_of_ble_eq_true rfl⟩) (mpV_1 hZ hT hS hW tz_49 _) rfl rfl hl.1 rfl (lv_room (Nat.le_of_ble_eq_true rfl)) dX12_back_22 ⟨Nat.zero_le _, Nat.zero_le _⟩) (fun σ_6 H locs hf hW hS => ?_)
    refine lv_aload_n hx hb dX12_back_25 rfl (lv_at hl 1 rfl) ?_
    refine lv_aload_n hx hb dX12_back_26 rfl (lv_at hl 0 rfl) ?_
    refine lv_ifnonnull (tgt := 34) hx hb dX12_back_27 (by decide) ?_
    refine lv_iconst (v := 0) hx hb dX12_back_34 (by decide) ?_
    refine mci hf hS (fun r τ h => va_runV (As := [.int 0]) (rest := []) ⟨hx, hb, hml, hown, hts⟩ (c_X12_refused g l σ_6 0 r τ h) (cl_X12_98 hts ⟨Nat.le_of_ble_eq_true rfl, Nat.le_of_ble_eq_true rfl⟩) (mpV_12 hZ hT hS hW tz_0 _) rfl rfl hl.1 rfl (lv_room (Nat.le_of_ble_eq_true rfl)) dX12_back_35 ⟨Nat.zero_le _, Nat.zero_le _⟩) (fun r_7 σ_8 H locs hf hW hS => ?_)
    refine lv_if_ne (tgt := 45) hx hb dX12_back_38 (by decide) (fun hc => ?_) (fun hc => ?_)
    · have hf := iff_ hc hf
      refine lv_iconst (v := 0) hx hb dX12_back_45 (by decide) ?_
      subst hQ
      exact mrz hx hb hr hlocks hZ hT hS hW (by decide) (pr1 hf) dX12_back_46
    · have hf := ift hc hf
      refine lv_iconst (v := 1) hx hb dX12_back_41 (by decide) ?_
      refine lv_goto (tgt := 46) hx hb dX12_back_42 (by decide) ?_
      subst hQ
      exact mrz hx hb hr hlocks hZ hT hS hW (by decide) (pr1 hf) dX12_back_46
def f_X12_size (σ : Mem) (a1 : Int32) : Option (Int32) :=
  (if a1 = 0 then rfc (σ.2.2 0 10) (fun (T_15 : Nat) => some (σ.1 T_15 0)) else (if a1 = 1 then rfc (σ.2.2 0 10) (fun (T_14 : Nat) => some (σ.1 T_14 1)) else (if a1 = 2 then rfc (σ.2.2 0 10) (fun (T_13 : Nat) => some (σ.1 T_13 2)) else (if a1 = 3 then rfc (σ.2.2 0 10) (fun (T_12 : Nat) => some (σ.1 T_12 3)) else (if a1 = 4 then rfc (σ.2.2 0 10) (fun (T_10 : Nat) => bd1 (f_X11_people σ T_10) (fun (r_11 : Int32) => some r_11)) else (if a1 = 5 then rfc (σ.2.2 0 10) (fun (T_8 : Nat) => bd1 (f_X11_count σ T_8 2) (fun (r_9 : Int32) => some r_9)) else (if a1 = 6 then bd1 (f_X9_countVisits σ 28) (fun (r_7 : Int32) => some r_7) else (if a1 = 7 then rfc (σ.2.2 0 10) (fun (T_5 : Nat) => bd1 (f_X11_count σ T_5 4) (fun (r_6 : Int32) => some r_6)) else (if a1 = 8 then rfc (σ.2.2 0 10) (fun (T_3 : Nat) => bd1 (f_X11_count σ T_3 5) (fun (r_4 : Int32) => some r_4)) else (if a1 = 9 then rfc (σ.2.2 0 10) (fun (T_1 : Nat) => bd1 (f_X11_count σ T_1 6) (fun (r_2 : Int32) => some r_2)) else (if a1 = 10 then some (σ.1 28 1) else (if a1 = 11 then some (σ.1 28 2) else (if a1 = 12 then some (σ.1 49 1) else (if a1 = 13 then some (σ.1 0 12) else (if a1 = 14 then some (σ.1 1 1) else some (-1))))))))))))))))
set_option maxHeartbeats 4000000 in
set_option maxRecDepth 100000 in
theorem c_X12_size (g : XG) (l : Launch) (σ : Mem) (a1 : Int32) (r : Int32) (hf : f_X12_size σ a1 = some r) : Met l yX12_size (wx (.code yX12_size cX12_size 2 (some .int))) (kr 3 64) (va_Pc [.ref (bs g 0), .int a1] (WS g 0 81 σ)) (Qi' g 0 81 r σ) 0 0 (Ag g 0) := by
  refine Met.ofW (cc := cX12_size) (maxL := 2) (ret := (some .int)) (by decide) rfl ?_
  intro p e s m args below meth c s₁ B hml hv
  obtain ⟨rfl, hZ, hT, hW⟩ := hv
  have hx := B.exec
  have hb := B.bytes
  have hr := B.returns
  have hts : ∀ w ∈ wx (.code yX12_size cX12_size 2 (some .int)), w.before _ s = true := atoms_spec B.pre
  have htg : ∀ w ∈ lwg, w.before _ s = true := fun w h => hts w (List.mem_cons_of_mem _ h)
  have hown : s.vm.findClass RX12 = some m.cls := findClass_of_methodNamed B.named
  have hlocks := B.notSynchronized
  change W p l e (kr 3 64) s m (List.toArray [.ref (bs g 0), .int a1]) below meth c s.heap [] 0 0 (MQ below (Qi' g 0 81 r σ) (List.toArray [.ref (bs g 0), .int a1]) s 0 0 (Ag g 0)) _
  generalize hQ : MQ below (Qi' g 0 81 r σ) (List.toArray [.ref (bs g 0), .int a1]) s 0 0 (Ag g 0) = Q
  have hS : va_S (Ag g 0) s.heap s.heap [] := va_S.rf
  have hl := lv_entry ([.ref (bs g 0), .int a1]) (n := 2) (Nat.le_of_ble_eq_true rfl)
  rw [lg_entry_eq]
  generalize (lg_sl ([.ref (bs g 0), .int a1]) ++ List.replicate (2 - (lg_sl ([.ref (bs g 0), .int a1])).length) Slot.unset).toArray = ls at hl ⊢
  have hl : lv_has ls 2 [(0, .ref (bs g 0)), (1, .int a1)] := hl
  delta f_X12_size at hf
  obtain ⟨H, hH⟩ : ∃ H, H = s.heap := ⟨_, rfl⟩
  obtain ⟨locs, hLc⟩ : ∃ z : List Loc, z = [] := ⟨_, rfl⟩
  have hS : va_S (Ag g 0) s.heap H locs := by rw [hH, hLc]; exact hS
  have hW : Wd g 0 81 σ H := by rw [hH]; exact hW
  suffices hG : W p l e (kr 3 64) s m (List.toArray [.ref (bs g 0), .int a1]) below meth c H locs 0 0 Q (F0 m 0 ls []) by rw [hH, hLc] at hG; exact hG
  clear hH hLc
  refine lv_iload_n hx hb dX12_size_0 rfl (lv_at hl 1 rfl) ?_
  by_cases hn0 : a1 = 0
  · have hf := ift hn0 hf
    refine lv_tableIn (off := 75) (tgt := 76) hx hb dX12_size_1 (by rw [hn0]; decide) (by rw [hn0]; decide) (by rw [hn0]; decide) (by decide) ?_
    refine lv_aload_n hx hb dX12_size_76 rfl (lv_at hl 0 rfl) ?_
    refine gf_12_10 hx hb htg (htg _ lf_X12_19) hown hZ hW tz_0 dX12_size_77 hf (fun T_15 tT_15 hf => ?_)
    refine gfN_11_0 hx hb htg ln_X12_285 hown hZ hW tT_15 dX12_size_80 ?_
    subst hQ
    exact mri hx hb hr hlocks hZ hT hS hW ⟨Option.some.inj hf, rfl⟩ dX12_size_83
  have hf := iff_ hn0 hf
  by_cases hn1 : a1 = 1
  · have hf := ift hn1 hf
    refine lv_tableIn (off := 83) (tgt := 84) hx hb dX12_size_1 (by rw [hn1]; decide) (by rw [hn1]; decide) (by rw [hn1]; decide) (by decide) ?_
    refine lv_aload_n hx hb dX12_size_84 rfl (lv_at hl 0 rfl) ?_
    refine gf_12_10 hx hb htg (htg _ lf_X12_19) hown hZ hW tz_0 dX12_size_85 hf (fun T_14 tT_14 hf => ?_)
    refine gfN_11_1 hx hb htg ln_X12_338 hown hZ hW tT_14 dX12_size_88 ?_
    subst hQ
    exact mri hx hb hr hlocks hZ hT hS hW ⟨Option.some.inj hf, rfl⟩ dX12_size_91
  have hf := iff_ hn1 hf
  by_cases hn2 : a1 = 2
  · have hf := ift hn2 hf
    refine lv_tableIn (off := 91) (tgt := 92) hx hb dX12_size_1 (by rw [hn2]; decide) (by rw [hn2]; decide) (by rw [hn2]; decide) (by decide) ?_
    refine lv_aload_n hx hb dX12_size_92 rfl (lv_at hl 0 rfl) ?_
    refine gf_12_10 hx hb htg (htg _ lf_X12_19) hown hZ hW tz_0 dX12_size_93 hf (fun T_13 tT_13 hf => ?_)
    refine gfN_11_2 hx hb htg ln_X12_341 hown hZ hW tT_13 dX12_size_96 ?_
    subst hQ
    exact mri hx hb hr hlocks hZ hT hS hW ⟨Option.some.inj hf, rfl⟩ dX12_size_99
  have hf := iff_ hn2 hf
  by_cases hn3 : a1 = 3
  · have hf := ift hn3 hf
    refine lv_tableIn (off := 99) (tgt := 100) hx hb dX12_size_1 (by rw [hn3]; decide) (by rw [hn3]; decide) (by rw [hn3]; decide) (by decide) ?_
    refine lv_aload_n hx hb dX12_size_100 rfl (lv_at hl 0 rfl) ?_
    refine gf_12_10 hx hb htg (htg _ lf_X12_19) hown hZ hW tz_0 dX12_size_101 hf (fun T_12 tT_12 hf => ?_)
    refine gfN_11_3 hx hb htg ln_X12_344 hown hZ hW tT_12 dX12_size_104 ?_
    subst hQ
    exact mri hx hb hr hlocks hZ hT hS hW ⟨Option.some.inj hf, rfl⟩ dX12_size_107
  have hf := iff_ hn3 hf
  by_cases hn4 : a1 = 4
  · have hf := ift hn4 hf
    refine lv_tableIn (off := 107) (tgt := 108) hx hb dX12_size_1 (by rw [hn4]; decide) (by rw [hn4]; decide) (by rw [hn4]; decide) (by decide) ?_
    refine lv_aload_n hx hb dX12_size_108 rfl (lv_at hl 0 rfl) ?_
    refine gf_12_10 hx hb htg (htg _ lf_X12_19) hown hZ hW tz_0 dX12_size_109 hf (fun T_10 tT_10 hf => ?_)
    refine mcip hf hS (fun r h => va_runV (As := []) (rest := []) ⟨hx, hb, hml, hown, hts⟩ (c_X11_people g l 0 81 σ T_10 tT_10 r h) (cl_X12_127 hts ⟨Nat.le_of_ble_eq_true rfl, Nat.le_of_ble_eq_true rfl⟩) (mpV_11 hZ hT hS hW tT_10 _) rfl rfl hl.1 rfl (lv_room (Nat.le_of_ble_eq_true rfl)) dX12_size_112 ⟨Nat.zero_le _, Nat.zero_le _⟩) (fun r_11 H locs hf hW hS => ?_)
    subst hQ
    exact mri hx hb hr hlocks hZ hT hS hW ⟨Option.some.inj hf, rfl⟩ dX12_size_115
  have hf := iff_ hn4 hf
  by_cases hn5 : a1 = 5
  · have hf := ift hn5 hf
    refine lv_tableIn (off := 115) (tgt := 116) hx hb dX12_size_1 (by rw [hn5]; decide) (by rw [hn5]; decide) (by rw [hn5]; decide) (by decide) ?_
    refine lv_aload_n hx hb dX12_size_116 rfl (lv_at hl 0 rfl) ?_
    refine gf_12_10 hx hb htg (htg _ lf_X12_19) hown hZ hW tz_0 dX12_size_117 hf (fun T_8 tT_8 hf => ?_)
    refine va_gets hx hb ((hT.1.1.1 2 (by decide)).1.narrow (fun q h => ag_a0 g 0 q h)) hS hown (htg _ lf_X12_347) (fun _ h => h) dX12_size_120 ?_
    refine mcip hf hS (fun r h => va_runV (As := [.ref (adE g 2)]) (rest := []) ⟨hx, hb, hml, hown, hts⟩ (c_X11_count g l 0 81 σ T_8 2 tT_8 (show 2 < 7 by decide) r h) (cl_X12_353 hts ⟨Nat.le_of_ble_eq_true rfl, Nat.le_of_ble_eq_true rfl⟩) (mpV_11 hZ hT hS hW tT_8 _) rfl rfl hl.1 rfl (lv_room (Nat.le_of_ble_eq_true rfl)) dX12_size_123 ⟨Nat.zero_le _, Nat.zero_le _⟩) (fun r_9 H locs hf hW hS => ?_)
    subst hQ
    exact mri hx hb hr hlocks hZ hT hS hW ⟨Option.some.inj hf, rfl⟩ dX12_size_126
  have hf := iff_ hn5 hf
  by_cases hn6 : a1 = 6
  · have hf := ift hn6 hf
    refine lv_tableIn (off := 126) (tgt := 127) hx hb dX12_size_1 (by rw [hn6]; decide) (by rw [hn6]; decide) (by rw [hn6]; decide) (by decide) ?_
    refine lv_aload_n hx hb dX12_size_127 rfl (lv_at hl 0 rfl) ?_
    refine gf_12_2 hx hb htg (htg _ lf_X12_40) hown hZ hW tz_0 dX12_size_128 ?_
    refine mcip hf hS (fun r h => va_runV (As := []) (rest := []) ⟨hx, hb, hml, hown, hts⟩ (c_X9_countVisits g l 0 81 σ 28 tz_28 r h) (cl_X12_356 hts ⟨Nat.le_of_ble_eq_true rfl, Nat.le_of_ble_eq_true rfl⟩) (mpV_9 hZ hT hS hW tz_28 _) rfl rfl hl.1 rfl (lv_room (Nat.le_of_ble_eq_true rfl)) dX12_size_131 ⟨Nat.zero_le _, Nat.zero_le _⟩) (fun r_7 H locs hf hW hS => ?_)
    subst hQ
    exact mri hx hb hr hlocks hZ hT hS hW ⟨Option.some.inj hf, rfl⟩ dX12_size_134
  have hf := iff_ hn6 hf
  by_cases hn7 : a1 = 7
  · have hf := ift hn7 hf
    refine lv_tableIn (off := 134) (tgt := 135) hx hb dX12_size_1 (by rw [hn7]; decide) (by rw [hn7]; decide) (by rw [hn7]; decide) (by decide) ?_
    refine lv_aload_n hx hb dX12_size_135 rfl (lv_at hl 0 rfl) ?_
    refine gf_12_10 hx hb htg (htg _ lf_X12_19) hown hZ hW tz_0 dX12_size_136 hf (fun T_5 tT_5 hf => ?_)
    refine va_gets hx hb ((hT.1.1.1 4 (by decide)).1.narrow (fun q h => ag_a0 g 0 q h)) hS hown (htg _ lf_X12_359) (fun _ h => h) dX12_size_139 ?_
    refine mcip hf hS (fun r h => va_runV (As := [.ref (adE g 4)]) (rest := []) ⟨hx, hb, hml, hown, hts⟩ (c_X11_count g l 0 81 σ T_5 4 tT_5 (show 4 < 7 by decide) r h) (cl_X12_353 hts ⟨Nat.le_of_ble_eq_true rfl, Nat.le_of_ble_eq_true rfl⟩) (mpV_11 hZ hT hS hW tT_5 _) rfl rfl hl.1 rfl (lv_room (Nat.le_of_ble_eq_true rfl)) dX12_size_142 ⟨Nat.zero_le _, Nat.zero_le _⟩) (fun r_6 H locs hf hW hS => ?_)
    subst hQ
    exact mri hx hb hr hlocks hZ hT hS hW ⟨Option.some.inj hf, rfl⟩ dX12_size_145
  have hf := iff_ hn7 hf
  by_cases hn8 : a1 = 8
  · have hf := ift hn8 hf
    refine lv_tableIn (off := 145) (tgt := 146) hx hb dX12_size_1 (by rw [hn8]; decide) (by rw [hn8]; decide) (by rw [hn8]; decide) (by decide) ?_
    refine lv_aload_n hx hb dX12_size_146 rfl (lv_at hl 0 rfl) ?_
    refine gf_12_10 hx hb htg (htg _ lf_X12_19) hown hZ hW tz_0 dX12_size_147 hf (fun T_3 tT_3 hf => ?_)
    refine va_gets hx hb ((hT.1.1.1 5 (by decide)).1.narrow (fun q h => ag_a0 g 0 q h)) hS hown (htg _ lf_X12_362) (fun _ h => h) dX12_size_150 ?_
    refine mcip hf hS (fun r h => va_runV (As := [.ref (adE g 5)]) (rest := []) ⟨hx, hb, hml, hown, hts⟩ (c_X11_count g l 0 81 σ T_3 5 tT_3 (show 5 < 7 by decide) r h) (cl_X12_353 hts ⟨Nat.le_of_ble_eq_true rfl, Nat.le_of_ble_eq_true rfl⟩) (mpV_11 hZ hT hS hW tT_3 _) rfl rfl hl.1 rfl (lv_room (Nat.le_of_ble_eq_true rfl)) dX12_size_153 ⟨Nat.zero_le _, Nat.zero_le _⟩) (fun r_4 H locs hf hW hS => ?_)
    subst hQ
    exact mri hx hb hr hlocks hZ hT hS hW ⟨Option.some.inj hf, rfl⟩ dX12_size_156
  have hf := iff_ hn8 hf
  by_cases hn9 : a1 = 9
  · have hf := ift hn9 hf
    refine lv_tableIn (off := 156) (tgt := 157) hx hb dX12_size_1 (by rw [hn9]; decide) (by rw [hn9]; decide) (by rw [hn9]; decide) (by decide) ?_
    refine lv_aload_n hx hb dX12_size_157 rfl (lv_at hl 0 rfl) ?_
    refine gf_12_10 hx hb htg (htg _ lf_X12_19) hown hZ hW tz_0 dX12_size_158 hf (fun T_1 tT_1 hf => ?_)
    refine va_gets hx hb ((hT.1.1.1 6 (by decide)).1.narrow (fun q h => ag_a0 g 0 q h)) hS hown (htg _ lf_X12_365) (fun _ h => h) dX12_size_161 ?_
    refine mcip hf hS (fun r h => va_runV (As := [.ref (adE g 6)]) (rest := []) ⟨hx, hb, hml, hown, hts⟩ (c_X11_count g l 0 81 σ T_1 6 tT_1 (show 6 < 7 by decide) r h) (cl_X12_353 hts ⟨Nat.le_of_ble_eq_true rfl, Nat.le_of_ble_eq_true rfl⟩) (mpV_11 hZ hT hS hW tT_1 _) rfl rfl hl.1 rfl (lv_room (Nat.le_of_ble_eq_true rfl)) dX12_size_164 ⟨Nat.zero_le _, Nat.zero_le _⟩) (fun r_2 H locs hf hW hS => ?_)
    subst hQ
    exact mri hx hb hr hlocks hZ hT hS hW ⟨Option.some.inj hf, rfl⟩ dX12_size_167
  have hf := iff_ hn9 hf
  by_cases hn10 : a1 = 10
  · have hf := ift hn10 hf
    refine lv_tableIn (off := 167) (tgt := 168) hx hb dX12_size_1 (by rw [hn10]; decide) (by rw [hn10]; decide) (by rw [hn10]; decide) (by decide) ?_
    refine lv_aload_n hx hb dX12_size_168 rfl (lv_at hl 0 rfl) ?_
    refine gf_12_2 hx hb htg (htg _ lf_X12_40) hown hZ hW tz_0 dX12_size_169 ?_
    refine gfN_9_1 hx hb htg ln_X12_311 hown hZ hW tz_28 dX12_size_172 ?_
    subst hQ
    exact mri hx hb hr hlocks hZ hT hS hW ⟨Option.some.inj hf, rfl⟩ dX12_size_175
  have hf := iff_ hn10 hf
  by_cases hn11 : a1 = 11
  · have hf := ift hn11 hf
    refine lv_tableIn (off := 175) (tgt := 176) hx hb dX12_size_1 (by rw [hn11]; decide) (by rw [hn11]; decide) (by rw [hn11]; decide) (by decide) ?_
    refine lv_aload_n hx hb dX12_size_176 rfl (lv_at hl 0 rfl) ?_
    refine gf_12_2 hx hb htg (htg _ lf_X12_40) hown hZ hW tz_0 dX12_size_177 ?_
    refine gfN_9_2 hx hb htg ln_X12_317 hown hZ hW tz_28 dX12_size_180 ?_
    subst hQ
    exact mri hx hb hr hlocks hZ hT hS hW ⟨Option.some.inj hf, rfl⟩ dX12_size_183
  have hf := iff_ hn11 hf
  by_cases hn12 : a1 = 12
  · have hf := ift hn12 hf
    refine lv_tableIn (off := 183) (tgt := 184) hx hb dX12_size_1 (by rw [hn12]; decide) (by rw [hn12]; decide) (by rw [hn12]; decide) (by decide) ?_
    refine lv_aload_n hx hb dX12_size_184 rfl (lv_at hl 0 rfl) ?_
    refine gf_12_5 hx hb htg (htg _ lf_X12_54) hown hZ hW tz_0 dX12_size_185 ?_
    refine gfN_1_1 hx hb htg ln_X12_323 hown hZ hW tz_49 dX12_size_188 ?_
    subst hQ
    exact mri hx hb hr hlocks hZ hT hS hW ⟨Option.some.inj hf, rfl⟩ dX12_size_191
  have hf := iff_ hn12 hf
  by_cases hn13 : a1 = 13
  · have hf := ift hn13 hf
    refine lv_tableIn (off := 191) (tgt := 192) hx hb dX12_size_1 (by rw [hn13]; decide) (by rw [hn13]; decide) (by rw [hn13]; decide) (by decide) ?_
    refine lv_aload_n hx hb dX12_size_192 rfl (lv_at hl 0 rfl) ?_
    refine gf_12_12 hx hb htg (htg _ lf_X12_124) hown hZ hW tz_0 dX12_size_193 ?_
    subst hQ
    exact mri hx hb hr hlocks hZ hT hS hW ⟨Option.some.inj hf, rfl⟩ dX12_size_196
  have hf := iff_ hn13 hf
  by_cases hn14 : a1 = 14
  · have hf := ift hn14 hf
    refine lv_tableIn (off := 196) (tgt := 197) hx hb dX12_size_1 (by rw [hn14]; decide) (by rw [hn14]; decide) (by rw [hn14]; decide) (by decide) ?_
    refine lv_aload_n hx hb dX12_size_197 rfl (lv_at hl 0 rfl) ?_
    refine gf_12_0 hx hb htg (htg _ lf_X12_10) hown hZ hW tz_0 dX12_size_198 ?_
    refine gfN_10_1 hx hb htg ln_X12_94 hown hZ hW tz_1 dX12_size_201 ?_
    subst hQ
    exact mri hx hb hr hlocks hZ hT hS hW ⟨Option.some.inj hf, rfl⟩ dX12_size_204
  have hf := iff_ hn14 hf
  refine lv_tableOut (tgt := 205) hx hb dX12_size_1 (tsw_0_14 hn0 hn1 hn2 hn3 hn4 hn5 hn6 hn7 hn8 hn9 hn10 hn11 hn12 hn13 hn14) (by decide) ?_
  refine lv_iconst (v := (-1)) hx hb dX12_size_205 (by decide) ?_
  subst hQ
  exact mri hx hb hr hlocks hZ hT hS hW ⟨Option.some.inj hf, rfl⟩ dX12_size_206
def f_X12_trouble (σ : Mem)  : Option (Int32) :=
  some (σ.1 0 13)
set_option maxHeartbeats 4000000 in
set_option maxRecDepth 100000 in
theorem c_X12_trouble (g : XG) (l : Launch) (σ : Mem) (r : Int32) (hf : f_X12_trouble σ = some r) : Met l yX12_trouble (wx (.code yX12_trouble cX12_trouble 1 (some .int))) (kr 0 0) (va_Pc [.ref (bs g 0)] (WS g 0 81 σ)) (Qi' g 0 81 r σ) 0 0 (Ag g 0) := by
  refine Met.ofW (cc := cX12_trouble) (maxL := 1) (ret := (some .int)) (by decide) rfl ?_
  intro p e s m args below meth c s₁ B hml hv
  obtain ⟨rfl, hZ, hT, hW⟩ := hv
  have hx := B.exec
  have hb := B.bytes
  have hr := B.returns
  have hts : ∀ w ∈ wx (.code yX12_trouble cX12_trouble 1 (some .int)), w.before _ s = true := atoms_spec B.pre
  have htg : ∀ w ∈ lwg, w.before _ s = true := fun w h => hts w (List.mem_cons_of_mem _ h)
  have hown : s.vm.findClass RX12 = some m.cls := findClass_of_methodNamed B.named
  have hlocks := B.notSynchronized
  change W p l e (kr 0 0) s m (List.toArray [.ref (bs g 0)]) below meth c s.heap [] 0 0 (MQ below (Qi' g 0 81 r σ) (List.toArray [.ref (bs g 0)]) s 0 0 (Ag g 0)) _
  generalize hQ : MQ below (Qi' g 0 81 r σ) (List.toArray [.ref (bs g 0)]) s 0 0 (Ag g 0) = Q
  have hS : va_S (Ag g 0) s.heap s.heap [] := va_S.rf
  have hl := lv_entry ([.ref (bs g 0)]) (n := 1) (Nat.le_of_ble_eq_true rfl)
  rw [lg_entry_eq]
  generalize (lg_sl ([.ref (bs g 0)]) ++ List.replicate (1 - (lg_sl ([.ref (bs g 0)])).length) Slot.unset).toArray = ls at hl ⊢
  have hl : lv_has ls 1 [(0, .ref (bs g 0))] := hl
  delta f_X12_trouble at hf
  obtain ⟨H, hH⟩ : ∃ H, H = s.heap := ⟨_, rfl⟩
  obtain ⟨locs, hLc⟩ : ∃ z : List Loc, z = [] := ⟨_, rfl⟩
  have hS : va_S (Ag g 0) s.heap H locs := by rw [hH, hLc]; exact hS
  have hW : Wd g 0 81 σ H := by rw [hH]; exact hW
  suffices hG : W p l e (kr 0 0) s m (List.toArray [.ref (bs g 0)]) below meth c H locs 0 0 Q (F0 m 0 ls []) by rw [hH, hLc] at hG; exact hG
  clear hH hLc
  refine lv_aload_n hx hb dX12_trouble_0 rfl (lv_at hl 0 rfl) ?_
  refine gf_12_13 hx hb htg (htg _ lf_X12_131) hown hZ hW tz_0 dX12_trouble_1 ?_
  subst hQ
  exact mri hx hb hr hlocks hZ hT hS hW ⟨Option.some.inj hf, rfl⟩ dX12_trouble_4
def f_X13_thrown (σ : Mem)  : Option (Int32) :=
  some (σ.1 64 0)
set_option maxHeartbeats 4000000 in
set_option maxRecDepth 100000 in
theorem c_X13_thrown (g : XG) (l : Launch) (σ : Mem) (r : Int32) (hf : f_X13_thrown σ = some r) : Met l yX13_thrown (wx (.code yX13_thrown cX13_thrown 1 (some .int))) (kr 0 0) (va_Pc [.ref (bs g 64)] (WS g 0 81 σ)) (Qi' g 0 81 r σ) 0 0 (Ag g 0) := by
  refine Met.ofW (cc := cX13_thrown) (maxL := 1) (ret := (some .int)) (by decide) rfl ?_
  intro p e s m args below meth c s₁ B hml hv
  obtain ⟨rfl, hZ, hT, hW⟩ := hv
  have hx := B.exec
  have hb := B.bytes
  have hr := B.returns
  have hts : ∀ w ∈ wx (.code yX13_thrown cX13_thrown 1 (some .int)), w.before _ s = true := atoms_spec B.pre
  have htg : ∀ w ∈ lwg, w.before _ s = true := fun w h => hts w (List.mem_cons_of_mem _ h)
  have hown : s.vm.findClass RX13 = some m.cls := findClass_of_methodNamed B.named
  have hlocks := B.notSynchronized
  change W p l e (kr 0 0) s m (List.toArray [.ref (bs g 64)]) below meth c s.heap [] 0 0 (MQ below (Qi' g 0 81 r σ) (List.toArray [.ref (bs g 64)]) s 0 0 (Ag g 0)) _
  generalize hQ : MQ below (Qi' g 0 81 r σ) (List.toArray [.ref (bs g 64)]) s 0 0 (Ag g 0) = Q
  have hS : va_S (Ag g 0) s.heap s.heap [] := va_S.rf
  have hl := lv_entry ([.ref (bs g 64)]) (n := 1) (Nat.le_of_ble_eq_true rfl)
  rw [lg_entry_eq]
  generalize (lg_sl ([.ref (bs g 64)]) ++ List.replicate (1 - (lg_sl ([.ref (bs g 64)])).length) Slot.unset).toArray = ls at hl ⊢
  have hl : lv_has ls 1 [(0, .ref (bs g 64))] := hl
  delta f_X13_thrown at hf
  obtain ⟨H, hH⟩ : ∃ H, H = s.heap := ⟨_, rfl⟩
  obtain ⟨locs, hLc⟩ : ∃ z : List Loc, z = [] := ⟨_, rfl⟩
  have hS : va_S (Ag g 0) s.heap H locs := by rw [hH, hLc]; exact hS
  have hW : Wd g 0 81 σ H := by rw [hH]; exact hW
  suffices hG : W p l e (kr 0 0) s m (List.toArray [.ref (bs g 64)]) below meth c H locs 0 0 Q (F0 m 0 ls []) by rw [hH, hLc] at hG; exact hG
  clear hH hLc
  refine lv_aload_n hx hb dX13_thrown_0 rfl (lv_at hl 0 rfl) ?_
  refine gf_13_0 hx hb htg (htg _ lf_X13_59) hown hZ hW tz_64 dX13_thrown_1 ?_
  subst hQ
  exact mri hx hb hr hlocks hZ hT hS hW ⟨Option.some.inj hf, rfl⟩ dX13_thrown_4
def f_X13_good (σ : Mem)  : Option (Mem) :=
  nm (sI σ 64 0 0) (fun (σ_1 : Mem) => nm (sI σ_1 64 11 0) (fun (σ_2 : Mem) => some σ_2))
set_option maxHeartbeats 4000000 in
set_option maxRecDepth 100000 in
theorem c_X13_good (g : XG) (l : Launch) (σ : Mem) (τ : Mem) (hf : f_X13_good σ = some τ) : Met l yX13_good (wx (.code yX13_good cX13_good 1 none)) (kr 0 0) (va_Pc [.ref (bs g 64)] (WS g 0 81 σ)) (Qv' g 0 81 τ) 0 0 (Ag g 0) := by
  refine Met.ofW (cc := cX13_good) (maxL := 1) (ret := none) (by decide) rfl ?_
  intro p e s m args below meth c s₁ B hml hv
  obtain ⟨rfl, hZ, hT, hW⟩ := hv
  have hx := B.exec
  have hb := B.bytes
  have hr := B.returns
  have hts : ∀ w ∈ wx (.code yX13_good cX13_good 1 none), w.before _ s = true := atoms_spec B.pre
  have htg : ∀ w ∈ lwg, w.before _ s = true := fun w h => hts w (List.mem_cons_of_mem _ h)
  have hown : s.vm.findClass RX13 = some m.cls := findClass_of_methodNamed B.named
  have hlocks := B.notSynchronized
  change W p l e (kr 0 0) s m (List.toArray [.ref (bs g 64)]) below meth c s.heap [] 0 0 (MQ below (Qv' g 0 81 τ) (List.toArray [.ref (bs g 64)]) s 0 0 (Ag g 0)) _
  generalize hQ : MQ below (Qv' g 0 81 τ) (List.toArray [.ref (bs g 64)]) s 0 0 (Ag g 0) = Q
  have hS : va_S (Ag g 0) s.heap s.heap [] := va_S.rf
  have hl := lv_entry ([.ref (bs g 64)]) (n := 1) (Nat.le_of_ble_eq_true rfl)
  rw [lg_entry_eq]
  generalize (lg_sl ([.ref (bs g 64)]) ++ List.replicate (1 - (lg_sl ([.ref (bs g 64)])).length) Slot.unset).toArray = ls at hl ⊢
  have hl : lv_has ls 1 [(0, .ref (bs g 64))] := hl
  delta f_X13_good at hf
  obtain ⟨H, hH⟩ : ∃ H, H = s.heap := ⟨_, rfl⟩
  obtain ⟨locs, hLc⟩ : ∃ z : List Loc, z = [] := ⟨_, rfl⟩
  have hS : va_S (Ag g 0) s.heap H locs := by rw [hH, hLc]; exact hS
  have hW : Wd g 0 81 σ H := by rw [hH]; exact hW
  suffices hG : W p l e (kr 0 0) s m (List.toArray [.ref (bs g 64)]) below meth c H locs 0 0 Q (F0 m 0 ls []) by rw [hH, hLc] at hG; exact hG
  clear hH hLc
  refine lv_aload_n hx hb dX13_good_0 rfl (lv_at hl 0 rfl) ?_
  refine lv_iconst (v := 0) hx hb dX13_good_1 (by decide) ?_
  refine pf_13_0 hx hb htg (htg _ lf_X13_59) hown hZ hW hS tz_64 dX13_good_2 hf (fun σ_1 H locs hf hW hS => ?_)
  refine lv_aload_n hx hb dX13_good_5 rfl (lv_at hl 0 rfl) ?_
  refine lv_iconst (v := 0) hx hb dX13_good_6 (by decide) ?_
  refine pf_13_11 hx hb htg (htg _ lf_X13_62) hown hZ hW hS tz_64 dX13_good_7 hf (fun σ_2 H locs hf hW hS => ?_)
  subst hQ
  exact mrv hx hb hr hlocks hZ hT hS hW (Option.some.inj hf) dX13_good_10
def f_X13_no (σ : Mem) (a1 : Int32) : Option (Int32 × Mem) :=
  nm (sI σ 64 11 a1) (fun (σ_1 : Mem) => some ((-1), σ_1))
set_option maxHeartbeats 4000000 in
set_option maxRecDepth 100000 in
theorem c_X13_no (g : XG) (l : Launch) (σ : Mem) (a1 : Int32) (r : Int32) (τ : Mem) (hf : f_X13_no σ a1 = some (r, τ)) : Met l yX13_no (wx (.code yX13_no cX13_no 2 (some .int))) (kr 0 0) (va_Pc [.ref (bs g 64), .int a1] (WS g 0 81 σ)) (Qi' g 0 81 r τ) 0 0 (Ag g 0) := by
  refine Met.ofW (cc := cX13_no) (maxL := 2) (ret := (some .int)) (by decide) rfl ?_
  intro p e s m args below meth c s₁ B hml hv
  obtain ⟨rfl, hZ, hT, hW⟩ := hv
  have hx := B.exec
  have hb := B.bytes
  have hr := B.returns
  have hts : ∀ w ∈ wx (.code yX13_no cX13_no 2 (some .int)), w.before _ s = true := atoms_spec B.pre
  have htg : ∀ w ∈ lwg, w.before _ s = true := fun w h => hts w (List.mem_cons_of_mem _ h)
  have hown : s.vm.findClass RX13 = some m.cls := findClass_of_methodNamed B.named
  have hlocks := B.notSynchronized
  change W p l e (kr 0 0) s m (List.toArray [.ref (bs g 64), .int a1]) below meth c s.heap [] 0 0 (MQ below (Qi' g 0 81 r τ) (List.toArray [.ref (bs g 64), .int a1]) s 0 0 (Ag g 0)) _
  generalize hQ : MQ below (Qi' g 0 81 r τ) (List.toArray [.ref (bs g 64), .int a1]) s 0 0 (Ag g 0) = Q
  have hS : va_S (Ag g 0) s.heap s.heap [] := va_S.rf
  have hl := lv_entry ([.ref (bs g 64), .int a1]) (n := 2) (Nat.le_of_ble_eq_true rfl)
  rw [lg_entry_eq]
  generalize (lg_sl ([.ref (bs g 64), .int a1]) ++ List.replicate (2 - (lg_sl ([.ref (bs g 64), .int a1])).length) Slot.unset).toArray = ls at hl ⊢
  have hl : lv_has ls 2 [(0, .ref (bs g 64)), (1, .int a1)] := hl
  delta f_X13_no at hf
  obtain ⟨H, hH⟩ : ∃ H, H = s.heap := ⟨_, rfl⟩
  obtain ⟨locs, hLc⟩ : ∃ z : List Loc, z = [] := ⟨_, rfl⟩
  have hS : va_S (Ag g 0) s.heap H locs := by rw [hH, hLc]; exact hS
  have hW : Wd g 0 81 σ H := by rw [hH]; exact hW
  suffices hG : W p l e (kr 0 0) s m (List.toArray [.ref (bs g 64), .int a1]) below meth c H locs 0 0 Q (F0 m 0 ls []) by rw [hH, hLc] at hG; exact hG
  clear hH hLc
  refine lv_aload_n hx hb dX13_no_0 rfl (lv_at hl 0 rfl) ?_
  refine lv_iload_n hx hb dX13_no_1 rfl (lv_at hl 1 rfl) ?_
  refine pf_13_11 hx hb htg (htg _ lf_X13_62) hown hZ hW hS tz_64 dX13_no_2 hf (fun σ_1 H locs hf hW hS => ?_)
  refine lv_iconst (v := (-1)) hx hb dX13_no_5 (by decide) ?_
  subst hQ
  exact mri hx hb hr hlocks hZ hT hS hW (pr1 hf) dX13_no_6
def f_X13_isNot (σ : Mem) (a1 : Int32) : Option (Int32 × Mem) :=
  nm (sI σ 64 11 a1) (fun (σ_1 : Mem) => some (0, σ_1))
set_option maxHeartbeats 4000000 in
set_option maxRecDepth 100000 in
theorem c_X13_isNot (g : XG) (l : Launch) (σ : Mem) (a1 : Int32) (r : Int32) (τ : Mem) (hf : f_X13_isNot σ a1 = some (r, τ)) : Met l yX13_isNot (wx (.code yX13_isNot cX13_isNot 2 (some .boolean))) (kr 0 0) (va_Pc [.ref (bs g 64), .int a1] (WS g 0 81 σ)) (Qi' g 0 81 r τ) 0 0 (Ag g 0) := by
  refine Met.ofW (cc := cX13_isNot) (maxL := 2) (ret := (some .boolean)) (by decide) rfl ?_
  intro p e s m args below meth c s₁ B hml hv
  obtain ⟨rfl, hZ, hT, hW⟩ := hv
  have hx := B.exec
  have hb := B.bytes
  have hr := B.returns
  have hts : ∀ w ∈ wx (.code yX13_isNot cX13_isNot 2 (some .boolean)), w.before _ s = true := atoms_spec B.pre
  have htg : ∀ w ∈ lwg, w.before _ s = true := fun w h => hts w (List.mem_cons_of_mem _ h)
  have hown : s.vm.findClass RX13 = some m.cls := findClass_of_methodNamed B.named
  have hlocks := B.notSynchronized
  change W p l e (kr 0 0) s m (List.toArray [.ref (bs g 64), .int a1]) below meth c s.heap [] 0 0 (MQ below (Qi' g 0 81 r τ) (List.toArray [.ref (bs g 64), .int a1]) s 0 0 (Ag g 0)) _
  generalize hQ : MQ below (Qi' g 0 81 r τ) (List.toArray [.ref (bs g 64), .int a1]) s 0 0 (Ag g 0) = Q
  have hS : va_S (Ag g 0) s.heap s.heap [] := va_S.rf
  have hl := lv_entry ([.ref (bs g 64), .int a1]) (n := 2) (Nat.le_of_ble_eq_true rfl)
  rw [lg_entry_eq]
  generalize (lg_sl ([.ref (bs g 64), .int a1]) ++ List.replicate (2 - (lg_sl ([.ref (bs g 64), .int a1])).length) Slot.unset).toArray = ls at hl ⊢
  have hl : lv_has ls 2 [(0, .ref (bs g 64)), (1, .int a1)] := hl
  delta f_X13_isNot at hf
  obtain ⟨H, hH⟩ : ∃ H, H = s.heap := ⟨_, rfl⟩
  obtain ⟨locs, hLc⟩ : ∃ z : List Loc, z = [] := ⟨_, rfl⟩
  have hS : va_S (Ag g 0) s.heap H locs := by rw [hH, hLc]; exact hS
  have hW : Wd g 0 81 σ H := by rw [hH]; exact hW
  suffices hG : W p l e (kr 0 0) s m (List.toArray [.ref (bs g 64), .int a1]) below meth c H locs 0 0 Q (F0 m 0 ls []) by rw [hH, hLc] at hG; exact hG
  clear hH hLc
  refine lv_aload_n hx hb dX13_isNot_0 rfl (lv_at hl 0 rfl) ?_
  refine lv_iload_n hx hb dX13_isNot_1 rfl (lv_at hl 1 rfl) ?_
  refine pf_13_11 hx hb htg (htg _ lf_X13_62) hown hZ hW hS tz_64 dX13_isNot_2 hf (fun σ_1 H locs hf hW hS => ?_)
  refine lv_iconst (v := 0) hx hb dX13_isNot_5 (by decide) ?_
  subst hQ
  exact mrz hx hb hr hlocks hZ hT hS hW (by decide) (pr1 hf) dX13_isNot_6
def f_X13_in (a0 : Int32) (a1 : Int32) (a2 : Int32) : Option (Int32) :=
  jn0 (some 0) (fun k_1 => (if a0 < a1 then k_1 else (if a2 < a0 then k_1 else some 1)))
set_option maxHeartbeats 4000000 in
set_option maxRecDepth 100000 in
theorem c_X13_in (g : XG) (l : Launch) (lo n : Nat) (σ : Mem) (a0 : Int32) (a1 : Int32) (a2 : Int32) (r : Int32) (hf : f_X13_in a0 a1 a2 = some r) : Met l yX13_in (wx (.code yX13_in cX13_in 3 (some .boolean))) (kr 0 0) (va_Pc [.int a0, .int a1, .int a2] (WS g lo n σ)) (Qi' g lo n r σ) 0 0 (Ag g lo) := by
  refine Met.ofW (cc := cX13_in) (maxL := 3) (ret := (some .boolean)) (by decide) rfl ?_
  intro p e s m args below meth c s₁ B hml hv
  obtain ⟨rfl, hZ, hT, hW⟩ := hv
  have hx := B.exec
  have hb := B.bytes
  have hr := B.returns
  have hts : ∀ w ∈ wx (.code yX13_in cX13_in 3 (some .boolean)), w.before _ s = true := atoms_spec B.pre
  have htg : ∀ w ∈ lwg, w.before _ s = true := fun w h => hts w (List.mem_cons_of_mem _ h)
  have hown : s.vm.findClass RX13 = some m.cls := findClass_of_methodNamed B.named
  have hlocks := B.notSynchronized
  change W p l e (kr 0 0) s m (List.toArray [.int a0, .int a1, .int a2]) below meth c s.heap [] 0 0 (MQ below (Qi' g lo n r σ) (List.toArray [.int a0, .int a1, .int a2]) s 0 0 (Ag g lo)) _
  generalize hQ : MQ below (Qi' g lo n r σ) (List.toArray [.int a0, .int a1, .int a2]) s 0 0 (Ag g lo) = Q
  have hS : va_S (Ag g lo) s.heap s.heap [] := va_S.rf
  have hl := lv_entry ([.int a0, .int a1, .int a2]) (n := 3) (Nat.le_of_ble_eq_true rfl)
  rw [lg_entry_eq]
  generalize (lg_sl ([.int a0, .int a1, .int a2]) ++ List.replicate (3 - (lg_sl ([.int a0, .int a1, .int a2])).length) Slot.unset).toArray = ls at hl ⊢
  have hl : lv_has ls 3 [(0, .int a0), (1, .int a1), (2, .int a2)] := hl
  delta f_X13_in at hf
  obtain ⟨H, hH⟩ : ∃ H, H = s.heap := ⟨_, rfl⟩
  obtain ⟨locs, hLc⟩ : ∃ z : List Loc, z = [] := ⟨_, rfl⟩
  have hS : va_S (Ag g lo) s.heap H locs := by rw [hH, hLc]; exact hS
  have hW : Wd g lo n σ H := by rw [hH]; exact hW
  suffices hG : W p l e (kr 0 0) s m (List.toArray [.int a0, .int a1, .int a2]) below meth c H locs 0 0 Q (F0 m 0 ls []) by rw [hH, hLc] at hG; exact hG
  clear hH hLc
  refine lv_iload_n hx hb dX13_in_0 rfl (lv_at hl 0 rfl) ?_
  refine lv_iload_n hx hb dX13_in_1 rfl (lv_at hl 1 rfl) ?_
  refine jn0_W (∀ (H : Heap) (locs : List Loc) (ls : Array Slot), Wd g lo n σ H → va_S (Ag g lo) s.heap H locs → lv_has ls 3 [] → W p l e (kr 0 0) s m (List.toArray [.int a0, .int a1, .int a2]) below meth c H locs 0 0 Q (F0 m 14 ls [])) hf (fun  hf => ?_) (fun k_1 hk_1 hf => ?_)
  · intro H locs ls hW hS hl
    refine lv_iconst (v := 0) hx hb dX13_in_14 (by decide) ?_
    subst hQ
    exact mrz hx hb hr hlocks hZ hT hS hW (by decide) ⟨Option.some.inj hf, rfl⟩ dX13_in_15
  · refine lv_icmp_lt (tgt := 14) hx hb dX13_in_2 (by decide) (fun hc => ?_) (fun hc => ?_)
    · have hf := ift hc hf
      exact hk_1  hf H locs ls hW hS (lv_sub hl [] rfl)
    · have hf := iff_ hc hf
      refine lv_iload_n hx hb dX13_in_5 rfl (lv_at hl 0 rfl) ?_
      refine lv_iload_n hx hb dX13_in_6 rfl (lv_at hl 2 rfl) ?_
      refine lv_icmp_gt (tgt := 14) hx hb dX13_in_7 (by decide) (fun hc => ?_) (fun hc => ?_)
      · have hf := ift hc hf
        exact hk_1  hf H locs ls hW hS (lv_sub hl [] rfl)
      · have hf := iff_ hc hf
        refine lv_iconst (v := 1) hx hb dX13_in_10 (by decide) ?_
        refine lv_goto (tgt := 15) hx hb dX13_in_11 (by decide) ?_
        subst hQ
        exact mrz hx hb hr hlocks hZ hT hS hW (by decide) ⟨Option.some.inj hf, rfl⟩ dX13_in_15
def f_X13_hasBit (a0 : Int32) (a1 : Int32) : Option (Int32) :=
  (if ((a0 >>> (a1 &&& 31)) &&& 1) = 1 then some 1 else some 0)
set_option maxHeartbeats 4000000 in
set_option maxRecDepth 100000 in
theorem c_X13_hasBit (g : XG) (l : Launch) (lo n : Nat) (σ : Mem) (a0 : Int32) (a1 : Int32) (r : Int32) (hf : f_X13_hasBit a0 a1 = some r) : Met l yX13_hasBit (wx (.code yX13_hasBit cX13_hasBit 2 (some .boolean))) (kr 0 0) (va_Pc [.int a0, .int a1] (WS g lo n σ)) (Qi' g lo n r σ) 0 0 (Ag g lo) := by
  refine Met.ofW (cc := cX13_hasBit) (maxL := 2) (ret := (some .boolean)) (by decide) rfl ?_
  intro p e s m args below meth c s₁ B hml hv
  obtain ⟨rfl, hZ, hT, hW⟩ := hv
  have hx := B.exec
  have hb := B.bytes
  have hr := B.returns
  have hts : ∀ w ∈ wx (.code yX13_hasBit cX13_hasBit 2 (some .boolean)), w.before _ s = true := atoms_spec B.pre
  have htg : ∀ w ∈ lwg, w.before _ s = true := fun w h => hts w (List.mem_cons_of_mem _ h)
  have hown : s.vm.findClass RX13 = some m.cls := findClass_of_methodNamed B.named
  have hlocks := B.notSynchronized
  change W p l e (kr 0 0) s m (List.toArray [.int a0, .int a1]) below meth c s.heap [] 0 0 (MQ below (Qi' g lo n r σ) (List.toArray [.int a0, .int a1]) s 0 0 (Ag g lo)) _
  generalize hQ : MQ below (Qi' g lo n r σ) (List.toArray [.int a0, .int a1]) s 0 0 (Ag g lo) = Q
  have hS : va_S (Ag g lo) s.heap s.heap [] := va_S.rf
  have hl := lv_entry ([.int a0, .int a1]) (n := 2) (Nat.le_of_ble_eq_true rfl)
  rw [lg_entry_eq]
  generalize (lg_sl ([.int a0, .int a1]) ++ List.replicate (2 - (lg_sl ([.int a0, .int a1])).length) Slot.unset).toArray = ls at hl ⊢
  have hl : lv_has ls 2 [(0, .int a0), (1, .int a1)] := hl
  delta f_X13_hasBit at hf
  obtain ⟨H, hH⟩ : ∃ H, H = s.heap := ⟨_, rfl⟩
  obtain ⟨locs, hLc⟩ : ∃ z : List Loc, z = [] := ⟨_, rfl⟩
  have hS : va_S (Ag g lo) s.heap H locs := by rw [hH, hLc]; exact hS
  have hW : Wd g lo n σ H := by rw [hH]; exact hW
  suffices hG : W p l e (kr 0 0) s m (List.toArray [.int a0, .int a1]) below meth c H locs 0 0 Q (F0 m 0 ls []) by rw [hH, hLc] at hG; exact hG
  clear hH hLc
  refine lv_iload_n hx hb dX13_hasBit_0 rfl (lv_at hl 0 rfl) ?_
  refine lv_iload_n hx hb dX13_hasBit_1 rfl (lv_at hl 1 rfl) ?_
  refine lv_ishr hx hb dX13_hasBit_2 ?_
  refine lv_iconst (v := 1) hx hb dX13_hasBit_3 (by decide) ?_
  refine lv_iand hx hb dX13_hasBit_4 ?_
  refine lv_iconst (v := 1) hx hb dX13_hasBit_5 (by decide) ?_
  refine lv_icmp_ne (tgt := 13) hx hb dX13_hasBit_6 (by decide) (fun hc => ?_) (fun hc => ?_)
  · have hf := iff_ hc hf
    refine lv_iconst (v := 0) hx hb dX13_hasBit_13 (by decide) ?_
    subst hQ
    exact mrz hx hb hr hlocks hZ hT hS hW (by decide) ⟨Option.some.inj hf, rfl⟩ dX13_hasBit_14
  · have hf := ift hc hf
    refine lv_iconst (v := 1) hx hb dX13_hasBit_9 (by decide) ?_
    refine lv_goto (tgt := 14) hx hb dX13_hasBit_10 (by decide) ?_
    subst hQ
    exact mrz hx hb hr hlocks hZ hT hS hW (by decide) ⟨Option.some.inj hf, rfl⟩ dX13_hasBit_14
def f_X13_ones (a0 : Int32) : Option (Int32) :=
  fx2 FU (fun k_3 (i_1 : Int32) (i_2 : Int32) => (if 8 ≤ i_2 then some i_1 else nm (i_1 + ((a0 >>> (i_2 &&& 31)) &&& 1)) (fun (x_4 : Int32) => nm (i_2 + 1) (fun (x_5 : Int32) => k_3 x_4 x_5)))) 0 0
set_option maxHeartbeats 4000000 in
set_option maxRecDepth 100000 in
theorem c_X13_ones (g : XG) (l : Launch) (lo n : Nat) (σ : Mem) (a0 : Int32) (r : Int32) (hf : f_X13_ones a0 = some r) : Met l yX13_ones (wx (.code yX13_ones cX13_ones 3 (some .int))) (kr 0 0) (va_Pc [.int a0] (WS g lo n σ)) (Qi' g lo n r σ) 0 0 (Ag g lo) := by
  refine Met.ofW (cc := cX13_ones) (maxL := 3) (ret := (some .int)) (by decide) rfl ?_
  intro p e s m args below meth c s₁ B hml hv
  obtain ⟨rfl, hZ, hT, hW⟩ := hv
  have hx := B.exec
  have hb := B.bytes
  have hr := B.returns
  have hts : ∀ w ∈ wx (.code yX13_ones cX13_ones 3 (some .int)), w.before _ s = true := atoms_spec B.pre
  have htg : ∀ w ∈ lwg, w.before _ s = true := fun w h => hts w (List.mem_cons_of_mem _ h)
  have hown : s.vm.findClass RX13 = some m.cls := findClass_of_methodNamed B.named
  have hlocks := B.notSynchronized
  change W p l e (kr 0 0) s m (List.toArray [.int a0]) below meth c s.heap [] 0 0 (MQ below (Qi' g lo n r σ) (List.toArray [.int a0]) s 0 0 (Ag g lo)) _
  generalize hQ : MQ below (Qi' g lo n r σ) (List.toArray [.int a0]) s 0 0 (Ag g lo) = Q
  have hS : va_S (Ag g lo) s.heap s.heap [] := va_S.rf
  have hl := lv_entry ([.int a0]) (n := 3) (Nat.le_of_ble_eq_true rfl)
  rw [lg_entry_eq]
  generalize (lg_sl ([.int a0]) ++ List.replicate (3 - (lg_sl ([.int a0])).length) Slot.unset).toArray = ls at hl ⊢
  have hl : lv_has ls 3 [(0, .int a0)] := hl
  delta f_X13_ones at hf
  obtain ⟨H, hH⟩ : ∃ H, H = s.heap := ⟨_, rfl⟩
  obtain ⟨locs, hLc⟩ : ∃ z : List Loc, z = [] := ⟨_, rfl⟩
  have hS : va_S (Ag g lo) s.heap H locs := by rw [hH, hLc]; exact hS
  have hW : Wd g lo n σ H := by rw [hH]; exact hW
  suffices hG : W p l e (kr 0 0) s m (List.toArray [.int a0]) below meth c H locs 0 0 Q (F0 m 0 ls []) by rw [hH, hLc] at hG; exact hG
  clear hH hLc
  refine lv_iconst (v := 0) hx hb dX13_ones_0 (by decide) ?_
  refine lv_istore_n (lv' := [(1, .int 0), (0, .int a0)]) hx hb dX13_ones_1 rfl hl (by decide) rfl (fun ls hl => ?_)
  refine lv_iconst (v := 0) hx hb dX13_ones_2 (by decide) ?_
  refine lv_istore_n (lv' := [(2, .int 0), (1, .int 0), (0, .int a0)]) hx hb dX13_ones_3 rfl hl (by decide) rfl (fun ls hl => ?_)
  refine fx2_W (fun (i_1 : Int32) (i_2 : Int32) => ∀ (H : Heap) (locs : List Loc) (ls : Array Slot), Wd g lo n σ H → va_S (Ag g lo) s.heap H locs → lv_has ls 3 [(0, .int a0), (1, .int i_1), (2, .int i_2)] → W p l e (kr 0 0) s m (List.toArray [.int a0]) below meth c H locs 0 0 Q (F0 m 4 ls [])) (fun k_3 hk_3 i_1 i_2 hf => ?_) FU 0 0 hf H locs ls hW hS (lv_sub hl [2, 1, 0] rfl)
  intro H locs ls hW hS hl
  refine lv_iload_n hx hb dX13_ones_4 rfl (lv_at hl 2 rfl) ?_
  refine lv_bipush (v := 8) hx hb dX13_ones_5 (by decide) ?_
  refine lv_icmp_ge (tgt := 24) hx hb dX13_ones_7 (by decide) (fun hc => ?_) (fun hc => ?_)
  · have hf := ift hc hf
    refine lv_iload_n hx hb dX13_ones_24 rfl (lv_at hl 1 rfl) ?_
    subst hQ
    exact mri hx hb hr hlocks hZ hT hS hW ⟨Option.some.inj hf, rfl⟩ dX13_ones_25
  · have hf := iff_ hc hf
    refine lv_iload_n hx hb dX13_ones_10 rfl (lv_at hl 1 rfl) ?_
    refine lv_iload_n hx hb dX13_ones_11 rfl (lv_at hl 0 rfl) ?_
    refine lv_iload_n hx hb dX13_ones_12 rfl (lv_at hl 2 rfl) ?_
    refine lv_ishr hx hb dX13_ones_13 ?_
    refine lv_iconst (v := 1) hx hb dX13_ones_14 (by decide) ?_
    refine lv_iand hx hb dX13_ones_15 ?_
    refine lv_iadd hx hb dX13_ones_16 ?_
    refine mnmi hf (fun (x_4 : Int32) hf => ?_)
    refine lv_istore_n (lv' := [(1, .int x_4), (0, .int a0), (2, .int i_2)]) hx hb dX13_ones_17 rfl hl (by decide) rfl (fun ls hl => ?_)
    obtain ⟨x_5, e_6, hf⟩ := nm_s hf
    refine lv_iinc (v := x_5) (lv' := [(2, .int x_5), (1, .int x_4), (0, .int a0)]) hx hb dX13_ones_18 hl (k := 2) rfl (by rw [e_6]; rfl) (by decide) rfl (fun ls hl => ?_)
    refine lv_goto (tgt := 4) hx hb dX13_ones_21 (by decide) ?_
    exact hk_3 x_4 x_5 hf H locs ls hW hS (lv_sub hl [2, 1, 0] rfl)
def f_X13_copy (σ : Mem) (p0 : Nat) (a1 : Int32) (p2 : Nat) (a3 : Int32) (a4 : Int32) : Option (Mem) :=
  fx2 FU (fun k_3 (i_1 : Int32) (σ_2 : Mem) => (if a4 ≤ i_1 then some σ_2 else ixd (a1 + i_1) (aln p0) (ixd (a3 + i_1) (aln p2) (nm (sI σ_2 p2 (a3 + i_1).toNatClampNeg (σ_2.1 p0 (a1 + i_1).toNatClampNeg)) (fun (σ_4 : Mem) => nm (i_1 + 1) (fun (x_5 : Int32) => k_3 x_5 σ_4)))))) 0 σ
set_option maxHeartbeats 4000000 in
set_option maxRecDepth 100000 in
theorem c_X13_copy (g : XG) (l : Launch) (lo n : Nat) (σ : Mem) (p0 : Nat) (a1 : Int32) (p2 : Nat) (a3 : Int32) (a4 : Int32) (t0 : tp 20 lo n p0) (t2 : tp 20 lo n p2) (τ : Mem) (hf : f_X13_copy σ p0 a1 p2 a3 a4 = some τ) : Met l yX13_copy (wx (.code yX13_copy cX13_copy 6 none)) (kr 0 0) (va_Pc [.ref (bs g p0), .int a1, .ref (bs g p2), .int a3, .int a4] (WS g lo n σ)) (Qv' g lo n τ) 0 0 (Ag g lo) := by
  refine Met.ofW (cc := cX13_copy) (maxL := 6) (ret := none) (by decide) rfl ?_
  intro p e s m args below meth c s₁ B hml hv
  obtain ⟨rfl, hZ, hT, hW⟩ := hv
  have hx := B.exec
  have hb := B.bytes
  have hr := B.returns
  have hts : ∀ w ∈ wx (.code yX13_copy cX13_copy 6 none), w.before _ s = true := atoms_spec B.pre
  have htg : ∀ w ∈ lwg, w.before _ s = true := fun w h => hts w (List.mem_cons_of_mem _ h)
  have hown : s.vm.findClass RX13 = some m.cls := findClass_of_methodNamed B.named
  have hlocks := B.notSynchronized
  change W p l e (kr 0 0) s m (List.toArray [.ref (bs g p0), .int a1, .ref (bs g p2), .int a3, .int a4]) below meth c s.heap [] 0 0 (MQ below (Qv' g lo n τ) (List.toArray [.ref (bs g p0), .int a1, .ref (bs g p2), .int a3, .int a4]) s 0 0 (Ag g lo)) _
  generalize hQ : MQ below (Qv' g lo n τ) (List.toArray [.ref (bs g p0), .int a1, .ref (bs g p2), .int a3, .int a4]) s 0 0 (Ag g lo) = Q
  have hS : va_S (Ag g lo) s.heap s.heap [] := va_S.rf
  have hl := lv_entry ([.ref (bs g p0), .int a1, .ref (bs g p2), .int a3, .int a4]) (n := 6) (Nat.le_of_ble_eq_true rfl)
  rw [lg_entry_eq]
  generalize (lg_sl ([.ref (bs g p0), .int a1, .ref (bs g p2), .int a3, .int a4]) ++ List.replicate (6 - (lg_sl ([.ref (bs g p0), .int a1, .ref (bs g p2), .int a3, .int a4])).length) Slot.unset).toArray = ls at hl ⊢
  have hl : lv_has ls 6 [(0, .ref (bs g p0)), (1, .int a1), (2, .ref (bs g p2)), (3, .int a3), (4, .int a4)] := hl
  delta f_X13_copy at hf
  obtain ⟨H, hH⟩ : ∃ H, H = s.heap := ⟨_, rfl⟩
  obtain ⟨locs, hLc⟩ : ∃ z : List Loc, z = [] := ⟨_, rfl⟩
  have hS : va_S (Ag g lo) s.heap H locs := by rw [hH, hLc]; exact hS
  have hW : Wd g lo n σ H := by rw [hH]; exact hW
  suffices hG : W p l e (kr 0 0) s m (List.toArray [.ref (bs g p0), .int a1, .ref (bs g p2), .int a3, .int a4]) below meth c H locs 0 0 Q (F0 m 0 ls []) by rw [hH, hLc] at hG; exact hG
  clear hH hLc
  refine lv_iconst (v := 0) hx hb dX13_copy_0 (by decide) ?_
  refine lv_istore (lv' := [(5, .int 0), (0, .ref (bs g p0)), (1, .int a1), (2, .ref (bs g p2)), (3, .int a3), (4, .int a4)]) hx hb dX13_copy_1 hl (by decide) rfl (fun ls hl => ?_)
  refine fx2_W (fun (i_1 : Int32) (σ_2 : Mem) => ∀ (H : Heap) (locs : List Loc) (ls : Array Slot), Wd g lo n σ_2 H → va_S (Ag g lo) s.heap H locs → lv_has ls 6 [(0, .ref (bs g p0)), (1, .int a1), (2, .ref (bs g p2)), (3, .int a3), (4, .int a4), (5, .int i_1)] → W p l e (kr 0 0) s m (List.toArray [.ref (bs g p0), .int a1, .ref (bs g p2), .int a3, .int a4]) below meth c H locs 0 0 Q (F0 m 3 ls [])) (fun k_3 hk_3 i_1 σ_2 hf => ?_) FU 0 σ hf H locs ls hW hS (lv_sub hl [1, 2, 3, 4, 5, 0] rfl)
  intro H locs ls hW hS hl
  refine lv_iload hx hb dX13_copy_3 (lv_at hl 5 rfl) ?_
  refine lv_iload hx hb dX13_copy_5 (lv_at hl 4 rfl) ?_
  refine lv_icmp_ge (tgt := 28) hx hb dX13_copy_7 (by decide) (fun hc => ?_) (fun hc => ?_)
  · have hf := ift hc hf
    subst hQ
    exact mrv hx hb hr hlocks hZ hT hS hW (Option.some.inj hf) dX13_copy_28
  · have hf := iff_ hc hf
    refine lv_aload_n hx hb dX13_copy_10 rfl (lv_at hl 2 rfl) ?_
    refine lv_iload_n hx hb dX13_copy_11 rfl (lv_at hl 3 rfl) ?_
    refine lv_iload hx hb dX13_copy_12 (lv_at hl 5 rfl) ?_
    refine lv_iadd hx hb dX13_copy_14 ?_
    refine lv_aload_n hx hb dX13_copy_15 rfl (lv_at hl 0 rfl) ?_
    refine lv_iload_n hx hb dX13_copy_16 rfl (lv_at hl 1 rfl) ?_
    refine lv_iload hx hb dX13_copy_17 (lv_at hl 5 rfl) ?_
    refine lv_iadd hx hb dX13_copy_19 ?_
    refine mld_i hx hb hZ hW t0 hf dX13_copy_20 (fun hf => ?_)
    refine mst_i hx hb hZ hW hS t2 hf dX13_copy_21 (fun σ_4 H locs hf hW hS => ?_)
    obtain ⟨x_5, e_6, hf⟩ := nm_s hf
    refine lv_iinc (v := x_5) (lv' := [(5, .int x_5), (0, .ref (bs g p0)), (1, .int a1), (2, .ref (bs g p2)), (3, .int a3), (4, .int a4)]) hx hb dX13_copy_22 hl (k := 5) rfl (by rw [e_6]; rfl) (by decide) rfl (fun ls hl => ?_)
    refine lv_goto (tgt := 3) hx hb dX13_copy_25 (by decide) ?_
    exact hk_3 x_5 σ_4 hf H locs ls hW hS (lv_sub hl [1, 2, 3, 4, 5, 0] rfl)
def f_X13_lowest (a0 : Int64) (a2 : Int64) (a4 : Int32) : Option (Int64) :=
  fx2 FU (fun k_3 (j_1 : Int64) (j_2 : Int64) => (if (lg_cmp j_2 0) = 0 then jn1 (fun (j_4 : Int64) => dvl j_1 (some (j_4 / j_1))) (fun k_5 => (if a4 = 0 then k_5 a0 else k_5 a2)) else dvl j_2 (nm (j_1 - j_1 / j_2 * j_2) (fun (x_6 : Int64) => k_3 j_2 x_6)))) a2 a0
set_option maxHeartbeats 4000000 in
set_option maxRecDepth 100000 in
theorem c_X13_lowest (g : XG) (l : Launch) (lo n : Nat) (σ : Mem) (a0 : Int64) (a2 : Int64) (a4 : Int32) (r : Int64) (hf : f_X13_lowest a0 a2 a4 = some r) : Met l yX13_lowest (wx (.code yX13_lowest cX13_lowest 11 (some .long))) (kr 0 0) (va_Pc [.long a0, .long a2, .int a4] (WS g lo n σ)) (Ql' g lo n r σ) 0 0 (Ag g lo) := by
  refine Met.ofW (cc := cX13_lowest) (maxL := 11) (ret := (some .long)) (by decide) rfl ?_
  intro p e s m args below meth c s₁ B hml hv
  obtain ⟨rfl, hZ, hT, hW⟩ := hv
  have hx := B.exec
  have hb := B.bytes
  have hr := B.returns
  have hts : ∀ w ∈ wx (.code yX13_lowest cX13_lowest 11 (some .long)), w.before _ s = true := atoms_spec B.pre
  have htg : ∀ w ∈ lwg, w.before _ s = true := fun w h => hts w (List.mem_cons_of_mem _ h)
  have hown : s.vm.findClass RX13 = some m.cls := findClass_of_methodNamed B.named
  have hlocks := B.notSynchronized
  change W p l e (kr 0 0) s m (List.toArray [.long a0, .long a2, .int a4]) below meth c s.heap [] 0 0 (MQ below (Ql' g lo n r σ) (List.toArray [.long a0, .long a2, .int a4]) s 0 0 (Ag g lo)) _
  generalize hQ : MQ below (Ql' g lo n r σ) (List.toArray [.long a0, .long a2, .int a4]) s 0 0 (Ag g lo) = Q
  have hS : va_S (Ag g lo) s.heap s.heap [] := va_S.rf
  have hl := lv_entry ([.long a0, .long a2, .int a4]) (n := 11) (Nat.le_of_ble_eq_true rfl)
  rw [lg_entry_eq]
  generalize (lg_sl ([.long a0, .long a2, .int a4]) ++ List.replicate (11 - (lg_sl ([.long a0, .long a2, .int a4])).length) Slot.unset).toArray = ls at hl ⊢
  have hl : lv_has ls 11 [(0, .long a0), (2, .long a2), (4, .int a4)] := hl
  delta f_X13_lowest at hf
  obtain ⟨H, hH⟩ : ∃ H, H = s.heap := ⟨_, rfl⟩
  obtain ⟨locs, hLc⟩ : ∃ z : List Loc, z = [] := ⟨_, rfl⟩
  have hS : va_S (Ag g lo) s.heap H locs := by rw [hH, hLc]; exact hS
  have hW : Wd g lo n σ H := by rw [hH]; exact hW
  suffices hG : W p l e (kr 0 0) s m (List.toArray [.long a0, .long a2, .int a4]) below meth c H locs 0 0 Q (F0 m 0 ls []) by rw [hH, hLc] at hG; exact hG
  clear hH hLc
  refine lv_lload_n hx hb dX13_lowest_0 rfl (lv_at hl 1 rfl) ?_
  refine lv_lstore (lv' := [(5, .long a2), (0, .long a0), (2, .long a2), (4, .int a4)]) hx hb dX13_lowest_1 hl (by decide) rfl (fun ls hl => ?_)
  refine lv_lload_n hx hb dX13_lowest_3 rfl (lv_at hl 1 rfl) ?_
  refine lv_lstore (lv' := [(7, .long a0), (5, .long a2), (0, .long a0), (2, .long a2), (4, .int a4)]) hx hb dX13_lowest_4 hl (by decide) rfl (fun ls hl => ?_)
  refine fx2_W (fun (j_1 : Int64) (j_2 : Int64) => ∀ (H : Heap) (locs : List Loc) (ls : Array Slot), Wd g lo n σ H → va_S (Ag g lo) s.heap H locs → lv_has ls 11 [(0, .long a0), (2, .long a2), (4, .int a4), (5, .long j_1), (7, .long j_2)] → W p l e (kr 0 0) s m (List.toArray [.long a0, .long a2, .int a4]) below meth c H locs 0 0 Q (F0 m 6 ls [])) (fun k_3 hk_3 j_1 j_2 hf => ?_) FU a2 a0 hf H locs ls hW hS (lv_sub hl [2, 3, 4, 1, 0] rfl)
  intro H locs ls hW hS hl
  refine lv_lload hx hb dX13_lowest_6 (lv_at hl 4 rfl) ?_
  refine lv_lconst (v := 0) hx hb dX13_lowest_8 (by decide) ?_
  refine W.lcmp hx hb dX13_lowest_9 ?_
  refine lv_if_eq (tgt := 31) hx hb dX13_lowest_10 (by decide) (fun hc => ?_) (fun hc => ?_)
  · have hf := ift hc hf
    refine lv_iload hx hb dX13_lowest_31 (lv_at hl 2 rfl) ?_
    refine jn1_W (fun (j_4 : Int64) => ∀ (H : Heap) (locs : List Loc) (ls : Array Slot), Wd g lo n σ H → va_S (Ag g lo) s.heap H locs → lv_has ls 11 [(5, .long j_1)] → W p l e (kr 0 0) s m (List.toArray [.long a0, .long a2, .int a4]) below meth c H locs 0 0 Q (F0 m 41 ls [.long j_4])) hf (fun j_4 hf => ?_) (fun k_5 hk_5 hf => ?_)
    · intro H locs ls hW hS hl
      refine lv_lload hx hb dX13_lowest_41 (lv_at hl 0 rfl) ?_
      obtain ⟨hd, hf⟩ := dvl_s hf
      refine lv_ldiv hx hb dX13_lowest_43 hd ?_
      subst hQ
      exact mrl hx hb hr hlocks hZ hT hS hW ⟨Option.some.inj hf, rfl⟩ dX13_lowest_44
    · refine lv_if_eq (tgt := 40) hx hb dX13_lowest_33 (by decide) (fun hc => ?_) (fun hc => ?_)
      · have hf := ift hc hf
        refine lv_lload_n hx hb dX13_lowest_40 rfl (lv_at hl 0 rfl) ?_
        exact hk_5 a0 hf H locs ls hW hS (lv_sub hl [3] rfl)
      · have hf := iff_ hc hf
        refine lv_lload_n hx hb dX13_lowest_36 rfl (lv_at hl 1 rfl) ?_
        refine lv_goto (tgt := 41) hx hb dX13_lowest_37 (by decide) ?_
        exact hk_5 a2 hf H locs ls hW hS (lv_sub hl [3] rfl)
  · have hf := iff_ hc hf
    refine lv_lload hx hb dX13_lowest_13 (lv_at hl 3 rfl) ?_
    refine lv_lload hx hb dX13_lowest_15 (lv_at hl 4 rfl) ?_
    obtain ⟨hd, hf⟩ := dvl_s hf
    refine lv_lrem hx hb dX13_lowest_17 hd ?_
    refine mnml hf (fun (x_6 : Int64) hf => ?_)
    refine lv_lstore (lv' := [(9, .long x_6), (0, .long a0), (2, .long a2), (4, .int a4), (5, .long j_1), (7, .long j_2)]) hx hb dX13_lowest_18 hl (by decide) rfl (fun ls hl => ?_)
    refine lv_lload hx hb dX13_lowest_20 (lv_at hl 5 rfl) ?_
    refine lv_lstore (lv' := [(5, .long j_2), (9, .long x_6), (0, .long a0), (2, .long a2), (4, .int a4), (7, .long j_2)]) hx hb dX13_lowest_22 hl (by decide) rfl (fun ls hl => ?_)
    refine lv_lload hx hb dX13_lowest_24 (lv_at hl 1 rfl) ?_
    refine lv_lstore (lv' := [(7, .long x_6), (5, .long j_2), (9, .long x_6), (0, .long a0), (2, .long a2), (4, .int a4)]) hx hb dX13_lowest_26 hl (by decide) rfl (fun ls hl => ?_)
    refine lv_goto (tgt := 6) hx hb dX13_lowest_28 (by decide) ?_
    exact hk_3 j_2 x_6 hf H locs ls hW hS (lv_sub hl [3, 4, 5, 1, 0] rfl)
def f_X13_feed (σ : Mem) (a1 : Int32) (a2 : Int32) (a3 : Int32) (a4 : Int32) (a5 : Int32) : Option (Int32 × Mem) :=
  nm (sI σ 64 0 0) (fun (σ_1 : Mem) => (if ((σ_1.1 64 2) + 20) ≤ 800 then fx2 FU (fun k_4 (i_2 : Int32) (σ_3 : Mem) => (if 20 ≤ i_2 then some (σ_3.1 64 2, σ_3) else jn1 (fun (i_5 : Int32) => dvd 4 (ixd (σ_3.1 64 2) (aln 65) (nm (sI σ_3 65 (σ_3.1 64 2).toNatClampNeg ((i_5 >>> ((24 - (8 * (i_2 - i_2 / 4 * 4))) &&& 31)) &&& 255)) (fun (σ_7 : Mem) => nm (sI σ_7 64 2 ((σ_7.1 64 2) + 1)) (fun (σ_8 : Mem) => nm (i_2 + 1) (fun (x_9 : Int32) => k_4 x_9 σ_8)))))) (fun k_6 => (if 4 ≤ i_2 then (if 8 ≤ i_2 then (if 12 ≤ i_2 then (if 16 ≤ i_2 then k_6 a5 else k_6 a4) else k_6 a3) else k_6 a2) else k_6 a1)))) 0 σ_1 else some ((-1), σ_1)))
set_option maxHeartbeats 4000000 in
set_option maxRecDepth 100000 in
theorem c_X13_feed (g : XG) (l : Launch) (σ : Mem) (a1 : Int32) (a2 : Int32) (a3 : Int32) (a4 : Int32) (a5 : Int32) (r : Int32) (τ : Mem) (hf : f_X13_feed σ a1 a2 a3 a4 a5 = some (r, τ)) : Met l yX13_feed (wx (.code yX13_feed cX13_feed 8 (some .int))) (kr 0 0) (va_Pc [.ref (bs g 64), .int a1, .int a2, .int a3, .int a4, .int a5] (WS g 0 81 σ)) (Qi' g 0 81 r τ) 0 0 (Ag g 0) := by
  refine Met.ofW (cc := cX13_feed) (maxL := 8) (ret := (some .int)) (by decide) rfl ?_
  intro p e s m args below meth c s₁ B hml hv
  obtain ⟨rfl, hZ, hT, hW⟩ := hv
  have hx := B.exec
  have hb := B.bytes
  have hr := B.returns
  have hts : ∀ w ∈ wx (.code yX13_feed cX13_feed 8 (some .int)), w.before _ s = true := atoms_spec B.pre
  have htg : ∀ w ∈ lwg, w.before _ s = true := fun w h => hts w (List.mem_cons_of_mem _ h)
  have hown : s.vm.findClass RX13 = some m.cls := findClass_of_methodNamed B.named
  have hlocks := B.notSynchronized
  change W p l e (kr 0 0) s m (List.toArray [.ref (bs g 64), .int a1, .int a2, .int a3, .int a4, .int a5]) below meth c s.heap [] 0 0 (MQ below (Qi' g 0 81 r τ) (List.toArray [.ref (bs g 64), .int a1, .int a2, .int a3, .int a4, .int a5]) s 0 0 (Ag g 0)) _
  generalize hQ : MQ below (Qi' g 0 81 r τ) (List.toArray [.ref (bs g 64), .int a1, .int a2, .int a3, .int a4, .int a5]) s 0 0 (Ag g 0) = Q
  have hS : va_S (Ag g 0) s.heap s.heap [] := va_S.rf
  have hl := lv_entry ([.ref (bs g 64), .int a1, .int a2, .int a3, .int a4, .int a5]) (n := 8) (Nat.le_of_ble_eq_true rfl)
  rw [lg_entry_eq]
  generalize (lg_sl ([.ref (bs g 64), .int a1, .int a2, .int a3, .int a4, .int a5]) ++ List.replicate (8 - (lg_sl ([.ref (bs g 64), .int a1, .int a2, .int a3, .int a4, .int a5])).length) Slot.unset).toArray = ls at hl ⊢
  have hl : lv_has ls 8 [(0, .ref (bs g 64)), (1, .int a1), (2, .int a2), (3, .int a3), (4, .int a4), (5, .int a5)] := hl
  delta f_X13_feed at hf
  obtain ⟨H, hH⟩ : ∃ H, H = s.heap := ⟨_, rfl⟩
  obtain ⟨locs, hLc⟩ : ∃ z : List Loc, z = [] := ⟨_, rfl⟩
  have hS : va_S (Ag g 0) s.heap H locs := by rw [hH, hLc]; exact hS
  have hW : Wd g 0 81 σ H := by rw [hH]; exact hW
  suffices hG : W p l e (kr 0 0) s m (List.toArray [.ref (bs g 64), .int a1, .int a2, .int a3, .int a4, .int a5]) below meth c H locs 0 0 Q (F0 m 0 ls []) by rw [hH, hLc] at hG; exact hG
  clear hH hLc
  refine lv_aload_n hx hb dX13_feed_0 rfl (lv_at hl 0 rfl) ?_
  refine lv_iconst (v := 0) hx hb dX13_feed_1 (by decide) ?_
  refine pf_13_0 hx hb htg (htg _ lf_X13_59) hown hZ hW hS tz_64 dX13_feed_2 hf (fun σ_1 H locs hf hW hS => ?_)
  refine lv_aload_n hx hb dX13_feed_5 rfl (lv_at hl 0 rfl) ?_
  refine gf_13_2 hx hb htg (htg _ lf_X13_65) hown hZ hW tz_64 dX13_feed_6 ?_
  refine lv_bipush (v := 20) hx hb dX13_feed_9 (by decide) ?_
  refine lv_iadd hx hb dX13_feed_11 ?_
  refine lv_sipush (v := 800) hx hb dX13_feed_12 (by decide) ?_
  refine lv_icmp_le (tgt := 20) hx hb dX13_feed_15 (by decide) (fun hc => ?_) (fun hc => ?_)
  · have hf := ift hc hf
    refine lv_iconst (v := 0) hx hb dX13_feed_20 (by decide) ?_
    refine lv_istore (lv' := [(6, .int 0), (0, .ref (bs g 64)), (1, .int a1), (2, .int a2), (3, .int a3), (4, .int a4), (5, .int a5)]) hx hb dX13_feed_21 hl (by decide) rfl (fun ls hl => ?_)
    refine fx2_W (fun (i_2 : Int32) (σ_3 : Mem) => ∀ (H : Heap) (locs : List Loc) (ls : Array Slot), Wd g 0 81 σ_3 H → va_S (Ag g 0) s.heap H locs → lv_has ls 8 [(0, .ref (bs g 64)), (1, .int a1), (2, .int a2), (3, .int a3), (4, .int a4), (5, .int a5), (6, .int i_2)] → W p l e (kr 0 0) s m (List.toArray [.ref (bs g 64), .int a1, .int a2, .int a3, .int a4, .int a5]) below meth c H locs 0 0 Q (F0 m 23 ls [])) (fun k_4 hk_4 i_2 σ_3 hf => ?_) FU 0 σ_1 hf H locs ls hW hS (lv_sub hl [1, 2, 3, 4, 5, 6, 0] rfl)
    intro H locs ls hW hS hl
    refine lv_iload hx hb dX13_feed_23 (lv_at hl 6 rfl) ?_
    refine lv_bipush (v := 20) hx hb dX13_feed_25 (by decide) ?_
    refine lv_icmp_ge (tgt := 120) hx hb dX13_feed_27 (by decide) (fun hc => ?_) (fun hc => ?_)
    · have hf := ift hc hf
      refine lv_aload_n hx hb dX13_feed_120 rfl (lv_at hl 0 rfl) ?_
      refine gf_13_2 hx hb htg (htg _ lf_X13_65) hown hZ hW tz_64 dX13_feed_121 ?_
      subst hQ
      exact mri hx hb hr hlocks hZ hT hS hW (pr1 hf) dX13_feed_124
    · have hf := iff_ hc hf
      refine lv_iload hx hb dX13_feed_30 (lv_at hl 6 rfl) ?_
      refine lv_iconst (v := 4) hx hb dX13_feed_32 (by decide) ?_
      refine jn1_W (fun (i_5 : Int32) => ∀ (H : Heap) (locs : List Loc) (ls : Array Slot), Wd g 0 81 σ_3 H → va_S (Ag g 0) s.heap H locs → lv_has ls 8 [(0, .ref (bs g 64)), (1, .int a1), (2, .int a2), (3, .int a3), (4, .int a4), (5, .int a5), (6, .int i_2)] → W p l e (kr 0 0) s m (List.toArray [.ref (bs g 64), .int a1, .int a2, .int a3, .int a4, .int a5]) below meth c H locs 0 0 Q (F0 m 76 ls [.int i_5])) hf (fun i_5 hf => ?_) (fun k_6 hk_6 hf => ?_)
      · intro H locs ls hW hS hl
        refine lv_istore (lv' := [(7, .int i_5), (0, .ref (bs g 64)), (1, .int a1), (2, .int a2), (3, .int a3), (4, .int a4), (5, .int a5), (6, .int i_2)]) hx hb dX13_feed_76 hl (by decide) rfl (fun ls hl => ?_)
        refine lv_aload_n hx hb dX13_feed_78 rfl (lv_at hl 1 rfl) ?_
        refine gf_13_1 hx hb htg (htg _ lf_X13_7) hown hZ hW tz_64 dX13_feed_79 ?_
        refine lv_aload_n hx hb dX13_feed_82 rfl (lv_at hl 1 rfl) ?_
        refine gf_13_2 hx hb htg (htg _ lf_X13_65) hown hZ hW tz_64 dX13_feed_83 ?_
        refine lv_iload hx hb dX13_feed_86 (lv_at hl 0 rfl) ?_
        refine lv_bipush (v := 24) hx hb dX13_feed_88 (by decide) ?_
        refine lv_bipush (v := 8) hx hb dX13_feed_90 (by decide) ?_
        refine lv_iload hx hb dX13_feed_92 (lv_at hl 7 rfl) ?_
        refine lv_iconst (v := 4) hx hb dX13_feed_94 (by decide) ?_
        obtain ⟨hd, hf⟩ := dvd_s hf
        refine lv_irem hx hb dX13_feed_95 hd ?_
        refine lv_imul hx hb dX13_feed_96 ?_
        refine lv_isub hx hb dX13_feed_97 ?_
        refine lv_ishr hx hb dX13_feed_98 ?_
        refine lv_sipush (v := 255) hx hb dX13_feed_99 (by decide) ?_
        refine lv_iand hx hb dX13_feed_102 ?_
        refine mst_i hx hb hZ hW hS tz_65 hf dX13_feed_103 (fun σ_7 H locs hf hW hS => ?_)
        refine lv_aload_n hx hb dX13_feed_104 rfl (lv_at hl 1 rfl) ?_
        refine lv_dup hx hb dX13_feed_105 rfl ?_
        refine gf_13_2 hx hb htg (htg _ lf_X13_65) hown hZ hW tz_64 dX13_feed_106 ?_
        refine lv_iconst (v := 1) hx hb dX13_feed_109 (by decide) ?_
        refine lv_iadd hx hb dX13_feed_110 ?_
        refine pf_13_2 hx hb htg (htg _ lf_X13_65) hown hZ hW hS tz_64 dX13_feed_111 hf (fun σ_8 H locs hf hW hS => ?_)
        obtain ⟨x_9, e_10, hf⟩ := nm_s hf
        refine lv_iinc (v := x_9) (lv' := [(6, .int x_9), (7, .int i_5), (0, .ref (bs g 64)), (1, .int a1), (2, .int a2), (3, .int a3), (4, .int a4), (5, .int a5)]) hx hb dX13_feed_114 hl (k := 7) rfl (by rw [e_10]; rfl) (by decide) rfl (fun ls hl => ?_)
        refine lv_goto (tgt := 23) hx hb dX13_feed_117 (by decide) ?_
        exact hk_4 x_9 σ_8 hf H locs ls hW hS (lv_sub hl [2, 3, 4, 5, 6, 7, 0] rfl)
      · refine lv_icmp_ge (tgt := 40) hx hb dX13_feed_33 (by decide) (fun hc => ?_) (fun hc => ?_)
        · have hf := ift hc hf
          refine lv_iload hx hb dX13_feed_40 (lv_at hl 6 rfl) ?_
          refine lv_bipush (v := 8) hx hb dX13_feed_42 (by decide) ?_
          refine lv_icmp_ge (tgt := 51) hx hb dX13_feed_44 (by decide) (fun hc => ?_) (fun hc => ?_)
          · have hf := ift hc hf
            refine lv_iload hx hb dX13_feed_51 (lv_at hl 6 rfl) ?_
            refine lv_bipush (v := 12) hx hb dX13_feed_53 (by decide) ?_
            refine lv_icmp_ge (tgt := 62) hx hb dX13_feed_55 (by decide) (fun hc => ?_) (fun hc => ?_)
            · have hf := ift hc hf
              refine lv_iload hx hb dX13_feed_62 (lv_at hl 6 rfl) ?_
              refine lv_bipush (v := 16) hx hb dX13_feed_64 (by decide) ?_
              refine lv_icmp_ge (tgt := 74) hx hb dX13_feed_66 (by decide) (fun hc => ?_) (fun hc => ?_)
              · have hf := ift hc hf
                refine lv_iload hx hb dX13_feed_74 (lv_at hl 5 rfl) ?_
                exact hk_6 a5 hf H locs ls hW hS (lv_sub hl [0, 1, 2, 3, 4, 5, 6] rfl)
              · have hf := iff_ hc hf
                refine lv_iload hx hb dX13_feed_69 (lv_at hl 4 rfl) ?_
                refine lv_goto (tgt := 76) hx hb dX13_feed_71 (by decide) ?_
                exact hk_6 a4 hf H locs ls hW hS (lv_sub hl [0, 1, 2, 3, 4, 5, 6] rfl)
            · have hf := iff_ hc hf
              refine lv_iload_n hx hb dX13_feed_58 rfl (lv_at hl 3 rfl) ?_
              refine lv_goto (tgt := 76) hx hb dX13_feed_59 (by decide) ?_
              exact hk_6 a3 hf H locs ls hW hS (lv_sub hl [0, 1, 2, 3, 4, 5, 6] rfl)
          · have hf := iff_ hc hf
            refine lv_iload_n hx hb dX13_feed_47 rfl (lv_at hl 2 rfl) ?_
            refine lv_goto (tgt := 76) hx hb dX13_feed_48 (by decide) ?_
            exact hk_6 a2 hf H locs ls hW hS (lv_sub hl [0, 1, 2, 3, 4, 5, 6] rfl)
        · have hf := iff_ hc hf
          refine lv_iload_n hx hb dX13_feed_36 rfl (lv_at hl 1 rfl) ?_
          refine lv_goto (tgt := 76) hx hb dX13_feed_37 (by decide) ?_
          exact hk_6 a1 hf H locs ls hW hS (lv_sub hl [0, 1, 2, 3, 4, 5, 6] rfl)
  · have hf := iff_ hc hf
    refine lv_iconst (v := (-1)) hx hb dX13_feed_18 (by decide) ?_
    subst hQ
    exact mri hx hb hr hlocks hZ hT hS hW (pr1 hf) dX13_feed_19
