def f_X13_guard (σ : Mem) (a1 : Int32) : Option (Int32 × Mem) :=
  bd1 (f_X13_good σ) (fun (σ_1 : Mem) => bd1 (f_X13_why (σ_1.1 64 14) a1) (fun (r_2 : Int32) => (if r_2 = 0 then fx2 FU (fun k_5 (i_3 : Int32) (i_4 : Int32) => ixd 0 (aln 67) ((if (1 <<< ((σ_1.1 67 (0 : Int32).toNatClampNeg) &&& 31)) ≤ i_4 then some (i_3, σ_1) else jn1 (fun (i_6 : Int32) => nm (i_4 + 1) (fun (x_8 : Int32) => k_5 i_6 x_8)) (fun k_7 => jn0 (bd1 (f_X13_doesGuard σ_1 i_4 a1) (fun (r_11 : Int32) => (if r_11 = 0 then k_7 i_3 else k_7 i_4))) (fun k_10 => (if i_3 < 0 then k_10 else bd1 (f_X13_ones i_4) (fun (r_12 : Int32) => bd1 (f_X13_ones i_3) (fun (r_13 : Int32) => (if r_13 ≤ r_12 then k_7 i_3 else k_10))))))))) (-2) 0 else bd2 (f_X13_no σ_1 r_2) (fun (r_14 : Int32) (σ_15 : Mem) => some (r_14, σ_15)))))
set_option maxHeartbeats 4000000 in
set_option maxRecDepth 100000 in
theorem c_X13_guard (g : XG) (l : Launch) (σ : Mem) (a1 : Int32) (r : Int32) (τ : Mem) (hf : f_X13_guard σ a1 = some (r, τ)) : Met l yX13_guard (wx (.code yX13_guard cX13_guard 5 (some .int))) (kr 5 117) (va_Pc [.ref (bs g 64), .int a1] (WS g 0 81 σ)) (Qi' g 0 81 r τ) 0 0 (Ag g 0) := by
  refine Met.ofW (cc := cX13_guard) (maxL := 5) (ret := (some .int)) (by decide) rfl ?_
  intro p e s m args below meth c s₁ B hml hv
  obtain ⟨rfl, hZ, hT, hW⟩ := hv
  have hx := B.exec
  have hb := B.bytes
  have hr := B.returns
  have hts : ∀ w ∈ wx (.code yX13_guard cX13_guard 5 (some .int)), w.before _ s = true := atoms_spec B.pre
  have htg : ∀ w ∈ lwg, w.before _ s = true := fun w h => hts w (List.mem_cons_of_mem _ h)
  have hown : s.vm.findClass RX13 = some m.cls := findClass_of_methodNamed B.named
  have hlocks := B.notSynchronized
  change W p l e (kr 5 117) s m (List.toArray [.ref (bs g 64), .int a1]) below meth c s.heap [] 0 0 (MQ below (Qi' g 0 81 r τ) (List.toArray [.ref (bs g 64), .int a1]) s 0 0 (Ag g 0)) _
  generalize hQ : MQ below (Qi' g 0 81 r τ) (List.toArray [.ref (bs g 64), .int a1]) s 0 0 (Ag g 0) = Q
  have hS : va_S (Ag g 0) s.heap s.heap [] := va_S.rf
  have hl := lv_entry ([.ref (bs g 64), .int a1]) (n := 5) (Nat.le_of_ble_eq_true rfl)
  rw [lg_entry_eq]
  generalize (lg_sl ([.ref (bs g 64), .int a1]) ++ List.replicate (5 - (lg_sl ([.ref (bs g 64), .int a1])).length) Slot.unset).toArray = ls at hl ⊢
  have hl : lv_has ls 5 [(0, .ref (bs g 64)), (1, .int a1)] := hl
  delta f_X13_guard at hf
  obtain ⟨H, hH⟩ : ∃ H, H = s.heap := ⟨_, rfl⟩
  obtain ⟨locs, hLc⟩ : ∃ z : List Loc, z = [] := ⟨_, rfl⟩
  have hS : va_S (Ag g 0) s.heap H locs := by rw [hH, hLc]; exact hS
  have hW : Wd g 0 81 σ H := by rw [hH]; exact hW
  suffices hG : W p l e (kr 5 117) s m (List.toArray [.ref (bs g 64), .int a1]) below meth c H locs 0 0 Q (F0 m 0 ls []) by rw [hH, hLc] at hG; exact hG
  clear hH hLc
  refine lv_aload_n hx hb dX13_guard_0 rfl (lv_at hl 0 rfl) ?_
  refine mcv hf hS (fun τ h => va_runV (As := []) (rest := []) ⟨hx, hb, hml, hown, hts⟩ (c_X13_good g l σ τ h) (cl_X13_166 hts ⟨Nat.le_of_ble_eq_true rfl, Nat.le_of_ble_eq_true rfl⟩) (mpV_13 hZ hT hS hW tz_64 _) rfl rfl hl.1 rfl (lv_room (Nat.le_of_ble_eq_true rfl)) dX13_guard_1 ⟨Nat.zero_le _, Nat.zero_le _⟩) (fun σ_1 H locs hf hW hS => ?_)
  refine lv_aload_n hx hb dX13_guard_4 rfl (lv_at hl 0 rfl) ?_
  refine lv_aload_n hx hb dX13_guard_5 rfl (lv_at hl 0 rfl) ?_
  refine gf_13_14 hx hb htg (htg _ lf_X13_179) hown hZ hW tz_64 dX13_guard_6 ?_
  refine lv_iload_n hx hb dX13_guard_9 rfl (lv_at hl 1 rfl) ?_
  refine mcip hf hS (fun r h => va_runV (As := [.int (σ_1.1 64 14), .int a1]) (rest := []) ⟨hx, hb, hml, hown, hts⟩ (c_X13_why g l σ_1 (σ_1.1 64 14) a1 r h) (cl_X13_281 hts ⟨Nat.le_of_ble_eq_true rfl, Nat.le_of_ble_eq_true rfl⟩) (mpV_13 hZ hT hS hW tz_64 _) rfl rfl hl.1 rfl (lv_room (Nat.le_of_ble_eq_true rfl)) dX13_guard_10 ⟨Nat.zero_le _, Nat.zero_le _⟩) (fun r_2 H locs hf hW hS => ?_)
  refine lv_istore_n (lv' := [(2, .int r_2), (0, .ref (bs g 64)), (1, .int a1)]) hx hb dX13_guard_13 rfl hl (by decide) rfl (fun ls hl => ?_)
  refine lv_iload_n hx hb dX13_guard_14 rfl (lv_at hl 0 rfl) ?_
  refine lv_if_eq (tgt := 24) hx hb dX13_guard_15 (by decide) (fun hc => ?_) (fun hc => ?_)
  · have hf := ift hc hf
    refine lv_bipush (v := (-2)) hx hb dX13_guard_24 (by decide) ?_
    refine lv_istore_n (lv' := [(3, .int (-2)), (2, .int r_2), (0, .ref (bs g 64)), (1, .int a1)]) hx hb dX13_guard_26 rfl hl (by decide) rfl (fun ls hl => ?_)
    refine lv_iconst (v := 0) hx hb dX13_guard_27 (by decide) ?_
    refine lv_istore (lv' := [(4, .int 0), (3, .int (-2)), (2, .int r_2), (0, .ref (bs g 64)), (1, .int a1)]) hx hb dX13_guard_28 hl (by decide) rfl (fun ls hl => ?_)
    refine fx2_W (fun (i_3 : Int32) (i_4 : Int32) => ∀ (H : Heap) (locs : List Loc) (ls : Array Slot), Wd g 0 81 σ_1 H → va_S (Ag g 0) s.heap H locs → lv_has ls 5 [(0, .ref (bs g 64)), (1, .int a1), (3, .int i_3), (4, .int i_4)] → W p l e (kr 5 117) s m (List.toArray [.ref (bs g 64), .int a1]) below meth c H locs 0 0 Q (F0 m 30 ls [])) (fun k_5 hk_5 i_3 i_4 hf => ?_) FU (-2) 0 hf H locs ls hW hS (lv_sub hl [3, 4, 1, 0] rfl)
    intro H locs ls hW hS hl
    refine lv_iload hx hb dX13_guard_30 (lv_at hl 3 rfl) ?_
    refine lv_iconst (v := 1) hx hb dX13_guard_32 (by decide) ?_
    refine lv_aload_n hx hb dX13_guard_33 rfl (lv_at hl 0 rfl) ?_
    refine gf_13_15 hx hb htg (htg _ lf_X13_20) hown hZ hW tz_64 dX13_guard_34 ?_
    refine lv_iconst (v := 0) hx hb dX13_guard_37 (by decide) ?_
    refine mld_i hx hb hZ hW tz_67 hf dX13_guard_38 (fun hf => ?_)
    refine lv_ishl hx hb dX13_guard_39 ?_
    refine lv_icmp_ge (tgt := 78) hx hb dX13_guard_40 (by decide) (fun hc => ?_) (fun hc => ?_)
    · have hf := ift hc hf
      refine lv_iload_n hx hb dX13_guard_78 rfl (lv_at hl 2 rfl) ?_
      subst hQ
      exact mri hx hb hr hlocks hZ hT hS hW (pr1 hf) dX13_guard_79
    · have hf := iff_ hc hf
      refine lv_iload_n hx hb dX13_guard_43 rfl (lv_at hl 2 rfl) ?_
      refine jn1_W (fun (i_6 : Int32) => ∀ (H : Heap) (locs : List Loc) (ls : Array Slot), Wd g 0 81 σ_1 H → va_S (Ag g 0) s.heap H locs → lv_has ls 5 [(0, .ref (bs g 64)), (1, .int a1), (3, .int i_6), (4, .int i_4)] → W p l e (kr 5 117) s m (List.toArray [.ref (bs g 64), .int a1]) below meth c H locs 0 0 Q (F0 m 72 ls [])) hf (fun i_6 hf => ?_) (fun k_7 hk_7 hf => ?_)
      · intro H locs ls hW hS hl
        obtain ⟨x_8, e_9, hf⟩ := nm_s hf
        refine lv_iinc (v := x_8) (lv' := [(4, .int x_8), (0, .ref (bs g 64)), (1, .int a1), (3, .int i_6)]) hx hb dX13_guard_72 hl (k := 3) rfl (by rw [e_9]; rfl) (by decide) rfl (fun ls hl => ?_)
        refine lv_goto (tgt := 30) hx hb dX13_guard_75 (by decide) ?_
        exact hk_5 i_6 x_8 hf H locs ls hW hS (lv_sub hl [1, 2, 3, 0] rfl)
      · refine jn0_W (∀ (H : Heap) (locs : List Loc) (ls : Array Slot), Wd g 0 81 σ_1 H → va_S (Ag g 0) s.heap H locs → lv_has ls 5 [(0, .ref (bs g 64)), (1, .int a1), (3, .int i_3), (4, .int i_4)] → W p l e (kr 5 117) s m (List.toArray [.ref (bs g 64), .int a1]) below meth c H locs 0 0 Q (F0 m 59 ls [])) hf (fun  hf => ?_) (fun k_10 hk_10 hf => ?_)
        · intro H locs ls hW hS hl
          refine lv_aload_n hx hb dX13_guard_59 rfl (lv_at hl 0 rfl) ?_
          refine lv_iload hx hb dX13_guard_60 (lv_at hl 3 rfl) ?_
          refine lv_iload_n hx hb dX13_guard_62 rfl (lv_at hl 1 rfl) ?_
          refine mcip hf hS (fun r h => va_runV (As := [.int i_4, .int a1]) (rest := []) ⟨hx, hb, hml, hown, hts⟩ (c_X13_doesGuard g l σ_1 i_4 a1 r h) (cl_X13_369 hts ⟨Nat.le_of_ble_eq_true rfl, Nat.le_of_ble_eq_true rfl⟩) (mpV_13 hZ hT hS hW tz_64 _) rfl rfl hl.1 rfl (lv_room (Nat.le_of_ble_eq_true rfl)) dX13_guard_63 ⟨Nat.zero_le _, Nat.zero_le _⟩) (fun r_11 H locs hf hW hS => ?_)
          refine lv_if_eq (tgt := 72) hx hb dX13_guard_66 (by decide) (fun hc => ?_) (fun hc => ?_)
          · have hf := ift hc hf
            exact hk_7 i_3 hf H locs ls hW hS (lv_sub hl [0, 1, 2, 3] rfl)
          · have hf := iff_ hc hf
            refine lv_iload hx hb dX13_guard_69 (lv_at hl 3 rfl) ?_
            refine lv_istore_n (lv' := [(3, .int i_4), (0, .ref (bs g 64)), (1, .int a1), (4, .int i_4)]) hx hb dX13_guard_71 rfl hl (by decide) rfl (fun ls hl => ?_)
            exact hk_7 i_4 hf H locs ls hW hS (lv_sub hl [1, 2, 0, 3] rfl)
        · refine lv_if_lt (tgt := 59) hx hb dX13_guard_44 (by decide) (fun hc => ?_) (fun hc => ?_)
          · have hf := ift hc hf
            exact hk_10  hf H locs ls hW hS (lv_sub hl [0, 1, 2, 3] rfl)
          · have hf := iff_ hc hf
            refine lv_iload hx hb dX13_guard_47 (lv_at hl 3 rfl) ?_
            refine mcip hf hS (fun r h => va_runS (As := [.int i_4]) (rest := []) ⟨hx, hb, hml, hown, hts⟩ (c_X13_ones g l 0 81 σ_1 i_4 r h) (cl_X13_298 hts ⟨Nat.le_of_ble_eq_true rfl, Nat.le_of_ble_eq_true rfl⟩) (mpS hZ hT hS hW _) rfl rfl hl.1 rfl (lv_room (Nat.le_of_ble_eq_true rfl)) dX13_guard_49 ⟨Nat.zero_le _, Nat.zero_le _⟩) (fun r_12 H locs hf hW hS => ?_)
            refine lv_iload_n hx hb dX13_guard_52 rfl (lv_at hl 2 rfl) ?_
            refine mcip hf hS (fun r h => va_runS (As := [.int i_3]) (rest := [.int r_12]) ⟨hx, hb, hml, hown, hts⟩ (c_X13_ones g l 0 81 σ_1 i_3 r h) (cl_X13_298 hts ⟨Nat.le_of_ble_eq_true rfl, Nat.le_of_ble_eq_true rfl⟩) (mpS hZ hT hS hW _) rfl rfl hl.1 rfl (lv_room (Nat.le_of_ble_eq_true rfl)) dX13_guard_53 ⟨Nat.zero_le _, Nat.zero_le _⟩) (fun r_13 H locs hf hW hS => ?_)
            refine lv_icmp_ge (tgt := 72) hx hb dX13_guard_56 (by decide) (fun hc => ?_) (fun hc => ?_)
            · have hf := ift hc hf
              exact hk_7 i_3 hf H locs ls hW hS (lv_sub hl [0, 1, 2, 3] rfl)
            · have hf := iff_ hc hf
              exact hk_10  hf H locs ls hW hS (lv_sub hl [0, 1, 2, 3] rfl)
  · have hf := iff_ hc hf
    refine lv_aload_n hx hb dX13_guard_18 rfl (lv_at hl 1 rfl) ?_
    refine lv_iload_n hx hb dX13_guard_19 rfl (lv_at hl 0 rfl) ?_
    refine mci hf hS (fun r τ h => va_runV (As := [.int r_2]) (rest := []) ⟨hx, hb, hml, hown, hts⟩ (c_X13_no g l σ_1 r_2 r τ h) (cl_X13_169 hts ⟨Nat.le_of_ble_eq_true rfl, Nat.le_of_ble_eq_true rfl⟩) (mpV_13 hZ hT hS hW tz_64 _) rfl rfl hl.1 rfl (lv_room (Nat.le_of_ble_eq_true rfl)) dX13_guard_20 ⟨Nat.zero_le _, Nat.zero_le _⟩) (fun r_14 σ_15 H locs hf hW hS => ?_)
    subst hQ
    exact mri hx hb hr hlocks hZ hT hS hW (pr1 hf) dX13_guard_23
def f_X13_alike (σ : Mem) (a1 : Int32) (a2 : Int32) : Option (Int32) :=
  ixd 0 (aln 67) (bd1 (f_X13_toldLook σ a1) (fun (r_1 : Int32) => bd1 (f_X13_unlike σ r_1 a2) (fun (r_2 : Int32) => some ((σ.1 67 (0 : Int32).toNatClampNeg) - r_2))))
set_option maxHeartbeats 4000000 in
set_option maxRecDepth 100000 in
theorem c_X13_alike (g : XG) (l : Launch) (σ : Mem) (a1 : Int32) (a2 : Int32) (r : Int32) (hf : f_X13_alike σ a1 a2 = some r) : Met l yX13_alike (wx (.code yX13_alike cX13_alike 3 (some .int))) (kr 2 45) (va_Pc [.ref (bs g 64), .int a1, .int a2] (WS g 0 81 σ)) (Qi' g 0 81 r σ) 0 0 (Ag g 0) := by
  refine Met.ofW (cc := cX13_alike) (maxL := 3) (ret := (some .int)) (by decide) rfl ?_
  intro p e s m args below meth c s₁ B hml hv
  obtain ⟨rfl, hZ, hT, hW⟩ := hv
  have hx := B.exec
  have hb := B.bytes
  have hr := B.returns
  have hts : ∀ w ∈ wx (.code yX13_alike cX13_alike 3 (some .int)), w.before _ s = true := atoms_spec B.pre
  have htg : ∀ w ∈ lwg, w.before _ s = true := fun w h => hts w (List.mem_cons_of_mem _ h)
  have hown : s.vm.findClass RX13 = some m.cls := findClass_of_methodNamed B.named
  have hlocks := B.notSynchronized
  change W p l e (kr 2 45) s m (List.toArray [.ref (bs g 64), .int a1, .int a2]) below meth c s.heap [] 0 0 (MQ below (Qi' g 0 81 r σ) (List.toArray [.ref (bs g 64), .int a1, .int a2]) s 0 0 (Ag g 0)) _
  generalize hQ : MQ below (Qi' g 0 81 r σ) (List.toArray [.ref (bs g 64), .int a1, .int a2]) s 0 0 (Ag g 0) = Q
  have hS : va_S (Ag g 0) s.heap s.heap [] := va_S.rf
  have hl := lv_entry ([.ref (bs g 64), .int a1, .int a2]) (n := 3) (Nat.le_of_ble_eq_true rfl)
  rw [lg_entry_eq]
  generalize (lg_sl ([.ref (bs g 64), .int a1, .int a2]) ++ List.replicate (3 - (lg_sl ([.ref (bs g 64), .int a1, .int a2])).length) Slot.unset).toArray = ls at hl ⊢
  have hl : lv_has ls 3 [(0, .ref (bs g 64)), (1, .int a1), (2, .int a2)] := hl
  delta f_X13_alike at hf
  obtain ⟨H, hH⟩ : ∃ H, H = s.heap := ⟨_, rfl⟩
  obtain ⟨locs, hLc⟩ : ∃ z : List Loc, z = [] := ⟨_, rfl⟩
  have hS : va_S (Ag g 0) s.heap H locs := by rw [hH, hLc]; exact hS
  have hW : Wd g 0 81 σ H := by rw [hH]; exact hW
  suffices hG : W p l e (kr 2 45) s m (List.toArray [.ref (bs g 64), .int a1, .int a2]) below meth c H locs 0 0 Q (F0 m 0 ls []) by rw [hH, hLc] at hG; exact hG
  clear hH hLc
  refine lv_aload_n hx hb dX13_alike_0 rfl (lv_at hl 0 rfl) ?_
  refine gf_13_15 hx hb htg (htg _ lf_X13_20) hown hZ hW tz_64 dX13_alike_1 ?_
  refine lv_iconst (v := 0) hx hb dX13_alike_4 (by decide) ?_
  refine mld_i hx hb hZ hW tz_67 hf dX13_alike_5 (fun hf => ?_)
  refine lv_aload_n hx hb dX13_alike_6 rfl (lv_at hl 0 rfl) ?_
  refine lv_aload_n hx hb dX13_alike_7 rfl (lv_at hl 0 rfl) ?_
  refine lv_iload_n hx hb dX13_alike_8 rfl (lv_at hl 1 rfl) ?_
  refine mcip hf hS (fun r h => va_runV (As := [.int a1]) (rest := [.ref (bs g 64), .int (σ.1 67 (0 : Int32).toNatClampNeg)]) ⟨hx, hb, hml, hown, hts⟩ (c_X13_toldLook g l σ a1 r h) (cl_X13_250 hts ⟨Nat.le_of_ble_eq_true rfl, Nat.le_of_ble_eq_true rfl⟩) (mpV_13 hZ hT hS hW tz_64 _) rfl rfl hl.1 rfl (lv_room (Nat.le_of_ble_eq_true rfl)) dX13_alike_9 ⟨Nat.zero_le _, Nat.zero_le _⟩) (fun r_1 H locs hf hW hS => ?_)
  refine lv_iload_n hx hb dX13_alike_12 rfl (lv_at hl 2 rfl) ?_
  refine mcip hf hS (fun r h => va_runV (As := [.int r_1, .int a2]) (rest := [.int (σ.1 67 (0 : Int32).toNatClampNeg)]) ⟨hx, hb, hml, hown, hts⟩ (c_X13_unlike g l σ r_1 a2 r h) (cl_X13_269 hts ⟨Nat.le_of_ble_eq_true rfl, Nat.le_of_ble_eq_true rfl⟩) (mpV_13 hZ hT hS hW tz_64 _) rfl rfl hl.1 rfl (lv_room (Nat.le_of_ble_eq_true rfl)) dX13_alike_13 ⟨Nat.zero_le _, Nat.zero_le _⟩) (fun r_2 H locs hf hW hS => ?_)
  refine lv_isub hx hb dX13_alike_16 ?_
  subst hQ
  exact mri hx hb hr hlocks hZ hT hS hW ⟨Option.some.inj hf, rfl⟩ dX13_alike_17
def f_X13_canBe (σ : Mem) (a1 : Int32) : Option (Int32) :=
  fx2 FU (fun k_3 (i_1 : Int32) (i_2 : Int32) => ixd 4 (aln 67) ((if (σ.1 67 (4 : Int32).toNatClampNeg) ≤ i_2 then zrt i_1 else jn1 (fun (i_4 : Int32) => nm (i_2 + 1) (fun (x_6 : Int32) => k_3 i_4 x_6)) (fun k_5 => jn0 (k_5 0) (fun k_8 => (if i_1 = 0 then k_8 else ixd (125 + i_2) (aln 67) (jn0 (k_5 1) (fun k_9 => (if (σ.1 67 (125 + i_2).toNatClampNeg) = 0 then k_9 else bd1 (f_X13_alike σ i_2 a1) (fun (r_10 : Int32) => ixd (125 + i_2) (aln 67) ((if r_10 = ((σ.1 67 (125 + i_2).toNatClampNeg) - 1) then k_9 else k_8)))))))))))) 1 0
set_option maxHeartbeats 4000000 in
set_option maxRecDepth 100000 in
theorem c_X13_canBe (g : XG) (l : Launch) (σ : Mem) (a1 : Int32) (r : Int32) (hf : f_X13_canBe σ a1 = some r) : Met l yX13_canBe (wx (.code yX13_canBe cX13_canBe 4 (some .boolean))) (kr 3 67) (va_Pc [.ref (bs g 64), .int a1] (WS g 0 81 σ)) (Qi' g 0 81 r σ) 0 0 (Ag g 0) := by
  refine Met.ofW (cc := cX13_canBe) (maxL := 4) (ret := (some .boolean)) (by decide) rfl ?_
  intro p e s m args below meth c s₁ B hml hv
  obtain ⟨rfl, hZ, hT, hW⟩ := hv
  have hx := B.exec
  have hb := B.bytes
  have hr := B.returns
  have hts : ∀ w ∈ wx (.code yX13_canBe cX13_canBe 4 (some .boolean)), w.before _ s = true := atoms_spec B.pre
  have htg : ∀ w ∈ lwg, w.before _ s = true := fun w h => hts w (List.mem_cons_of_mem _ h)
  have hown : s.vm.findClass RX13 = some m.cls := findClass_of_methodNamed B.named
  have hlocks := B.notSynchronized
  change W p l e (kr 3 67) s m (List.toArray [.ref (bs g 64), .int a1]) below meth c s.heap [] 0 0 (MQ below (Qi' g 0 81 r σ) (List.toArray [.ref (bs g 64), .int a1]) s 0 0 (Ag g 0)) _
  generalize hQ : MQ below (Qi' g 0 81 r σ) (List.toArray [.ref (bs g 64), .int a1]) s 0 0 (Ag g 0) = Q
  have hS : va_S (Ag g 0) s.heap s.heap [] := va_S.rf
  have hl := lv_entry ([.ref (bs g 64), .int a1]) (n := 4) (Nat.le_of_ble_eq_true rfl)
  rw [lg_entry_eq]
  generalize (lg_sl ([.ref (bs g 64), .int a1]) ++ List.replicate (4 - (lg_sl ([.ref (bs g 64), .int a1])).length) Slot.unset).toArray = ls at hl ⊢
  have hl : lv_has ls 4 [(0, .ref (bs g 64)), (1, .int a1)] := hl
  delta f_X13_canBe at hf
  obtain ⟨H, hH⟩ : ∃ H, H = s.heap := ⟨_, rfl⟩
  obtain ⟨locs, hLc⟩ : ∃ z : List Loc, z = [] := ⟨_, rfl⟩
  have hS : va_S (Ag g 0) s.heap H locs := by rw [hH, hLc]; exact hS
  have hW : Wd g 0 81 σ H := by rw [hH]; exact hW
  suffices hG : W p l e (kr 3 67) s m (List.toArray [.ref (bs g 64), .int a1]) below meth c H locs 0 0 Q (F0 m 0 ls []) by rw [hH, hLc] at hG; exact hG
  clear hH hLc
  refine lv_iconst (v := 1) hx hb dX13_canBe_0 (by decide) ?_
  refine lv_istore_n (lv' := [(2, .int 1), (0, .ref (bs g 64)), (1, .int a1)]) hx hb dX13_canBe_1 rfl hl (by decide) rfl (fun ls hl => ?_)
  refine lv_iconst (v := 0) hx hb dX13_canBe_2 (by decide) ?_
  refine lv_istore_n (lv' := [(3, .int 0), (2, .int 1), (0, .ref (bs g 64)), (1, .int a1)]) hx hb dX13_canBe_3 rfl hl (by decide) rfl (fun ls hl => ?_)
  refine fx2_W (fun (i_1 : Int32) (i_2 : Int32) => ∀ (H : Heap) (locs : List Loc) (ls : Array Slot), Wd g 0 81 σ H → va_S (Ag g 0) s.heap H locs → lv_has ls 4 [(0, .ref (bs g 64)), (1, .int a1), (2, .int i_1), (3, .int i_2)] → W p l e (kr 3 67) s m (List.toArray [.ref (bs g 64), .int a1]) below meth c H locs 0 0 Q (F0 m 4 ls [])) (fun k_3 hk_3 i_1 i_2 hf => ?_) FU 1 0 hf H locs ls hW hS (lv_sub hl [2, 3, 1, 0] rfl)
  intro H locs ls hW hS hl
  refine lv_iload_n hx hb dX13_canBe_4 rfl (lv_at hl 3 rfl) ?_
  refine lv_aload_n hx hb dX13_canBe_5 rfl (lv_at hl 0 rfl) ?_
  refine gf_13_15 hx hb htg (htg _ lf_X13_20) hown hZ hW tz_64 dX13_canBe_6 ?_
  refine lv_iconst (v := 4) hx hb dX13_canBe_9 (by decide) ?_
  refine mld_i hx hb hZ hW tz_67 hf dX13_canBe_10 (fun hf => ?_)
  refine lv_icmp_ge (tgt := 62) hx hb dX13_canBe_11 (by decide) (fun hc => ?_) (fun hc => ?_)
  · have hf := ift hc hf
    refine lv_iload_n hx hb dX13_canBe_62 rfl (lv_at hl 2 rfl) ?_
    subst hQ
    exact mrz hx hb hr hlocks hZ hT hS hW (zrt_s hf).1 ⟨(zrt_s hf).2, rfl⟩ dX13_canBe_63
  · have hf := iff_ hc hf
    refine lv_iload_n hx hb dX13_canBe_14 rfl (lv_at hl 2 rfl) ?_
    refine jn1_W (fun (i_4 : Int32) => ∀ (H : Heap) (locs : List Loc) (ls : Array Slot), Wd g 0 81 σ H → va_S (Ag g 0) s.heap H locs → lv_has ls 4 [(0, .ref (bs g 64)), (1, .int a1), (3, .int i_2)] → W p l e (kr 3 67) s m (List.toArray [.ref (bs g 64), .int a1]) below meth c H locs 0 0 Q (F0 m 55 ls [.int i_4])) hf (fun i_4 hf => ?_) (fun k_5 hk_5 hf => ?_)
    · intro H locs ls hW hS hl
      refine lv_istore_n (lv' := [(2, .int i_4), (0, .ref (bs g 64)), (1, .int a1), (3, .int i_2)]) hx hb dX13_canBe_55 rfl hl (by decide) rfl (fun ls hl => ?_)
      obtain ⟨x_6, e_7, hf⟩ := nm_s hf
      refine lv_iinc (v := x_6) (lv' := [(3, .int x_6), (2, .int i_4), (0, .ref (bs g 64)), (1, .int a1)]) hx hb dX13_canBe_56 hl (k := 3) rfl (by rw [e_7]; rfl) (by decide) rfl (fun ls hl => ?_)
      refine lv_goto (tgt := 4) hx hb dX13_canBe_59 (by decide) ?_
      exact hk_3 i_4 x_6 hf H locs ls hW hS (lv_sub hl [2, 3, 1, 0] rfl)
    · refine jn0_W (∀ (H : Heap) (locs : List Loc) (ls : Array Slot), Wd g 0 81 σ H → va_S (Ag g 0) s.heap H locs → lv_has ls 4 [(0, .ref (bs g 64)), (1, .int a1), (3, .int i_2)] → W p l e (kr 3 67) s m (List.toArray [.ref (bs g 64), .int a1]) below meth c H locs 0 0 Q (F0 m 54 ls [])) hf (fun  hf => ?_) (fun k_8 hk_8 hf => ?_)
      · intro H locs ls hW hS hl
        refine lv_iconst (v := 0) hx hb dX13_canBe_54 (by decide) ?_
        exact hk_5 0 hf H locs ls hW hS (lv_sub hl [0, 1, 2] rfl)
      · refine lv_if_eq (tgt := 54) hx hb dX13_canBe_15 (by decide) (fun hc => ?_) (fun hc => ?_)
        · have hf := ift hc hf
          exact hk_8  hf H locs ls hW hS (lv_sub hl [0, 1, 3] rfl)
        · have hf := iff_ hc hf
          refine lv_aload_n hx hb dX13_canBe_18 rfl (lv_at hl 0 rfl) ?_
          refine gf_13_15 hx hb htg (htg _ lf_X13_20) hown hZ hW tz_64 dX13_canBe_19 ?_
          refine lv_bipush (v := 125) hx hb dX13_canBe_22 (by decide) ?_
          refine lv_iload_n hx hb dX13_canBe_24 rfl (lv_at hl 3 rfl) ?_
          refine lv_iadd hx hb dX13_canBe_25 ?_
          refine mld_i hx hb hZ hW tz_67 hf dX13_canBe_26 (fun hf => ?_)
          refine jn0_W (∀ (H : Heap) (locs : List Loc) (ls : Array Slot), Wd g 0 81 σ H → va_S (Ag g 0) s.heap H locs → lv_has ls 4 [(0, .ref (bs g 64)), (1, .int a1), (3, .int i_2)] → W p l e (kr 3 67) s m (List.toArray [.ref (bs g 64), .int a1]) below meth c H locs 0 0 Q (F0 m 50 ls [])) hf (fun  hf => ?_) (fun k_9 hk_9 hf => ?_)
          · intro H locs ls hW hS hl
            refine lv_iconst (v := 1) hx hb dX13_canBe_50 (by decide) ?_
            refine lv_goto (tgt := 55) hx hb dX13_canBe_51 (by decide) ?_
            exact hk_5 1 hf H locs ls hW hS (lv_sub hl [0, 1, 2] rfl)
          · refine lv_if_eq (tgt := 50) hx hb dX13_canBe_27 (by decide) (fun hc => ?_) (fun hc => ?_)
            · have hf := ift hc hf
              exact hk_9  hf H locs ls hW hS (lv_sub hl [0, 1, 3] rfl)
            · have hf := iff_ hc hf
              refine lv_aload_n hx hb dX13_canBe_30 rfl (lv_at hl 0 rfl) ?_
              refine lv_iload_n hx hb dX13_canBe_31 rfl (lv_at hl 3 rfl) ?_
              refine lv_iload_n hx hb dX13_canBe_32 rfl (lv_at hl 1 rfl) ?_
              refine mcip hf hS (fun r h => va_runV (As := [.int i_2, .int a1]) (rest := []) ⟨hx, hb, hml, hown, hts⟩ (c_X13_alike g l σ i_2 a1 r h) (cl_X13_372 hts ⟨Nat.le_of_ble_eq_true rfl, Nat.le_of_ble_eq_true rfl⟩) (mpV_13 hZ hT hS hW tz_64 _) rfl rfl hl.1 rfl (lv_room (Nat.le_of_ble_eq_true rfl)) dX13_canBe_33 ⟨Nat.zero_le _, Nat.zero_le _⟩) (fun r_10 H locs hf hW hS => ?_)
              refine lv_aload_n hx hb dX13_canBe_36 rfl (lv_at hl 0 rfl) ?_
              refine gf_13_15 hx hb htg (htg _ lf_X13_20) hown hZ hW tz_64 dX13_canBe_37 ?_
              refine lv_bipush (v := 125) hx hb dX13_canBe_40 (by decide) ?_
              refine lv_iload_n hx hb dX13_canBe_42 rfl (lv_at hl 3 rfl) ?_
              refine lv_iadd hx hb dX13_canBe_43 ?_
              refine mld_i hx hb hZ hW tz_67 hf dX13_canBe_44 (fun hf => ?_)
              refine lv_iconst (v := 1) hx hb dX13_canBe_45 (by decide) ?_
              refine lv_isub hx hb dX13_canBe_46 ?_
              refine lv_icmp_ne (tgt := 54) hx hb dX13_canBe_47 (by decide) (fun hc => ?_) (fun hc => ?_)
              · have hf := iff_ hc hf
                exact hk_8  hf H locs ls hW hS (lv_sub hl [0, 1, 3] rfl)
              · have hf := ift hc hf
                exact hk_9  hf H locs ls hW hS (lv_sub hl [0, 1, 3] rfl)
def f_X13_lookBy (σ : Mem) (a1 : Int32) : Option (Int32) :=
  ixd 0 (aln 67) (nm ((σ.1 67 (0 : Int32).toNatClampNeg) - 1) (fun (x_1 : Int32) => fx3 FU (fun k_5 (i_2 : Int32) (i_3 : Int32) (i_4 : Int32) => (if i_4 < 0 then some i_2 else dvd 4 (nm (i_2 ||| ((i_3 - i_3 / 4 * 4) <<< ((2 * i_4) &&& 31))) (fun (x_6 : Int32) => dvd 4 (nm (i_3 / 4) (fun (x_7 : Int32) => nm (i_4 + (-1)) (fun (x_8 : Int32) => k_5 x_6 x_7 x_8))))))) 0 a1 x_1))
set_option maxHeartbeats 4000000 in
set_option maxRecDepth 100000 in
theorem c_X13_lookBy (g : XG) (l : Launch) (σ : Mem) (a1 : Int32) (r : Int32) (hf : f_X13_lookBy σ a1 = some r) : Met l yX13_lookBy (wx (.code yX13_lookBy cX13_lookBy 5 (some .int))) (kr 0 0) (va_Pc [.ref (bs g 64), .int a1] (WS g 0 81 σ)) (Qi' g 0 81 r σ) 0 0 (Ag g 0) := by
  refine Met.ofW (cc := cX13_lookBy) (maxL := 5) (ret := (some .int)) (by decide) rfl ?_
  intro p e s m args below meth c s₁ B hml hv
  obtain ⟨rfl, hZ, hT, hW⟩ := hv
  have hx := B.exec
  have hb := B.bytes
  have hr := B.returns
  have hts : ∀ w ∈ wx (.code yX13_lookBy cX13_lookBy 5 (some .int)), w.before _ s = true := atoms_spec B.pre
  have htg : ∀ w ∈ lwg, w.before _ s = true := fun w h => hts w (List.mem_cons_of_mem _ h)
  have hown : s.vm.findClass RX13 = some m.cls := findClass_of_methodNamed B.named
  have hlocks := B.notSynchronized
  change W p l e (kr 0 0) s m (List.toArray [.ref (bs g 64), .int a1]) below meth c s.heap [] 0 0 (MQ below (Qi' g 0 81 r σ) (List.toArray [.ref (bs g 64), .int a1]) s 0 0 (Ag g 0)) _
  generalize hQ : MQ below (Qi' g 0 81 r σ) (List.toArray [.ref (bs g 64), .int a1]) s 0 0 (Ag g 0) = Q
  have hS : va_S (Ag g 0) s.heap s.heap [] := va_S.rf
  have hl := lv_entry ([.ref (bs g 64), .int a1]) (n := 5) (Nat.le_of_ble_eq_true rfl)
  rw [lg_entry_eq]
  generalize (lg_sl ([.ref (bs g 64), .int a1]) ++ List.replicate (5 - (lg_sl ([.ref (bs g 64), .int a1])).length) Slot.unset).toArray = ls at hl ⊢
  have hl : lv_has ls 5 [(0, .ref (bs g 64)), (1, .int a1)] := hl
  delta f_X13_lookBy at hf
  obtain ⟨H, hH⟩ : ∃ H, H = s.heap := ⟨_, rfl⟩
  obtain ⟨locs, hLc⟩ : ∃ z : List Loc, z = [] := ⟨_, rfl⟩
  have hS : va_S (Ag g 0) s.heap H locs := by rw [hH, hLc]; exact hS
  have hW : Wd g 0 81 σ H := by rw [hH]; exact hW
  suffices hG : W p l e (kr 0 0) s m (List.toArray [.ref (bs g 64), .int a1]) below meth c H locs 0 0 Q (F0 m 0 ls []) by rw [hH, hLc] at hG; exact hG
  clear hH hLc
  refine lv_iconst (v := 0) hx hb dX13_lookBy_0 (by decide) ?_
  refine lv_istore_n (lv' := [(2, .int 0), (0, .ref (bs g 64)), (1, .int a1)]) hx hb dX13_lookBy_1 rfl hl (by decide) rfl (fun ls hl => ?_)
  refine lv_iload_n hx hb dX13_lookBy_2 rfl (lv_at hl 2 rfl) ?_
  refine lv_istore_n (lv' := [(3, .int a1), (2, .int 0), (0, .ref (bs g 64)), (1, .int a1)]) hx hb dX13_lookBy_3 rfl hl (by decide) rfl (fun ls hl => ?_)
  refine lv_aload_n hx hb dX13_lookBy_4 rfl (lv_at hl 2 rfl) ?_
  refine gf_13_15 hx hb htg (htg _ lf_X13_20) hown hZ hW tz_64 dX13_lookBy_5 ?_
  refine lv_iconst (v := 0) hx hb dX13_lookBy_8 (by decide) ?_
  refine mld_i hx hb hZ hW tz_67 hf dX13_lookBy_9 (fun hf => ?_)
  refine lv_iconst (v := 1) hx hb dX13_lookBy_10 (by decide) ?_
  refine lv_isub hx hb dX13_lookBy_11 ?_
  refine mnmi hf (fun (x_1 : Int32) hf => ?_)
  refine lv_istore (lv' := [(4, .int x_1), (3, .int a1), (2, .int 0), (0, .ref (bs g 64)), (1, .int a1)]) hx hb dX13_lookBy_12 hl (by decide) rfl (fun ls hl => ?_)
  refine fx3_W (fun (i_2 : Int32) (i_3 : Int32) (i_4 : Int32) => ∀ (H : Heap) (locs : List Loc) (ls : Array Slot), Wd g 0 81 σ H → va_S (Ag g 0) s.heap H locs → lv_has ls 5 [(2, .int i_2), (3, .int i_3), (4, .int i_4)] → W p l e (kr 0 0) s m (List.toArray [.ref (bs g 64), .int a1]) below meth c H locs 0 0 Q (F0 m 14 ls [])) (fun k_5 hk_5 i_2 i_3 i_4 hf => ?_) FU 0 a1 x_1 hf H locs ls hW hS (lv_sub hl [2, 1, 0] rfl)
  intro H locs ls hW hS hl
  refine lv_iload hx hb dX13_lookBy_14 (lv_at hl 2 rfl) ?_
  refine lv_if_lt (tgt := 40) hx hb dX13_lookBy_16 (by decide) (fun hc => ?_) (fun hc => ?_)
  · have hf := ift hc hf
    refine lv_iload_n hx hb dX13_lookBy_40 rfl (lv_at hl 0 rfl) ?_
    subst hQ
    exact mri hx hb hr hlocks hZ hT hS hW ⟨Option.some.inj hf, rfl⟩ dX13_lookBy_41
  · have hf := iff_ hc hf
    refine lv_iload_n hx hb dX13_lookBy_19 rfl (lv_at hl 0 rfl) ?_
    refine lv_iload_n hx hb dX13_lookBy_20 rfl (lv_at hl 1 rfl) ?_
    refine lv_iconst (v := 4) hx hb dX13_lookBy_21 (by decide) ?_
    obtain ⟨hd, hf⟩ := dvd_s hf
    refine lv_irem hx hb dX13_lookBy_22 hd ?_
    refine lv_iconst (v := 2) hx hb dX13_lookBy_23 (by decide) ?_
    refine lv_iload hx hb dX13_lookBy_24 (lv_at hl 2 rfl) ?_
    refine lv_imul hx hb dX13_lookBy_26 ?_
    refine lv_ishl hx hb dX13_lookBy_27 ?_
    refine lv_ior hx hb dX13_lookBy_28 ?_
    refine mnmi hf (fun (x_6 : Int32) hf => ?_)
    refine lv_istore_n (lv' := [(2, .int x_6), (3, .int i_3), (4, .int i_4)]) hx hb dX13_lookBy_29 rfl hl (by decide) rfl (fun ls hl => ?_)
    refine lv_iload_n hx hb dX13_lookBy_30 rfl (lv_at hl 1 rfl) ?_
    refine lv_iconst (v := 4) hx hb dX13_lookBy_31 (by decide) ?_
    obtain ⟨hd, hf⟩ := dvd_s hf
    refine lv_idiv hx hb dX13_lookBy_32 hd ?_
    refine mnmi hf (fun (x_7 : Int32) hf => ?_)
    refine lv_istore_n (lv' := [(3, .int x_7), (2, .int x_6), (4, .int i_4)]) hx hb dX13_lookBy_33 rfl hl (by decide) rfl (fun ls hl => ?_)
    obtain ⟨x_8, e_9, hf⟩ := nm_s hf
    refine lv_iinc (v := x_8) (lv' := [(4, .int x_8), (3, .int x_7), (2, .int x_6)]) hx hb dX13_lookBy_34 hl (k := 2) rfl (by rw [e_9]; rfl) (by decide) rfl (fun ls hl => ?_)
    refine lv_goto (tgt := 14) hx hb dX13_lookBy_37 (by decide) ?_
    exact hk_5 x_6 x_7 x_8 hf H locs ls hW hS (lv_sub hl [2, 1, 0] rfl)
def f_X13_allLooks (σ : Mem)  : Option (Int32) :=
  ixd 0 (aln 67) (some (1 <<< ((2 * (σ.1 67 (0 : Int32).toNatClampNeg)) &&& 31)))
set_option maxHeartbeats 4000000 in
set_option maxRecDepth 100000 in
theorem c_X13_allLooks (g : XG) (l : Launch) (σ : Mem) (r : Int32) (hf : f_X13_allLooks σ = some r) : Met l yX13_allLooks (wx (.code yX13_allLooks cX13_allLooks 1 (some .int))) (kr 0 0) (va_Pc [.ref (bs g 64)] (WS g 0 81 σ)) (Qi' g 0 81 r σ) 0 0 (Ag g 0) := by
  refine Met.ofW (cc := cX13_allLooks) (maxL := 1) (ret := (some .int)) (by decide) rfl ?_
  intro p e s m args below meth c s₁ B hml hv
  obtain ⟨rfl, hZ, hT, hW⟩ := hv
  have hx := B.exec
  have hb := B.bytes
  have hr := B.returns
  have hts : ∀ w ∈ wx (.code yX13_allLooks cX13_allLooks 1 (some .int)), w.before _ s = true := atoms_spec B.pre
  have htg : ∀ w ∈ lwg, w.before _ s = true := fun w h => hts w (List.mem_cons_of_mem _ h)
  have hown : s.vm.findClass RX13 = some m.cls := findClass_of_methodNamed B.named
  have hlocks := B.notSynchronized
  change W p l e (kr 0 0) s m (List.toArray [.ref (bs g 64)]) below meth c s.heap [] 0 0 (MQ below (Qi' g 0 81 r σ) (List.toArray [.ref (bs g 64)]) s 0 0 (Ag g 0)) _
  generalize hQ : MQ below (Qi' g 0 81 r σ) (List.toArray [.ref (bs g 64)]) s 0 0 (Ag g 0) = Q
  have hS : va_S (Ag g 0) s.heap s.heap [] := va_S.rf
  have hl := lv_entry ([.ref (bs g 64)]) (n := 1) (Nat.le_of_ble_eq_true rfl)
  rw [lg_entry_eq]
  generalize (lg_sl ([.ref (bs g 64)]) ++ List.replicate (1 - (lg_sl ([.ref (bs g 64)])).length) Slot.unset).toArray = ls at hl ⊢
  have hl : lv_has ls 1 [(0, .ref (bs g 64))] := hl
  delta f_X13_allLooks at hf
  obtain ⟨H, hH⟩ : ∃ H, H = s.heap := ⟨_, rfl⟩
  obtain ⟨locs, hLc⟩ : ∃ z : List Loc, z = [] := ⟨_, rfl⟩
  have hS : va_S (Ag g 0) s.heap H locs := by rw [hH, hLc]; exact hS
  have hW : Wd g 0 81 σ H := by rw [hH]; exact hW
  suffices hG : W p l e (kr 0 0) s m (List.toArray [.ref (bs g 64)]) below meth c H locs 0 0 Q (F0 m 0 ls []) by rw [hH, hLc] at hG; exact hG
  clear hH hLc
  refine lv_iconst (v := 1) hx hb dX13_allLooks_0 (by decide) ?_
  refine lv_iconst (v := 2) hx hb dX13_allLooks_1 (by decide) ?_
  refine lv_aload_n hx hb dX13_allLooks_2 rfl (lv_at hl 0 rfl) ?_
  refine gf_13_15 hx hb htg (htg _ lf_X13_20) hown hZ hW tz_64 dX13_allLooks_3 ?_
  refine lv_iconst (v := 0) hx hb dX13_allLooks_6 (by decide) ?_
  refine mld_i hx hb hZ hW tz_67 hf dX13_allLooks_7 (fun hf => ?_)
  refine lv_imul hx hb dX13_allLooks_8 ?_
  refine lv_ishl hx hb dX13_allLooks_9 ?_
  subst hQ
  exact mri hx hb hr hlocks hZ hT hS hW ⟨Option.some.inj hf, rfl⟩ dX13_allLooks_10
def f_X13_unknown (σ : Mem)  : Option (Int32 × Mem) :=
  bd1 (f_X13_good σ) (fun (σ_1 : Mem) => (if (σ_1.1 64 14) = 0 then bd2 (f_X13_no σ_1 1) (fun (r_13 : Int32) (σ_14 : Mem) => some (r_13, σ_14)) else fx2 FU (fun k_4 (i_2 : Int32) (i_3 : Int32) => bd1 (f_X13_allLooks σ_1) (fun (r_5 : Int32) => (if r_5 ≤ i_3 then some (i_2, σ_1) else bd1 (f_X13_lookBy σ_1 i_3) (fun (r_6 : Int32) => bd1 (f_X13_canBe σ_1 r_6) (fun (r_7 : Int32) => jn1 (fun (i_8 : Int32) => nm (i_2 + i_8) (fun (x_10 : Int32) => nm (i_3 + 1) (fun (x_11 : Int32) => k_4 x_10 x_11))) (fun k_9 => (if r_7 = 0 then k_9 0 else k_9 1))))))) 0 0))
set_option maxHeartbeats 4000000 in
set_option maxRecDepth 100000 in
theorem c_X13_unknown (g : XG) (l : Launch) (σ : Mem) (r : Int32) (τ : Mem) (hf : f_X13_unknown σ = some (r, τ)) : Met l yX13_unknown (wx (.code yX13_unknown cX13_unknown 3 (some .int))) (kr 4 90) (va_Pc [.ref (bs g 64)] (WS g 0 81 σ)) (Qi' g 0 81 r τ) 0 0 (Ag g 0) := by
  refine Met.ofW (cc := cX13_unknown) (maxL := 3) (ret := (some .int)) (by decide) rfl ?_
  intro p e s m args below meth c s₁ B hml hv
  obtain ⟨rfl, hZ, hT, hW⟩ := hv
  have hx := B.exec
  have hb := B.bytes
  have hr := B.returns
  have hts : ∀ w ∈ wx (.code yX13_unknown cX13_unknown 3 (some .int)), w.before _ s = true := atoms_spec B.pre
  have htg : ∀ w ∈ lwg, w.before _ s = true := fun w h => hts w (List.mem_cons_of_mem _ h)
  have hown : s.vm.findClass RX13 = some m.cls := findClass_of_methodNamed B.named
  have hlocks := B.notSynchronized
  change W p l e (kr 4 90) s m (List.toArray [.ref (bs g 64)]) below meth c s.heap [] 0 0 (MQ below (Qi' g 0 81 r τ) (List.toArray [.ref (bs g 64)]) s 0 0 (Ag g 0)) _
  generalize hQ : MQ below (Qi' g 0 81 r τ) (List.toArray [.ref (bs g 64)]) s 0 0 (Ag g 0) = Q
  have hS : va_S (Ag g 0) s.heap s.heap [] := va_S.rf
  have hl := lv_entry ([.ref (bs g 64)]) (n := 3) (Nat.le_of_ble_eq_true rfl)
  rw [lg_entry_eq]
  generalize (lg_sl ([.ref (bs g 64)]) ++ List.replicate (3 - (lg_sl ([.ref (bs g 64)])).length) Slot.unset).toArray = ls at hl ⊢
  have hl : lv_has ls 3 [(0, .ref (bs g 64))] := hl
  delta f_X13_unknown at hf
  obtain ⟨H, hH⟩ : ∃ H, H = s.heap := ⟨_, rfl⟩
  obtain ⟨locs, hLc⟩ : ∃ z : List Loc, z = [] := ⟨_, rfl⟩
  have hS : va_S (Ag g 0) s.heap H locs := by rw [hH, hLc]; exact hS
  have hW : Wd g 0 81 σ H := by rw [hH]; exact hW
  suffices hG : W p l e (kr 4 90) s m (List.toArray [.ref (bs g 64)]) below meth c H locs 0 0 Q (F0 m 0 ls []) by rw [hH, hLc] at hG; exact hG
  clear hH hLc
  refine lv_aload_n hx hb dX13_unknown_0 rfl (lv_at hl 0 rfl) ?_
  refine mcv hf hS (fun τ h => va_runV (As := []) (rest := []) ⟨hx, hb, hml, hown, hts⟩ (c_X13_good g l σ τ h) (cl_X13_166 hts ⟨Nat.le_of_ble_eq_true rfl, Nat.le_of_ble_eq_true rfl⟩) (mpV_13 hZ hT hS hW tz_64 _) rfl rfl hl.1 rfl (lv_room (Nat.le_of_ble_eq_true rfl)) dX13_unknown_1 ⟨Nat.zero_le _, Nat.zero_le _⟩) (fun σ_1 H locs hf hW hS => ?_)
  refine lv_aload_n hx hb dX13_unknown_4 rfl (lv_at hl 0 rfl) ?_
  refine gf_13_14 hx hb htg (htg _ lf_X13_179) hown hZ hW tz_64 dX13_unknown_5 ?_
  refine lv_if_ne (tgt := 17) hx hb dX13_unknown_8 (by decide) (fun hc => ?_) (fun hc => ?_)
  · have hf := iff_ hc hf
    refine lv_iconst (v := 0) hx hb dX13_unknown_17 (by decide) ?_
    refine lv_istore_n (lv' := [(1, .int 0), (0, .ref (bs g 64))]) hx hb dX13_unknown_18 rfl hl (by decide) rfl (fun ls hl => ?_)
    refine lv_iconst (v := 0) hx hb dX13_unknown_19 (by decide) ?_
    refine lv_istore_n (lv' := [(2, .int 0), (1, .int 0), (0, .ref (bs g 64))]) hx hb dX13_unknown_20 rfl hl (by decide) rfl (fun ls hl => ?_)
    refine fx2_W (fun (i_2 : Int32) (i_3 : Int32) => ∀ (H : Heap) (locs : List Loc) (ls : Array Slot), Wd g 0 81 σ_1 H → va_S (Ag g 0) s.heap H locs → lv_has ls 3 [(0, .ref (bs g 64)), (1, .int i_2), (2, .int i_3)] → W p l e (kr 4 90) s m (List.toArray [.ref (bs g 64)]) below meth c H locs 0 0 Q (F0 m 21 ls [])) (fun k_4 hk_4 i_2 i_3 hf => ?_) FU 0 0 hf H locs ls hW hS (lv_sub hl [2, 1, 0] rfl)
    intro H locs ls hW hS hl
    refine lv_iload_n hx hb dX13_unknown_21 rfl (lv_at hl 2 rfl) ?_
    refine lv_aload_n hx hb dX13_unknown_22 rfl (lv_at hl 0 rfl) ?_
    refine mcip hf hS (fun r h => va_runV (As := []) (rest := [.int i_3]) ⟨hx, hb, hml, hown, hts⟩ (c_X13_allLooks g l σ_1 r h) (cl_X13_375 hts ⟨Nat.le_of_ble_eq_true rfl, Nat.le_of_ble_eq_true rfl⟩) (mpV_13 hZ hT hS hW tz_64 _) rfl rfl hl.1 rfl (lv_room (Nat.le_of_ble_eq_true rfl)) dX13_unknown_23 ⟨Nat.zero_le _, Nat.zero_le _⟩) (fun r_5 H locs hf hW hS => ?_)
    refine lv_icmp_ge (tgt := 55) hx hb dX13_unknown_26 (by decide) (fun hc => ?_) (fun hc => ?_)
    · have hf := ift hc hf
      refine lv_iload_n hx hb dX13_unknown_55 rfl (lv_at hl 1 rfl) ?_
      subst hQ
      exact mri hx hb hr hlocks hZ hT hS hW (pr1 hf) dX13_unknown_56
    · have hf := iff_ hc hf
      refine lv_iload_n hx hb dX13_unknown_29 rfl (lv_at hl 1 rfl) ?_
      refine lv_aload_n hx hb dX13_unknown_30 rfl (lv_at hl 0 rfl) ?_
      refine lv_aload_n hx hb dX13_unknown_31 rfl (lv_at hl 0 rfl) ?_
      refine lv_iload_n hx hb dX13_unknown_32 rfl (lv_at hl 2 rfl) ?_
      refine mcip hf hS (fun r h => va_runV (As := [.int i_3]) (rest := [.ref (bs g 64), .int i_2]) ⟨hx, hb, hml, hown, hts⟩ (c_X13_lookBy g l σ_1 i_3 r h) (cl_X13_378 hts ⟨Nat.le_of_ble_eq_true rfl, Nat.le_of_ble_eq_true rfl⟩) (mpV_13 hZ hT hS hW tz_64 _) rfl rfl hl.1 rfl (lv_room (Nat.le_of_ble_eq_true rfl)) dX13_unknown_33 ⟨Nat.zero_le _, Nat.zero_le _⟩) (fun r_6 H locs hf hW hS => ?_)
      refine mcip hf hS (fun r h => va_runV (As := [.int r_6]) (rest := [.int i_2]) ⟨hx, hb, hml, hown, hts⟩ (c_X13_canBe g l σ_1 r_6 r h) (cl_X13_381 hts ⟨Nat.le_of_ble_eq_true rfl, Nat.le_of_ble_eq_true rfl⟩) (mpV_13 hZ hT hS hW tz_64 _) rfl rfl hl.1 rfl (lv_room (Nat.le_of_ble_eq_true rfl)) dX13_unknown_36 ⟨Nat.zero_le _, Nat.zero_le _⟩) (fun r_7 H locs hf hW hS => ?_)
      refine jn1_W (fun (i_8 : Int32) => ∀ (H : Heap) (locs : List Loc) (ls : Array Slot), Wd g 0 81 σ_1 H → va_S (Ag g 0) s.heap H locs → lv_has ls 3 [(0, .ref (bs g 64)), (2, .int i_3)] → W p l e (kr 4 90) s m (List.toArray [.ref (bs g 64)]) below meth c H locs 0 0 Q (F0 m 47 ls [.int i_8, .int i_2])) hf (fun i_8 hf => ?_) (fun k_9 hk_9 hf => ?_)
      · intro H locs ls hW hS hl
        refine lv_iadd hx hb dX13_unknown_47 ?_
        refine mnmi hf (fun (x_10 : Int32) hf => ?_)
        refine lv_istore_n (lv' := [(1, .int x_10), (0, .ref (bs g 64)), (2, .int i_3)]) hx hb dX13_unknown_48 rfl hl (by decide) rfl (fun ls hl => ?_)
        obtain ⟨x_11, e_12, hf⟩ := nm_s hf
        refine lv_iinc (v := x_11) (lv' := [(2, .int x_11), (1, .int x_10), (0, .ref (bs g 64))]) hx hb dX13_unknown_49 hl (k := 2) rfl (by rw [e_12]; rfl) (by decide) rfl (fun ls hl => ?_)
        refine lv_goto (tgt := 21) hx hb dX13_unknown_52 (by decide) ?_
        exact hk_4 x_10 x_11 hf H locs ls hW hS (lv_sub hl [2, 1, 0] rfl)
      · refine lv_if_eq (tgt := 46) hx hb dX13_unknown_39 (by decide) (fun hc => ?_) (fun hc => ?_)
        · have hf := ift hc hf
          refine lv_iconst (v := 0) hx hb dX13_unknown_46 (by decide) ?_
          exact hk_9 0 hf H locs ls hW hS (lv_sub hl [0, 2] rfl)
        · have hf := iff_ hc hf
          refine lv_iconst (v := 1) hx hb dX13_unknown_42 (by decide) ?_
          refine lv_goto (tgt := 47) hx hb dX13_unknown_43 (by decide) ?_
          exact hk_9 1 hf H locs ls hW hS (lv_sub hl [0, 2] rfl)
  · have hf := ift hc hf
    refine lv_aload_n hx hb dX13_unknown_11 rfl (lv_at hl 0 rfl) ?_
    refine lv_iconst (v := 1) hx hb dX13_unknown_12 (by decide) ?_
    refine mci hf hS (fun r τ h => va_runV (As := [.int 1]) (rest := []) ⟨hx, hb, hml, hown, hts⟩ (c_X13_no g l σ_1 1 r τ h) (cl_X13_169 hts ⟨Nat.le_of_ble_eq_true rfl, Nat.le_of_ble_eq_true rfl⟩) (mpV_13 hZ hT hS hW tz_64 _) rfl rfl hl.1 rfl (lv_room (Nat.le_of_ble_eq_true rfl)) dX13_unknown_13 ⟨Nat.zero_le _, Nat.zero_le _⟩) (fun r_13 σ_14 H locs hf hW hS => ?_)
    subst hQ
    exact mri hx hb hr hlocks hZ hT hS hW (pr1 hf) dX13_unknown_16
def f_X13_digits (σ : Mem) (a1 : Int32) : Option (Int32) :=
  fx2 FU (fun k_3 (i_1 : Int32) (i_2 : Int32) => ixd 0 (aln 67) ((if (σ.1 67 (0 : Int32).toNatClampNeg) ≤ i_2 then some i_1 else bd1 (f_X13_markOf a1 i_2) (fun (r_4 : Int32) => nm (((10 * i_1) + r_4) + 1) (fun (x_5 : Int32) => nm (i_2 + 1) (fun (x_6 : Int32) => k_3 x_5 x_6)))))) 0 0
set_option maxHeartbeats 4000000 in
set_option maxRecDepth 100000 in
theorem c_X13_digits (g : XG) (l : Launch) (σ : Mem) (a1 : Int32) (r : Int32) (hf : f_X13_digits σ a1 = some r) : Met l yX13_digits (wx (.code yX13_digits cX13_digits 4 (some .int))) (kr 1 21) (va_Pc [.ref (bs g 64), .int a1] (WS g 0 81 σ)) (Qi' g 0 81 r σ) 0 0 (Ag g 0) := by
  refine Met.ofW (cc := cX13_digits) (maxL := 4) (ret := (some .int)) (by decide) rfl ?_
  intro p e s m args below meth c s₁ B hml hv
  obtain ⟨rfl, hZ, hT, hW⟩ := hv
  have hx := B.exec
  have hb := B.bytes
  have hr := B.returns
  have hts : ∀ w ∈ wx (.code yX13_digits cX13_digits 4 (some .int)), w.before _ s = true := atoms_spec B.pre
  have htg : ∀ w ∈ lwg, w.before _ s = true := fun w h => hts w (List.mem_cons_of_mem _ h)
  have hown : s.vm.findClass RX13 = some m.cls := findClass_of_methodNamed B.named
  have hlocks := B.notSynchronized
  change W p l e (kr 1 21) s m (List.toArray [.ref (bs g 64), .int a1]) below meth c s.heap [] 0 0 (MQ below (Qi' g 0 81 r σ) (List.toArray [.ref (bs g 64), .int a1]) s 0 0 (Ag g 0)) _
  generalize hQ : MQ below (Qi' g 0 81 r σ) (List.toArray [.ref (bs g 64), .int a1]) s 0 0 (Ag g 0) = Q
  have hS : va_S (Ag g 0) s.heap s.heap [] := va_S.rf
  have hl := lv_entry ([.ref (bs g 64), .int a1]) (n := 4) (Nat.le_of_ble_eq_true rfl)
  rw [lg_entry_eq]
  generalize (lg_sl ([.ref (bs g 64), .int a1]) ++ List.replicate (4 - (lg_sl ([.ref (bs g 64), .int a1])).length) Slot.unset).toArray = ls at hl ⊢
  have hl : lv_has ls 4 [(0, .ref (bs g 64)), (1, .int a1)] := hl
  delta f_X13_digits at hf
  obtain ⟨H, hH⟩ : ∃ H, H = s.heap := ⟨_, rfl⟩
  obtain ⟨locs, hLc⟩ : ∃ z : List Loc, z = [] := ⟨_, rfl⟩
  have hS : va_S (Ag g 0) s.heap H locs := by rw [hH, hLc]; exact hS
  have hW : Wd g 0 81 σ H := by rw [hH]; exact hW
  suffices hG : W p l e (kr 1 21) s m (List.toArray [.ref (bs g 64), .int a1]) below meth c H locs 0 0 Q (F0 m 0 ls []) by rw [hH, hLc] at hG; exact hG
  clear hH hLc
  refine lv_iconst (v := 0) hx hb dX13_digits_0 (by decide) ?_
  refine lv_istore_n (lv' := [(2, .int 0), (0, .ref (bs g 64)), (1, .int a1)]) hx hb dX13_digits_1 rfl hl (by decide) rfl (fun ls hl => ?_)
  refine lv_iconst (v := 0) hx hb dX13_digits_2 (by decide) ?_
  refine lv_istore_n (lv' := [(3, .int 0), (2, .int 0), (0, .ref (bs g 64)), (1, .int a1)]) hx hb dX13_digits_3 rfl hl (by decide) rfl (fun ls hl => ?_)
  refine fx2_W (fun (i_1 : Int32) (i_2 : Int32) => ∀ (H : Heap) (locs : List Loc) (ls : Array Slot), Wd g 0 81 σ H → va_S (Ag g 0) s.heap H locs → lv_has ls 4 [(0, .ref (bs g 64)), (1, .int a1), (2, .int i_1), (3, .int i_2)] → W p l e (kr 1 21) s m (List.toArray [.ref (bs g 64), .int a1]) below meth c H locs 0 0 Q (F0 m 4 ls [])) (fun k_3 hk_3 i_1 i_2 hf => ?_) FU 0 0 hf H locs ls hW hS (lv_sub hl [2, 3, 1, 0] rfl)
  intro H locs ls hW hS hl
  refine lv_iload_n hx hb dX13_digits_4 rfl (lv_at hl 3 rfl) ?_
  refine lv_aload_n hx hb dX13_digits_5 rfl (lv_at hl 0 rfl) ?_
  refine gf_13_15 hx hb htg (htg _ lf_X13_20) hown hZ hW tz_64 dX13_digits_6 ?_
  refine lv_iconst (v := 0) hx hb dX13_digits_9 (by decide) ?_
  refine mld_i hx hb hZ hW tz_67 hf dX13_digits_10 (fun hf => ?_)
  refine lv_icmp_ge (tgt := 33) hx hb dX13_digits_11 (by decide) (fun hc => ?_) (fun hc => ?_)
  · have hf := ift hc hf
    refine lv_iload_n hx hb dX13_digits_33 rfl (lv_at hl 2 rfl) ?_
    subst hQ
    exact mri hx hb hr hlocks hZ hT hS hW ⟨Option.some.inj hf, rfl⟩ dX13_digits_34
  · have hf := iff_ hc hf
    refine lv_bipush (v := 10) hx hb dX13_digits_14 (by decide) ?_
    refine lv_iload_n hx hb dX13_digits_16 rfl (lv_at hl 2 rfl) ?_
    refine lv_imul hx hb dX13_digits_17 ?_
    refine lv_iload_n hx hb dX13_digits_18 rfl (lv_at hl 1 rfl) ?_
    refine lv_iload_n hx hb dX13_digits_19 rfl (lv_at hl 3 rfl) ?_
    refine mcip hf hS (fun r h => va_runS (As := [.int a1, .int i_2]) (rest := [.int (10 * i_1)]) ⟨hx, hb, hml, hown, hts⟩ (c_X13_markOf g l 0 81 σ a1 i_2 r h) (cl_X13_247 hts ⟨Nat.le_of_ble_eq_true rfl, Nat.le_of_ble_eq_true rfl⟩) (mpS hZ hT hS hW _) rfl rfl hl.1 rfl (lv_room (Nat.le_of_ble_eq_true rfl)) dX13_digits_20 ⟨Nat.zero_le _, Nat.zero_le _⟩) (fun r_4 H locs hf hW hS => ?_)
    refine lv_iadd hx hb dX13_digits_23 ?_
    refine lv_iconst (v := 1) hx hb dX13_digits_24 (by decide) ?_
    refine lv_iadd hx hb dX13_digits_25 ?_
    refine mnmi hf (fun (x_5 : Int32) hf => ?_)
    refine lv_istore_n (lv' := [(2, .int x_5), (0, .ref (bs g 64)), (1, .int a1), (3, .int i_2)]) hx hb dX13_digits_26 rfl hl (by decide) rfl (fun ls hl => ?_)
    obtain ⟨x_6, e_7, hf⟩ := nm_s hf
    refine lv_iinc (v := x_6) (lv' := [(3, .int x_6), (2, .int x_5), (0, .ref (bs g 64)), (1, .int a1)]) hx hb dX13_digits_27 hl (k := 3) rfl (by rw [e_7]; rfl) (by decide) rfl (fun ls hl => ?_)
    refine lv_goto (tgt := 4) hx hb dX13_digits_30 (by decide) ?_
    exact hk_3 x_5 x_6 hf H locs ls hW hS (lv_sub hl [2, 3, 1, 0] rfl)
def f_X13_unknownAt (σ : Mem) (a1 : Int32) : Option (Int32 × Mem) :=
  bd1 (f_X13_good σ) (fun (σ_1 : Mem) => (if (σ_1.1 64 14) = 0 then bd2 (f_X13_no σ_1 1) (fun (r_17 : Int32) (σ_18 : Mem) => some (r_17, σ_18)) else fx2 FU (fun k_4 (i_2 : Int32) (i_3 : Int32) => bd1 (f_X13_allLooks σ_1) (fun (r_5 : Int32) => (if r_5 ≤ i_3 then bd2 (f_X13_no σ_1 1) (fun (r_6 : Int32) (σ_7 : Mem) => some (r_6, σ_7)) else bd1 (f_X13_lookBy σ_1 i_3) (fun (r_8 : Int32) => bd1 (f_X13_canBe σ_1 r_8) (fun (r_9 : Int32) => jn1 (fun (i_10 : Int32) => nm (i_3 + 1) (fun (x_12 : Int32) => k_4 i_10 x_12)) (fun k_11 => (if r_9 = 0 then k_11 i_2 else (if i_2 = a1 then bd1 (f_X13_digits σ_1 r_8) (fun (r_16 : Int32) => some (r_16, σ_1)) else nm (i_2 + 1) (fun (x_14 : Int32) => k_11 x_14))))))))) 0 0))
set_option maxHeartbeats 4000000 in
set_option maxRecDepth 100000 in
theorem c_X13_unknownAt (g : XG) (l : Launch) (σ : Mem) (a1 : Int32) (r : Int32) (τ : Mem) (hf : f_X13_unknownAt σ a1 = some (r, τ)) : Met l yX13_unknownAt (wx (.code yX13_unknownAt cX13_unknownAt 5 (some .int))) (kr 4 90) (va_Pc [.ref (bs g 64), .int a1] (WS g 0 81 σ)) (Qi' g 0 81 r τ) 0 0 (Ag g 0) := by
  refine Met.ofW (cc := cX13_unknownAt) (maxL := 5) (ret := (some .int)) (by decide) rfl ?_
  intro p e s m args below meth c s₁ B hml hv
  obtain ⟨rfl, hZ, hT, hW⟩ := hv
  have hx := B.exec
  have hb := B.bytes
  have hr := B.returns
  have hts : ∀ w ∈ wx (.code yX13_unknownAt cX13_unknownAt 5 (some .int)), w.before _ s = true := atoms_spec B.pre
  have htg : ∀ w ∈ lwg, w.before _ s = true := fun w h => hts w (List.mem_cons_of_mem _ h)
  have hown : s.vm.findClass RX13 = some m.cls := findClass_of_methodNamed B.named
  have hlocks := B.notSynchronized
  change W p l e (kr 4 90) s m (List.toArray [.ref (bs g 64), .int a1]) below meth c s.heap [] 0 0 (MQ below (Qi' g 0 81 r τ) (List.toArray [.ref (bs g 64), .int a1]) s 0 0 (Ag g 0)) _
  generalize hQ : MQ below (Qi' g 0 81 r τ) (List.toArray [.ref (bs g 64), .int a1]) s 0 0 (Ag g 0) = Q
  have hS : va_S (Ag g 0) s.heap s.heap [] := va_S.rf
  have hl := lv_entry ([.ref (bs g 64), .int a1]) (n := 5) (Nat.le_of_ble_eq_true rfl)
  rw [lg_entry_eq]
  generalize (lg_sl ([.ref (bs g 64), .int a1]) ++ List.replicate (5 - (lg_sl ([.ref (bs g 64), .int a1])).length) Slot.unset).toArray = ls at hl ⊢
  have hl : lv_has ls 5 [(0, .ref (bs g 64)), (1, .int a1)] := hl
  delta f_X13_unknownAt at hf
  obtain ⟨H, hH⟩ : ∃ H, H = s.heap := ⟨_, rfl⟩
  obtain ⟨locs, hLc⟩ : ∃ z : List Loc, z = [] := ⟨_, rfl⟩
  have hS : va_S (Ag g 0) s.heap H locs := by rw [hH, hLc]; exact hS
  have hW : Wd g 0 81 σ H := by rw [hH]; exact hW
  suffices hG : W p l e (kr 4 90) s m (List.toArray [.ref (bs g 64), .int a1]) below meth c H locs 0 0 Q (F0 m 0 ls []) by rw [hH, hLc] at hG; exact hG
  clear hH hLc
  refine lv_aload_n hx hb dX13_unknownAt_0 rfl (lv_at hl 0 rfl) ?_
  refine mcv hf hS (fun τ h => va_runV (As := []) (rest := []) ⟨hx, hb, hml, hown, hts⟩ (c_X13_good g l σ τ h) (cl_X13_166 hts ⟨Nat.le_of_ble_eq_true rfl, Nat.le_of_ble_eq_true rfl⟩) (mpV_13 hZ hT hS hW tz_64 _) rfl rfl hl.1 rfl (lv_room (Nat.le_of_ble_eq_true rfl)) dX13_unknownAt_1 ⟨Nat.zero_le _, Nat.zero_le _⟩) (fun σ_1 H locs hf hW hS => ?_)
  refine lv_aload_n hx hb dX13_unknownAt_4 rfl (lv_at hl 0 rfl) ?_
  refine gf_13_14 hx hb htg (htg _ lf_X13_179) hown hZ hW tz_64 dX13_unknownAt_5 ?_
  refine lv_if_ne (tgt := 17) hx hb dX13_unknownAt_8 (by decide) (fun hc => ?_) (fun hc => ?_)
  · have hf := iff_ hc hf
    refine lv_iconst (v := 0) hx hb dX13_unknownAt_17 (by decide) ?_
    refine lv_istore_n (lv' := [(2, .int 0), (0, .ref (bs g 64)), (1, .int a1)]) hx hb dX13_unknownAt_18 rfl hl (by decide) rfl (fun ls hl => ?_)
    refine lv_iconst (v := 0) hx hb dX13_unknownAt_19 (by decide) ?_
    refine lv_istore_n (lv' := [(3, .int 0), (2, .int 0), (0, .ref (bs g 64)), (1, .int a1)]) hx hb dX13_unknownAt_20 rfl hl (by decide) rfl (fun ls hl => ?_)
    refine fx2_W (fun (i_2 : Int32) (i_3 : Int32) => ∀ (H : Heap) (locs : List Loc) (ls : Array Slot), Wd g 0 81 σ_1 H → va_S (Ag g 0) s.heap H locs → lv_has ls 5 [(0, .ref (bs g 64)), (1, .int a1), (2, .int i_2), (3, .int i_3)] → W p l e (kr 4 90) s m (List.toArray [.ref (bs g 64), .int a1]) below meth c H locs 0 0 Q (F0 m 21 ls [])) (fun k_4 hk_4 i_2 i_3 hf => ?_) FU 0 0 hf H locs ls hW hS (lv_sub hl [2, 3, 1, 0] rfl)
    intro H locs ls hW hS hl
    refine lv_iload_n hx hb dX13_unknownAt_21 rfl (lv_at hl 3 rfl) ?_
    refine lv_aload_n hx hb dX13_unknownAt_22 rfl (lv_at hl 0 rfl) ?_
    refine mcip hf hS (fun r h => va_runV (As := []) (rest := [.int i_3]) ⟨hx, hb, hml, hown, hts⟩ (c_X13_allLooks g l σ_1 r h) (cl_X13_375 hts ⟨Nat.le_of_ble_eq_true rfl, Nat.le_of_ble_eq_true rfl⟩) (mpV_13 hZ hT hS hW tz_64 _) rfl rfl hl.1 rfl (lv_room (Nat.le_of_ble_eq_true rfl)) dX13_unknownAt_23 ⟨Nat.zero_le _, Nat.zero_le _⟩) (fun r_5 H locs hf hW hS => ?_)
    refine lv_icmp_ge (tgt := 69) hx hb dX13_unknownAt_26 (by decide) (fun hc => ?_) (fun hc => ?_)
    · have hf := ift hc hf
      refine lv_aload_n hx hb dX13_unknownAt_69 rfl (lv_at hl 0 rfl) ?_
      refine lv_iconst (v := 1) hx hb dX13_unknownAt_70 (by decide) ?_
      refine mci hf hS (fun r τ h => va_runV (As := [.int 1]) (rest := []) ⟨hx, hb, hml, hown, hts⟩ (c_X13_no g l σ_1 1 r τ h) (cl_X13_169 hts ⟨Nat.le_of_ble_eq_true rfl, Nat.le_of_ble_eq_true rfl⟩) (mpV_13 hZ hT hS hW tz_64 _) rfl rfl hl.1 rfl (lv_room (Nat.le_of_ble_eq_true rfl)) dX13_unknownAt_71 ⟨Nat.zero_le _, Nat.zero_le _⟩) (fun r_6 σ_7 H locs hf hW hS => ?_)
      subst hQ
      exact mri hx hb hr hlocks hZ hT hS hW (pr1 hf) dX13_unknownAt_74
    · have hf := iff_ hc hf
      refine lv_aload_n hx hb dX13_unknownAt_29 rfl (lv_at hl 0 rfl) ?_
      refine lv_iload_n hx hb dX13_unknownAt_30 rfl (lv_at hl 3 rfl) ?_
      refine mcip hf hS (fun r h => va_runV (As := [.int i_3]) (rest := []) ⟨hx, hb, hml, hown, hts⟩ (c_X13_lookBy g l σ_1 i_3 r h) (cl_X13_378 hts ⟨Nat.le_of_ble_eq_true rfl, Nat.le_of_ble_eq_true rfl⟩) (mpV_13 hZ hT hS hW tz_64 _) rfl rfl hl.1 rfl (lv_room (Nat.le_of_ble_eq_true rfl)) dX13_unknownAt_31 ⟨Nat.zero_le _, Nat.zero_le _⟩) (fun r_8 H locs hf hW hS => ?_)
      refine lv_istore (lv' := [(4, .int r_8), (0, .ref (bs g 64)), (1, .int a1), (2, .int i_2), (3, .int i_3)]) hx hb dX13_unknownAt_34 hl (by decide) rfl (fun ls hl => ?_)
      refine lv_aload_n hx hb dX13_unknownAt_36 rfl (lv_at hl 1 rfl) ?_
      refine lv_iload hx hb dX13_unknownAt_37 (lv_at hl 0 rfl) ?_
      refine mcip hf hS (fun r h => va_runV (As := [.int r_8]) (rest := []) ⟨hx, hb, hml, hown, hts⟩ (c_X13_canBe g l σ_1 r_8 r h) (cl_X13_381 hts ⟨Nat.le_of_ble_eq_true rfl, Nat.le_of_ble_eq_true rfl⟩) (mpV_13 hZ hT hS hW tz_64 _) rfl rfl hl.1 rfl (lv_room (Nat.le_of_ble_eq_true rfl)) dX13_unknownAt_39 ⟨Nat.zero_le _, Nat.zero_le _⟩) (fun r_9 H locs hf hW hS => ?_)
      refine jn1_W (fun (i_10 : Int32) => ∀ (H : Heap) (locs : List Loc) (ls : Array Slot), Wd g 0 81 σ_1 H → va_S (Ag g 0) s.heap H locs → lv_has ls 5 [(0, .ref (bs g 64)), (1, .int a1), (2, .int i_10), (3, .int i_3)] → W p l e (kr 4 90) s m (List.toArray [.ref (bs g 64), .int a1]) below meth c H locs 0 0 Q (F0 m 63 ls [])) hf (fun i_10 hf => ?_) (fun k_11 hk_11 hf => ?_)
      · intro H locs ls hW hS hl
        obtain ⟨x_12, e_13, hf⟩ := nm_s hf
        refine lv_iinc (v := x_12) (lv' := [(3, .int x_12), (0, .ref (bs g 64)), (1, .int a1), (2, .int i_10)]) hx hb dX13_unknownAt_63 hl (k := 3) rfl (by rw [e_13]; rfl) (by decide) rfl (fun ls hl => ?_)
        refine lv_goto (tgt := 21) hx hb dX13_unknownAt_66 (by decide) ?_
        exact hk_4 i_10 x_12 hf H locs ls hW hS (lv_sub hl [1, 2, 3, 0] rfl)
      · refine lv_if_ne (tgt := 48) hx hb dX13_unknownAt_42 (by decide) (fun hc => ?_) (fun hc => ?_)
        · have hf := iff_ hc hf
          refine lv_iload_n hx hb dX13_unknownAt_48 rfl (lv_at hl 3 rfl) ?_
          refine lv_iload_n hx hb dX13_unknownAt_49 rfl (lv_at hl 2 rfl) ?_
          refine lv_icmp_ne (tgt := 60) hx hb dX13_unknownAt_50 (by decide) (fun hc => ?_) (fun hc => ?_)
          · have hf := iff_ hc hf
            obtain ⟨x_14, e_15, hf⟩ := nm_s hf
            refine lv_iinc (v := x_14) (lv' := [(2, .int x_14), (4, .int r_8), (0, .ref (bs g 64)), (1, .int a1), (3, .int i_3)]) hx hb dX13_unknownAt_60 hl (k := 3) rfl (by rw [e_15]; rfl) (by decide) rfl (fun ls hl => ?_)
            exact hk_11 x_14 hf H locs ls hW hS (lv_sub hl [2, 3, 0, 4] rfl)
          · have hf := ift hc hf
            refine lv_aload_n hx hb dX13_unknownAt_53 rfl (lv_at hl 1 rfl) ?_
            refine lv_iload hx hb dX13_unknownAt_54 (lv_at hl 0 rfl) ?_
            refine mcip hf hS (fun r h => va_runV (As := [.int r_8]) (rest := []) ⟨hx, hb, hml, hown, hts⟩ (c_X13_digits g l σ_1 r_8 r h) (cl_X13_384 hts ⟨Nat.le_of_ble_eq_true rfl, Nat.le_of_ble_eq_true rfl⟩) (mpV_13 hZ hT hS hW tz_64 _) rfl rfl hl.1 rfl (lv_room (Nat.le_of_ble_eq_true rfl)) dX13_unknownAt_56 ⟨Nat.zero_le _, Nat.zero_le _⟩) (fun r_16 H locs hf hW hS => ?_)
            subst hQ
            exact mri hx hb hr hlocks hZ hT hS hW (pr1 hf) dX13_unknownAt_59
        · have hf := ift hc hf
          refine lv_goto (tgt := 63) hx hb dX13_unknownAt_45 (by decide) ?_
          exact hk_11 i_2 hf H locs ls hW hS (lv_sub hl [1, 2, 3, 4] rfl)
  · have hf := ift hc hf
    refine lv_aload_n hx hb dX13_unknownAt_11 rfl (lv_at hl 0 rfl) ?_
    refine lv_iconst (v := 1) hx hb dX13_unknownAt_12 (by decide) ?_
    refine mci hf hS (fun r τ h => va_runV (As := [.int 1]) (rest := []) ⟨hx, hb, hml, hown, hts⟩ (c_X13_no g l σ_1 1 r τ h) (cl_X13_169 hts ⟨Nat.le_of_ble_eq_true rfl, Nat.le_of_ble_eq_true rfl⟩) (mpV_13 hZ hT hS hW tz_64 _) rfl rfl hl.1 rfl (lv_room (Nat.le_of_ble_eq_true rfl)) dX13_unknownAt_13 ⟨Nat.zero_le _, Nat.zero_le _⟩) (fun r_17 σ_18 H locs hf hW hS => ?_)
    subst hQ
    exact mri hx hb hr hlocks hZ hT hS hW (pr1 hf) dX13_unknownAt_16
def f_X13_leavesBy (σ : Mem) (a1 : Int32) : Option (Int32) :=
  fx2 FU (fun k_3 (i_1 : Int32) (i_2 : Int32) => (if 6 < i_2 then some i_1 else ixd ((7 * a1) + i_2) (aln 79) (jn1 (fun (i_4 : Int32) => nm (i_2 + 1) (fun (x_6 : Int32) => k_3 i_4 x_6)) (fun k_5 => (if (σ.1 79 ((7 * a1) + i_2).toNatClampNeg) ≤ i_1 then k_5 i_1 else ixd ((7 * a1) + i_2) (aln 79) (k_5 (σ.1 79 ((7 * a1) + i_2).toNatClampNeg))))))) 0 0
set_option maxHeartbeats 4000000 in
set_option maxRecDepth 100000 in
theorem c_X13_leavesBy (g : XG) (l : Launch) (σ : Mem) (a1 : Int32) (r : Int32) (hf : f_X13_leavesBy σ a1 = some r) : Met l yX13_leavesBy (wx (.code yX13_leavesBy cX13_leavesBy 4 (some .int))) (kr 0 0) (va_Pc [.ref (bs g 64), .int a1] (WS g 0 81 σ)) (Qi' g 0 81 r σ) 0 0 (Ag g 0) := by
  refine Met.ofW (cc := cX13_leavesBy) (maxL := 4) (ret := (some .int)) (by decide) rfl ?_
  intro p e s m args below meth c s₁ B hml hv
  obtain ⟨rfl, hZ, hT, hW⟩ := hv
  have hx := B.exec
  have hb := B.bytes
  have hr := B.returns
  have hts : ∀ w ∈ wx (.code yX13_leavesBy cX13_leavesBy 4 (some .int)), w.before _ s = true := atoms_spec B.pre
  have htg : ∀ w ∈ lwg, w.before _ s = true := fun w h => hts w (List.mem_cons_of_mem _ h)
  have hown : s.vm.findClass RX13 = some m.cls := findClass_of_methodNamed B.named
  have hlocks := B.notSynchronized
  change W p l e (kr 0 0) s m (List.toArray [.ref (bs g 64), .int a1]) below meth c s.heap [] 0 0 (MQ below (Qi' g 0 81 r σ) (List.toArray [.ref (bs g 64), .int a1]) s 0 0 (Ag g 0)) _
  generalize hQ : MQ below (Qi' g 0 81 r σ) (List.toArray [.ref (bs g 64), .int a1]) s 0 0 (Ag g 0) = Q
  have hS : va_S (Ag g 0) s.heap s.heap [] := va_S.rf
  have hl := lv_entry ([.ref (bs g 64), .int a1]) (n := 4) (Nat.le_of_ble_eq_true rfl)
  rw [lg_entry_eq]
  generalize (lg_sl ([.ref (bs g 64), .int a1]) ++ List.replicate (4 - (lg_sl ([.ref (bs g 64), .int a1])).length) Slot.unset).toArray = ls at hl ⊢
  have hl : lv_has ls 4 [(0, .ref (bs g 64)), (1, .int a1)] := hl
  delta f_X13_leavesBy at hf
  obtain ⟨H, hH⟩ : ∃ H, H = s.heap := ⟨_, rfl⟩
  obtain ⟨locs, hLc⟩ : ∃ z : List Loc, z = [] := ⟨_, rfl⟩
  have hS : va_S (Ag g 0) s.heap H locs := by rw [hH, hLc]; exact hS
  have hW : Wd g 0 81 σ H := by rw [hH]; exact hW
  suffices hG : W p l e (kr 0 0) s m (List.toArray [.ref (bs g 64), .int a1]) below meth c H locs 0 0 Q (F0 m 0 ls []) by rw [hH, hLc] at hG; exact hG
  clear hH hLc
  refine lv_iconst (v := 0) hx hb dX13_leavesBy_0 (by decide) ?_
  refine lv_istore_n (lv' := [(2, .int 0), (0, .ref (bs g 64)), (1, .int a1)]) hx hb dX13_leavesBy_1 rfl hl (by decide) rfl (fun ls hl => ?_)
  refine lv_iconst (v := 0) hx hb dX13_leavesBy_2 (by decide) ?_
  refine lv_istore_n (lv' := [(3, .int 0), (2, .int 0), (0, .ref (bs g 64)), (1, .int a1)]) hx hb dX13_leavesBy_3 rfl hl (by decide) rfl (fun ls hl => ?_)
  refine fx2_W (fun (i_1 : Int32) (i_2 : Int32) => ∀ (H : Heap) (locs : List Loc) (ls : Array Slot), Wd g 0 81 σ H → va_S (Ag g 0) s.heap H locs → lv_has ls 4 [(0, .ref (bs g 64)), (1, .int a1), (2, .int i_1), (3, .int i_2)] → W p l e (kr 0 0) s m (List.toArray [.ref (bs g 64), .int a1]) below meth c H locs 0 0 Q (F0 m 4 ls [])) (fun k_3 hk_3 i_1 i_2 hf => ?_) FU 0 0 hf H locs ls hW hS (lv_sub hl [2, 3, 1, 0] rfl)
  intro H locs ls hW hS hl
  refine lv_iload_n hx hb dX13_leavesBy_4 rfl (lv_at hl 3 rfl) ?_
  refine lv_bipush (v := 6) hx hb dX13_leavesBy_5 (by decide) ?_
  refine lv_icmp_gt (tgt := 47) hx hb dX13_leavesBy_7 (by decide) (fun hc => ?_) (fun hc => ?_)
  · have hf := ift hc hf
    refine lv_iload_n hx hb dX13_leavesBy_47 rfl (lv_at hl 2 rfl) ?_
    subst hQ
    exact mri hx hb hr hlocks hZ hT hS hW ⟨Option.some.inj hf, rfl⟩ dX13_leavesBy_48
  · have hf := iff_ hc hf
    refine lv_aload_n hx hb dX13_leavesBy_10 rfl (lv_at hl 0 rfl) ?_
    refine gf_13_31 hx hb htg (htg _ lf_X13_56) hown hZ hW tz_64 dX13_leavesBy_11 ?_
    refine lv_bipush (v := 7) hx hb dX13_leavesBy_14 (by decide) ?_
    refine lv_iload_n hx hb dX13_leavesBy_16 rfl (lv_at hl 1 rfl) ?_
    refine lv_imul hx hb dX13_leavesBy_17 ?_
    refine lv_iload_n hx hb dX13_leavesBy_18 rfl (lv_at hl 3 rfl) ?_
    refine lv_iadd hx hb dX13_leavesBy_19 ?_
    refine mld_i hx hb hZ hW tz_79 hf dX13_leavesBy_20 (fun hf => ?_)
    refine lv_iload_n hx hb dX13_leavesBy_21 rfl (lv_at hl 2 rfl) ?_
    refine jn1_W (fun (i_4 : Int32) => ∀ (H : Heap) (locs : List Loc) (ls : Array Slot), Wd g 0 81 σ H → va_S (Ag g 0) s.heap H locs → lv_has ls 4 [(0, .ref (bs g 64)), (1, .int a1), (3, .int i_2)] → W p l e (kr 0 0) s m (List.toArray [.ref (bs g 64), .int a1]) below meth c H locs 0 0 Q (F0 m 40 ls [.int i_4])) hf (fun i_4 hf => ?_) (fun k_5 hk_5 hf => ?_)
    · intro H locs ls hW hS hl
      refine lv_istore_n (lv' := [(2, .int i_4), (0, .ref (bs g 64)), (1, .int a1), (3, .int i_2)]) hx hb dX13_leavesBy_40 rfl hl (by decide) rfl (fun ls hl => ?_)
      obtain ⟨x_6, e_7, hf⟩ := nm_s hf
      refine lv_iinc (v := x_6) (lv' := [(3, .int x_6), (2, .int i_4), (0, .ref (bs g 64)), (1, .int a1)]) hx hb dX13_leavesBy_41 hl (k := 3) rfl (by rw [e_7]; rfl) (by decide) rfl (fun ls hl => ?_)
      refine lv_goto (tgt := 4) hx hb dX13_leavesBy_44 (by decide) ?_
      exact hk_3 i_4 x_6 hf H locs ls hW hS (lv_sub hl [2, 3, 1, 0] rfl)
    · refine lv_icmp_le (tgt := 39) hx hb dX13_leavesBy_22 (by decide) (fun hc => ?_) (fun hc => ?_)
      · have hf := ift hc hf
        refine lv_iload_n hx hb dX13_leavesBy_39 rfl (lv_at hl 2 rfl) ?_
        exact hk_5 i_1 hf H locs ls hW hS (lv_sub hl [0, 1, 3] rfl)
      · have hf := iff_ hc hf
        refine lv_aload_n hx hb dX13_leavesBy_25 rfl (lv_at hl 0 rfl) ?_
        refine gf_13_31 hx hb htg (htg _ lf_X13_56) hown hZ hW tz_64 dX13_leavesBy_26 ?_
        refine lv_bipush (v := 7) hx hb dX13_leavesBy_29 (by decide) ?_
        refine lv_iload_n hx hb dX13_leavesBy_31 rfl (lv_at hl 1 rfl) ?_
        refine lv_imul hx hb dX13_leavesBy_32 ?_
        refine lv_iload_n hx hb dX13_leavesBy_33 rfl (lv_at hl 3 rfl) ?_
        refine lv_iadd hx hb dX13_leavesBy_34 ?_
        refine mld_i hx hb hZ hW tz_79 hf dX13_leavesBy_35 (fun hf => ?_)
        refine lv_goto (tgt := 40) hx hb dX13_leavesBy_36 (by decide) ?_
        exact hk_5 (σ.1 79 ((7 * a1) + i_2).toNatClampNeg) hf H locs ls hW hS (lv_sub hl [0, 1, 3] rfl)
def f_X13_seekPass (σ : Mem)  : Option (Int32 × Mem) :=
  fx2 FU (fun k_3 (i_1 : Int32) (σ_2 : Mem) => (if 35 ≤ i_1 then fx3 FU (fun k_7 (i_4 : Int32) (i_5 : Int32) (σ_6 : Mem) => bd1 (f_X13_allLooks σ_6) (fun (r_8 : Int32) => (if r_8 ≤ i_5 then (if i_4 = 0 then some ((-2), σ_6) else fx2 FU (fun k_11 (i_9 : Int32) (i_10 : Int32) => ixd 4 (aln 67) ((if (σ_6.1 67 (4 : Int32).toNatClampNeg) ≤ i_10 then some (i_9, σ_6) else bd1 (f_X13_leavesBy σ_6 i_10) (fun (r_12 : Int32) => bd1 (f_X13_leavesBy σ_6 i_9) (fun (r_13 : Int32) => jn1 (fun (i_14 : Int32) => nm (i_10 + 1) (fun (x_16 : Int32) => k_11 i_14 x_16)) (fun k_15 => (if r_13 ≤ r_12 then k_15 i_9 else k_15 i_10))))))) 0 1) else bd1 (f_X13_lookBy σ_6 i_5) (fun (r_18 : Int32) => bd1 (f_X13_canBe σ_6 r_18) (fun (r_19 : Int32) => jn2 (fun (i_20 : Int32) (σ_21 : Mem) => nm (i_5 + 1) (fun (x_23 : Int32) => k_7 i_20 x_23 σ_21)) (fun k_22 => (if r_19 = 0 then k_22 i_4 σ_6 else nm (i_4 + 1) (fun (x_25 : Int32) => fx2 FU (fun k_29 (i_27 : Int32) (σ_28 : Mem) => ixd 4 (aln 67) ((if (σ_28.1 67 (4 : Int32).toNatClampNeg) ≤ i_27 then k_22 x_25 σ_28 else bd1 (f_X13_alike σ_28 i_27 r_18) (fun (r_30 : Int32) => nm ((7 * i_27) + r_30) (fun (x_31 : Int32) => ixd x_31 (aln 79) (ixd x_31 (aln 79) (nm (sI σ_28 79 x_31.toNatClampNeg ((σ_28.1 79 x_31.toNatClampNeg) + 1)) (fun (σ_32 : Mem) => nm (i_27 + 1) (fun (x_33 : Int32) => k_29 x_33 σ_32))))))))) 0 σ_6)))))))) 0 0 σ_2 else ixd i_1 (aln 79) (nm (sI σ_2 79 i_1.toNatClampNeg 0) (fun (σ_35 : Mem) => nm (i_1 + 1) (fun (x_36 : Int32) => k_3 x_36 σ_35))))) 0 σ
set_option maxHeartbeats 4000000 in
set_option maxRecDepth 100000 in
theorem c_X13_seekPass (g : XG) (l : Launch) (σ : Mem) (r : Int32) (τ : Mem) (hf : f_X13_seekPass σ = some (r, τ)) : Met l yX13_seekPass (wx (.code yX13_seekPass cX13_seekPass 5 (some .int))) (kr 4 90) (va_Pc [.ref (bs g 64)] (WS g 0 81 σ)) (Qi' g 0 81 r τ) 0 0 (Ag g 0) := by
  refine Met.ofW (cc := cX13_seekPass) (maxL := 5) (ret := (some .int)) (by decide) rfl ?_
  intro p e s m args below meth c s₁ B hml hv
  obtain ⟨rfl, hZ, hT, hW⟩ := hv
  have hx := B.exec
  have hb := B.bytes
  have hr := B.returns
  have hts : ∀ w ∈ wx (.code yX13_seekPass cX13_seekPass 5 (some .int)), w.before _ s = true := atoms_spec B.pre
  have htg : ∀ w ∈ lwg, w.before _ s = true := fun w h => hts w (List.mem_cons_of_mem _ h)
  have hown : s.vm.findClass RX13 = some m.cls := findClass_of_methodNamed B.named
  have hlocks := B.notSynchronized
  change W p l e (kr 4 90) s m (List.toArray [.ref (bs g 64)]) below meth c s.heap [] 0 0 (MQ below (Qi' g 0 81 r τ) (List.toArray [.ref (bs g 64)]) s 0 0 (Ag g 0)) _
  generalize hQ : MQ below (Qi' g 0 81 r τ) (List.toArray [.ref (bs g 64)]) s 0 0 (Ag g 0) = Q
  have hS : va_S (Ag g 0) s.heap s.heap [] := va_S.rf
  have hl := lv_entry ([.ref (bs g 64)]) (n := 5) (Nat.le_of_ble_eq_true rfl)
  rw [lg_entry_eq]
  generalize (lg_sl ([.ref (bs g 64)]) ++ List.replicate (5 - (lg_sl ([.ref (bs g 64)])).length) Slot.unset).toArray = ls at hl ⊢
  have hl : lv_has ls 5 [(0, .ref (bs g 64))] := hl
  delta f_X13_seekPass at hf
  obtain ⟨H, hH⟩ : ∃ H, H = s.heap := ⟨_, rfl⟩
  obtain ⟨locs, hLc⟩ : ∃ z : List Loc, z = [] := ⟨_, rfl⟩
  have hS : va_S (Ag g 0) s.heap H locs := by rw [hH, hLc]; exact hS
  have hW : Wd g 0 81 σ H := by rw [hH]; exact hW
  suffices hG : W p l e (kr 4 90) s m (List.toArray [.ref (bs g 64)]) below meth c H locs 0 0 Q (F0 m 0 ls []) by rw [hH, hLc] at hG; exact hG
  clear hH hLc
  refine lv_iconst (v := 0) hx hb dX13_seekPass_0 (by decide) ?_
  refine lv_istore_n (lv' := [(1, .int 0), (0, .ref (bs g 64))]) hx hb dX13_seekPass_1 rfl hl (by decide) rfl (fun ls hl => ?_)
  refine fx2_W (fun (i_1 : Int32) (σ_2 : Mem) => ∀ (H : Heap) (locs : List Loc) (ls : Array Slot), Wd g 0 81 σ_2 H → va_S (Ag g 0) s.heap H locs → lv_has ls 5 [(0, .ref (bs g 64)), (1, .int i_1)] → W p l e (kr 4 90) s m (List.toArray [.ref (bs g 64)]) below meth c H locs 0 0 Q (F0 m 2 ls [])) (fun k_3 hk_3 i_1 σ_2 hf => ?_) FU 0 σ hf H locs ls hW hS (lv_sub hl [1, 0] rfl)
  intro H locs ls hW hS hl
  refine lv_iload_n hx hb dX13_seekPass_2 rfl (lv_at hl 1 rfl) ?_
  refine lv_bipush (v := 35) hx hb dX13_seekPass_3 (by decide) ?_
  refine lv_icmp_ge (tgt := 21) hx hb dX13_seekPass_5 (by decide) (fun hc => ?_) (fun hc => ?_)
  · have hf := ift hc hf
    refine lv_iconst (v := 0) hx hb dX13_seekPass_21 (by decide) ?_
    refine lv_istore_n (lv' := [(1, .int 0), (0, .ref (bs g 64))]) hx hb dX13_seekPass_22 rfl hl (by decide) rfl (fun ls hl => ?_)
    refine lv_iconst (v := 0) hx hb dX13_seekPass_23 (by decide) ?_
    refine lv_istore_n (lv' := [(2, .int 0), (1, .int 0), (0, .ref (bs g 64))]) hx hb dX13_seekPass_24 rfl hl (by decide) rfl (fun ls hl => ?_)
    refine fx3_W (fun (i_4 : Int32) (i_5 : Int32) (σ_6 : Mem) => ∀ (H : Heap) (locs : List Loc) (ls : Array Slot), Wd g 0 81 σ_6 H → va_S (Ag g 0) s.heap H locs → lv_has ls 5 [(0, .ref (bs g 64)), (1, .int i_4), (2, .int i_5)] → W p l e (kr 4 90) s m (List.toArray [.ref (bs g 64)]) below meth c H locs 0 0 Q (F0 m 25 ls [])) (fun k_7 hk_7 i_4 i_5 σ_6 hf => ?_) FU 0 0 σ_2 hf H locs ls hW hS (lv_sub hl [2, 1, 0] rfl)
    intro H locs ls hW hS hl
    refine lv_iload_n hx hb dX13_seekPass_25 rfl (lv_at hl 2 rfl) ?_
    refine lv_aload_n hx hb dX13_seekPass_26 rfl (lv_at hl 0 rfl) ?_
    refine mcip hf hS (fun r h => va_runV (As := []) (rest := [.int i_5]) ⟨hx, hb, hml, hown, hts⟩ (c_X13_allLooks g l σ_6 r h) (cl_X13_375 hts ⟨Nat.le_of_ble_eq_true rfl, Nat.le_of_ble_eq_true rfl⟩) (mpV_13 hZ hT hS hW tz_64 _) rfl rfl hl.1 rfl (lv_room (Nat.le_of_ble_eq_true rfl)) dX13_seekPass_27 ⟨Nat.zero_le _, Nat.zero_le _⟩) (fun r_8 H locs hf hW hS => ?_)
    refine lv_icmp_ge (tgt := 101) hx hb dX13_seekPass_30 (by decide) (fun hc => ?_) (fun hc => ?_)
    · have hf := ift hc hf
      refine lv_iload_n hx hb dX13_seekPass_101 rfl (lv_at hl 1 rfl) ?_
      refine lv_if_ne (tgt := 108) hx hb dX13_seekPass_102 (by decide) (fun hc => ?_) (fun hc => ?_)
      · have hf := iff_ hc hf
        refine lv_iconst (v := 0) hx hb dX13_seekPass_108 (by decide) ?_
        refine lv_istore_n (lv' := [(2, .int 0), (0, .ref (bs g 64)), (1, .int i_4)]) hx hb dX13_seekPass_109 rfl hl (by decide) rfl (fun ls hl => ?_)
        refine lv_iconst (v := 1) hx hb dX13_seekPass_110 (by decide) ?_
        refine lv_istore_n (lv' := [(3, .int 1), (2, .int 0), (0, .ref (bs g 64)), (1, .int i_4)]) hx hb dX13_seekPass_111 rfl hl (by decide) rfl (fun ls hl => ?_)
        refine fx2_W (fun (i_9 : Int32) (i_10 : Int32) => ∀ (H : Heap) (locs : List Loc) (ls : Array Slot), Wd g 0 81 σ_6 H → va_S (Ag g 0) s.heap H locs → lv_has ls 5 [(0, .ref (bs g 64)), (2, .int i_9), (3, .int i_10)] → W p l e (kr 4 90) s m (List.toArray [.ref (bs g 64)]) below meth c H locs 0 0 Q (F0 m 112 ls [])) (fun k_11 hk_11 i_9 i_10 hf => ?_) FU 0 1 hf H locs ls hW hS (lv_sub hl [2, 1, 0] rfl)
        intro H locs ls hW hS hl
        refine lv_iload_n hx hb dX13_seekPass_112 rfl (lv_at hl 2 rfl) ?_
        refine lv_aload_n hx hb dX13_seekPass_113 rfl (lv_at hl 0 rfl) ?_
        refine gf_13_15 hx hb htg (htg _ lf_X13_20) hown hZ hW tz_64 dX13_seekPass_114 ?_
        refine lv_iconst (v := 4) hx hb dX13_seekPass_117 (by decide) ?_
        refine mld_i hx hb hZ hW tz_67 hf dX13_seekPass_118 (fun hf => ?_)
        refine lv_icmp_ge (tgt := 147) hx hb dX13_seekPass_119 (by decide) (fun hc => ?_) (fun hc => ?_)
        · have hf := ift hc hf
          refine lv_iload_n hx hb dX13_seekPass_147 rfl (lv_at hl 1 rfl) ?_
          subst hQ
          exact mri hx hb hr hlocks hZ hT hS hW (pr1 hf) dX13_seekPass_148
        · have hf := iff_ hc hf
          refine lv_aload_n hx hb dX13_seekPass_122 rfl (lv_at hl 0 rfl) ?_
          refine lv_iload_n hx hb dX13_seekPass_123 rfl (lv_at hl 2 rfl) ?_
          refine mcip hf hS (fun r h => va_runV (As := [.int i_10]) (rest := []) ⟨hx, hb, hml, hown, hts⟩ (c_X13_leavesBy g l σ_6 i_10 r h) (cl_X13_387 hts ⟨Nat.le_of_ble_eq_true rfl, Nat.le_of_ble_eq_true rfl⟩) (mpV_13 hZ hT hS hW tz_64 _) rfl rfl hl.1 rfl (lv_room (Nat.le_of_ble_eq_true rfl)) dX13_seekPass_124 ⟨Nat.zero_le _, Nat.zero_le _⟩) (fun r_12 H locs hf hW hS => ?_)
          refine lv_aload_n hx hb dX13_seekPass_127 rfl (lv_at hl 0 rfl) ?_
          refine lv_iload_n hx hb dX13_seekPass_128 rfl (lv_at hl 1 rfl) ?_
          refine mcip hf hS (fun r h => va_runV (As := [.int i_9]) (rest := [.int r_12]) ⟨hx, hb, hml, hown, hts⟩ (c_X13_leavesBy g l σ_6 i_9 r h) (cl_X13_387 hts ⟨Nat.le_of_ble_eq_true rfl, Nat.le_of_ble_eq_true rfl⟩) (mpV_13 hZ hT hS hW tz_64 _) rfl rfl hl.1 rfl (lv_room (Nat.le_of_ble_eq_true rfl)) dX13_seekPass_129 ⟨Nat.zero_le _, Nat.zero_le _⟩) (fun r_13 H locs hf hW hS => ?_)
          refine jn1_W (fun (i_14 : Int32) => ∀ (H : Heap) (locs : List Loc) (ls : Array Slot), Wd g 0 81 σ_6 H → va_S (Ag g 0) s.heap H locs → lv_has ls 5 [(0, .ref (bs g 64)), (3, .int i_10)] → W p l e (kr 4 90) s m (List.toArray [.ref (bs g 64)]) below meth c H locs 0 0 Q (F0 m 140 ls [.int i_14])) hf (fun i_14 hf => ?_) (fun k_15 hk_15 hf => ?_)
          · intro H locs ls hW hS hl
            refine lv_istore_n (lv' := [(2, .int i_14), (0, .ref (bs g 64)), (3, .int i_10)]) hx hb dX13_seekPass_140 rfl hl (by decide) rfl (fun ls hl => ?_)
            obtain ⟨x_16, e_17, hf⟩ := nm_s hf
            refine lv_iinc (v := x_16) (lv' := [(3, .int x_16), (2, .int i_14), (0, .ref (bs g 64))]) hx hb dX13_seekPass_141 hl (k := 2) rfl (by rw [e_17]; rfl) (by decide) rfl (fun ls hl => ?_)
            refine lv_goto (tgt := 112) hx hb dX13_seekPass_144 (by decide) ?_
            exact hk_11 i_14 x_16 hf H locs ls hW hS (lv_sub hl [2, 1, 0] rfl)
          · refine lv_icmp_ge (tgt := 139) hx hb dX13_seekPass_132 (by decide) (fun hc => ?_) (fun hc => ?_)
            · have hf := ift hc hf
              refine lv_iload_n hx hb dX13_seekPass_139 rfl (lv_at hl 1 rfl) ?_
              exact hk_15 i_9 hf H locs ls hW hS (lv_sub hl [0, 2] rfl)
            · have hf := iff_ hc hf
              refine lv_iload_n hx hb dX13_seekPass_135 rfl (lv_at hl 2 rfl) ?_
              refine lv_goto (tgt := 140) hx hb dX13_seekPass_136 (by decide) ?_
              exact hk_15 i_10 hf H locs ls hW hS (lv_sub hl [0, 2] rfl)
      · have hf := ift hc hf
        refine lv_bipush (v := (-2)) hx hb dX13_seekPass_105 (by decide) ?_
        subst hQ
        exact mri hx hb hr hlocks hZ hT hS hW (pr1 hf) dX13_seekPass_107
    · have hf := iff_ hc hf
      refine lv_aload_n hx hb dX13_seekPass_33 rfl (lv_at hl 0 rfl) ?_
      refine lv_iload_n hx hb dX13_seekPass_34 rfl (lv_at hl 2 rfl) ?_
      refine mcip hf hS (fun r h => va_runV (As := [.int i_5]) (rest := []) ⟨hx, hb, hml, hown, hts⟩ (c_X13_lookBy g l σ_6 i_5 r h) (cl_X13_378 hts ⟨Nat.le_of_ble_eq_true rfl, Nat.le_of_ble_eq_true rfl⟩) (mpV_13 hZ hT hS hW tz_64 _) rfl rfl hl.1 rfl (lv_room (Nat.le_of_ble_eq_true rfl)) dX13_seekPass_35 ⟨Nat.zero_le _, Nat.zero_le _⟩) (fun r_18 H locs hf hW hS => ?_)
      refine lv_istore_n (lv' := [(3, .int r_18), (0, .ref (bs g 64)), (1, .int i_4), (2, .int i_5)]) hx hb dX13_seekPass_38 rfl hl (by decide) rfl (fun ls hl => ?_)
      refine lv_aload_n hx hb dX13_seekPass_39 rfl (lv_at hl 1 rfl) ?_
      refine lv_iload_n hx hb dX13_seekPass_40 rfl (lv_at hl 0 rfl) ?_
      refine mcip hf hS (fun r h => va_runV (As := [.int r_18]) (rest := []) ⟨hx, hb, hml, hown, hts⟩ (c_X13_canBe g l σ_6 r_18 r h) (cl_X13_381 hts ⟨Nat.le_of_ble_eq_true rfl, Nat.le_of_ble_eq_true rfl⟩) (mpV_13 hZ hT hS hW tz_64 _) rfl rfl hl.1 rfl (lv_room (Nat.le_of_ble_eq_true rfl)) dX13_seekPass_41 ⟨Nat.zero_le _, Nat.zero_le _⟩) (fun r_19 H locs hf hW hS => ?_)
      refine jn2_W (fun (i_20 : Int32) (σ_21 : Mem) => ∀ (H : Heap) (locs : List Loc) (ls : Array Slot), Wd g 0 81 σ_21 H → va_S (Ag g 0) s.heap H locs → lv_has ls 5 [(0, .ref (bs g 64)), (1, .int i_20), (2, .int i_5)] → W p l e (kr 4 90) s m (List.toArray [.ref (bs g 64)]) below meth c H locs 0 0 Q (F0 m 95 ls [])) hf (fun i_20 σ_21 hf => ?_) (fun k_22 hk_22 hf => ?_)
      · intro H locs ls hW hS hl
        obtain ⟨x_23, e_24, hf⟩ := nm_s hf
        refine lv_iinc (v := x_23) (lv' := [(2, .int x_23), (0, .ref (bs g 64)), (1, .int i_20)]) hx hb dX13_seekPass_95 hl (k := 2) rfl (by rw [e_24]; rfl) (by decide) rfl (fun ls hl => ?_)
        refine lv_goto (tgt := 25) hx hb dX13_seekPass_98 (by decide) ?_
        exact hk_7 i_20 x_23 σ_21 hf H locs ls hW hS (lv_sub hl [1, 2, 0] rfl)
      · refine lv_if_ne (tgt := 50) hx hb dX13_seekPass_44 (by decide) (fun hc => ?_) (fun hc => ?_)
        · have hf := iff_ hc hf
          obtain ⟨x_25, e_26, hf⟩ := nm_s hf
          refine lv_iinc (v := x_25) (lv' := [(1, .int x_25), (3, .int r_18), (0, .ref (bs g 64)), (2, .int i_5)]) hx hb dX13_seekPass_50 hl (k := 2) rfl (by rw [e_26]; rfl) (by decide) rfl (fun ls hl => ?_)
          refine lv_iconst (v := 0) hx hb dX13_seekPass_53 (by decide) ?_
          refine lv_istore (lv' := [(4, .int 0), (1, .int x_25), (3, .int r_18), (0, .ref (bs g 64)), (2, .int i_5)]) hx hb dX13_seekPass_54 hl (by decide) rfl (fun ls hl => ?_)
          refine fx2_W (fun (i_27 : Int32) (σ_28 : Mem) => ∀ (H : Heap) (locs : List Loc) (ls : Array Slot), Wd g 0 81 σ_28 H → va_S (Ag g 0) s.heap H locs → lv_has ls 5 [(0, .ref (bs g 64)), (1, .int x_25), (2, .int i_5), (3, .int r_18), (4, .int i_27)] → W p l e (kr 4 90) s m (List.toArray [.ref (bs g 64)]) below meth c H locs 0 0 Q (F0 m 56 ls [])) (fun k_29 hk_29 i_27 σ_28 hf => ?_) FU 0 σ_6 hf H locs ls hW hS (lv_sub hl [3, 1, 4, 2, 0] rfl)
          intro H locs ls hW hS hl
          refine lv_iload hx hb dX13_seekPass_56 (lv_at hl 4 rfl) ?_
          refine lv_aload_n hx hb dX13_seekPass_58 rfl (lv_at hl 0 rfl) ?_
          refine gf_13_15 hx hb htg (htg _ lf_X13_20) hown hZ hW tz_64 dX13_seekPass_59 ?_
          refine lv_iconst (v := 4) hx hb dX13_seekPass_62 (by decide) ?_
          refine mld_i hx hb hZ hW tz_67 hf dX13_seekPass_63 (fun hf => ?_)
          refine lv_icmp_ge (tgt := 95) hx hb dX13_seekPass_64 (by decide) (fun hc => ?_) (fun hc => ?_)
          · have hf := ift hc hf
            exact hk_22 x_25 σ_28 hf H locs ls hW hS (lv_sub hl [0, 1, 2] rfl)
          · have hf := iff_ hc hf
            refine lv_aload_n hx hb dX13_seekPass_67 rfl (lv_at hl 0 rfl) ?_
            refine gf_13_31 hx hb htg (htg _ lf_X13_56) hown hZ hW tz_64 dX13_seekPass_68 ?_
            refine lv_bipush (v := 7) hx hb dX13_seekPass_71 (by decide) ?_
            refine lv_iload hx hb dX13_seekPass_73 (lv_at hl 4 rfl) ?_
            refine lv_imul hx hb dX13_seekPass_75 ?_
            refine lv_aload_n hx hb dX13_seekPass_76 rfl (lv_at hl 0 rfl) ?_
            refine lv_iload hx hb dX13_seekPass_77 (lv_at hl 4 rfl) ?_
            refine lv_iload_n hx hb dX13_seekPass_79 rfl (lv_at hl 3 rfl) ?_
            refine mcip hf hS (fun r h => va_runV (As := [.int i_27, .int r_18]) (rest := [.int (7 * i_27), .ref (bs g 79)]) ⟨hx, hb, hml, hown, hts⟩ (c_X13_alike g l σ_28 i_27 r_18 r h) (cl_X13_372 hts ⟨Nat.le_of_ble_eq_true rfl, Nat.le_of_ble_eq_true rfl⟩) (mpV_13 hZ hT hS hW tz_64 _) rfl rfl hl.1 rfl (lv_room (Nat.le_of_ble_eq_true rfl)) dX13_seekPass_80 ⟨Nat.zero_le _, Nat.zero_le _⟩) (fun r_30 H locs hf hW hS => ?_)
            refine lv_iadd hx hb dX13_seekPass_83 ?_
            refine mnmi hf (fun (x_31 : Int32) hf => ?_)
            refine lv_dup2_11 hx hb dX13_seekPass_84 rfl rfl ?_
            refine mld_i hx hb hZ hW tz_79 hf dX13_seekPass_85 (fun hf => ?_)
            refine lv_iconst (v := 1) hx hb dX13_seekPass_86 (by decide) ?_
            refine lv_iadd hx hb dX13_seekPass_87 ?_
            refine mst_i hx hb hZ hW hS tz_79 hf dX13_seekPass_88 (fun σ_32 H locs hf hW hS => ?_)
            obtain ⟨x_33, e_34, hf⟩ := nm_s hf
            refine lv_iinc (v := x_33) (lv' := [(4, .int x_33), (0, .ref (bs g 64)), (1, .int x_25), (2, .int i_5), (3, .int r_18)]) hx hb dX13_seekPass_89 hl (k := 4) rfl (by rw [e_34]; rfl) (by decide) rfl (fun ls hl => ?_)
            refine lv_goto (tgt := 56) hx hb dX13_seekPass_92 (by decide) ?_
            exact hk_29 x_33 σ_32 hf H locs ls hW hS (lv_sub hl [1, 2, 3, 4, 0] rfl)
        · have hf := ift hc hf
          refine lv_goto (tgt := 95) hx hb dX13_seekPass_47 (by decide) ?_
          exact hk_22 i_4 σ_6 hf H locs ls hW hS (lv_sub hl [1, 2, 3] rfl)
  · have hf := iff_ hc hf
    refine lv_aload_n hx hb dX13_seekPass_8 rfl (lv_at hl 0 rfl) ?_
    refine gf_13_31 hx hb htg (htg _ lf_X13_56) hown hZ hW tz_64 dX13_seekPass_9 ?_
    refine lv_iload_n hx hb dX13_seekPass_12 rfl (lv_at hl 1 rfl) ?_
    refine lv_iconst (v := 0) hx hb dX13_seekPass_13 (by decide) ?_
    refine mst_i hx hb hZ hW hS tz_79 hf dX13_seekPass_14 (fun σ_35 H locs hf hW hS => ?_)
    obtain ⟨x_36, e_37, hf⟩ := nm_s hf
    refine lv_iinc (v := x_36) (lv' := [(1, .int x_36), (0, .ref (bs g 64))]) hx hb dX13_seekPass_15 hl (k := 1) rfl (by rw [e_37]; rfl) (by decide) rfl (fun ls hl => ?_)
    refine lv_goto (tgt := 2) hx hb dX13_seekPass_18 (by decide) ?_
    exact hk_3 x_36 σ_35 hf H locs ls hW hS (lv_sub hl [1, 0] rfl)
def f_X13_pass (σ : Mem)  : Option (Int32 × Mem) :=
  bd1 (f_X13_good σ) (fun (σ_1 : Mem) => (if (σ_1.1 64 14) = 0 then bd2 (f_X13_no σ_1 1) (fun (r_2 : Int32) (σ_3 : Mem) => some (r_2, σ_3)) else bd2 (f_X13_seekPass σ_1) (fun (r_4 : Int32) (σ_5 : Mem) => some (r_4, σ_5))))
set_option maxHeartbeats 4000000 in
set_option maxRecDepth 100000 in
theorem c_X13_pass (g : XG) (l : Launch) (σ : Mem) (r : Int32) (τ : Mem) (hf : f_X13_pass σ = some (r, τ)) : Met l yX13_pass (wx (.code yX13_pass cX13_pass 1 (some .int))) (kr 5 114) (va_Pc [.ref (bs g 64)] (WS g 0 81 σ)) (Qi' g 0 81 r τ) 0 0 (Ag g 0) := by
  refine Met.ofW (cc := cX13_pass) (maxL := 1) (ret := (some .int)) (by decide) rfl ?_
  intro p e s m args below meth c s₁ B hml hv
  obtain ⟨rfl, hZ, hT, hW⟩ := hv
  have hx := B.exec
  have hb := B.bytes
  have hr := B.returns
  have hts : ∀ w ∈ wx (.code yX13_pass cX13_pass 1 (some .int)), w.before _ s = true := atoms_spec B.pre
  have htg : ∀ w ∈ lwg, w.before _ s = true := fun w h => hts w (List.mem_cons_of_mem _ h)
  have hown : s.vm.findClass RX13 = some m.cls := findClass_of_methodNamed B.named
  have hlocks := B.notSynchronized
  change W p l e (kr 5 114) s m (List.toArray [.ref (bs g 64)]) below meth c s.heap [] 0 0 (MQ below (Qi' g 0 81 r τ) (List.toArray [.ref (bs g 64)]) s 0 0 (Ag g 0)) _
  generalize hQ : MQ below (Qi' g 0 81 r τ) (List.toArray [.ref (bs g 64)]) s 0 0 (Ag g 0) = Q
  have hS : va_S (Ag g 0) s.heap s.heap [] := va_S.rf
  have hl := lv_entry ([.ref (bs g 64)]) (n := 1) (Nat.le_of_ble_eq_true rfl)
  rw [lg_entry_eq]
  generalize (lg_sl ([.ref (bs g 64)]) ++ List.replicate (1 - (lg_sl ([.ref (bs g 64)])).length) Slot.unset).toArray = ls at hl ⊢
  have hl : lv_has ls 1 [(0, .ref (bs g 64))] := hl
  delta f_X13_pass at hf
  obtain ⟨H, hH⟩ : ∃ H, H = s.heap := ⟨_, rfl⟩
  obtain ⟨locs, hLc⟩ : ∃ z : List Loc, z = [] := ⟨_, rfl⟩
  have hS : va_S (Ag g 0) s.heap H locs := by rw [hH, hLc]; exact hS
  have hW : Wd g 0 81 σ H := by rw [hH]; exact hW
  suffices hG : W p l e (kr 5 114) s m (List.toArray [.ref (bs g 64)]) below meth c H locs 0 0 Q (F0 m 0 ls []) by rw [hH, hLc] at hG; exact hG
  clear hH hLc
  refine lv_aload_n hx hb dX13_pass_0 rfl (lv_at hl 0 rfl) ?_
  refine mcv hf hS (fun τ h => va_runV (As := []) (rest := []) ⟨hx, hb, hml, hown, hts⟩ (c_X13_good g l σ τ h) (cl_X13_166 hts ⟨Nat.le_of_ble_eq_true rfl, Nat.le_of_ble_eq_true rfl⟩) (mpV_13 hZ hT hS hW tz_64 _) rfl rfl hl.1 rfl (lv_room (Nat.le_of_ble_eq_true rfl)) dX13_pass_1 ⟨Nat.zero_le _, Nat.zero_le _⟩) (fun σ_1 H locs hf hW hS => ?_)
  refine lv_aload_n hx hb dX13_pass_4 rfl (lv_at hl 0 rfl) ?_
  refine gf_13_14 hx hb htg (htg _ lf_X13_179) hown hZ hW tz_64 dX13_pass_5 ?_
  refine lv_if_eq (tgt := 18) hx hb dX13_pass_8 (by decide) (fun hc => ?_) (fun hc => ?_)
  · have hf := ift hc hf
    refine lv_aload_n hx hb dX13_pass_18 rfl (lv_at hl 0 rfl) ?_
    refine lv_iconst (v := 1) hx hb dX13_pass_19 (by decide) ?_
    refine mci hf hS (fun r τ h => va_runV (As := [.int 1]) (rest := []) ⟨hx, hb, hml, hown, hts⟩ (c_X13_no g l σ_1 1 r τ h) (cl_X13_169 hts ⟨Nat.le_of_ble_eq_true rfl, Nat.le_of_ble_eq_true rfl⟩) (mpV_13 hZ hT hS hW tz_64 _) rfl rfl hl.1 rfl (lv_room (Nat.le_of_ble_eq_true rfl)) dX13_pass_20 ⟨Nat.zero_le _, Nat.zero_le _⟩) (fun r_2 σ_3 H locs hf hW hS => ?_)
    subst hQ
    exact mri hx hb hr hlocks hZ hT hS hW (pr1 hf) dX13_pass_23
  · have hf := iff_ hc hf
    refine lv_aload_n hx hb dX13_pass_11 rfl (lv_at hl 0 rfl) ?_
    refine mci hf hS (fun r τ h => va_runV (As := []) (rest := []) ⟨hx, hb, hml, hown, hts⟩ (c_X13_seekPass g l σ_1 r τ h) (cl_X13_390 hts ⟨Nat.le_of_ble_eq_true rfl, Nat.le_of_ble_eq_true rfl⟩) (mpV_13 hZ hT hS hW tz_64 _) rfl rfl hl.1 rfl (lv_room (Nat.le_of_ble_eq_true rfl)) dX13_pass_12 ⟨Nat.zero_le _, Nat.zero_le _⟩) (fun r_4 σ_5 H locs hf hW hS => ?_)
    refine lv_goto (tgt := 23) hx hb dX13_pass_15 (by decide) ?_
    subst hQ
    exact mri hx hb hr hlocks hZ hT hS hW (pr1 hf) dX13_pass_23
def f_X13_passLeaves (σ : Mem)  : Option (Int32 × Mem) :=
  bd1 (f_X13_good σ) (fun (σ_1 : Mem) => (if (σ_1.1 64 14) = 0 then bd2 (f_X13_no σ_1 1) (fun (r_5 : Int32) (σ_6 : Mem) => some (r_5, σ_6)) else bd2 (f_X13_seekPass σ_1) (fun (r_2 : Int32) (σ_3 : Mem) => (if 0 ≤ r_2 then bd1 (f_X13_leavesBy σ_3 r_2) (fun (r_4 : Int32) => some (r_4, σ_3)) else some ((-2), σ_3)))))
set_option maxHeartbeats 4000000 in
set_option maxRecDepth 100000 in
theorem c_X13_passLeaves (g : XG) (l : Launch) (σ : Mem) (r : Int32) (τ : Mem) (hf : f_X13_passLeaves σ = some (r, τ)) : Met l yX13_passLeaves (wx (.code yX13_passLeaves cX13_passLeaves 2 (some .int))) (kr 5 114) (va_Pc [.ref (bs g 64)] (WS g 0 81 σ)) (Qi' g 0 81 r τ) 0 0 (Ag g 0) := by
  refine Met.ofW (cc := cX13_passLeaves) (maxL := 2) (ret := (some .int)) (by decide) rfl ?_
  intro p e s m args below meth c s₁ B hml hv
  obtain ⟨rfl, hZ, hT, hW⟩ := hv
  have hx := B.exec
  have hb := B.bytes
  have hr := B.returns
  have hts : ∀ w ∈ wx (.code yX13_passLeaves cX13_passLeaves 2 (some .int)), w.before _ s = true := atoms_spec B.pre
  have htg : ∀ w ∈ lwg, w.before _ s = true := fun w h => hts w (List.mem_cons_of_mem _ h)
  have hown : s.vm.findClass RX13 = some m.cls := findClass_of_methodNamed B.named
  have hlocks := B.notSynchronized
  change W p l e (kr 5 114) s m (List.toArray [.ref (bs g 64)]) below meth c s.heap [] 0 0 (MQ below (Qi' g 0 81 r τ) (List.toArray [.ref (bs g 64)]) s 0 0 (Ag g 0)) _
  generalize hQ : MQ below (Qi' g 0 81 r τ) (List.toArray [.ref (bs g 64)]) s 0 0 (Ag g 0) = Q
  have hS : va_S (Ag g 0) s.heap s.heap [] := va_S.rf
  have hl := lv_entry ([.ref (bs g 64)]) (n := 2) (Nat.le_of_ble_eq_true rfl)
  rw [lg_entry_eq]
  generalize (lg_sl ([.ref (bs g 64)]) ++ List.replicate (2 - (lg_sl ([.ref (bs g 64)])).length) Slot.unset).toArray = ls at hl ⊢
  have hl : lv_has ls 2 [(0, .ref (bs g 64))] := hl
  delta f_X13_passLeaves at hf
  obtain ⟨H, hH⟩ : ∃ H, H = s.heap := ⟨_, rfl⟩
  obtain ⟨locs, hLc⟩ : ∃ z : List Loc, z = [] := ⟨_, rfl⟩
  have hS : va_S (Ag g 0) s.heap H locs := by rw [hH, hLc]; exact hS
  have hW : Wd g 0 81 σ H := by rw [hH]; exact hW
  suffices hG : W p l e (kr 5 114) s m (List.toArray [.ref (bs g 64)]) below meth c H locs 0 0 Q (F0 m 0 ls []) by rw [hH, hLc] at hG; exact hG
  clear hH hLc
  refine lv_aload_n hx hb dX13_passLeaves_0 rfl (lv_at hl 0 rfl) ?_
  refine mcv hf hS (fun τ h => va_runV (As := []) (rest := []) ⟨hx, hb, hml, hown, hts⟩ (c_X13_good g l σ τ h) (cl_X13_166 hts ⟨Nat.le_of_ble_eq_true rfl, Nat.le_of_ble_eq_true rfl⟩) (mpV_13 hZ hT hS hW tz_64 _) rfl rfl hl.1 rfl (lv_room (Nat.le_of_ble_eq_true rfl)) dX13_passLeaves_1 ⟨Nat.zero_le _, Nat.zero_le _⟩) (fun σ_1 H locs hf hW hS => ?_)
  refine lv_aload_n hx hb dX13_passLeaves_4 rfl (lv_at hl 0 rfl) ?_
  refine gf_13_14 hx hb htg (htg _ lf_X13_179) hown hZ hW tz_64 dX13_passLeaves_5 ?_
  refine lv_if_ne (tgt := 17) hx hb dX13_passLeaves_8 (by decide) (fun hc => ?_) (fun hc => ?_)
  · have hf := iff_ hc hf
    refine lv_aload_n hx hb dX13_passLeaves_17 rfl (lv_at hl 0 rfl) ?_
    refine mci hf hS (fun r τ h => va_runV (As := []) (rest := []) ⟨hx, hb, hml, hown, hts⟩ (c_X13_seekPass g l σ_1 r τ h) (cl_X13_390 hts ⟨Nat.le_of_ble_eq_true rfl, Nat.le_of_ble_eq_true rfl⟩) (mpV_13 hZ hT hS hW tz_64 _) rfl rfl hl.1 rfl (lv_room (Nat.le_of_ble_eq_true rfl)) dX13_passLeaves_18 ⟨Nat.zero_le _, Nat.zero_le _⟩) (fun r_2 σ_3 H locs hf hW hS => ?_)
    refine lv_istore_n (lv' := [(1, .int r_2), (0, .ref (bs g 64))]) hx hb dX13_passLeaves_21 rfl hl (by decide) rfl (fun ls hl => ?_)
    refine lv_iload_n hx hb dX13_passLeaves_22 rfl (lv_at hl 0 rfl) ?_
    refine lv_if_ge (tgt := 31) hx hb dX13_passLeaves_23 (by decide) (fun hc => ?_) (fun hc => ?_)
    · have hf := ift hc hf
      refine lv_aload_n hx hb dX13_passLeaves_31 rfl (lv_at hl 1 rfl) ?_
      refine lv_iload_n hx hb dX13_passLeaves_32 rfl (lv_at hl 0 rfl) ?_
      refine mcip hf hS (fun r h => va_runV (As := [.int r_2]) (rest := []) ⟨hx, hb, hml, hown, hts⟩ (c_X13_leavesBy g l σ_3 r_2 r h) (cl_X13_387 hts ⟨Nat.le_of_ble_eq_true rfl, Nat.le_of_ble_eq_true rfl⟩) (mpV_13 hZ hT hS hW tz_64 _) rfl rfl hl.1 rfl (lv_room (Nat.le_of_ble_eq_true rfl)) dX13_passLeaves_33 ⟨Nat.zero_le _, Nat.zero_le _⟩) (fun r_4 H locs hf hW hS => ?_)
      subst hQ
      exact mri hx hb hr hlocks hZ hT hS hW (pr1 hf) dX13_passLeaves_36
    · have hf := iff_ hc hf
      refine lv_bipush (v := (-2)) hx hb dX13_passLeaves_26 (by decide) ?_
      refine lv_goto (tgt := 36) hx hb dX13_passLeaves_28 (by decide) ?_
      subst hQ
      exact mri hx hb hr hlocks hZ hT hS hW (pr1 hf) dX13_passLeaves_36
  · have hf := ift hc hf
    refine lv_aload_n hx hb dX13_passLeaves_11 rfl (lv_at hl 0 rfl) ?_
    refine lv_iconst (v := 1) hx hb dX13_passLeaves_12 (by decide) ?_
    refine mci hf hS (fun r τ h => va_runV (As := [.int 1]) (rest := []) ⟨hx, hb, hml, hown, hts⟩ (c_X13_no g l σ_1 1 r τ h) (cl_X13_169 hts ⟨Nat.le_of_ble_eq_true rfl, Nat.le_of_ble_eq_true rfl⟩) (mpV_13 hZ hT hS hW tz_64 _) rfl rfl hl.1 rfl (lv_room (Nat.le_of_ble_eq_true rfl)) dX13_passLeaves_13 ⟨Nat.zero_le _, Nat.zero_le _⟩) (fun r_5 σ_6 H locs hf hW hS => ?_)
    subst hQ
    exact mri hx hb hr hlocks hZ hT hS hW (pr1 hf) dX13_passLeaves_16
def f_X13_draw (σ : Mem) (a1 : Int32) : Option (Int32 × Mem) :=
  dvd 65537 (nm (sI σ 64 32 (((75 * (σ.1 64 32)) + 74) - ((75 * (σ.1 64 32)) + 74) / 65537 * 65537)) (fun (σ_1 : Mem) => dvd a1 (some ((σ_1.1 64 32) - (σ_1.1 64 32) / a1 * a1, σ_1))))
set_option maxHeartbeats 4000000 in
set_option maxRecDepth 100000 in
theorem c_X13_draw (g : XG) (l : Launch) (σ : Mem) (a1 : Int32) (r : Int32) (τ : Mem) (hf : f_X13_draw σ a1 = some (r, τ)) : Met l yX13_draw (wx (.code yX13_draw cX13_draw 2 (some .int))) (kr 0 0) (va_Pc [.ref (bs g 64), .int a1] (WS g 0 81 σ)) (Qi' g 0 81 r τ) 0 0 (Ag g 0) := by
  refine Met.ofW (cc := cX13_draw) (maxL := 2) (ret := (some .int)) (by decide) rfl ?_
  intro p e s m args below meth c s₁ B hml hv
  obtain ⟨rfl, hZ, hT, hW⟩ := hv
  have hx := B.exec
  have hb := B.bytes
  have hr := B.returns
  have hts : ∀ w ∈ wx (.code yX13_draw cX13_draw 2 (some .int)), w.before _ s = true := atoms_spec B.pre
  have htg : ∀ w ∈ lwg, w.before _ s = true := fun w h => hts w (List.mem_cons_of_mem _ h)
  have hown : s.vm.findClass RX13 = some m.cls := findClass_of_methodNamed B.named
  have hlocks := B.notSynchronized
  change W p l e (kr 0 0) s m (List.toArray [.ref (bs g 64), .int a1]) below meth c s.heap [] 0 0 (MQ below (Qi' g 0 81 r τ) (List.toArray [.ref (bs g 64), .int a1]) s 0 0 (Ag g 0)) _
  generalize hQ : MQ below (Qi' g 0 81 r τ) (List.toArray [.ref (bs g 64), .int a1]) s 0 0 (Ag g 0) = Q
  have hS : va_S (Ag g 0) s.heap s.heap [] := va_S.rf
  have hl := lv_entry ([.ref (bs g 64), .int a1]) (n := 2) (Nat.le_of_ble_eq_true rfl)
  rw [lg_entry_eq]
  generalize (lg_sl ([.ref (bs g 64), .int a1]) ++ List.replicate (2 - (lg_sl ([.ref (bs g 64), .int a1])).length) Slot.unset).toArray = ls at hl ⊢
  have hl : lv_has ls 2 [(0, .ref (bs g 64)), (1, .int a1)] := hl
  delta f_X13_draw at hf
  obtain ⟨H, hH⟩ : ∃ H, H = s.heap := ⟨_, rfl⟩
  obtain ⟨locs, hLc⟩ : ∃ z : List Loc, z = [] := ⟨_, rfl⟩
  have hS : va_S (Ag g 0) s.heap H locs := by rw [hH, hLc]; exact hS
  have hW : Wd g 0 81 σ H := by rw [hH]; exact hW
  suffices hG : W p l e (kr 0 0) s m (List.toArray [.ref (bs g 64), .int a1]) below meth c H locs 0 0 Q (F0 m 0 ls []) by rw [hH, hLc] at hG; exact hG
  clear hH hLc
  refine lv_aload_n hx hb dX13_draw_0 rfl (lv_at hl 0 rfl) ?_
  refine lv_bipush (v := 75) hx hb dX13_draw_1 (by decide) ?_
  refine lv_aload_n hx hb dX13_draw_3 rfl (lv_at hl 0 rfl) ?_
  refine gf_13_32 hx hb htg (htg _ lf_X13_393) hown hZ hW tz_64 dX13_draw_4 ?_
  refine lv_imul hx hb dX13_draw_7 ?_
  refine lv_bipush (v := 74) hx hb dX13_draw_8 (by decide) ?_
  refine lv_iadd hx hb dX13_draw_10 ?_
  refine lv_ldcw (v := 65537) hx hb hown (htg _ lk_X13_396) dX13_draw_11 ?_
  obtain ⟨hd, hf⟩ := dvd_s hf
  refine lv_irem hx hb dX13_draw_14 hd ?_
  refine pf_13_32 hx hb htg (htg _ lf_X13_393) hown hZ hW hS tz_64 dX13_draw_15 hf (fun σ_1 H locs hf hW hS => ?_)
  refine lv_aload_n hx hb dX13_draw_18 rfl (lv_at hl 0 rfl) ?_
  refine gf_13_32 hx hb htg (htg _ lf_X13_393) hown hZ hW tz_64 dX13_draw_19 ?_
  refine lv_iload_n hx hb dX13_draw_22 rfl (lv_at hl 1 rfl) ?_
  obtain ⟨hd, hf⟩ := dvd_s hf
  refine lv_irem hx hb dX13_draw_23 hd ?_
  subst hQ
  exact mri hx hb hr hlocks hZ hT hS hW (pr1 hf) dX13_draw_24
def f_X13_lostIn (σ : Mem) (a1 : Int32) : Option (Int32 × Mem) :=
  fx2 FU (fun k_3 (i_1 : Int32) (σ_2 : Mem) => (if 30 ≤ i_1 then nm (sI σ_2 64 24 1) (fun (σ_4 : Mem) => fx2 FU (fun k_7 (i_5 : Int32) (i_6 : Int32) => (if 30 ≤ i_6 then nm (sI σ_4 64 24 0) (fun (σ_8 : Mem) => some (i_5, σ_8)) else fx2 FU (fun k_11 (i_9 : Int32) (i_10 : Int32) => ixd 4 (aln 67) ((if (σ_4.1 67 (4 : Int32).toNatClampNeg) ≤ i_10 then jn1 (fun (i_12 : Int32) => nm (i_5 + i_12) (fun (x_14 : Int32) => nm (i_6 + 1) (fun (x_15 : Int32) => k_7 x_14 x_15))) (fun k_13 => (if i_9 = 0 then k_13 0 else k_13 1)) else jn1 (fun (i_17 : Int32) => nm (i_10 + 1) (fun (x_19 : Int32) => k_11 i_17 x_19)) (fun k_18 => jn0 (k_18 1) (fun k_21 => (if i_9 = 0 then jn0 (k_18 0) (fun k_22 => jn0 (bd1 (f_X13_doesKnow σ_4 i_10 i_6) (fun (r_24 : Int32) => (if r_24 = 0 then k_21 else k_22))) (fun k_23 => (if a1 < 0 then k_23 else (if a1 = i_10 then k_23 else k_22)))) else k_21)))))) 0 0)) 0 0) else ixd 4 (aln 67) (bd2 (f_X13_draw σ_2 (σ_2.1 67 (4 : Int32).toNatClampNeg)) (fun (r_25 : Int32) (σ_26 : Mem) => ixd i_1 (aln 72) (nm (sI σ_26 72 i_1.toNatClampNeg r_25) (fun (σ_27 : Mem) => ixd 0 (aln 67) (bd2 (f_X13_draw σ_27 (σ_27.1 67 (0 : Int32).toNatClampNeg)) (fun (r_28 : Int32) (σ_29 : Mem) => ixd i_1 (aln 73) (nm (sI σ_29 73 i_1.toNatClampNeg r_28) (fun (σ_30 : Mem) => nm (i_1 + 1) (fun (x_31 : Int32) => k_3 x_31 σ_30))))))))))) 0 σ
set_option maxHeartbeats 4000000 in
set_option maxRecDepth 100000 in
theorem c_X13_lostIn (g : XG) (l : Launch) (σ : Mem) (a1 : Int32) (r : Int32) (τ : Mem) (hf : f_X13_lostIn σ a1 = some (r, τ)) : Met l yX13_lostIn (wx (.code yX13_lostIn cX13_lostIn 6 (some .int))) (kr 5 115) (va_Pc [.ref (bs g 64), .int a1] (WS g 0 81 σ)) (Qi' g 0 81 r τ) 0 0 (Ag g 0) := by
  refine Met.ofW (cc := cX13_lostIn) (maxL := 6) (ret := (some .int)) (by decide) rfl ?_
  intro p e s m args below meth c s₁ B hml hv
  obtain ⟨rfl, hZ, hT, hW⟩ := hv
  have hx := B.exec
  have hb := B.bytes
  have hr := B.returns
  have hts : ∀ w ∈ wx (.code yX13_lostIn cX13_lostIn 6 (some .int)), w.before _ s = true := atoms_spec B.pre
  have htg : ∀ w ∈ lwg, w.before _ s = true := fun w h => hts w (List.mem_cons_of_mem _ h)
  have hown : s.vm.findClass RX13 = some m.cls := findClass_of_methodNamed B.named
  have hlocks := B.notSynchronized
  change W p l e (kr 5 115) s m (List.toArray [.ref (bs g 64), .int a1]) below meth c s.heap [] 0 0 (MQ below (Qi' g 0 81 r τ) (List.toArray [.ref (bs g 64), .int a1]) s 0 0 (Ag g 0)) _
  generalize hQ : MQ below (Qi' g 0 81 r τ) (List.toArray [.ref (bs g 64), .int a1]) s 0 0 (Ag g 0) = Q
  have hS : va_S (Ag g 0) s.heap s.heap [] := va_S.rf
  have hl := lv_entry ([.ref (bs g 64), .int a1]) (n := 6) (Nat.le_of_ble_eq_true rfl)
  rw [lg_entry_eq]
  generalize (lg_sl ([.ref (bs g 64), .int a1]) ++ List.replicate (6 - (lg_sl ([.ref (bs g 64), .int a1])).length) Slot.unset).toArray = ls at hl ⊢
  have hl : lv_has ls 6 [(0, .ref (bs g 64)), (1, .int a1)] := hl
  delta f_X13_lostIn at hf
  obtain ⟨H, hH⟩ : ∃ H, H = s.heap := ⟨_, rfl⟩
  obtain ⟨locs, hLc⟩ : ∃ z : List Loc, z = [] := ⟨_, rfl⟩
  have hS : va_S (Ag g 0) s.heap H locs := by rw [hH, hLc]; exact hS
  have hW : Wd g 0 81 σ H := by rw [hH]; exact hW
  suffices hG : W p l e (kr 5 115) s m (List.toArray [.ref (bs g 64), .int a1]) below meth c H locs 0 0 Q (F0 m 0 ls []) by rw [hH, hLc] at hG; exact hG
  clear hH hLc
  refine lv_iconst (v := 0) hx hb dX13_lostIn_0 (by decide) ?_
  refine lv_istore_n (lv' := [(2, .int 0), (0, .ref (bs g 64)), (1, .int a1)]) hx hb dX13_lostIn_1 rfl hl (by decide) rfl (fun ls hl => ?_)
  refine fx2_W (fun (i_1 : Int32) (σ_2 : Mem) => ∀ (H : Heap) (locs : List Loc) (ls : Array Slot), Wd g 0 81 σ_2 H → va_S (Ag g 0) s.heap H locs → lv_has ls 6 [(0, .ref (bs g 64)), (1, .int a1), (2, .int i_1)] → W p l e (kr 5 115) s m (List.toArray [.ref (bs g 64), .int a1]) below meth c H locs 0 0 Q (F0 m 2 ls [])) (fun k_3 hk_3 i_1 σ_2 hf => ?_) FU 0 σ hf H locs ls hW hS (lv_sub hl [1, 2, 0] rfl)
  intro H locs ls hW hS hl
  refine lv_iload_n hx hb dX13_lostIn_2 rfl (lv_at hl 2 rfl) ?_
  refine lv_bipush (v := 30) hx hb dX13_lostIn_3 (by decide) ?_
  refine lv_icmp_ge (tgt := 46) hx hb dX13_lostIn_5 (by decide) (fun hc => ?_) (fun hc => ?_)
  · have hf := ift hc hf
    refine lv_aload_n hx hb dX13_lostIn_46 rfl (lv_at hl 0 rfl) ?_
    refine lv_iconst (v := 1) hx hb dX13_lostIn_47 (by decide) ?_
    refine pf_13_24 hx hb htg (htg _ lf_X13_257) hown hZ hW hS tz_64 dX13_lostIn_48 (by decide) (by decide) hf (fun σ_4 H locs hf hW hS => ?_)
    refine lv_iconst (v := 0) hx hb dX13_lostIn_51 (by decide) ?_
    refine lv_istore_n (lv' := [(2, .int 0), (0, .ref (bs g 64)), (1, .int a1)]) hx hb dX13_lostIn_52 rfl hl (by decide) rfl (fun ls hl => ?_)
    refine lv_iconst (v := 0) hx hb dX13_lostIn_53 (by decide) ?_
    refine lv_istore_n (lv' := [(3, .int 0), (2, .int 0), (0, .ref (bs g 64)), (1, .int a1)]) hx hb dX13_lostIn_54 rfl hl (by decide) rfl (fun ls hl => ?_)
    refine fx2_W (fun (i_5 : Int32) (i_6 : Int32) => ∀ (H : Heap) (locs : List Loc) (ls : Array Slot), Wd g 0 81 σ_4 H → va_S (Ag g 0) s.heap H locs → lv_has ls 6 [(0, .ref (bs g 64)), (1, .int a1), (2, .int i_5), (3, .int i_6)] → W p l e (kr 5 115) s m (List.toArray [.ref (bs g 64), .int a1]) below meth c H locs 0 0 Q (F0 m 55 ls [])) (fun k_7 hk_7 i_5 i_6 hf => ?_) FU 0 0 hf H locs ls hW hS (lv_sub hl [2, 3, 1, 0] rfl)
    intro H locs ls hW hS hl
    refine lv_iload_n hx hb dX13_lostIn_55 rfl (lv_at hl 3 rfl) ?_
    refine lv_bipush (v := 30) hx hb dX13_lostIn_56 (by decide) ?_
    refine lv_icmp_ge (tgt := 135) hx hb dX13_lostIn_58 (by decide) (fun hc => ?_) (fun hc => ?_)
    · have hf := ift hc hf
      refine lv_aload_n hx hb dX13_lostIn_135 rfl (lv_at hl 0 rfl) ?_
      refine lv_iconst (v := 0) hx hb dX13_lostIn_136 (by decide) ?_
      refine pf_13_24 hx hb htg (htg _ lf_X13_257) hown hZ hW hS tz_64 dX13_lostIn_137 (by decide) (by decide) hf (fun σ_8 H locs hf hW hS => ?_)
      refine lv_iload_n hx hb dX13_lostIn_140 rfl (lv_at hl 2 rfl) ?_
      subst hQ
      exact mri hx hb hr hlocks hZ hT hS hW (pr1 hf) dX13_lostIn_141
    · have hf := iff_ hc hf
      refine lv_iconst (v := 0) hx hb dX13_lostIn_61 (by decide) ?_
      refine lv_istore (lv' := [(4, .int 0), (0, .ref (bs g 64)), (1, .int a1), (2, .int i_5), (3, .int i_6)]) hx hb dX13_lostIn_62 hl (by decide) rfl (fun ls hl => ?_)
      refine lv_iconst (v := 0) hx hb dX13_lostIn_64 (by decide) ?_
      refine lv_istore (lv' := [(5, .int 0), (4, .int 0), (0, .ref (bs g 64)), (1, .int a1), (2, .int i_5), (3, .int i_6)]) hx hb dX13_lostIn_65 hl (by decide) rfl (fun ls hl => ?_)
      refine fx2_W (fun (i_9 : Int32) (i_10 : Int32) => ∀ (H : Heap) (locs : List Loc) (ls : Array Slot), Wd g 0 81 σ_4 H → va_S (Ag g 0) s.heap H locs → lv_has ls 6 [(0, .ref (bs g 64)), (1, .int a1), (2, .int i_5), (3, .int i_6), (4, .int i_9), (5, .int i_10)] → W p l e (kr 5 115) s m (List.toArray [.ref (bs g 64), .int a1]) below meth c H locs 0 0 Q (F0 m 67 ls [])) (fun k_11 hk_11 i_9 i_10 hf => ?_) FU 0 0 hf H locs ls hW hS (lv_sub hl [2, 3, 4, 5, 1, 0] rfl)
      intro H locs ls hW hS hl
      refine lv_iload hx hb dX13_lostIn_67 (lv_at hl 5 rfl) ?_
      refine lv_aload_n hx hb dX13_lostIn_69 rfl (lv_at hl 0 rfl) ?_
      refine gf_13_15 hx hb htg (htg _ lf_X13_20) hown hZ hW tz_64 dX13_lostIn_70 ?_
      refine lv_iconst (v := 4) hx hb dX13_lostIn_73 (by decide) ?_
      refine mld_i hx hb hZ hW tz_67 hf dX13_lostIn_74 (fun hf => ?_)
      refine lv_icmp_ge (tgt := 116) hx hb dX13_lostIn_75 (by decide) (fun hc => ?_) (fun hc => ?_)
      · have hf := ift hc hf
        refine lv_iload_n hx hb dX13_lostIn_116 rfl (lv_at hl 2 rfl) ?_
        refine lv_iload hx hb dX13_lostIn_117 (lv_at hl 4 rfl) ?_
        refine jn1_W (fun (i_12 : Int32) => ∀ (H : Heap) (locs : List Loc) (ls : Array Slot), Wd g 0 81 σ_4 H → va_S (Ag g 0) s.heap H locs → lv_has ls 6 [(0, .ref (bs g 64)), (1, .int a1), (3, .int i_6)] → W p l e (kr 5 115) s m (List.toArray [.ref (bs g 64), .int a1]) below meth c H locs 0 0 Q (F0 m 127 ls [.int i_12, .int i_5])) hf (fun i_12 hf => ?_) (fun k_13 hk_13 hf => ?_)
        · intro H locs ls hW hS hl
          refine lv_iadd hx hb dX13_lostIn_127 ?_
          refine mnmi hf (fun (x_14 : Int32) hf => ?_)
          refine lv_istore_n (lv' := [(2, .int x_14), (0, .ref (bs g 64)), (1, .int a1), (3, .int i_6)]) hx hb dX13_lostIn_128 rfl hl (by decide) rfl (fun ls hl => ?_)
          obtain ⟨x_15, e_16, hf⟩ := nm_s hf
          refine lv_iinc (v := x_15) (lv' := [(3, .int x_15), (2, .int x_14), (0, .ref (bs g 64)), (1, .int a1)]) hx hb dX13_lostIn_129 hl (k := 3) rfl (by rw [e_16]; rfl) (by decide) rfl (fun ls hl => ?_)
          refine lv_goto (tgt := 55) hx hb dX13_lostIn_132 (by decide) ?_
          exact hk_7 x_14 x_15 hf H locs ls hW hS (lv_sub hl [2, 3, 1, 0] rfl)
        · refine lv_if_eq (tgt := 126) hx hb dX13_lostIn_119 (by decide) (fun hc => ?_) (fun hc => ?_)
          · have hf := ift hc hf
            refine lv_iconst (v := 0) hx hb dX13_lostIn_126 (by decide) ?_
            exact hk_13 0 hf H locs ls hW hS (lv_sub hl [0, 1, 3] rfl)
          · have hf := iff_ hc hf
            refine lv_iconst (v := 1) hx hb dX13_lostIn_122 (by decide) ?_
            refine lv_goto (tgt := 127) hx hb dX13_lostIn_123 (by decide) ?_
            exact hk_13 1 hf H locs ls hW hS (lv_sub hl [0, 1, 3] rfl)
      · have hf := iff_ hc hf
        refine lv_iload hx hb dX13_lostIn_78 (lv_at hl 4 rfl) ?_
        refine jn1_W (fun (i_17 : Int32) => ∀ (H : Heap) (locs : List Loc) (ls : Array Slot), Wd g 0 81 σ_4 H → va_S (Ag g 0) s.heap H locs → lv_has ls 6 [(0, .ref (bs g 64)), (1, .int a1), (2, .int i_5), (3, .int i_6), (5, .int i_10)] → W p l e (kr 5 115) s m (List.toArray [.ref (bs g 64), .int a1]) below meth c H locs 0 0 Q (F0 m 108 ls [.int i_17])) hf (fun i_17 hf => ?_) (fun k_18 hk_18 hf => ?_)
        · intro H locs ls hW hS hl
          refine lv_istore (lv' := [(4, .int i_17), (0, .ref (bs g 64)), (1, .int a1), (2, .int i_5), (3, .int i_6), (5, .int i_10)]) hx hb dX13_lostIn_108 hl (by decide) rfl (fun ls hl => ?_)
          obtain ⟨x_19, e_20, hf⟩ := nm_s hf
          refine lv_iinc (v := x_19) (lv' := [(5, .int x_19), (4, .int i_17), (0, .ref (bs g 64)), (1, .int a1), (2, .int i_5), (3, .int i_6)]) hx hb dX13_lostIn_110 hl (k := 5) rfl (by rw [e_20]; rfl) (by decide) rfl (fun ls hl => ?_)
          refine lv_goto (tgt := 67) hx hb dX13_lostIn_113 (by decide) ?_
          exact hk_11 i_17 x_19 hf H locs ls hW hS (lv_sub hl [2, 3, 4, 5, 1, 0] rfl)
        · refine jn0_W (∀ (H : Heap) (locs : List Loc) (ls : Array Slot), Wd g 0 81 σ_4 H → va_S (Ag g 0) s.heap H locs → lv_has ls 6 [(0, .ref (bs g 64)), (1, .int a1), (2, .int i_5), (3, .int i_6), (5, .int i_10)] → W p l e (kr 5 115) s m (List.toArray [.ref (bs g 64), .int a1]) below meth c H locs 0 0 Q (F0 m 103 ls [])) hf (fun  hf => ?_) (fun k_21 hk_21 hf => ?_)
          · intro H locs ls hW hS hl
            refine lv_iconst (v := 1) hx hb dX13_lostIn_103 (by decide) ?_
            refine lv_goto (tgt := 108) hx hb dX13_lostIn_104 (by decide) ?_
            exact hk_18 1 hf H locs ls hW hS (lv_sub hl [0, 1, 2, 3, 4] rfl)
          · refine lv_if_ne (tgt := 103) hx hb dX13_lostIn_80 (by decide) (fun hc => ?_) (fun hc => ?_)
            · have hf := iff_ hc hf
              exact hk_21  hf H locs ls hW hS (lv_sub hl [0, 1, 2, 3, 5] rfl)
            · have hf := ift hc hf
              refine lv_iload_n hx hb dX13_lostIn_83 rfl (lv_at hl 1 rfl) ?_
              refine jn0_W (∀ (H : Heap) (locs : List Loc) (ls : Array Slot), Wd g 0 81 σ_4 H → va_S (Ag g 0) s.heap H locs → lv_has ls 6 [(0, .ref (bs g 64)), (1, .int a1), (2, .int i_5), (3, .int i_6), (5, .int i_10)] → W p l e (kr 5 115) s m (List.toArray [.ref (bs g 64), .int a1]) below meth c H locs 0 0 Q (F0 m 107 ls [])) hf (fun  hf => ?_) (fun k_22 hk_22 hf => ?_)
              · intro H locs ls hW hS hl
                refine lv_iconst (v := 0) hx hb dX13_lostIn_107 (by decide) ?_
                exact hk_18 0 hf H locs ls hW hS (lv_sub hl [0, 1, 2, 3, 4] rfl)
              · refine jn0_W (∀ (H : Heap) (locs : List Loc) (ls : Array Slot), Wd g 0 81 σ_4 H → va_S (Ag g 0) s.heap H locs → lv_has ls 6 [(0, .ref (bs g 64)), (1, .int a1), (2, .int i_5), (3, .int i_6), (5, .int i_10)] → W p l e (kr 5 115) s m (List.toArray [.ref (bs g 64), .int a1]) below meth c H locs 0 0 Q (F0 m 93 ls [])) hf (fun  hf => ?_) (fun k_23 hk_23 hf => ?_)
                · intro H locs ls hW hS hl
                  refine lv_aload_n hx hb dX13_lostIn_93 rfl (lv_at hl 0 rfl) ?_
                  refine lv_iload hx hb dX13_lostIn_94 (lv_at hl 4 rfl) ?_
                  refine lv_iload_n hx hb dX13_lostIn_96 rfl (lv_at hl 3 rfl) ?_
                  refine mcip hf hS (fun r h => va_runV (As := [.int i_10, .int i_6]) (rest := []) ⟨hx, hb, hml, hown, hts⟩ (c_X13_doesKnow g l σ_4 i_10 i_6 r h) (cl_X13_291 hts ⟨Nat.le_of_ble_eq_true rfl, Nat.le_of_ble_eq_true rfl⟩) (mpV_13 hZ hT hS hW tz_64 _) rfl rfl hl.1 rfl (lv_room (Nat.le_of_ble_eq_true rfl)) dX13_lostIn_97 ⟨Nat.zero_le _, Nat.zero_le _⟩) (fun r_24 H locs hf hW hS => ?_)
                  refine lv_if_ne (tgt := 107) hx hb dX13_lostIn_100 (by decide) (fun hc => ?_) (fun hc => ?_)
                  · have hf := iff_ hc hf
                    exact hk_22  hf H locs ls hW hS (lv_sub hl [0, 1, 2, 3, 4] rfl)
                  · have hf := ift hc hf
                    exact hk_21  hf H locs ls hW hS (lv_sub hl [0, 1, 2, 3, 4] rfl)
                · refine lv_if_lt (tgt := 93) hx hb dX13_lostIn_84 (by decide) (fun hc => ?_) (fun hc => ?_)
                  · have hf := ift hc hf
                    exact hk_23  hf H locs ls hW hS (lv_sub hl [0, 1, 2, 3, 5] rfl)
                  · have hf := iff_ hc hf
                    refine lv_iload_n hx hb dX13_lostIn_87 rfl (lv_at hl 1 rfl) ?_
                    refine lv_iload hx hb dX13_lostIn_88 (lv_at hl 5 rfl) ?_
                    refine lv_icmp_ne (tgt := 107) hx hb dX13_lostIn_90 (by decide) (fun hc => ?_) (fun hc => ?_)
                    · have hf := iff_ hc hf
                      exact hk_22  hf H locs ls hW hS (lv_sub hl [0, 1, 2, 3, 5] rfl)
                    · have hf := ift hc hf
                      exact hk_23  hf H locs ls hW hS (lv_sub hl [0, 1, 2, 3, 5] rfl)
  · have hf := iff_ hc hf
    refine lv_aload_n hx hb dX13_lostIn_8 rfl (lv_at hl 0 rfl) ?_
    refine gf_13_22 hx hb htg (htg _ lf_X13_35) hown hZ hW tz_64 dX13_lostIn_9 ?_
    refine lv_iload_n hx hb dX13_lostIn_12 rfl (lv_at hl 2 rfl) ?_
    refine lv_aload_n hx hb dX13_lostIn_13 rfl (lv_at hl 0 rfl) ?_
    refine lv_aload_n hx hb dX13_lostIn_14 rfl (lv_at hl 0 rfl) ?_
    refine gf_13_15 hx hb htg (htg _ lf_X13_20) hown hZ hW tz_64 dX13_lostIn_15 ?_
    refine lv_iconst (v := 4) hx hb dX13_lostIn_18 (by decide) ?_
    refine mld_i hx hb hZ hW tz_67 hf dX13_lostIn_19 (fun hf => ?_)
    refine mci hf hS (fun r τ h => va_runV (As := [.int (σ_2.1 67 (4 : Int32).toNatClampNeg)]) (rest := [.int i_1, .ref (bs g 72)]) ⟨hx, hb, hml, hown, hts⟩ (c_X13_draw g l σ_2 (σ_2.1 67 (4 : Int32).toNatClampNeg) r τ h) (cl_X13_397 hts ⟨Nat.le_of_ble_eq_true rfl, Nat.le_of_ble_eq_true rfl⟩) (mpV_13 hZ hT hS hW tz_64 _) rfl rfl hl.1 rfl (lv_room (Nat.le_of_ble_eq_true rfl)) dX13_lostIn_20 ⟨Nat.zero_le _, Nat.zero_le _⟩) (fun r_25 σ_26 H locs hf hW hS => ?_)
    refine mst_i hx hb hZ hW hS tz_72 hf dX13_lostIn_23 (fun σ_27 H locs hf hW hS => ?_)
    refine lv_aload_n hx hb dX13_lostIn_24 rfl (lv_at hl 0 rfl) ?_
    refine gf_13_23 hx hb htg (htg _ lf_X13_38) hown hZ hW tz_64 dX13_lostIn_25 ?_
    refine lv_iload_n hx hb dX13_lostIn_28 rfl (lv_at hl 2 rfl) ?_
    refine lv_aload_n hx hb dX13_lostIn_29 rfl (lv_at hl 0 rfl) ?_
    refine lv_aload_n hx hb dX13_lostIn_30 rfl (lv_at hl 0 rfl) ?_
    refine gf_13_15 hx hb htg (htg _ lf_X13_20) hown hZ hW tz_64 dX13_lostIn_31 ?_
    refine lv_iconst (v := 0) hx hb dX13_lostIn_34 (by decide) ?_
    refine mld_i hx hb hZ hW tz_67 hf dX13_lostIn_35 (fun hf => ?_)
    refine mci hf hS (fun r τ h => va_runV (As := [.int (σ_27.1 67 (0 : Int32).toNatClampNeg)]) (rest := [.int i_1, .ref (bs g 73)]) ⟨hx, hb, hml, hown, hts⟩ (c_X13_draw g l σ_27 (σ_27.1 67 (0 : Int32).toNatClampNeg) r τ h) (cl_X13_397 hts ⟨Nat.le_of_ble_eq_true rfl, Nat.le_of_ble_eq_true rfl⟩) (mpV_13 hZ hT hS hW tz_64 _) rfl rfl hl.1 rfl (lv_room (Nat.le_of_ble_eq_true rfl)) dX13_lostIn_36 ⟨Nat.zero_le _, Nat.zero_le _⟩) (fun r_28 σ_29 H locs hf hW hS => ?_)
    refine mst_i hx hb hZ hW hS tz_73 hf dX13_lostIn_39 (fun σ_30 H locs hf hW hS => ?_)
    obtain ⟨x_31, e_32, hf⟩ := nm_s hf
    refine lv_iinc (v := x_31) (lv' := [(2, .int x_31), (0, .ref (bs g 64)), (1, .int a1)]) hx hb dX13_lostIn_40 hl (k := 2) rfl (by rw [e_32]; rfl) (by decide) rfl (fun ls hl => ?_)
    refine lv_goto (tgt := 2) hx hb dX13_lostIn_43 (by decide) ?_
    exact hk_3 x_31 σ_30 hf H locs ls hW hS (lv_sub hl [1, 2, 0] rfl)
def f_X13_month (σ : Mem) (a1 : Int32) : Option (Int32 × Mem) :=
  bd1 (f_X13_good σ) (fun (σ_1 : Mem) => (if (σ_1.1 64 14) = 0 then bd2 (f_X13_no σ_1 1) (fun (r_8 : Int32) (σ_9 : Mem) => some (r_8, σ_9)) else bd1 (f_X13_in a1 0 65536) (fun (r_2 : Int32) => (if r_2 = 0 then bd2 (f_X13_no σ_1 2) (fun (r_6 : Int32) (σ_7 : Mem) => some (r_6, σ_7)) else nm (sI σ_1 64 32 a1) (fun (σ_3 : Mem) => bd2 (f_X13_lostIn σ_3 (-1)) (fun (r_4 : Int32) (σ_5 : Mem) => some (r_4, σ_5)))))))
set_option maxHeartbeats 4000000 in
set_option maxRecDepth 100000 in
theorem c_X13_month (g : XG) (l : Launch) (σ : Mem) (a1 : Int32) (r : Int32) (τ : Mem) (hf : f_X13_month σ a1 = some (r, τ)) : Met l yX13_month (wx (.code yX13_month cX13_month 2 (some .int))) (kr 6 140) (va_Pc [.ref (bs g 64), .int a1] (WS g 0 81 σ)) (Qi' g 0 81 r τ) 0 0 (Ag g 0) := by
  refine Met.ofW (cc := cX13_month) (maxL := 2) (ret := (some .int)) (by decide) rfl ?_
  intro p e s m args below meth c s₁ B hml hv
  obtain ⟨rfl, hZ, hT, hW⟩ := hv
  have hx := B.exec
  have hb := B.bytes
  have hr := B.returns
  have hts : ∀ w ∈ wx (.code yX13_month cX13_month 2 (some .int)), w.before _ s = true := atoms_spec B.pre
  have htg : ∀ w ∈ lwg, w.before _ s = true := fun w h => hts w (List.mem_cons_of_mem _ h)
  have hown : s.vm.findClass RX13 = some m.cls := findClass_of_methodNamed B.named
  have hlocks := B.notSynchronized
  change W p l e (kr 6 140) s m (List.toArray [.ref (bs g 64), .int a1]) below meth c s.heap [] 0 0 (MQ below (Qi' g 0 81 r τ) (List.toArray [.ref (bs g 64), .int a1]) s 0 0 (Ag g 0)) _
  generalize hQ : MQ below (Qi' g 0 81 r τ) (List.toArray [.ref (bs g 64), .int a1]) s 0 0 (Ag g 0) = Q
  have hS : va_S (Ag g 0) s.heap s.heap [] := va_S.rf
  have hl := lv_entry ([.ref (bs g 64), .int a1]) (n := 2) (Nat.le_of_ble_eq_true rfl)
  rw [lg_entry_eq]
  generalize (lg_sl ([.ref (bs g 64), .int a1]) ++ List.replicate (2 - (lg_sl ([.ref (bs g 64), .int a1])).length) Slot.unset).toArray = ls at hl ⊢
  have hl : lv_has ls 2 [(0, .ref (bs g 64)), (1, .int a1)] := hl
  delta f_X13_month at hf
  obtain ⟨H, hH⟩ : ∃ H, H = s.heap := ⟨_, rfl⟩
  obtain ⟨locs, hLc⟩ : ∃ z : List Loc, z = [] := ⟨_, rfl⟩
  have hS : va_S (Ag g 0) s.heap H locs := by rw [hH, hLc]; exact hS
  have hW : Wd g 0 81 σ H := by rw [hH]; exact hW
  suffices hG : W p l e (kr 6 140) s m (List.toArray [.ref (bs g 64), .int a1]) below meth c H locs 0 0 Q (F0 m 0 ls []) by rw [hH, hLc] at hG; exact hG
  clear hH hLc
  refine lv_aload_n hx hb dX13_month_0 rfl (lv_at hl 0 rfl) ?_
  refine mcv hf hS (fun τ h => va_runV (As := []) (rest := []) ⟨hx, hb, hml, hown, hts⟩ (c_X13_good g l σ τ h) (cl_X13_166 hts ⟨Nat.le_of_ble_eq_true rfl, Nat.le_of_ble_eq_true rfl⟩) (mpV_13 hZ hT hS hW tz_64 _) rfl rfl hl.1 rfl (lv_room (Nat.le_of_ble_eq_true rfl)) dX13_month_1 ⟨Nat.zero_le _, Nat.zero_le _⟩) (fun σ_1 H locs hf hW hS => ?_)
  refine lv_aload_n hx hb dX13_month_4 rfl (lv_at hl 0 rfl) ?_
  refine gf_13_14 hx hb htg (htg _ lf_X13_179) hown hZ hW tz_64 dX13_month_5 ?_
  refine lv_if_ne (tgt := 17) hx hb dX13_month_8 (by decide) (fun hc => ?_) (fun hc => ?_)
  · have hf := iff_ hc hf
    refine lv_iload_n hx hb dX13_month_17 rfl (lv_at hl 1 rfl) ?_
    refine lv_iconst (v := 0) hx hb dX13_month_18 (by decide) ?_
    refine lv_ldcw (v := 65536) hx hb hown (htg _ lk_X13_400) dX13_month_19 ?_
    refine mcip hf hS (fun r h => va_runS (As := [.int a1, .int 0, .int 65536]) (rest := []) ⟨hx, hb, hml, hown, hts⟩ (c_X13_in g l 0 81 σ_1 a1 0 65536 r h) (cl_X13_151 hts ⟨Nat.le_of_ble_eq_true rfl, Nat.le_of_ble_eq_true rfl⟩) (mpS hZ hT hS hW _) rfl rfl hl.1 rfl (lv_room (Nat.le_of_ble_eq_true rfl)) dX13_month_22 ⟨Nat.zero_le _, Nat.zero_le _⟩) (fun r_2 H locs hf hW hS => ?_)
    refine lv_if_ne (tgt := 34) hx hb dX13_month_25 (by decide) (fun hc => ?_) (fun hc => ?_)
    · have hf := iff_ hc hf
      refine lv_aload_n hx hb dX13_month_34 rfl (lv_at hl 0 rfl) ?_
      refine lv_iload_n hx hb dX13_month_35 rfl (lv_at hl 1 rfl) ?_
      refine pf_13_32 hx hb htg (htg _ lf_X13_393) hown hZ hW hS tz_64 dX13_month_36 hf (fun σ_3 H locs hf hW hS => ?_)
      refine lv_aload_n hx hb dX13_month_39 rfl (lv_at hl 0 rfl) ?_
      refine lv_iconst (v := (-1)) hx hb dX13_month_40 (by decide) ?_
      refine mci hf hS (fun r τ h => va_runV (As := [.int (-1)]) (rest := []) ⟨hx, hb, hml, hown, hts⟩ (c_X13_lostIn g l σ_3 (-1) r τ h) (cl_X13_401 hts ⟨Nat.le_of_ble_eq_true rfl, Nat.le_of_ble_eq_true rfl⟩) (mpV_13 hZ hT hS hW tz_64 _) rfl rfl hl.1 rfl (lv_room (Nat.le_of_ble_eq_true rfl)) dX13_month_41 ⟨Nat.zero_le _, Nat.zero_le _⟩) (fun r_4 σ_5 H locs hf hW hS => ?_)
      subst hQ
      exact mri hx hb hr hlocks hZ hT hS hW (pr1 hf) dX13_month_44
    · have hf := ift hc hf
      refine lv_aload_n hx hb dX13_month_28 rfl (lv_at hl 0 rfl) ?_
      refine lv_iconst (v := 2) hx hb dX13_month_29 (by decide) ?_
      refine mci hf hS (fun r τ h => va_runV (As := [.int 2]) (rest := []) ⟨hx, hb, hml, hown, hts⟩ (c_X13_no g l σ_1 2 r τ h) (cl_X13_169 hts ⟨Nat.le_of_ble_eq_true rfl, Nat.le_of_ble_eq_true rfl⟩) (mpV_13 hZ hT hS hW tz_64 _) rfl rfl hl.1 rfl (lv_room (Nat.le_of_ble_eq_true rfl)) dX13_month_30 ⟨Nat.zero_le _, Nat.zero_le _⟩) (fun r_6 σ_7 H locs hf hW hS => ?_)
      subst hQ
      exact mri hx hb hr hlocks hZ hT hS hW (pr1 hf) dX13_month_33
  · have hf := ift hc hf
    refine lv_aload_n hx hb dX13_month_11 rfl (lv_at hl 0 rfl) ?_
    refine lv_iconst (v := 1) hx hb dX13_month_12 (by decide) ?_
    refine mci hf hS (fun r τ h => va_runV (As := [.int 1]) (rest := []) ⟨hx, hb, hml, hown, hts⟩ (c_X13_no g l σ_1 1 r τ h) (cl_X13_169 hts ⟨Nat.le_of_ble_eq_true rfl, Nat.le_of_ble_eq_true rfl⟩) (mpV_13 hZ hT hS hW tz_64 _) rfl rfl hl.1 rfl (lv_room (Nat.le_of_ble_eq_true rfl)) dX13_month_13 ⟨Nat.zero_le _, Nat.zero_le _⟩) (fun r_8 σ_9 H locs hf hW hS => ?_)
    subst hQ
    exact mri hx hb hr hlocks hZ hT hS hW (pr1 hf) dX13_month_16
def f_X13_lost (σ : Mem) (a1 : Int32) (a2 : Int32) (a3 : Int32) : Option (Int32 × Mem) :=
  bd1 (f_X13_good σ) (fun (σ_1 : Mem) => bd1 (f_X13_isPerson σ_1 a1) (fun (r_2 : Int32) => (if r_2 = 0 then bd2 (f_X13_no σ_1 1) (fun (r_18 : Int32) (σ_19 : Mem) => some (r_18, σ_19)) else bd1 (f_X13_in a2 0 65536) (fun (r_3 : Int32) => jn0 (bd2 (f_X13_no σ_1 2) (fun (r_5 : Int32) (σ_6 : Mem) => some (r_5, σ_6))) (fun k_4 => (if r_3 = 0 then k_4 else bd1 (f_X13_in a3 1 20) (fun (r_7 : Int32) => (if r_7 = 0 then k_4 else nm (sI σ_1 64 32 a2) (fun (σ_8 : Mem) => fx3 FU (fun k_12 (i_9 : Int32) (i_10 : Int32) (σ_11 : Mem) => (if a3 ≤ i_10 then some (i_9, σ_11) else bd2 (f_X13_lostIn σ_11 a1) (fun (r_13 : Int32) (σ_14 : Mem) => nm (i_9 + r_13) (fun (x_15 : Int32) => nm (i_10 + 1) (fun (x_16 : Int32) => k_12 x_15 x_16 σ_14))))) 0 0 σ_8)))))))))
set_option maxHeartbeats 4000000 in
set_option maxRecDepth 100000 in
theorem c_X13_lost (g : XG) (l : Launch) (σ : Mem) (a1 : Int32) (a2 : Int32) (a3 : Int32) (r : Int32) (τ : Mem) (hf : f_X13_lost σ a1 a2 a3 = some (r, τ)) : Met l yX13_lost (wx (.code yX13_lost cX13_lost 6 (some .int))) (kr 6 140) (va_Pc [.ref (bs g 64), .int a1, .int a2, .int a3] (WS g 0 81 σ)) (Qi' g 0 81 r τ) 0 0 (Ag g 0) := by
  refine Met.ofW (cc := cX13_lost) (maxL := 6) (ret := (some .int)) (by decide) rfl ?_
  intro p e s m args below meth c s₁ B hml hv
  obtain ⟨rfl, hZ, hT, hW⟩ := hv
  have hx := B.exec
  have hb := B.bytes
  have hr := B.returns
  have hts : ∀ w ∈ wx (.code yX13_lost cX13_lost 6 (some .int)), w.before _ s = true := atoms_spec B.pre
  have htg : ∀ w ∈ lwg, w.before _ s = true := fun w h => hts w (List.mem_cons_of_mem _ h)
  have hown : s.vm.findClass RX13 = some m.cls := findClass_of_methodNamed B.named
  have hlocks := B.notSynchronized
  change W p l e (kr 6 140) s m (List.toArray [.ref (bs g 64), .int a1, .int a2, .int a3]) below meth c s.heap [] 0 0 (MQ below (Qi' g 0 81 r τ) (List.toArray [.ref (bs g 64), .int a1, .int a2, .int a3]) s 0 0 (Ag g 0)) _
  generalize hQ : MQ below (Qi' g 0 81 r τ) (List.toArray [.ref (bs g 64), .int a1, .int a2, .int a3]) s 0 0 (Ag g 0) = Q
  have hS : va_S (Ag g 0) s.heap s.heap [] := va_S.rf
  have hl := lv_entry ([.ref (bs g 64), .int a1, .int a2, .int a3]) (n := 6) (Nat.le_of_ble_eq_true rfl)
  rw [lg_entry_eq]
  generalize (lg_sl ([.ref (bs g 64), .int a1, .int a2, .int a3]) ++ List.replicate (6 - (lg_sl ([.ref (bs g 64), .int a1, .int a2, .int a3])).length) Slot.unset).toArray = ls at hl ⊢
  have hl : lv_has ls 6 [(0, .ref (bs g 64)), (1, .int a1), (2, .int a2), (3, .int a3)] := hl
  delta f_X13_lost at hf
  obtain ⟨H, hH⟩ : ∃ H, H = s.heap := ⟨_, rfl⟩
  obtain ⟨locs, hLc⟩ : ∃ z : List Loc, z = [] := ⟨_, rfl⟩
  have hS : va_S (Ag g 0) s.heap H locs := by rw [hH, hLc]; exact hS
  have hW : Wd g 0 81 σ H := by rw [hH]; exact hW
  suffices hG : W p l e (kr 6 140) s m (List.toArray [.ref (bs g 64), .int a1, .int a2, .int a3]) below meth c H locs 0 0 Q (F0 m 0 ls []) by rw [hH, hLc] at hG; exact hG
  clear hH hLc
  refine lv_aload_n hx hb dX13_lost_0 rfl (lv_at hl 0 rfl) ?_
  refine mcv hf hS (fun τ h => va_runV (As := []) (rest := []) ⟨hx, hb, hml, hown, hts⟩ (c_X13_good g l σ τ h) (cl_X13_166 hts ⟨Nat.le_of_ble_eq_true rfl, Nat.le_of_ble_eq_true rfl⟩) (mpV_13 hZ hT hS hW tz_64 _) rfl rfl hl.1 rfl (lv_room (Nat.le_of_ble_eq_true rfl)) dX13_lost_1 ⟨Nat.zero_le _, Nat.zero_le _⟩) (fun σ_1 H locs hf hW hS => ?_)
  refine lv_aload_n hx hb dX13_lost_4 rfl (lv_at hl 0 rfl) ?_
  refine lv_iload_n hx hb dX13_lost_5 rfl (lv_at hl 1 rfl) ?_
  refine mcip hf hS (fun r h => va_runV (As := [.int a1]) (rest := []) ⟨hx, hb, hml, hown, hts⟩ (c_X13_isPerson g l σ_1 a1 r h) (cl_X13_275 hts ⟨Nat.le_of_ble_eq_true rfl, Nat.le_of_ble_eq_true rfl⟩) (mpV_13 hZ hT hS hW tz_64 _) rfl rfl hl.1 rfl (lv_room (Nat.le_of_ble_eq_true rfl)) dX13_lost_6 ⟨Nat.zero_le _, Nat.zero_le _⟩) (fun r_2 H locs hf hW hS => ?_)
  refine lv_if_ne (tgt := 18) hx hb dX13_lost_9 (by decide) (fun hc => ?_) (fun hc => ?_)
  · have hf := iff_ hc hf
    refine lv_iload_n hx hb dX13_lost_18 rfl (lv_at hl 2 rfl) ?_
    refine lv_iconst (v := 0) hx hb dX13_lost_19 (by decide) ?_
    refine lv_ldcw (v := 65536) hx hb hown (htg _ lk_X13_400) dX13_lost_20 ?_
    refine mcip hf hS (fun r h => va_runS (As := [.int a2, .int 0, .int 65536]) (rest := []) ⟨hx, hb, hml, hown, hts⟩ (c_X13_in g l 0 81 σ_1 a2 0 65536 r h) (cl_X13_151 hts ⟨Nat.le_of_ble_eq_true rfl, Nat.le_of_ble_eq_true rfl⟩) (mpS hZ hT hS hW _) rfl rfl hl.1 rfl (lv_room (Nat.le_of_ble_eq_true rfl)) dX13_lost_23 ⟨Nat.zero_le _, Nat.zero_le _⟩) (fun r_3 H locs hf hW hS => ?_)
    refine jn0_W (∀ (H : Heap) (locs : List Loc) (ls : Array Slot), Wd g 0 81 σ_1 H → va_S (Ag g 0) s.heap H locs → lv_has ls 6 [(0, .ref (bs g 64))] → W p l e (kr 6 140) s m (List.toArray [.ref (bs g 64), .int a1, .int a2, .int a3]) below meth c H locs 0 0 Q (F0 m 39 ls [])) hf (fun  hf => ?_) (fun k_4 hk_4 hf => ?_)
    · intro H locs ls hW hS hl
      refine lv_aload_n hx hb dX13_lost_39 rfl (lv_at hl 0 rfl) ?_
      refine lv_iconst (v := 2) hx hb dX13_lost_40 (by decide) ?_
      refine mci hf hS (fun r τ h => va_runV (As := [.int 2]) (rest := []) ⟨hx, hb, hml, hown, hts⟩ (c_X13_no g l σ_1 2 r τ h) (cl_X13_169 hts ⟨Nat.le_of_ble_eq_true rfl, Nat.le_of_ble_eq_true rfl⟩) (mpV_13 hZ hT hS hW tz_64 _) rfl rfl hl.1 rfl (lv_room (Nat.le_of_ble_eq_true rfl)) dX13_lost_41 ⟨Nat.zero_le _, Nat.zero_le _⟩) (fun r_5 σ_6 H locs hf hW hS => ?_)
      subst hQ
      exact mri hx hb hr hlocks hZ hT hS hW (pr1 hf) dX13_lost_44
    · refine lv_if_eq (tgt := 39) hx hb dX13_lost_26 (by decide) (fun hc => ?_) (fun hc => ?_)
      · have hf := ift hc hf
        exact hk_4  hf H locs ls hW hS (lv_sub hl [0] rfl)
      · have hf := iff_ hc hf
        refine lv_iload_n hx hb dX13_lost_29 rfl (lv_at hl 3 rfl) ?_
        refine lv_iconst (v := 1) hx hb dX13_lost_30 (by decide) ?_
        refine lv_bipush (v := 20) hx hb dX13_lost_31 (by decide) ?_
        refine mcip hf hS (fun r h => va_runS (As := [.int a3, .int 1, .int 20]) (rest := []) ⟨hx, hb, hml, hown, hts⟩ (c_X13_in g l 0 81 σ_1 a3 1 20 r h) (cl_X13_151 hts ⟨Nat.le_of_ble_eq_true rfl, Nat.le_of_ble_eq_true rfl⟩) (mpS hZ hT hS hW _) rfl rfl hl.1 rfl (lv_room (Nat.le_of_ble_eq_true rfl)) dX13_lost_33 ⟨Nat.zero_le _, Nat.zero_le _⟩) (fun r_7 H locs hf hW hS => ?_)
        refine lv_if_ne (tgt := 45) hx hb dX13_lost_36 (by decide) (fun hc => ?_) (fun hc => ?_)
        · have hf := iff_ hc hf
          refine lv_aload_n hx hb dX13_lost_45 rfl (lv_at hl 0 rfl) ?_
          refine lv_iload_n hx hb dX13_lost_46 rfl (lv_at hl 2 rfl) ?_
          refine pf_13_32 hx hb htg (htg _ lf_X13_393) hown hZ hW hS tz_64 dX13_lost_47 hf (fun σ_8 H locs hf hW hS => ?_)
          refine lv_iconst (v := 0) hx hb dX13_lost_50 (by decide) ?_
          refine lv_istore (lv' := [(4, .int 0), (0, .ref (bs g 64)), (1, .int a1), (2, .int a2), (3, .int a3)]) hx hb dX13_lost_51 hl (by decide) rfl (fun ls hl => ?_)
          refine lv_iconst (v := 0) hx hb dX13_lost_53 (by decide) ?_
          refine lv_istore (lv' := [(5, .int 0), (4, .int 0), (0, .ref (bs g 64)), (1, .int a1), (2, .int a2), (3, .int a3)]) hx hb dX13_lost_54 hl (by decide) rfl (fun ls hl => ?_)
          refine fx3_W (fun (i_9 : Int32) (i_10 : Int32) (σ_11 : Mem) => ∀ (H : Heap) (locs : List Loc) (ls : Array Slot), Wd g 0 81 σ_11 H → va_S (Ag g 0) s.heap H locs → lv_has ls 6 [(0, .ref (bs g 64)), (1, .int a1), (3, .int a3), (4, .int i_9), (5, .int i_10)] → W p l e (kr 6 140) s m (List.toArray [.ref (bs g 64), .int a1, .int a2, .int a3]) below meth c H locs 0 0 Q (F0 m 56 ls [])) (fun k_12 hk_12 i_9 i_10 σ_11 hf => ?_) FU 0 0 σ_8 hf H locs ls hW hS (lv_sub hl [2, 3, 5, 1, 0] rfl)
          intro H locs ls hW hS hl
          refine lv_iload hx hb dX13_lost_56 (lv_at hl 4 rfl) ?_
          refine lv_iload_n hx hb dX13_lost_58 rfl (lv_at hl 2 rfl) ?_
          refine lv_icmp_ge (tgt := 78) hx hb dX13_lost_59 (by decide) (fun hc => ?_) (fun hc => ?_)
          · have hf := ift hc hf
            refine lv_iload hx hb dX13_lost_78 (lv_at hl 3 rfl) ?_
            subst hQ
            exact mri hx hb hr hlocks hZ hT hS hW (pr1 hf) dX13_lost_80
          · have hf := iff_ hc hf
            refine lv_iload hx hb dX13_lost_62 (lv_at hl 3 rfl) ?_
            refine lv_aload_n hx hb dX13_lost_64 rfl (lv_at hl 0 rfl) ?_
            refine lv_iload_n hx hb dX13_lost_65 rfl (lv_at hl 1 rfl) ?_
            refine mci hf hS (fun r τ h => va_runV (As := [.int a1]) (rest := [.int i_9]) ⟨hx, hb, hml, hown, hts⟩ (c_X13_lostIn g l σ_11 a1 r τ h) (cl_X13_401 hts ⟨Nat.le_of_ble_eq_true rfl, Nat.le_of_ble_eq_true rfl⟩) (mpV_13 hZ hT hS hW tz_64 _) rfl rfl hl.1 rfl (lv_room (Nat.le_of_ble_eq_true rfl)) dX13_lost_66 ⟨Nat.zero_le _, Nat.zero_le _⟩) (fun r_13 σ_14 H locs hf hW hS => ?_)
            refine lv_iadd hx hb dX13_lost_69 ?_
            refine mnmi hf (fun (x_15 : Int32) hf => ?_)
            refine lv_istore (lv' := [(4, .int x_15), (0, .ref (bs g 64)), (1, .int a1), (3, .int a3), (5, .int i_10)]) hx hb dX13_lost_70 hl (by decide) rfl (fun ls hl => ?_)
            obtain ⟨x_16, e_17, hf⟩ := nm_s hf
            refine lv_iinc (v := x_16) (lv' := [(5, .int x_16), (4, .int x_15), (0, .ref (bs g 64)), (1, .int a1), (3, .int a3)]) hx hb dX13_lost_72 hl (k := 4) rfl (by rw [e_17]; rfl) (by decide) rfl (fun ls hl => ?_)
            refine lv_goto (tgt := 56) hx hb dX13_lost_75 (by decide) ?_
            exact hk_12 x_15 x_16 σ_14 hf H locs ls hW hS (lv_sub hl [2, 3, 4, 1, 0] rfl)
        · have hf := ift hc hf
          exact hk_4  hf H locs ls hW hS (lv_sub hl [0] rfl)
  · have hf := ift hc hf
    refine lv_aload_n hx hb dX13_lost_12 rfl (lv_at hl 0 rfl) ?_
    refine lv_iconst (v := 1) hx hb dX13_lost_13 (by decide) ?_
    refine mci hf hS (fun r τ h => va_runV (As := [.int 1]) (rest := []) ⟨hx, hb, hml, hown, hts⟩ (c_X13_no g l σ_1 1 r τ h) (cl_X13_169 hts ⟨Nat.le_of_ble_eq_true rfl, Nat.le_of_ble_eq_true rfl⟩) (mpV_13 hZ hT hS hW tz_64 _) rfl rfl hl.1 rfl (lv_room (Nat.le_of_ble_eq_true rfl)) dX13_lost_14 ⟨Nat.zero_le _, Nat.zero_le _⟩) (fun r_18 σ_19 H locs hf hW hS => ?_)
    subst hQ
    exact mri hx hb hr hlocks hZ hT hS hW (pr1 hf) dX13_lost_17
def f_X13_note (σ : Mem)  : Option (Mem) :=
  jn1 (fun (σ_1 : Mem) => bd1 (f_X13_copy σ_1 69 0 70 (80 * (σ_1.1 64 20)) 80) (fun (σ_3 : Mem) => nm (sI σ_3 64 20 ((σ_3.1 64 20) + 1)) (fun (σ_4 : Mem) => some σ_4))) (fun k_2 => (if (σ.1 64 20) = 16 then fx2 FU (fun k_7 (i_5 : Int32) (σ_6 : Mem) => (if 1200 ≤ i_5 then nm (sI σ_6 64 20 ((σ_6.1 64 20) - 1)) (fun (σ_8 : Mem) => k_2 σ_8) else ixd (i_5 + 80) (aln 70) (ixd i_5 (aln 70) (nm (sI σ_6 70 i_5.toNatClampNeg (σ_6.1 70 (i_5 + 80).toNatClampNeg)) (fun (σ_9 : Mem) => nm (i_5 + 1) (fun (x_10 : Int32) => k_7 x_10 σ_9)))))) 0 σ else k_2 σ))
set_option maxHeartbeats 4000000 in
set_option maxRecDepth 100000 in
theorem c_X13_note (g : XG) (l : Launch) (σ : Mem) (τ : Mem) (hf : f_X13_note σ = some τ) : Met l yX13_note (wx (.code yX13_note cX13_note 2 none)) (kr 1 25) (va_Pc [.ref (bs g 64)] (WS g 0 81 σ)) (Qv' g 0 81 τ) 0 0 (Ag g 0) := by
  refine Met.ofW (cc := cX13_note) (maxL := 2) (ret := none) (by decide) rfl ?_
  intro p e s m args below meth c s₁ B hml hv
  obtain ⟨rfl, hZ, hT, hW⟩ := hv
  have hx := B.exec
  have hb := B.bytes
  have hr := B.returns
  have hts : ∀ w ∈ wx (.code yX13_note cX13_note 2 none), w.before _ s = true := atoms_spec B.pre
  have htg : ∀ w ∈ lwg, w.before _ s = true := fun w h => hts w (List.mem_cons_of_mem _ h)
  have hown : s.vm.findClass RX13 = some m.cls := findClass_of_methodNamed B.named
  have hlocks := B.notSynchronized
  change W p l e (kr 1 25) s m (List.toArray [.ref (bs g 64)]) below meth c s.heap [] 0 0 (MQ below (Qv' g 0 81 τ) (List.toArray [.ref (bs g 64)]) s 0 0 (Ag g 0)) _
  generalize hQ : MQ below (Qv' g 0 81 τ) (List.toArray [.ref (bs g 64)]) s 0 0 (Ag g 0) = Q
  have hS : va_S (Ag g 0) s.heap s.heap [] := va_S.rf
  have hl := lv_entry ([.ref (bs g 64)]) (n := 2) (Nat.le_of_ble_eq_true rfl)
  rw [lg_entry_eq]
  generalize (lg_sl ([.ref (bs g 64)]) ++ List.replicate (2 - (lg_sl ([.ref (bs g 64)])).length) Slot.unset).toArray = ls at hl ⊢
  have hl : lv_has ls 2 [(0, .ref (bs g 64))] := hl
  delta f_X13_note at hf
  obtain ⟨H, hH⟩ : ∃ H, H = s.heap := ⟨_, rfl⟩
  obtain ⟨locs, hLc⟩ : ∃ z : List Loc, z = [] := ⟨_, rfl⟩
  have hS : va_S (Ag g 0) s.heap H locs := by rw [hH, hLc]; exact hS
  have hW : Wd g 0 81 σ H := by rw [hH]; exact hW
  suffices hG : W p l e (kr 1 25) s m (List.toArray [.ref (bs g 64)]) below meth c H locs 0 0 Q (F0 m 0 ls []) by rw [hH, hLc] at hG; exact hG
  clear hH hLc
  refine lv_aload_n hx hb dX13_note_0 rfl (lv_at hl 0 rfl) ?_
  refine gf_13_20 hx hb htg (htg _ lf_X13_182) hown hZ hW tz_64 dX13_note_1 ?_
  refine lv_bipush (v := 16) hx hb dX13_note_4 (by decide) ?_
  refine jn1_W (fun (σ_1 : Mem) => ∀ (H : Heap) (locs : List Loc) (ls : Array Slot), Wd g 0 81 σ_1 H → va_S (Ag g 0) s.heap H locs → lv_has ls 2 [(0, .ref (bs g 64))] → W p l e (kr 1 25) s m (List.toArray [.ref (bs g 64)]) below meth c H locs 0 0 Q (F0 m 49 ls [])) hf (fun σ_1 hf => ?_) (fun k_2 hk_2 hf => ?_)
  · intro H locs ls hW hS hl
    refine lv_aload_n hx hb dX13_note_49 rfl (lv_at hl 0 rfl) ?_
    refine gf_13_17 hx hb htg (htg _ lf_X13_26) hown hZ hW tz_64 dX13_note_50 ?_
    refine lv_iconst (v := 0) hx hb dX13_note_53 (by decide) ?_
    refine lv_aload_n hx hb dX13_note_54 rfl (lv_at hl 0 rfl) ?_
    refine gf_13_18 hx hb htg (htg _ lf_X13_29) hown hZ hW tz_64 dX13_note_55 ?_
    refine lv_bipush (v := 80) hx hb dX13_note_58 (by decide) ?_
    refine lv_aload_n hx hb dX13_note_60 rfl (lv_at hl 0 rfl) ?_
    refine gf_13_20 hx hb htg (htg _ lf_X13_182) hown hZ hW tz_64 dX13_note_61 ?_
    refine lv_imul hx hb dX13_note_64 ?_
    refine lv_bipush (v := 80) hx hb dX13_note_65 (by decide) ?_
    refine mcv hf hS (fun τ h => va_runS (As := [.ref (bs g 69), .int 0, .ref (bs g 70), .int (80 * (σ_1.1 64 20)), .int 80]) (rest := []) ⟨hx, hb, hml, hown, hts⟩ (c_X13_copy g l 0 81 σ_1 69 0 70 (80 * (σ_1.1 64 20)) 80 tz_69 tz_70 τ h) (cl_X13_175 hts ⟨Nat.le_of_ble_eq_true rfl, Nat.le_of_ble_eq_true rfl⟩) (mpS hZ hT hS hW _) rfl rfl hl.1 rfl (lv_room (Nat.le_of_ble_eq_true rfl)) dX13_note_67 ⟨Nat.zero_le _, Nat.zero_le _⟩) (fun σ_3 H locs hf hW hS => ?_)
    refine lv_aload_n hx hb dX13_note_70 rfl (lv_at hl 0 rfl) ?_
    refine lv_dup hx hb dX13_note_71 rfl ?_
    refine gf_13_20 hx hb htg (htg _ lf_X13_182) hown hZ hW tz_64 dX13_note_72 ?_
    refine lv_iconst (v := 1) hx hb dX13_note_75 (by decide) ?_
    refine lv_iadd hx hb dX13_note_76 ?_
    refine pf_13_20 hx hb htg (htg _ lf_X13_182) hown hZ hW hS tz_64 dX13_note_77 hf (fun σ_4 H locs hf hW hS => ?_)
    subst hQ
    exact mrv hx hb hr hlocks hZ hT hS hW (Option.some.inj hf) dX13_note_80
  · refine lv_icmp_ne (tgt := 49) hx hb dX13_note_6 (by decide) (fun hc => ?_) (fun hc => ?_)
    · have hf := iff_ hc hf
      exact hk_2 σ hf H locs ls hW hS (lv_sub hl [0] rfl)
    · have hf := ift hc hf
      refine lv_iconst (v := 0) hx hb dX13_note_9 (by decide) ?_
      refine lv_istore_n (lv' := [(1, .int 0), (0, .ref (bs g 64))]) hx hb dX13_note_10 rfl hl (by decide) rfl (fun ls hl => ?_)
      refine fx2_W (fun (i_5 : Int32) (σ_6 : Mem) => ∀ (H : Heap) (locs : List Loc) (ls : Array Slot), Wd g 0 81 σ_6 H → va_S (Ag g 0) s.heap H locs → lv_has ls 2 [(0, .ref (bs g 64)), (1, .int i_5)] → W p l e (kr 1 25) s m (List.toArray [.ref (bs g 64)]) below meth c H locs 0 0 Q (F0 m 11 ls [])) (fun k_7 hk_7 i_5 σ_6 hf => ?_) FU 0 σ hf H locs ls hW hS (lv_sub hl [1, 0] rfl)
      intro H locs ls hW hS hl
      refine lv_iload_n hx hb dX13_note_11 rfl (lv_at hl 1 rfl) ?_
      refine lv_sipush (v := 1200) hx hb dX13_note_12 (by decide) ?_
      refine lv_icmp_ge (tgt := 39) hx hb dX13_note_15 (by decide) (fun hc => ?_) (fun hc => ?_)
      · have hf := ift hc hf
        refine lv_aload_n hx hb dX13_note_39 rfl (lv_at hl 0 rfl) ?_
        refine lv_dup hx hb dX13_note_40 rfl ?_
        refine gf_13_20 hx hb htg (htg _ lf_X13_182) hown hZ hW tz_64 dX13_note_41 ?_
        refine lv_iconst (v := 1) hx hb dX13_note_44 (by decide) ?_
        refine lv_isub hx hb dX13_note_45 ?_
        refine pf_13_20 hx hb htg (htg _ lf_X13_182) hown hZ hW hS tz_64 dX13_note_46 hf (fun σ_8 H locs hf hW hS => ?_)
        exact hk_2 σ_8 hf H locs ls hW hS (lv_sub hl [0] rfl)
      · have hf := iff_ hc hf
        refine lv_aload_n hx hb dX13_note_18 rfl (lv_at hl 0 rfl) ?_
        refine gf_13_18 hx hb htg (htg _ lf_X13_29) hown hZ hW tz_64 dX13_note_19 ?_
        refine lv_iload_n hx hb dX13_note_22 rfl (lv_at hl 1 rfl) ?_
        refine lv_aload_n hx hb dX13_note_23 rfl (lv_at hl 0 rfl) ?_
        refine gf_13_18 hx hb htg (htg _ lf_X13_29) hown hZ hW tz_64 dX13_note_24 ?_
        refine lv_iload_n hx hb dX13_note_27 rfl (lv_at hl 1 rfl) ?_
        refine lv_bipush (v := 80) hx hb dX13_note_28 (by decide) ?_
        refine lv_iadd hx hb dX13_note_30 ?_
        refine mld_i hx hb hZ hW tz_70 hf dX13_note_31 (fun hf => ?_)
        refine mst_i hx hb hZ hW hS tz_70 hf dX13_note_32 (fun σ_9 H locs hf hW hS => ?_)
        obtain ⟨x_10, e_11, hf⟩ := nm_s hf
        refine lv_iinc (v := x_10) (lv' := [(1, .int x_10), (0, .ref (bs g 64))]) hx hb dX13_note_33 hl (k := 1) rfl (by rw [e_11]; rfl) (by decide) rfl (fun ls hl => ?_)
        refine lv_goto (tgt := 11) hx hb dX13_note_36 (by decide) ?_
        exact hk_7 x_10 σ_9 hf H locs ls hW hS (lv_sub hl [1, 0] rfl)
def f_X13_book (σ : Mem) (a1 : Int32) (a2 : Int32) : Option (Int32 × Mem) :=
  bd1 (f_X13_good σ) (fun (σ_1 : Mem) => bd1 (f_X13_isPerson σ_1 a1) (fun (r_2 : Int32) => (if r_2 = 0 then bd2 (f_X13_isNot σ_1 1) (fun (r_11 : Int32) (σ_12 : Mem) => zrm r_11 σ_12) else bd1 (f_X13_isDay a2) (fun (r_3 : Int32) => (if r_3 = 0 then bd2 (f_X13_isNot σ_1 2) (fun (r_9 : Int32) (σ_10 : Mem) => zrm r_9 σ_10) else bd1 (f_X13_isOpen σ_1 a2) (fun (r_4 : Int32) => (if r_4 = 0 then bd2 (f_X13_isNot σ_1 5) (fun (r_7 : Int32) (σ_8 : Mem) => zrm r_7 σ_8) else bd1 (f_X13_note σ_1) (fun (σ_5 : Mem) => ixd a2 (aln 69) (nm (sI σ_5 69 a2.toNatClampNeg (a1 + 1)) (fun (σ_6 : Mem) => some (1, σ_6)))))))))))
set_option maxHeartbeats 4000000 in
set_option maxRecDepth 100000 in
theorem c_X13_book (g : XG) (l : Launch) (σ : Mem) (a1 : Int32) (a2 : Int32) (r : Int32) (τ : Mem) (hf : f_X13_book σ a1 a2 = some (r, τ)) : Met l yX13_book (wx (.code yX13_book cX13_book 3 (some .boolean))) (kr 2 46) (va_Pc [.ref (bs g 64), .int a1, .int a2] (WS g 0 81 σ)) (Qi' g 0 81 r τ) 0 0 (Ag g 0) := by
  refine Met.ofW (cc := cX13_book) (maxL := 3) (ret := (some .boolean)) (by decide) rfl ?_
  intro p e s m args below meth c s₁ B hml hv
  obtain ⟨rfl, hZ, hT, hW⟩ := hv
  have hx := B.exec
  have hb := B.bytes
  have hr := B.returns
  have hts : ∀ w ∈ wx (.code yX13_book cX13_book 3 (some .boolean)), w.before _ s = true := atoms_spec B.pre
  have htg : ∀ w ∈ lwg, w.before _ s = true := fun w h => hts w (List.mem_cons_of_mem _ h)
  have hown : s.vm.findClass RX13 = some m.cls := findClass_of_methodNamed B.named
  have hlocks := B.notSynchronized
  change W p l e (kr 2 46) s m (List.toArray [.ref (bs g 64), .int a1, .int a2]) below meth c s.heap [] 0 0 (MQ below (Qi' g 0 81 r τ) (List.toArray [.ref (bs g 64), .int a1, .int a2]) s 0 0 (Ag g 0)) _
  generalize hQ : MQ below (Qi' g 0 81 r τ) (List.toArray [.ref (bs g 64), .int a1, .int a2]) s 0 0 (Ag g 0) = Q
  have hS : va_S (Ag g 0) s.heap s.heap [] := va_S.rf
  have hl := lv_entry ([.ref (bs g 64), .int a1, .int a2]) (n := 3) (Nat.le_of_ble_eq_true rfl)
  rw [lg_entry_eq]
  generalize (lg_sl ([.ref (bs g 64), .int a1, .int a2]) ++ List.replicate (3 - (lg_sl ([.ref (bs g 64), .int a1, .int a2])).length) Slot.unset).toArray = ls at hl ⊢
  have hl : lv_has ls 3 [(0, .ref (bs g 64)), (1, .int a1), (2, .int a2)] := hl
  delta f_X13_book at hf
  obtain ⟨H, hH⟩ : ∃ H, H = s.heap := ⟨_, rfl⟩
  obtain ⟨locs, hLc⟩ : ∃ z : List Loc, z = [] := ⟨_, rfl⟩
  have hS : va_S (Ag g 0) s.heap H locs := by rw [hH, hLc]; exact hS
  have hW : Wd g 0 81 σ H := by rw [hH]; exact hW
  suffices hG : W p l e (kr 2 46) s m (List.toArray [.ref (bs g 64), .int a1, .int a2]) below meth c H locs 0 0 Q (F0 m 0 ls []) by rw [hH, hLc] at hG; exact hG
  clear hH hLc
  refine lv_aload_n hx hb dX13_book_0 rfl (lv_at hl 0 rfl) ?_
  refine mcv hf hS (fun τ h => va_runV (As := []) (rest := []) ⟨hx, hb, hml, hown, hts⟩ (c_X13_good g l σ τ h) (cl_X13_166 hts ⟨Nat.le_of_ble_eq_true rfl, Nat.le_of_ble_eq_true rfl⟩) (mpV_13 hZ hT hS hW tz_64 _) rfl rfl hl.1 rfl (lv_room (Nat.le_of_ble_eq_true rfl)) dX13_book_1 ⟨Nat.zero_le _, Nat.zero_le _⟩) (fun σ_1 H locs hf hW hS => ?_)
  refine lv_aload_n hx hb dX13_book_4 rfl (lv_at hl 0 rfl) ?_
  refine lv_iload_n hx hb dX13_book_5 rfl (lv_at hl 1 rfl) ?_
  refine mcip hf hS (fun r h => va_runV (As := [.int a1]) (rest := []) ⟨hx, hb, hml, hown, hts⟩ (c_X13_isPerson g l σ_1 a1 r h) (cl_X13_275 hts ⟨Nat.le_of_ble_eq_true rfl, Nat.le_of_ble_eq_true rfl⟩) (mpV_13 hZ hT hS hW tz_64 _) rfl rfl hl.1 rfl (lv_room (Nat.le_of_ble_eq_true rfl)) dX13_book_6 ⟨Nat.zero_le _, Nat.zero_le _⟩) (fun r_2 H locs hf hW hS => ?_)
  refine lv_if_ne (tgt := 18) hx hb dX13_book_9 (by decide) (fun hc => ?_) (fun hc => ?_)
  · have hf := iff_ hc hf
    refine lv_iload_n hx hb dX13_book_18 rfl (lv_at hl 2 rfl) ?_
    refine mcip hf hS (fun r h => va_runS (As := [.int a2]) (rest := []) ⟨hx, hb, hml, hown, hts⟩ (c_X13_isDay g l 0 81 σ_1 a2 r h) (cl_X13_272 hts ⟨Nat.le_of_ble_eq_true rfl, Nat.le_of_ble_eq_true rfl⟩) (mpS hZ hT hS hW _) rfl rfl hl.1 rfl (lv_room (Nat.le_of_ble_eq_true rfl)) dX13_book_19 ⟨Nat.zero_le _, Nat.zero_le _⟩) (fun r_3 H locs hf hW hS => ?_)
    refine lv_if_ne (tgt := 31) hx hb dX13_book_22 (by decide) (fun hc => ?_) (fun hc => ?_)
    · have hf := iff_ hc hf
      refine lv_aload_n hx hb dX13_book_31 rfl (lv_at hl 0 rfl) ?_
      refine lv_iload_n hx hb dX13_book_32 rfl (lv_at hl 2 rfl) ?_
      refine mcip hf hS (fun r h => va_runV (As := [.int a2]) (rest := []) ⟨hx, hb, hml, hown, hts⟩ (c_X13_isOpen g l σ_1 a2 r h) (cl_X13_316 hts ⟨Nat.le_of_ble_eq_true rfl, Nat.le_of_ble_eq_true rfl⟩) (mpV_13 hZ hT hS hW tz_64 _) rfl rfl hl.1 rfl (lv_room (Nat.le_of_ble_eq_true rfl)) dX13_book_33 ⟨Nat.zero_le _, Nat.zero_le _⟩) (fun r_4 H locs hf hW hS => ?_)
      refine lv_if_ne (tgt := 45) hx hb dX13_book_36 (by decide) (fun hc => ?_) (fun hc => ?_)
      · have hf := iff_ hc hf
        refine lv_aload_n hx hb dX13_book_45 rfl (lv_at hl 0 rfl) ?_
        refine mcv hf hS (fun τ h => va_runV (As := []) (rest := []) ⟨hx, hb, hml, hown, hts⟩ (c_X13_note g l σ_1 τ h) (cl_X13_407 hts ⟨Nat.le_of_ble_eq_true rfl, Nat.le_of_ble_eq_true rfl⟩) (mpV_13 hZ hT hS hW tz_64 _) rfl rfl hl.1 rfl (lv_room (Nat.le_of_ble_eq_true rfl)) dX13_book_46 ⟨Nat.zero_le _, Nat.zero_le _⟩) (fun σ_5 H locs hf hW hS => ?_)
        refine lv_aload_n hx hb dX13_book_49 rfl (lv_at hl 0 rfl) ?_
        refine gf_13_17 hx hb htg (htg _ lf_X13_26) hown hZ hW tz_64 dX13_book_50 ?_
        refine lv_iload_n hx hb dX13_book_53 rfl (lv_at hl 2 rfl) ?_
        refine lv_iload_n hx hb dX13_book_54 rfl (lv_at hl 1 rfl) ?_
        refine lv_iconst (v := 1) hx hb dX13_book_55 (by decide) ?_
        refine lv_iadd hx hb dX13_book_56 ?_
        refine mst_i hx hb hZ hW hS tz_69 hf dX13_book_57 (fun σ_6 H locs hf hW hS => ?_)
        refine lv_iconst (v := 1) hx hb dX13_book_58 (by decide) ?_
        subst hQ
        exact mrz hx hb hr hlocks hZ hT hS hW (by decide) (pr1 hf) dX13_book_59
      · have hf := ift hc hf
        refine lv_aload_n hx hb dX13_book_39 rfl (lv_at hl 0 rfl) ?_
        refine lv_iconst (v := 5) hx hb dX13_book_40 (by decide) ?_
        refine mci hf hS (fun r τ h => va_runV (As := [.int 5]) (rest := []) ⟨hx, hb, hml, hown, hts⟩ (c_X13_isNot g l σ_1 5 r τ h) (cl_X13_404 hts ⟨Nat.le_of_ble_eq_true rfl, Nat.le_of_ble_eq_true rfl⟩) (mpV_13 hZ hT hS hW tz_64 _) rfl rfl hl.1 rfl (lv_room (Nat.le_of_ble_eq_true rfl)) dX13_book_41 ⟨Nat.zero_le _, Nat.zero_le _⟩) (fun r_7 σ_8 H locs hf hW hS => ?_)
        subst hQ
        exact mrz hx hb hr hlocks hZ hT hS hW (zrm_s hf).1 (zrm_s hf).2 dX13_book_44
    · have hf := ift hc hf
      refine lv_aload_n hx hb dX13_book_25 rfl (lv_at hl 0 rfl) ?_
      refine lv_iconst (v := 2) hx hb dX13_book_26 (by decide) ?_
      refine mci hf hS (fun r τ h => va_runV (As := [.int 2]) (rest := []) ⟨hx, hb, hml, hown, hts⟩ (c_X13_isNot g l σ_1 2 r τ h) (cl_X13_404 hts ⟨Nat.le_of_ble_eq_true rfl, Nat.le_of_ble_eq_true rfl⟩) (mpV_13 hZ hT hS hW tz_64 _) rfl rfl hl.1 rfl (lv_room (Nat.le_of_ble_eq_true rfl)) dX13_book_27 ⟨Nat.zero_le _, Nat.zero_le _⟩) (fun r_9 σ_10 H locs hf hW hS => ?_)
      subst hQ
      exact mrz hx hb hr hlocks hZ hT hS hW (zrm_s hf).1 (zrm_s hf).2 dX13_book_30
  · have hf := ift hc hf
    refine lv_aload_n hx hb dX13_book_12 rfl (lv_at hl 0 rfl) ?_
    refine lv_iconst (v := 1) hx hb dX13_book_13 (by decide) ?_
    refine mci hf hS (fun r τ h => va_runV (As := [.int 1]) (rest := []) ⟨hx, hb, hml, hown, hts⟩ (c_X13_isNot g l σ_1 1 r τ h) (cl_X13_404 hts ⟨Nat.le_of_ble_eq_true rfl, Nat.le_of_ble_eq_true rfl⟩) (mpV_13 hZ hT hS hW tz_64 _) rfl rfl hl.1 rfl (lv_room (Nat.le_of_ble_eq_true rfl)) dX13_book_14 ⟨Nat.zero_le _, Nat.zero_le _⟩) (fun r_11 σ_12 H locs hf hW hS => ?_)
    subst hQ
    exact mrz hx hb hr hlocks hZ hT hS hW (zrm_s hf).1 (zrm_s hf).2 dX13_book_17
def f_X13_callOff (σ : Mem) (a1 : Int32) : Option (Int32 × Mem) :=
  bd1 (f_X13_good σ) (fun (σ_1 : Mem) => (if (σ_1.1 64 14) = 0 then bd2 (f_X13_isNot σ_1 1) (fun (r_10 : Int32) (σ_11 : Mem) => zrm r_10 σ_11) else bd1 (f_X13_isDay a1) (fun (r_2 : Int32) => (if r_2 = 0 then bd2 (f_X13_isNot σ_1 2) (fun (r_8 : Int32) (σ_9 : Mem) => zrm r_8 σ_9) else bd1 (f_X13_isVisit σ_1 a1) (fun (r_3 : Int32) => (if r_3 = 0 then bd2 (f_X13_isNot σ_1 5) (fun (r_6 : Int32) (σ_7 : Mem) => zrm r_6 σ_7) else bd1 (f_X13_note σ_1) (fun (σ_4 : Mem) => ixd a1 (aln 69) (nm (sI σ_4 69 a1.toNatClampNeg 0) (fun (σ_5 : Mem) => some (1, σ_5))))))))))
set_option maxHeartbeats 4000000 in
set_option maxRecDepth 100000 in
theorem c_X13_callOff (g : XG) (l : Launch) (σ : Mem) (a1 : Int32) (r : Int32) (τ : Mem) (hf : f_X13_callOff σ a1 = some (r, τ)) : Met l yX13_callOff (wx (.code yX13_callOff cX13_callOff 2 (some .boolean))) (kr 2 46) (va_Pc [.ref (bs g 64), .int a1] (WS g 0 81 σ)) (Qi' g 0 81 r τ) 0 0 (Ag g 0) := by
  refine Met.ofW (cc := cX13_callOff) (maxL := 2) (ret := (some .boolean)) (by decide) rfl ?_
  intro p e s m args below meth c s₁ B hml hv
  obtain ⟨rfl, hZ, hT, hW⟩ := hv
  have hx := B.exec
  have hb := B.bytes
  have hr := B.returns
  have hts : ∀ w ∈ wx (.code yX13_callOff cX13_callOff 2 (some .boolean)), w.before _ s = true := atoms_spec B.pre
  have htg : ∀ w ∈ lwg, w.before _ s = true := fun w h => hts w (List.mem_cons_of_mem _ h)
  have hown : s.vm.findClass RX13 = some m.cls := findClass_of_methodNamed B.named
  have hlocks := B.notSynchronized
  change W p l e (kr 2 46) s m (List.toArray [.ref (bs g 64), .int a1]) below meth c s.heap [] 0 0 (MQ below (Qi' g 0 81 r τ) (List.toArray [.ref (bs g 64), .int a1]) s 0 0 (Ag g 0)) _
  generalize hQ : MQ below (Qi' g 0 81 r τ) (List.toArray [.ref (bs g 64), .int a1]) s 0 0 (Ag g 0) = Q
  have hS : va_S (Ag g 0) s.heap s.heap [] := va_S.rf
  have hl := lv_entry ([.ref (bs g 64), .int a1]) (n := 2) (Nat.le_of_ble_eq_true rfl)
  rw [lg_entry_eq]
  generalize (lg_sl ([.ref (bs g 64), .int a1]) ++ List.replicate (2 - (lg_sl ([.ref (bs g 64), .int a1])).length) Slot.unset).toArray = ls at hl ⊢
  have hl : lv_has ls 2 [(0, .ref (bs g 64)), (1, .int a1)] := hl
  delta f_X13_callOff at hf
  obtain ⟨H, hH⟩ : ∃ H, H = s.heap := ⟨_, rfl⟩
  obtain ⟨locs, hLc⟩ : ∃ z : List Loc, z = [] := ⟨_, rfl⟩
  have hS : va_S (Ag g 0) s.heap H locs := by rw [hH, hLc]; exact hS
  have hW : Wd g 0 81 σ H := by rw [hH]; exact hW
  suffices hG : W p l e (kr 2 46) s m (List.toArray [.ref (bs g 64), .int a1]) below meth c H locs 0 0 Q (F0 m 0 ls []) by rw [hH, hLc] at hG; exact hG
  clear hH hLc
  refine lv_aload_n hx hb dX13_callOff_0 rfl (lv_at hl 0 rfl) ?_
  refine mcv hf hS (fun τ h => va_runV (As := []) (rest := []) ⟨hx, hb, hml, hown, hts⟩ (c_X13_good g l σ τ h) (cl_X13_166 hts ⟨Nat.le_of_ble_eq_true rfl, Nat.le_of_ble_eq_true rfl⟩) (mpV_13 hZ hT hS hW tz_64 _) rfl rfl hl.1 rfl (lv_room (Nat.le_of_ble_eq_true rfl)) dX13_callOff_1 ⟨Nat.zero_le _, Nat.zero_le _⟩) (fun σ_1 H locs hf hW hS => ?_)
  refine lv_aload_n hx hb dX13_callOff_4 rfl (lv_at hl 0 rfl) ?_
  refine gf_13_14 hx hb htg (htg _ lf_X13_179) hown hZ hW tz_64 dX13_callOff_5 ?_
  refine lv_if_ne (tgt := 17) hx hb dX13_callOff_8 (by decide) (fun hc => ?_) (fun hc => ?_)
  · have hf := iff_ hc hf
    refine lv_iload_n hx hb dX13_callOff_17 rfl (lv_at hl 1 rfl) ?_
    refine mcip hf hS (fun r h => va_runS (As := [.int a1]) (rest := []) ⟨hx, hb, hml, hown, hts⟩ (c_X13_isDay g l 0 81 σ_1 a1 r h) (cl_X13_272 hts ⟨Nat.le_of_ble_eq_true rfl, Nat.le_of_ble_eq_true rfl⟩) (mpS hZ hT hS hW _) rfl rfl hl.1 rfl (lv_room (Nat.le_of_ble_eq_true rfl)) dX13_callOff_18 ⟨Nat.zero_le _, Nat.zero_le _⟩) (fun r_2 H locs hf hW hS => ?_)
    refine lv_if_ne (tgt := 30) hx hb dX13_callOff_21 (by decide) (fun hc => ?_) (fun hc => ?_)
    · have hf := iff_ hc hf
      refine lv_aload_n hx hb dX13_callOff_30 rfl (lv_at hl 0 rfl) ?_
      refine lv_iload_n hx hb dX13_callOff_31 rfl (lv_at hl 1 rfl) ?_
      refine mcip hf hS (fun r h => va_runV (As := [.int a1]) (rest := []) ⟨hx, hb, hml, hown, hts⟩ (c_X13_isVisit g l σ_1 a1 r h) (cl_X13_310 hts ⟨Nat.le_of_ble_eq_true rfl, Nat.le_of_ble_eq_true rfl⟩) (mpV_13 hZ hT hS hW tz_64 _) rfl rfl hl.1 rfl (lv_room (Nat.le_of_ble_eq_true rfl)) dX13_callOff_32 ⟨Nat.zero_le _, Nat.zero_le _⟩) (fun r_3 H locs hf hW hS => ?_)
      refine lv_if_ne (tgt := 44) hx hb dX13_callOff_35 (by decide) (fun hc => ?_) (fun hc => ?_)
      · have hf := iff_ hc hf
        refine lv_aload_n hx hb dX13_callOff_44 rfl (lv_at hl 0 rfl) ?_
        refine mcv hf hS (fun τ h => va_runV (As := []) (rest := []) ⟨hx, hb, hml, hown, hts⟩ (c_X13_note g l σ_1 τ h) (cl_X13_407 hts ⟨Nat.le_of_ble_eq_true rfl, Nat.le_of_ble_eq_true rfl⟩) (mpV_13 hZ hT hS hW tz_64 _) rfl rfl hl.1 rfl (lv_room (Nat.le_of_ble_eq_true rfl)) dX13_callOff_45 ⟨Nat.zero_le _, Nat.zero_le _⟩) (fun σ_4 H locs hf hW hS => ?_)
        refine lv_aload_n hx hb dX13_callOff_48 rfl (lv_at hl 0 rfl) ?_
        refine gf_13_17 hx hb htg (htg _ lf_X13_26) hown hZ hW tz_64 dX13_callOff_49 ?_
        refine lv_iload_n hx hb dX13_callOff_52 rfl (lv_at hl 1 rfl) ?_
        refine lv_iconst (v := 0) hx hb dX13_callOff_53 (by decide) ?_
        refine mst_i hx hb hZ hW hS tz_69 hf dX13_callOff_54 (fun σ_5 H locs hf hW hS => ?_)
        refine lv_iconst (v := 1) hx hb dX13_callOff_55 (by decide) ?_
        subst hQ
        exact mrz hx hb hr hlocks hZ hT hS hW (by decide) (pr1 hf) dX13_callOff_56
      · have hf := ift hc hf
        refine lv_aload_n hx hb dX13_callOff_38 rfl (lv_at hl 0 rfl) ?_
        refine lv_iconst (v := 5) hx hb dX13_callOff_39 (by decide) ?_
        refine mci hf hS (fun r τ h => va_runV (As := [.int 5]) (rest := []) ⟨hx, hb, hml, hown, hts⟩ (c_X13_isNot g l σ_1 5 r τ h) (cl_X13_404 hts ⟨Nat.le_of_ble_eq_true rfl, Nat.le_of_ble_eq_true rfl⟩) (mpV_13 hZ hT hS hW tz_64 _) rfl rfl hl.1 rfl (lv_room (Nat.le_of_ble_eq_true rfl)) dX13_callOff_40 ⟨Nat.zero_le _, Nat.zero_le _⟩) (fun r_6 σ_7 H locs hf hW hS => ?_)
        subst hQ
        exact mrz hx hb hr hlocks hZ hT hS hW (zrm_s hf).1 (zrm_s hf).2 dX13_callOff_43
    · have hf := ift hc hf
      refine lv_aload_n hx hb dX13_callOff_24 rfl (lv_at hl 0 rfl) ?_
      refine lv_iconst (v := 2) hx hb dX13_callOff_25 (by decide) ?_
      refine mci hf hS (fun r τ h => va_runV (As := [.int 2]) (rest := []) ⟨hx, hb, hml, hown, hts⟩ (c_X13_isNot g l σ_1 2 r τ h) (cl_X13_404 hts ⟨Nat.le_of_ble_eq_true rfl, Nat.le_of_ble_eq_true rfl⟩) (mpV_13 hZ hT hS hW tz_64 _) rfl rfl hl.1 rfl (lv_room (Nat.le_of_ble_eq_true rfl)) dX13_callOff_26 ⟨Nat.zero_le _, Nat.zero_le _⟩) (fun r_8 σ_9 H locs hf hW hS => ?_)
      subst hQ
      exact mrz hx hb hr hlocks hZ hT hS hW (zrm_s hf).1 (zrm_s hf).2 dX13_callOff_29
  · have hf := ift hc hf
    refine lv_aload_n hx hb dX13_callOff_11 rfl (lv_at hl 0 rfl) ?_
    refine lv_iconst (v := 1) hx hb dX13_callOff_12 (by decide) ?_
    refine mci hf hS (fun r τ h => va_runV (As := [.int 1]) (rest := []) ⟨hx, hb, hml, hown, hts⟩ (c_X13_isNot g l σ_1 1 r τ h) (cl_X13_404 hts ⟨Nat.le_of_ble_eq_true rfl, Nat.le_of_ble_eq_true rfl⟩) (mpV_13 hZ hT hS hW tz_64 _) rfl rfl hl.1 rfl (lv_room (Nat.le_of_ble_eq_true rfl)) dX13_callOff_13 ⟨Nat.zero_le _, Nat.zero_le _⟩) (fun r_10 σ_11 H locs hf hW hS => ?_)
    subst hQ
    exact mrz hx hb hr hlocks hZ hT hS hW (zrm_s hf).1 (zrm_s hf).2 dX13_callOff_16
def f_X13_shock (σ : Mem) (a1 : Int32) (a2 : Int32) (a3 : Int32) : Option (Int32 × Mem) :=
  bd1 (f_X13_good σ) (fun (σ_1 : Mem) => bd1 (f_X13_isPerson σ_1 a1) (fun (r_2 : Int32) => jn0 (bd2 (f_X13_isNot σ_1 1) (fun (r_4 : Int32) (σ_5 : Mem) => zrm r_4 σ_5)) (fun k_3 => (if r_2 = 0 then k_3 else bd1 (f_X13_isMark σ_1 a2) (fun (r_6 : Int32) => (if r_6 = 0 then k_3 else bd1 (f_X13_in a3 1 3) (fun (r_7 : Int32) => (if r_7 = 0 then bd2 (f_X13_isNot σ_1 2) (fun (r_17 : Int32) (σ_18 : Mem) => zrm r_17 σ_18) else ixd 78 (aln 69) ((if (σ_1.1 69 (78 : Int32).toNatClampNeg) = 12 then bd2 (f_X13_isNot σ_1 3) (fun (r_15 : Int32) (σ_16 : Mem) => zrm r_15 σ_16) else bd1 (f_X13_note σ_1) (fun (σ_8 : Mem) => ixd 78 (aln 69) (nm (30 + (4 * (σ_8.1 69 (78 : Int32).toNatClampNeg))) (fun (x_9 : Int32) => ixd x_9 (aln 69) (nm (sI σ_8 69 x_9.toNatClampNeg a1) (fun (σ_10 : Mem) => ixd 79 (aln 69) (ixd (x_9 + 1) (aln 69) (nm (sI σ_10 69 (x_9 + 1).toNatClampNeg (σ_10.1 69 (79 : Int32).toNatClampNeg)) (fun (σ_11 : Mem) => ixd (x_9 + 2) (aln 69) (nm (sI σ_11 69 (x_9 + 2).toNatClampNeg a2) (fun (σ_12 : Mem) => ixd (x_9 + 3) (aln 69) (nm (sI σ_12 69 (x_9 + 3).toNatClampNeg a3) (fun (σ_13 : Mem) => ixd 78 (aln 69) (ixd 78 (aln 69) (nm (sI σ_13 69 (78 : Int32).toNatClampNeg ((σ_13.1 69 (78 : Int32).toNatClampNeg) + 1)) (fun (σ_14 : Mem) => some (1, σ_14))))))))))))))))))))))))))
set_option maxHeartbeats 4000000 in
set_option maxRecDepth 100000 in
theorem c_X13_shock (g : XG) (l : Launch) (σ : Mem) (a1 : Int32) (a2 : Int32) (a3 : Int32) (r : Int32) (τ : Mem) (hf : f_X13_shock σ a1 a2 a3 = some (r, τ)) : Met l yX13_shock (wx (.code yX13_shock cX13_shock 5 (some .boolean))) (kr 2 46) (va_Pc [.ref (bs g 64), .int a1, .int a2, .int a3] (WS g 0 81 σ)) (Qi' g 0 81 r τ) 0 0 (Ag g 0) := by
  refine Met.ofW (cc := cX13_shock) (maxL := 5) (ret := (some .boolean)) (by decide) rfl ?_
  intro p e s m args below meth c s₁ B hml hv
  obtain ⟨rfl, hZ, hT, hW⟩ := hv
  have hx := B.exec
  have hb := B.bytes
  have hr := B.returns
  have hts : ∀ w ∈ wx (.code yX13_shock cX13_shock 5 (some .boolean)), w.before _ s = true := atoms_spec B.pre
  have htg : ∀ w ∈ lwg, w.before _ s = true := fun w h => hts w (List.mem_cons_of_mem _ h)
  have hown : s.vm.findClass RX13 = some m.cls := findClass_of_methodNamed B.named
  have hlocks := B.notSynchronized
  change W p l e (kr 2 46) s m (List.toArray [.ref (bs g 64), .int a1, .int a2, .int a3]) below meth c s.heap [] 0 0 (MQ below (Qi' g 0 81 r τ) (List.toArray [.ref (bs g 64), .int a1, .int a2, .int a3]) s 0 0 (Ag g 0)) _
  generalize hQ : MQ below (Qi' g 0 81 r τ) (List.toArray [.ref (bs g 64), .int a1, .int a2, .int a3]) s 0 0 (Ag g 0) = Q
  have hS : va_S (Ag g 0) s.heap s.heap [] := va_S.rf
  have hl := lv_entry ([.ref (bs g 64), .int a1, .int a2, .int a3]) (n := 5) (Nat.le_of_ble_eq_true rfl)
  rw [lg_entry_eq]
  generalize (lg_sl ([.ref (bs g 64), .int a1, .int a2, .int a3]) ++ List.replicate (5 - (lg_sl ([.ref (bs g 64), .int a1, .int a2, .int a3])).length) Slot.unset).toArray = ls at hl ⊢
  have hl : lv_has ls 5 [(0, .ref (bs g 64)), (1, .int a1), (2, .int a2), (3, .int a3)] := hl
  delta f_X13_shock at hf
  obtain ⟨H, hH⟩ : ∃ H, H = s.heap := ⟨_, rfl⟩
  obtain ⟨locs, hLc⟩ : ∃ z : List Loc, z = [] := ⟨_, rfl⟩
  have hS : va_S (Ag g 0) s.heap H locs := by rw [hH, hLc]; exact hS
  have hW : Wd g 0 81 σ H := by rw [hH]; exact hW
  suffices hG : W p l e (kr 2 46) s m (List.toArray [.ref (bs g 64), .int a1, .int a2, .int a3]) below meth c H locs 0 0 Q (F0 m 0 ls []) by rw [hH, hLc] at hG; exact hG
  clear hH hLc
  refine lv_aload_n hx hb dX13_shock_0 rfl (lv_at hl 0 rfl) ?_
  refine mcv hf hS (fun τ h => va_runV (As := []) (rest := []) ⟨hx, hb, hml, hown, hts⟩ (c_X13_good g l σ τ h) (cl_X13_166 hts ⟨Nat.le_of_ble_eq_true rfl, Nat.le_of_ble_eq_true rfl⟩) (mpV_13 hZ hT hS hW tz_64 _) rfl rfl hl.1 rfl (lv_room (Nat.le_of_ble_eq_true rfl)) dX13_shock_1 ⟨Nat.zero_le _, Nat.zero_le _⟩) (fun σ_1 H locs hf hW hS => ?_)
  refine lv_aload_n hx hb dX13_shock_4 rfl (lv_at hl 0 rfl) ?_
  refine lv_iload_n hx hb dX13_shock_5 rfl (lv_at hl 1 rfl) ?_
  refine mcip hf hS (fun r h => va_runV (As := [.int a1]) (rest := []) ⟨hx, hb, hml, hown, hts⟩ (c_X13_isPerson g l σ_1 a1 r h) (cl_X13_275 hts ⟨Nat.le_of_ble_eq_true rfl, Nat.le_of_ble_eq_true rfl⟩) (mpV_13 hZ hT hS hW tz_64 _) rfl rfl hl.1 rfl (lv_room (Nat.le_of_ble_eq_true rfl)) dX13_shock_6 ⟨Nat.zero_le _, Nat.zero_le _⟩) (fun r_2 H locs hf hW hS => ?_)
  refine jn0_W (∀ (H : Heap) (locs : List Loc) (ls : Array Slot), Wd g 0 81 σ_1 H → va_S (Ag g 0) s.heap H locs → lv_has ls 5 [(0, .ref (bs g 64))] → W p l e (kr 2 46) s m (List.toArray [.ref (bs g 64), .int a1, .int a2, .int a3]) below meth c H locs 0 0 Q (F0 m 20 ls [])) hf (fun  hf => ?_) (fun k_3 hk_3 hf => ?_)
  · intro H locs ls hW hS hl
    refine lv_aload_n hx hb dX13_shock_20 rfl (lv_at hl 0 rfl) ?_
    refine lv_iconst (v := 1) hx hb dX13_shock_21 (by decide) ?_
    refine mci hf hS (fun r τ h => va_runV (As := [.int 1]) (rest := []) ⟨hx, hb, hml, hown, hts⟩ (c_X13_isNot g l σ_1 1 r τ h) (cl_X13_404 hts ⟨Nat.le_of_ble_eq_true rfl, Nat.le_of_ble_eq_true rfl⟩) (mpV_13 hZ hT hS hW tz_64 _) rfl rfl hl.1 rfl (lv_room (Nat.le_of_ble_eq_true rfl)) dX13_shock_22 ⟨Nat.zero_le _, Nat.zero_le _⟩) (fun r_4 σ_5 H locs hf hW hS => ?_)
    subst hQ
    exact mrz hx hb hr hlocks hZ hT hS hW (zrm_s hf).1 (zrm_s hf).2 dX13_shock_25
  · refine lv_if_eq (tgt := 20) hx hb dX13_shock_9 (by decide) (fun hc => ?_) (fun hc => ?_)
    · have hf := ift hc hf
      exact hk_3  hf H locs ls hW hS (lv_sub hl [0] rfl)
    · have hf := iff_ hc hf
      refine lv_aload_n hx hb dX13_shock_12 rfl (lv_at hl 0 rfl) ?_
      refine lv_iload_n hx hb dX13_shock_13 rfl (lv_at hl 2 rfl) ?_
      refine mcip hf hS (fun r h => va_runV (As := [.int a2]) (rest := []) ⟨hx, hb, hml, hown, hts⟩ (c_X13_isMark g l σ_1 a2 r h) (cl_X13_278 hts ⟨Nat.le_of_ble_eq_true rfl, Nat.le_of_ble_eq_true rfl⟩) (mpV_13 hZ hT hS hW tz_64 _) rfl rfl hl.1 rfl (lv_room (Nat.le_of_ble_eq_true rfl)) dX13_shock_14 ⟨Nat.zero_le _, Nat.zero_le _⟩) (fun r_6 H locs hf hW hS => ?_)
      refine lv_if_ne (tgt := 26) hx hb dX13_shock_17 (by decide) (fun hc => ?_) (fun hc => ?_)
      · have hf := iff_ hc hf
        refine lv_iload_n hx hb dX13_shock_26 rfl (lv_at hl 3 rfl) ?_
        refine lv_iconst (v := 1) hx hb dX13_shock_27 (by decide) ?_
        refine lv_iconst (v := 3) hx hb dX13_shock_28 (by decide) ?_
        refine mcip hf hS (fun r h => va_runS (As := [.int a3, .int 1, .int 3]) (rest := []) ⟨hx, hb, hml, hown, hts⟩ (c_X13_in g l 0 81 σ_1 a3 1 3 r h) (cl_X13_151 hts ⟨Nat.le_of_ble_eq_true rfl, Nat.le_of_ble_eq_true rfl⟩) (mpS hZ hT hS hW _) rfl rfl hl.1 rfl (lv_room (Nat.le_of_ble_eq_true rfl)) dX13_shock_29 ⟨Nat.zero_le _, Nat.zero_le _⟩) (fun r_7 H locs hf hW hS => ?_)
        refine lv_if_ne (tgt := 41) hx hb dX13_shock_32 (by decide) (fun hc => ?_) (fun hc => ?_)
        · have hf := iff_ hc hf
          refine lv_aload_n hx hb dX13_shock_41 rfl (lv_at hl 0 rfl) ?_
          refine gf_13_17 hx hb htg (htg _ lf_X13_26) hown hZ hW tz_64 dX13_shock_42 ?_
          refine lv_bipush (v := 78) hx hb dX13_shock_45 (by decide) ?_
          refine mld_i hx hb hZ hW tz_69 hf dX13_shock_47 (fun hf => ?_)
          refine lv_bipush (v := 12) hx hb dX13_shock_48 (by decide) ?_
          refine lv_icmp_ne (tgt := 59) hx hb dX13_shock_50 (by decide) (fun hc => ?_) (fun hc => ?_)
          · have hf := iff_ hc hf
            refine lv_aload_n hx hb dX13_shock_59 rfl (lv_at hl 0 rfl) ?_
            refine mcv hf hS (fun τ h => va_runV (As := []) (rest := []) ⟨hx, hb, hml, hown, hts⟩ (c_X13_note g l σ_1 τ h) (cl_X13_407 hts ⟨Nat.le_of_ble_eq_true rfl, Nat.le_of_ble_eq_true rfl⟩) (mpV_13 hZ hT hS hW tz_64 _) rfl rfl hl.1 rfl (lv_room (Nat.le_of_ble_eq_true rfl)) dX13_shock_60 ⟨Nat.zero_le _, Nat.zero_le _⟩) (fun σ_8 H locs hf hW hS => ?_)
            refine lv_bipush (v := 30) hx hb dX13_shock_63 (by decide) ?_
            refine lv_iconst (v := 4) hx hb dX13_shock_65 (by decide) ?_
            refine lv_aload_n hx hb dX13_shock_66 rfl (lv_at hl 0 rfl) ?_
            refine gf_13_17 hx hb htg (htg _ lf_X13_26) hown hZ hW tz_64 dX13_shock_67 ?_
            refine lv_bipush (v := 78) hx hb dX13_shock_70 (by decide) ?_
            refine mld_i hx hb hZ hW tz_69 hf dX13_shock_72 (fun hf => ?_)
            refine lv_imul hx hb dX13_shock_73 ?_
            refine lv_iadd hx hb dX13_shock_74 ?_
            refine mnmi hf (fun (x_9 : Int32) hf => ?_)
            refine lv_istore (lv' := [(4, .int x_9), (0, .ref (bs g 64)), (1, .int a1), (2, .int a2), (3, .int a3)]) hx hb dX13_shock_75 hl (by decide) rfl (fun ls hl => ?_)
            refine lv_aload_n hx hb dX13_shock_77 rfl (lv_at hl 1 rfl) ?_
            refine gf_13_17 hx hb htg (htg _ lf_X13_26) hown hZ hW tz_64 dX13_shock_78 ?_
            refine lv_iload hx hb dX13_shock_81 (lv_at hl 0 rfl) ?_
            refine lv_iload_n hx hb dX13_shock_83 rfl (lv_at hl 2 rfl) ?_
            refine mst_i hx hb hZ hW hS tz_69 hf dX13_shock_84 (fun σ_10 H locs hf hW hS => ?_)
            refine lv_aload_n hx hb dX13_shock_85 rfl (lv_at hl 1 rfl) ?_
            refine gf_13_17 hx hb htg (htg _ lf_X13_26) hown hZ hW tz_64 dX13_shock_86 ?_
            refine lv_iload hx hb dX13_shock_89 (lv_at hl 0 rfl) ?_
            refine lv_iconst (v := 1) hx hb dX13_shock_91 (by decide) ?_
            refine lv_iadd hx hb dX13_shock_92 ?_
            refine lv_aload_n hx hb dX13_shock_93 rfl (lv_at hl 1 rfl) ?_
            refine gf_13_17 hx hb htg (htg _ lf_X13_26) hown hZ hW tz_64 dX13_shock_94 ?_
            refine lv_bipush (v := 79) hx hb dX13_shock_97 (by decide) ?_
            refine mld_i hx hb hZ hW tz_69 hf dX13_shock_99 (fun hf => ?_)
            refine mst_i hx hb hZ hW hS tz_69 hf dX13_shock_100 (fun σ_11 H locs hf hW hS => ?_)
            refine lv_aload_n hx hb dX13_shock_101 rfl (lv_at hl 1 rfl) ?_
            refine gf_13_17 hx hb htg (htg _ lf_X13_26) hown hZ hW tz_64 dX13_shock_102 ?_
            refine lv_iload hx hb dX13_shock_105 (lv_at hl 0 rfl) ?_
            refine lv_iconst (v := 2) hx hb dX13_shock_107 (by decide) ?_
            refine lv_iadd hx hb dX13_shock_108 ?_
            refine lv_iload_n hx hb dX13_shock_109 rfl (lv_at hl 3 rfl) ?_
            refine mst_i hx hb hZ hW hS tz_69 hf dX13_shock_110 (fun σ_12 H locs hf hW hS => ?_)
            refine lv_aload_n hx hb dX13_shock_111 rfl (lv_at hl 1 rfl) ?_
            refine gf_13_17 hx hb htg (htg _ lf_X13_26) hown hZ hW tz_64 dX13_shock_112 ?_
            refine lv_iload hx hb dX13_shock_115 (lv_at hl 0 rfl) ?_
            refine lv_iconst (v := 3) hx hb dX13_shock_117 (by decide) ?_
            refine lv_iadd hx hb dX13_shock_118 ?_
            refine lv_iload_n hx hb dX13_shock_119 rfl (lv_at hl 4 rfl) ?_
            refine mst_i hx hb hZ hW hS tz_69 hf dX13_shock_120 (fun σ_13 H locs hf hW hS => ?_)
            refine lv_aload_n hx hb dX13_shock_121 rfl (lv_at hl 1 rfl) ?_
            refine gf_13_17 hx hb htg (htg _ lf_X13_26) hown hZ hW tz_64 dX13_shock_122 ?_
            refine lv_bipush (v := 78) hx hb dX13_shock_125 (by decide) ?_
            refine lv_dup2_11 hx hb dX13_shock_127 rfl rfl ?_
            refine mld_i hx hb hZ hW tz_69 hf dX13_shock_128 (fun hf => ?_)
            refine lv_iconst (v := 1) hx hb dX13_shock_129 (by decide) ?_
            refine lv_iadd hx hb dX13_shock_130 ?_
            refine mst_i hx hb hZ hW hS tz_69 hf dX13_shock_131 (fun σ_14 H locs hf hW hS => ?_)
            refine lv_iconst (v := 1) hx hb dX13_shock_132 (by decide) ?_
            subst hQ
            exact mrz hx hb hr hlocks hZ hT hS hW (by decide) (pr1 hf) dX13_shock_133
          · have hf := ift hc hf
            refine lv_aload_n hx hb dX13_shock_53 rfl (lv_at hl 0 rfl) ?_
            refine lv_iconst (v := 3) hx hb dX13_shock_54 (by decide) ?_
            refine mci hf hS (fun r τ h => va_runV (As := [.int 3]) (rest := []) ⟨hx, hb, hml, hown, hts⟩ (c_X13_isNot g l σ_1 3 r τ h) (cl_X13_404 hts ⟨Nat.le_of_ble_eq_true rfl, Nat.le_of_ble_eq_true rfl⟩) (mpV_13 hZ hT hS hW tz_64 _) rfl rfl hl.1 rfl (lv_room (Nat.le_of_ble_eq_true rfl)) dX13_shock_55 ⟨Nat.zero_le _, Nat.zero_le _⟩) (fun r_15 σ_16 H locs hf hW hS => ?_)
            subst hQ
            exact mrz hx hb hr hlocks hZ hT hS hW (zrm_s hf).1 (zrm_s hf).2 dX13_shock_58
        · have hf := ift hc hf
          refine lv_aload_n hx hb dX13_shock_35 rfl (lv_at hl 0 rfl) ?_
          refine lv_iconst (v := 2) hx hb dX13_shock_36 (by decide) ?_
          refine mci hf hS (fun r τ h => va_runV (As := [.int 2]) (rest := []) ⟨hx, hb, hml, hown, hts⟩ (c_X13_isNot g l σ_1 2 r τ h) (cl_X13_404 hts ⟨Nat.le_of_ble_eq_true rfl, Nat.le_of_ble_eq_true rfl⟩) (mpV_13 hZ hT hS hW tz_64 _) rfl rfl hl.1 rfl (lv_room (Nat.le_of_ble_eq_true rfl)) dX13_shock_37 ⟨Nat.zero_le _, Nat.zero_le _⟩) (fun r_17 σ_18 H locs hf hW hS => ?_)
          subst hQ
          exact mrz hx hb hr hlocks hZ hT hS hW (zrm_s hf).1 (zrm_s hf).2 dX13_shock_40
      · have hf := ift hc hf
        exact hk_3  hf H locs ls hW hS (lv_sub hl [0] rfl)
def f_X13_days (σ : Mem) (a1 : Int32) : Option (Int32 × Mem) :=
  bd1 (f_X13_good σ) (fun (σ_1 : Mem) => (if (σ_1.1 64 14) = 0 then bd2 (f_X13_no σ_1 1) (fun (r_9 : Int32) (σ_10 : Mem) => some (r_9, σ_10)) else bd1 (f_X13_in a1 1 29) (fun (r_2 : Int32) => (if r_2 = 0 then bd2 (f_X13_no σ_1 2) (fun (r_7 : Int32) (σ_8 : Mem) => some (r_7, σ_8)) else ixd 79 (aln 69) ((if ((σ_1.1 69 (79 : Int32).toNatClampNeg) + a1) < 30 then bd1 (f_X13_note σ_1) (fun (σ_3 : Mem) => ixd 79 (aln 69) (ixd 79 (aln 69) (nm (sI σ_3 69 (79 : Int32).toNatClampNeg ((σ_3.1 69 (79 : Int32).toNatClampNeg) + a1)) (fun (σ_4 : Mem) => ixd 79 (aln 69) (some (σ_4.1 69 (79 : Int32).toNatClampNeg, σ_4)))))) else bd2 (f_X13_no σ_1 3) (fun (r_5 : Int32) (σ_6 : Mem) => some (r_5, σ_6))))))))
set_option maxHeartbeats 4000000 in
set_option maxRecDepth 100000 in
theorem c_X13_days (g : XG) (l : Launch) (σ : Mem) (a1 : Int32) (r : Int32) (τ : Mem) (hf : f_X13_days σ a1 = some (r, τ)) : Met l yX13_days (wx (.code yX13_days cX13_days 2 (some .int))) (kr 2 46) (va_Pc [.ref (bs g 64), .int a1] (WS g 0 81 σ)) (Qi' g 0 81 r τ) 0 0 (Ag g 0) := by
  refine Met.ofW (cc := cX13_days) (maxL := 2) (ret := (some .int)) (by decide) rfl ?_
  intro p e s m args below meth c s₁ B hml hv
  obtain ⟨rfl, hZ, hT, hW⟩ := hv
  have hx := B.exec
  have hb := B.bytes
  have hr := B.returns
  have hts : ∀ w ∈ wx (.code yX13_days cX13_days 2 (some .int)), w.before _ s = true := atoms_spec B.pre
  have htg : ∀ w ∈ lwg, w.before _ s = true := fun w h => hts w (List.mem_cons_of_mem _ h)
  have hown : s.vm.findClass RX13 = some m.cls := findClass_of_methodNamed B.named
  have hlocks := B.notSynchronized
  change W p l e (kr 2 46) s m (List.toArray [.ref (bs g 64), .int a1]) below meth c s.heap [] 0 0 (MQ below (Qi' g 0 81 r τ) (List.toArray [.ref (bs g 64), .int a1]) s 0 0 (Ag g 0)) _
  generalize hQ : MQ below (Qi' g 0 81 r τ) (List.toArray [.ref (bs g 64), .int a1]) s 0 0 (Ag g 0) = Q
  have hS : va_S (Ag g 0) s.heap s.heap [] := va_S.rf
  have hl := lv_entry ([.ref (bs g 64), .int a1]) (n := 2) (Nat.le_of_ble_eq_true rfl)
  rw [lg_entry_eq]
  generalize (lg_sl ([.ref (bs g 64), .int a1]) ++ List.replicate (2 - (lg_sl ([.ref (bs g 64), .int a1])).length) Slot.unset).toArray = ls at hl ⊢
  have hl : lv_has ls 2 [(0, .ref (bs g 64)), (1, .int a1)] := hl
  delta f_X13_days at hf
  obtain ⟨H, hH⟩ : ∃ H, H = s.heap := ⟨_, rfl⟩
  obtain ⟨locs, hLc⟩ : ∃ z : List Loc, z = [] := ⟨_, rfl⟩
  have hS : va_S (Ag g 0) s.heap H locs := by rw [hH, hLc]; exact hS
  have hW : Wd g 0 81 σ H := by rw [hH]; exact hW
  suffices hG : W p l e (kr 2 46) s m (List.toArray [.ref (bs g 64), .int a1]) below meth c H locs 0 0 Q (F0 m 0 ls []) by rw [hH, hLc] at hG; exact hG
  clear hH hLc
  refine lv_aload_n hx hb dX13_days_0 rfl (lv_at hl 0 rfl) ?_
  refine mcv hf hS (fun τ h => va_runV (As := []) (rest := []) ⟨hx, hb, hml, hown, hts⟩ (c_X13_good g l σ τ h) (cl_X13_166 hts ⟨Nat.le_of_ble_eq_true rfl, Nat.le_of_ble_eq_true rfl⟩) (mpV_13 hZ hT hS hW tz_64 _) rfl rfl hl.1 rfl (lv_room (Nat.le_of_ble_eq_true rfl)) dX13_days_1 ⟨Nat.zero_le _, Nat.zero_le _⟩) (fun σ_1 H locs hf hW hS => ?_)
  refine lv_aload_n hx hb dX13_days_4 rfl (lv_at hl 0 rfl) ?_
  refine gf_13_14 hx hb htg (htg _ lf_X13_179) hown hZ hW tz_64 dX13_days_5 ?_
  refine lv_if_ne (tgt := 17) hx hb dX13_days_8 (by decide) (fun hc => ?_) (fun hc => ?_)
  · have hf := iff_ hc hf
    refine lv_iload_n hx hb dX13_days_17 rfl (lv_at hl 1 rfl) ?_
    refine lv_iconst (v := 1) hx hb dX13_days_18 (by decide) ?_
    refine lv_bipush (v := 29) hx hb dX13_days_19 (by decide) ?_
    refine mcip hf hS (fun r h => va_runS (As := [.int a1, .int 1, .int 29]) (rest := []) ⟨hx, hb, hml, hown, hts⟩ (c_X13_in g l 0 81 σ_1 a1 1 29 r h) (cl_X13_151 hts ⟨Nat.le_of_ble_eq_true rfl, Nat.le_of_ble_eq_true rfl⟩) (mpS hZ hT hS hW _) rfl rfl hl.1 rfl (lv_room (Nat.le_of_ble_eq_true rfl)) dX13_days_21 ⟨Nat.zero_le _, Nat.zero_le _⟩) (fun r_2 H locs hf hW hS => ?_)
    refine lv_if_ne (tgt := 33) hx hb dX13_days_24 (by decide) (fun hc => ?_) (fun hc => ?_)
    · have hf := iff_ hc hf
      refine lv_aload_n hx hb dX13_days_33 rfl (lv_at hl 0 rfl) ?_
      refine gf_13_17 hx hb htg (htg _ lf_X13_26) hown hZ hW tz_64 dX13_days_34 ?_
      refine lv_bipush (v := 79) hx hb dX13_days_37 (by decide) ?_
      refine mld_i hx hb hZ hW tz_69 hf dX13_days_39 (fun hf => ?_)
      refine lv_iload_n hx hb dX13_days_40 rfl (lv_at hl 1 rfl) ?_
      refine lv_iadd hx hb dX13_days_41 ?_
      refine lv_bipush (v := 30) hx hb dX13_days_42 (by decide) ?_
      refine lv_icmp_lt (tgt := 53) hx hb dX13_days_44 (by decide) (fun hc => ?_) (fun hc => ?_)
      · have hf := ift hc hf
        refine lv_aload_n hx hb dX13_days_53 rfl (lv_at hl 0 rfl) ?_
        refine mcv hf hS (fun τ h => va_runV (As := []) (rest := []) ⟨hx, hb, hml, hown, hts⟩ (c_X13_note g l σ_1 τ h) (cl_X13_407 hts ⟨Nat.le_of_ble_eq_true rfl, Nat.le_of_ble_eq_true rfl⟩) (mpV_13 hZ hT hS hW tz_64 _) rfl rfl hl.1 rfl (lv_room (Nat.le_of_ble_eq_true rfl)) dX13_days_54 ⟨Nat.zero_le _, Nat.zero_le _⟩) (fun σ_3 H locs hf hW hS => ?_)
        refine lv_aload_n hx hb dX13_days_57 rfl (lv_at hl 0 rfl) ?_
        refine gf_13_17 hx hb htg (htg _ lf_X13_26) hown hZ hW tz_64 dX13_days_58 ?_
        refine lv_bipush (v := 79) hx hb dX13_days_61 (by decide) ?_
        refine lv_dup2_11 hx hb dX13_days_63 rfl rfl ?_
        refine mld_i hx hb hZ hW tz_69 hf dX13_days_64 (fun hf => ?_)
        refine lv_iload_n hx hb dX13_days_65 rfl (lv_at hl 1 rfl) ?_
        refine lv_iadd hx hb dX13_days_66 ?_
        refine mst_i hx hb hZ hW hS tz_69 hf dX13_days_67 (fun σ_4 H locs hf hW hS => ?_)
        refine lv_aload_n hx hb dX13_days_68 rfl (lv_at hl 0 rfl) ?_
        refine gf_13_17 hx hb htg (htg _ lf_X13_26) hown hZ hW tz_64 dX13_days_69 ?_
        refine lv_bipush (v := 79) hx hb dX13_days_72 (by decide) ?_
        refine mld_i hx hb hZ hW tz_69 hf dX13_days_74 (fun hf => ?_)
        subst hQ
        exact mri hx hb hr hlocks hZ hT hS hW (pr1 hf) dX13_days_75
      · have hf := iff_ hc hf
        refine lv_aload_n hx hb dX13_days_47 rfl (lv_at hl 0 rfl) ?_
        refine lv_iconst (v := 3) hx hb dX13_days_48 (by decide) ?_
        refine mci hf hS (fun r τ h => va_runV (As := [.int 3]) (rest := []) ⟨hx, hb, hml, hown, hts⟩ (c_X13_no g l σ_1 3 r τ h) (cl_X13_169 hts ⟨Nat.le_of_ble_eq_true rfl, Nat.le_of_ble_eq_true rfl⟩) (mpV_13 hZ hT hS hW tz_64 _) rfl rfl hl.1 rfl (lv_room (Nat.le_of_ble_eq_true rfl)) dX13_days_49 ⟨Nat.zero_le _, Nat.zero_le _⟩) (fun r_5 σ_6 H locs hf hW hS => ?_)
        subst hQ
        exact mri hx hb hr hlocks hZ hT hS hW (pr1 hf) dX13_days_52
    · have hf := ift hc hf
      refine lv_aload_n hx hb dX13_days_27 rfl (lv_at hl 0 rfl) ?_
      refine lv_iconst (v := 2) hx hb dX13_days_28 (by decide) ?_
      refine mci hf hS (fun r τ h => va_runV (As := [.int 2]) (rest := []) ⟨hx, hb, hml, hown, hts⟩ (c_X13_no g l σ_1 2 r τ h) (cl_X13_169 hts ⟨Nat.le_of_ble_eq_true rfl, Nat.le_of_ble_eq_true rfl⟩) (mpV_13 hZ hT hS hW tz_64 _) rfl rfl hl.1 rfl (lv_room (Nat.le_of_ble_eq_true rfl)) dX13_days_29 ⟨Nat.zero_le _, Nat.zero_le _⟩) (fun r_7 σ_8 H locs hf hW hS => ?_)
      subst hQ
      exact mri hx hb hr hlocks hZ hT hS hW (pr1 hf) dX13_days_32
  · have hf := ift hc hf
    refine lv_aload_n hx hb dX13_days_11 rfl (lv_at hl 0 rfl) ?_
    refine lv_iconst (v := 1) hx hb dX13_days_12 (by decide) ?_
    refine mci hf hS (fun r τ h => va_runV (As := [.int 1]) (rest := []) ⟨hx, hb, hml, hown, hts⟩ (c_X13_no g l σ_1 1 r τ h) (cl_X13_169 hts ⟨Nat.le_of_ble_eq_true rfl, Nat.le_of_ble_eq_true rfl⟩) (mpV_13 hZ hT hS hW tz_64 _) rfl rfl hl.1 rfl (lv_room (Nat.le_of_ble_eq_true rfl)) dX13_days_13 ⟨Nat.zero_le _, Nat.zero_le _⟩) (fun r_9 σ_10 H locs hf hW hS => ?_)
    subst hQ
    exact mri hx hb hr hlocks hZ hT hS hW (pr1 hf) dX13_days_16
def f_X13_undo (σ : Mem)  : Option (Int32 × Mem) :=
  bd1 (f_X13_good σ) (fun (σ_1 : Mem) => (if (σ_1.1 64 20) = 0 then bd2 (f_X13_isNot σ_1 6) (fun (r_4 : Int32) (σ_5 : Mem) => zrm r_4 σ_5) else nm (sI σ_1 64 20 ((σ_1.1 64 20) - 1)) (fun (σ_2 : Mem) => bd1 (f_X13_copy σ_2 70 (80 * (σ_2.1 64 20)) 69 0 80) (fun (σ_3 : Mem) => some (1, σ_3)))))
set_option maxHeartbeats 4000000 in
set_option maxRecDepth 100000 in
theorem c_X13_undo (g : XG) (l : Launch) (σ : Mem) (r : Int32) (τ : Mem) (hf : f_X13_undo σ = some (r, τ)) : Met l yX13_undo (wx (.code yX13_undo cX13_undo 1 (some .boolean))) (kr 1 25) (va_Pc [.ref (bs g 64)] (WS g 0 81 σ)) (Qi' g 0 81 r τ) 0 0 (Ag g 0) := by
  refine Met.ofW (cc := cX13_undo) (maxL := 1) (ret := (some .boolean)) (by decide) rfl ?_
  intro p e s m args below meth c s₁ B hml hv
  obtain ⟨rfl, hZ, hT, hW⟩ := hv
  have hx := B.exec
  have hb := B.bytes
  have hr := B.returns
  have hts : ∀ w ∈ wx (.code yX13_undo cX13_undo 1 (some .boolean)), w.before _ s = true := atoms_spec B.pre
  have htg : ∀ w ∈ lwg, w.before _ s = true := fun w h => hts w (List.mem_cons_of_mem _ h)
  have hown : s.vm.findClass RX13 = some m.cls := findClass_of_methodNamed B.named
  have hlocks := B.notSynchronized
  change W p l e (kr 1 25) s m (List.toArray [.ref (bs g 64)]) below meth c s.heap [] 0 0 (MQ below (Qi' g 0 81 r τ) (List.toArray [.ref (bs g 64)]) s 0 0 (Ag g 0)) _
  generalize hQ : MQ below (Qi' g 0 81 r τ) (List.toArray [.ref (bs g 64)]) s 0 0 (Ag g 0) = Q
  have hS : va_S (Ag g 0) s.heap s.heap [] := va_S.rf
  have hl := lv_entry ([.ref (bs g 64)]) (n := 1) (Nat.le_of_ble_eq_true rfl)
  rw [lg_entry_eq]
  generalize (lg_sl ([.ref (bs g 64)]) ++ List.replicate (1 - (lg_sl ([.ref (bs g 64)])).length) Slot.unset).toArray = ls at hl ⊢
  have hl : lv_has ls 1 [(0, .ref (bs g 64))] := hl
  delta f_X13_undo at hf
  obtain ⟨H, hH⟩ : ∃ H, H = s.heap := ⟨_, rfl⟩
  obtain ⟨locs, hLc⟩ : ∃ z : List Loc, z = [] := ⟨_, rfl⟩
  have hS : va_S (Ag g 0) s.heap H locs := by rw [hH, hLc]; exact hS
  have hW : Wd g 0 81 σ H := by rw [hH]; exact hW
  suffices hG : W p l e (kr 1 25) s m (List.toArray [.ref (bs g 64)]) below meth c H locs 0 0 Q (F0 m 0 ls []) by rw [hH, hLc] at hG; exact hG
  clear hH hLc
  refine lv_aload_n hx hb dX13_undo_0 rfl (lv_at hl 0 rfl) ?_
  refine mcv hf hS (fun τ h => va_runV (As := []) (rest := []) ⟨hx, hb, hml, hown, hts⟩ (c_X13_good g l σ τ h) (cl_X13_166 hts ⟨Nat.le_of_ble_eq_true rfl, Nat.le_of_ble_eq_true rfl⟩) (mpV_13 hZ hT hS hW tz_64 _) rfl rfl hl.1 rfl (lv_room (Nat.le_of_ble_eq_true rfl)) dX13_undo_1 ⟨Nat.zero_le _, Nat.zero_le _⟩) (fun σ_1 H locs hf hW hS => ?_)
  refine lv_aload_n hx hb dX13_undo_4 rfl (lv_at hl 0 rfl) ?_
  refine gf_13_20 hx hb htg (htg _ lf_X13_182) hown hZ hW tz_64 dX13_undo_5 ?_
  refine lv_if_ne (tgt := 18) hx hb dX13_undo_8 (by decide) (fun hc => ?_) (fun hc => ?_)
  · have hf := iff_ hc hf
    refine lv_aload_n hx hb dX13_undo_18 rfl (lv_at hl 0 rfl) ?_
    refine lv_dup hx hb dX13_undo_19 rfl ?_
    refine gf_13_20 hx hb htg (htg _ lf_X13_182) hown hZ hW tz_64 dX13_undo_20 ?_
    refine lv_iconst (v := 1) hx hb dX13_undo_23 (by decide) ?_
    refine lv_isub hx hb dX13_undo_24 ?_
    refine pf_13_20 hx hb htg (htg _ lf_X13_182) hown hZ hW hS tz_64 dX13_undo_25 hf (fun σ_2 H locs hf hW hS => ?_)
    refine lv_aload_n hx hb dX13_undo_28 rfl (lv_at hl 0 rfl) ?_
    refine gf_13_18 hx hb htg (htg _ lf_X13_29) hown hZ hW tz_64 dX13_undo_29 ?_
    refine lv_bipush (v := 80) hx hb dX13_undo_32 (by decide) ?_
    refine lv_aload_n hx hb dX13_undo_34 rfl (lv_at hl 0 rfl) ?_
    refine gf_13_20 hx hb htg (htg _ lf_X13_182) hown hZ hW tz_64 dX13_undo_35 ?_
    refine lv_imul hx hb dX13_undo_38 ?_
    refine lv_aload_n hx hb dX13_undo_39 rfl (lv_at hl 0 rfl) ?_
    refine gf_13_17 hx hb htg (htg _ lf_X13_26) hown hZ hW tz_64 dX13_undo_40 ?_
    refine lv_iconst (v := 0) hx hb dX13_undo_43 (by decide) ?_
    refine lv_bipush (v := 80) hx hb dX13_undo_44 (by decide) ?_
    refine mcv hf hS (fun τ h => va_runS (As := [.ref (bs g 70), .int (80 * (σ_2.1 64 20)), .ref (bs g 69), .int 0, .int 80]) (rest := []) ⟨hx, hb, hml, hown, hts⟩ (c_X13_copy g l 0 81 σ_2 70 (80 * (σ_2.1 64 20)) 69 0 80 tz_70 tz_69 τ h) (cl_X13_175 hts ⟨Nat.le_of_ble_eq_true rfl, Nat.le_of_ble_eq_true rfl⟩) (mpS hZ hT hS hW _) rfl rfl hl.1 rfl (lv_room (Nat.le_of_ble_eq_true rfl)) dX13_undo_46 ⟨Nat.zero_le _, Nat.zero_le _⟩) (fun σ_3 H locs hf hW hS => ?_)
    refine lv_iconst (v := 1) hx hb dX13_undo_49 (by decide) ?_
    subst hQ
    exact mrz hx hb hr hlocks hZ hT hS hW (by decide) (pr1 hf) dX13_undo_50
  · have hf := ift hc hf
    refine lv_aload_n hx hb dX13_undo_11 rfl (lv_at hl 0 rfl) ?_
    refine lv_bipush (v := 6) hx hb dX13_undo_12 (by decide) ?_
    refine mci hf hS (fun r τ h => va_runV (As := [.int 6]) (rest := []) ⟨hx, hb, hml, hown, hts⟩ (c_X13_isNot g l σ_1 6 r τ h) (cl_X13_404 hts ⟨Nat.le_of_ble_eq_true rfl, Nat.le_of_ble_eq_true rfl⟩) (mpV_13 hZ hT hS hW tz_64 _) rfl rfl hl.1 rfl (lv_room (Nat.le_of_ble_eq_true rfl)) dX13_undo_14 ⟨Nat.zero_le _, Nat.zero_le _⟩) (fun r_4 σ_5 H locs hf hW hS => ?_)
    subst hQ
    exact mrz hx hb hr hlocks hZ hT hS hW (zrm_s hf).1 (zrm_s hf).2 dX13_undo_17
def f_X13_image (σ : Mem)  : Option (Int32 × Mem) :=
  bd1 (f_X13_good σ) (fun (σ_1 : Mem) => (if (σ_1.1 64 14) = 0 then bd2 (f_X13_no σ_1 1) (fun (r_6 : Int32) (σ_7 : Mem) => some (r_6, σ_7)) else (if (σ_1.1 64 21) = 3 then bd2 (f_X13_no σ_1 3) (fun (r_4 : Int32) (σ_5 : Mem) => some (r_4, σ_5)) else bd1 (f_X13_copy σ_1 69 0 71 (80 * (σ_1.1 64 21)) 80) (fun (σ_2 : Mem) => nm (sI σ_2 64 21 ((σ_2.1 64 21) + 1)) (fun (σ_3 : Mem) => some ((σ_3.1 64 21) - 1, σ_3))))))
set_option maxHeartbeats 4000000 in
set_option maxRecDepth 100000 in
theorem c_X13_image (g : XG) (l : Launch) (σ : Mem) (r : Int32) (τ : Mem) (hf : f_X13_image σ = some (r, τ)) : Met l yX13_image (wx (.code yX13_image cX13_image 1 (some .int))) (kr 1 25) (va_Pc [.ref (bs g 64)] (WS g 0 81 σ)) (Qi' g 0 81 r τ) 0 0 (Ag g 0) := by
  refine Met.ofW (cc := cX13_image) (maxL := 1) (ret := (some .int)) (by decide) rfl ?_
  intro p e s m args below meth c s₁ B hml hv
  obtain ⟨rfl, hZ, hT, hW⟩ := hv
  have hx := B.exec
  have hb := B.bytes
  have hr := B.returns
  have hts : ∀ w ∈ wx (.code yX13_image cX13_image 1 (some .int)), w.before _ s = true := atoms_spec B.pre
  have htg : ∀ w ∈ lwg, w.before _ s = true := fun w h => hts w (List.mem_cons_of_mem _ h)
  have hown : s.vm.findClass RX13 = some m.cls := findClass_of_methodNamed B.named
  have hlocks := B.notSynchronized
  change W p l e (kr 1 25) s m (List.toArray [.ref (bs g 64)]) below meth c s.heap [] 0 0 (MQ below (Qi' g 0 81 r τ) (List.toArray [.ref (bs g 64)]) s 0 0 (Ag g 0)) _
  generalize hQ : MQ below (Qi' g 0 81 r τ) (List.toArray [.ref (bs g 64)]) s 0 0 (Ag g 0) = Q
  have hS : va_S (Ag g 0) s.heap s.heap [] := va_S.rf
  have hl := lv_entry ([.ref (bs g 64)]) (n := 1) (Nat.le_of_ble_eq_true rfl)
  rw [lg_entry_eq]
  generalize (lg_sl ([.ref (bs g 64)]) ++ List.replicate (1 - (lg_sl ([.ref (bs g 64)])).length) Slot.unset).toArray = ls at hl ⊢
  have hl : lv_has ls 1 [(0, .ref (bs g 64))] := hl
  delta f_X13_image at hf
  obtain ⟨H, hH⟩ : ∃ H, H = s.heap := ⟨_, rfl⟩
  obtain ⟨locs, hLc⟩ : ∃ z : List Loc, z = [] := ⟨_, rfl⟩
  have hS : va_S (Ag g 0) s.heap H locs := by rw [hH, hLc]; exact hS
  have hW : Wd g 0 81 σ H := by rw [hH]; exact hW
  suffices hG : W p l e (kr 1 25) s m (List.toArray [.ref (bs g 64)]) below meth c H locs 0 0 Q (F0 m 0 ls []) by rw [hH, hLc] at hG; exact hG
  clear hH hLc
  refine lv_aload_n hx hb dX13_image_0 rfl (lv_at hl 0 rfl) ?_
  refine mcv hf hS (fun τ h => va_runV (As := []) (rest := []) ⟨hx, hb, hml, hown, hts⟩ (c_X13_good g l σ τ h) (cl_X13_166 hts ⟨Nat.le_of_ble_eq_true rfl, Nat.le_of_ble_eq_true rfl⟩) (mpV_13 hZ hT hS hW tz_64 _) rfl rfl hl.1 rfl (lv_room (Nat.le_of_ble_eq_true rfl)) dX13_image_1 ⟨Nat.zero_le _, Nat.zero_le _⟩) (fun σ_1 H locs hf hW hS => ?_)
  refine lv_aload_n hx hb dX13_image_4 rfl (lv_at hl 0 rfl) ?_
  refine gf_13_14 hx hb htg (htg _ lf_X13_179) hown hZ hW tz_64 dX13_image_5 ?_
  refine lv_if_ne (tgt := 17) hx hb dX13_image_8 (by decide) (fun hc => ?_) (fun hc => ?_)
  · have hf := iff_ hc hf
    refine lv_aload_n hx hb dX13_image_17 rfl (lv_at hl 0 rfl) ?_
    refine gf_13_21 hx hb htg (htg _ lf_X13_185) hown hZ hW tz_64 dX13_image_18 ?_
    refine lv_iconst (v := 3) hx hb dX13_image_21 (by decide) ?_
    refine lv_icmp_ne (tgt := 31) hx hb dX13_image_22 (by decide) (fun hc => ?_) (fun hc => ?_)
    · have hf := iff_ hc hf
      refine lv_aload_n hx hb dX13_image_31 rfl (lv_at hl 0 rfl) ?_
      refine gf_13_17 hx hb htg (htg _ lf_X13_26) hown hZ hW tz_64 dX13_image_32 ?_
      refine lv_iconst (v := 0) hx hb dX13_image_35 (by decide) ?_
      refine lv_aload_n hx hb dX13_image_36 rfl (lv_at hl 0 rfl) ?_
      refine gf_13_19 hx hb htg (htg _ lf_X13_32) hown hZ hW tz_64 dX13_image_37 ?_
      refine lv_bipush (v := 80) hx hb dX13_image_40 (by decide) ?_
      refine lv_aload_n hx hb dX13_image_42 rfl (lv_at hl 0 rfl) ?_
      refine gf_13_21 hx hb htg (htg _ lf_X13_185) hown hZ hW tz_64 dX13_image_43 ?_
      refine lv_imul hx hb dX13_image_46 ?_
      refine lv_bipush (v := 80) hx hb dX13_image_47 (by decide) ?_
      refine mcv hf hS (fun τ h => va_runS (As := [.ref (bs g 69), .int 0, .ref (bs g 71), .int (80 * (σ_1.1 64 21)), .int 80]) (rest := []) ⟨hx, hb, hml, hown, hts⟩ (c_X13_copy g l 0 81 σ_1 69 0 71 (80 * (σ_1.1 64 21)) 80 tz_69 tz_71 τ h) (cl_X13_175 hts ⟨Nat.le_of_ble_eq_true rfl, Nat.le_of_ble_eq_true rfl⟩) (mpS hZ hT hS hW _) rfl rfl hl.1 rfl (lv_room (Nat.le_of_ble_eq_true rfl)) dX13_image_49 ⟨Nat.zero_le _, Nat.zero_le _⟩) (fun σ_2 H locs hf hW hS => ?_)
      refine lv_aload_n hx hb dX13_image_52 rfl (lv_at hl 0 rfl) ?_
      refine lv_dup hx hb dX13_image_53 rfl ?_
      refine gf_13_21 hx hb htg (htg _ lf_X13_185) hown hZ hW tz_64 dX13_image_54 ?_
      refine lv_iconst (v := 1) hx hb dX13_image_57 (by decide) ?_
      refine lv_iadd hx hb dX13_image_58 ?_
      refine pf_13_21 hx hb htg (htg _ lf_X13_185) hown hZ hW hS tz_64 dX13_image_59 hf (fun σ_3 H locs hf hW hS => ?_)
      refine lv_aload_n hx hb dX13_image_62 rfl (lv_at hl 0 rfl) ?_
      refine gf_13_21 hx hb htg (htg _ lf_X13_185) hown hZ hW tz_64 dX13_image_63 ?_
      refine lv_iconst (v := 1) hx hb dX13_image_66 (by decide) ?_
      refine lv_isub hx hb dX13_image_67 ?_
      subst hQ
      exact mri hx hb hr hlocks hZ hT hS hW (pr1 hf) dX13_image_68
    · have hf := ift hc hf
      refine lv_aload_n hx hb dX13_image_25 rfl (lv_at hl 0 rfl) ?_
      refine lv_iconst (v := 3) hx hb dX13_image_26 (by decide) ?_
      refine mci hf hS (fun r τ h => va_runV (As := [.int 3]) (rest := []) ⟨hx, hb, hml, hown, hts⟩ (c_X13_no g l σ_1 3 r τ h) (cl_X13_169 hts ⟨Nat.le_of_ble_eq_true rfl, Nat.le_of_ble_eq_true rfl⟩) (mpV_13 hZ hT hS hW tz_64 _) rfl rfl hl.1 rfl (lv_room (Nat.le_of_ble_eq_true rfl)) dX13_image_27 ⟨Nat.zero_le _, Nat.zero_le _⟩) (fun r_4 σ_5 H locs hf hW hS => ?_)
      subst hQ
      exact mri hx hb hr hlocks hZ hT hS hW (pr1 hf) dX13_image_30
  · have hf := ift hc hf
    refine lv_aload_n hx hb dX13_image_11 rfl (lv_at hl 0 rfl) ?_
    refine lv_iconst (v := 1) hx hb dX13_image_12 (by decide) ?_
    refine mci hf hS (fun r τ h => va_runV (As := [.int 1]) (rest := []) ⟨hx, hb, hml, hown, hts⟩ (c_X13_no g l σ_1 1 r τ h) (cl_X13_169 hts ⟨Nat.le_of_ble_eq_true rfl, Nat.le_of_ble_eq_true rfl⟩) (mpV_13 hZ hT hS hW tz_64 _) rfl rfl hl.1 rfl (lv_room (Nat.le_of_ble_eq_true rfl)) dX13_image_13 ⟨Nat.zero_le _, Nat.zero_le _⟩) (fun r_6 σ_7 H locs hf hW hS => ?_)
    subst hQ
    exact mri hx hb hr hlocks hZ hT hS hW (pr1 hf) dX13_image_16
def f_X13_back (σ : Mem) (a1 : Int32) : Option (Int32 × Mem) :=
  bd1 (f_X13_good σ) (fun (σ_1 : Mem) => bd1 (f_X13_in a1 0 ((σ_1.1 64 21) - 1)) (fun (r_2 : Int32) => (if r_2 = 0 then bd2 (f_X13_isNot σ_1 1) (fun (r_5 : Int32) (σ_6 : Mem) => zrm r_5 σ_6) else bd1 (f_X13_copy σ_1 71 (80 * a1) 69 0 80) (fun (σ_3 : Mem) => nm (sI σ_3 64 20 0) (fun (σ_4 : Mem) => some (1, σ_4))))))
set_option maxHeartbeats 4000000 in
set_option maxRecDepth 100000 in
theorem c_X13_back (g : XG) (l : Launch) (σ : Mem) (a1 : Int32) (r : Int32) (τ : Mem) (hf : f_X13_back σ a1 = some (r, τ)) : Met l yX13_back (wx (.code yX13_back cX13_back 2 (some .boolean))) (kr 1 25) (va_Pc [.ref (bs g 64), .int a1] (WS g 0 81 σ)) (Qi' g 0 81 r τ) 0 0 (Ag g 0) := by
  refine Met.ofW (cc := cX13_back) (maxL := 2) (ret := (some .boolean)) (by decide) rfl ?_
  intro p e s m args below meth c s₁ B hml hv
  obtain ⟨rfl, hZ, hT, hW⟩ := hv
  have hx := B.exec
  have hb := B.bytes
  have hr := B.returns
  have hts : ∀ w ∈ wx (.code yX13_back cX13_back 2 (some .boolean)), w.before _ s = true := atoms_spec B.pre
  have htg : ∀ w ∈ lwg, w.before _ s = true := fun w h => hts w (List.mem_cons_of_mem _ h)
  have hown : s.vm.findClass RX13 = some m.cls := findClass_of_methodNamed B.named
  have hlocks := B.notSynchronized
  change W p l e (kr 1 25) s m (List.toArray [.ref (bs g 64), .int a1]) below meth c s.heap [] 0 0 (MQ below (Qi' g 0 81 r τ) (List.toArray [.ref (bs g 64), .int a1]) s 0 0 (Ag g 0)) _
  generalize hQ : MQ below (Qi' g 0 81 r τ) (List.toArray [.ref (bs g 64), .int a1]) s 0 0 (Ag g 0) = Q
  have hS : va_S (Ag g 0) s.heap s.heap [] := va_S.rf
  have hl := lv_entry ([.ref (bs g 64), .int a1]) (n := 2) (Nat.le_of_ble_eq_true rfl)
  rw [lg_entry_eq]
  generalize (lg_sl ([.ref (bs g 64), .int a1]) ++ List.replicate (2 - (lg_sl ([.ref (bs g 64), .int a1])).length) Slot.unset).toArray = ls at hl ⊢
  have hl : lv_has ls 2 [(0, .ref (bs g 64)), (1, .int a1)] := hl
  delta f_X13_back at hf
  obtain ⟨H, hH⟩ : ∃ H, H = s.heap := ⟨_, rfl⟩
  obtain ⟨locs, hLc⟩ : ∃ z : List Loc, z = [] := ⟨_, rfl⟩
  have hS : va_S (Ag g 0) s.heap H locs := by rw [hH, hLc]; exact hS
  have hW : Wd g 0 81 σ H := by rw [hH]; exact hW
  suffices hG : W p l e (kr 1 25) s m (List.toArray [.ref (bs g 64), .int a1]) below meth c H locs 0 0 Q (F0 m 0 ls []) by rw [hH, hLc] at hG; exact hG
  clear hH hLc
  refine lv_aload_n hx hb dX13_back_0 rfl (lv_at hl 0 rfl) ?_
  refine mcv hf hS (fun τ h => va_runV (As := []) (rest := []) ⟨hx, hb, hml, hown, hts⟩ (c_X13_good g l σ τ h) (cl_X13_166 hts ⟨Nat.le_of_ble_eq_true rfl, Nat.le_of_ble_eq_true rfl⟩) (mpV_13 hZ hT hS hW tz_64 _) rfl rfl hl.1 rfl (lv_room (Nat.le_of_ble_eq_true rfl)) dX13_back_1 ⟨Nat.zero_le _, Nat.zero_le _⟩) (fun σ_1 H locs hf hW hS => ?_)
  refine lv_iload_n hx hb dX13_back_4 rfl (lv_at hl 1 rfl) ?_
  refine lv_iconst (v := 0) hx hb dX13_back_5 (by decide) ?_
  refine lv_aload_n hx hb dX13_back_6 rfl (lv_at hl 0 rfl) ?_
  refine gf_13_21 hx hb htg (htg _ lf_X13_185) hown hZ hW tz_64 dX13_back_7 ?_
  refine lv_iconst (v := 1) hx hb dX13_back_10 (by decide) ?_
  refine lv_isub hx hb dX13_back_11 ?_
  refine mcip hf hS (fun r h => va_runS (As := [.int a1, .int 0, .int ((σ_1.1 64 21) - 1)]) (rest := []) ⟨hx, hb, hml, hown, hts⟩ (c_X13_in g l 0 81 σ_1 a1 0 ((σ_1.1 64 21) - 1) r h) (cl_X13_151 hts ⟨Nat.le_of_ble_eq_true rfl, Nat.le_of_ble_eq_true rfl⟩) (mpS hZ hT hS hW _) rfl rfl hl.1 rfl (lv_room (Nat.le_of_ble_eq_true rfl)) dX13_back_12 ⟨Nat.zero_le _, Nat.zero_le _⟩) (fun r_2 H locs hf hW hS => ?_)
  refine lv_if_ne (tgt := 24) hx hb dX13_back_15 (by decide) (fun hc => ?_) (fun hc => ?_)
  · have hf := iff_ hc hf
    refine lv_aload_n hx hb dX13_back_24 rfl (lv_at hl 0 rfl) ?_
    refine gf_13_19 hx hb htg (htg _ lf_X13_32) hown hZ hW tz_64 dX13_back_25 ?_
    refine lv_bipush (v := 80) hx hb dX13_back_28 (by decide) ?_
    refine lv_iload_n hx hb dX13_back_30 rfl (lv_at hl 1 rfl) ?_
    refine lv_imul hx hb dX13_back_31 ?_
    refine lv_aload_n hx hb dX13_back_32 rfl (lv_at hl 0 rfl) ?_
    refine gf_13_17 hx hb htg (htg _ lf_X13_26) hown hZ hW tz_64 dX13_back_33 ?_
    refine lv_iconst (v := 0) hx hb dX13_back_36 (by decide) ?_
    refine lv_bipush (v := 80) hx hb dX13_back_37 (by decide) ?_
    refine mcv hf hS (fun τ h => va_runS (As := [.ref (bs g 71), .int (80 * a1), .ref (bs g 69), .int 0, .int 80]) (rest := []) ⟨hx, hb, hml, hown, hts⟩ (c_X13_copy g l 0 81 σ_1 71 (80 * a1) 69 0 80 tz_71 tz_69 τ h) (cl_X13_175 hts ⟨Nat.le_of_ble_eq_true rfl, Nat.le_of_ble_eq_true rfl⟩) (mpS hZ hT hS hW _) rfl rfl hl.1 rfl (lv_room (Nat.le_of_ble_eq_true rfl)) dX13_back_39 ⟨Nat.zero_le _, Nat.zero_le _⟩) (fun σ_3 H locs hf hW hS => ?_)
    refine lv_aload_n hx hb dX13_back_42 rfl (lv_at hl 0 rfl) ?_
    refine lv_iconst (v := 0) hx hb dX13_back_43 (by decide) ?_
    refine pf_13_20 hx hb htg (htg _ lf_X13_182) hown hZ hW hS tz_64 dX13_back_44 hf (fun σ_4 H locs hf hW hS => ?_)
    refine lv_iconst (v := 1) hx hb dX13_back_47 (by decide) ?_
    subst hQ
    exact mrz hx hb hr hlocks hZ hT hS hW (by decide) (pr1 hf) dX13_back_48
  · have hf := ift hc hf
    refine lv_aload_n hx hb dX13_back_18 rfl (lv_at hl 0 rfl) ?_
    refine lv_iconst (v := 1) hx hb dX13_back_19 (by decide) ?_
    refine mci hf hS (fun r τ h => va_runV (As := [.int 1]) (rest := []) ⟨hx, hb, hml, hown, hts⟩ (c_X13_isNot g l σ_1 1 r τ h) (cl_X13_404 hts ⟨Nat.le_of_ble_eq_true rfl, Nat.le_of_ble_eq_true rfl⟩) (mpV_13 hZ hT hS hW tz_64 _) rfl rfl hl.1 rfl (lv_room (Nat.le_of_ble_eq_true rfl)) dX13_back_20 ⟨Nat.zero_le _, Nat.zero_le _⟩) (fun r_5 σ_6 H locs hf hW hS => ?_)
    subst hQ
    exact mrz hx hb hr hlocks hZ hT hS hW (zrm_s hf).1 (zrm_s hf).2 dX13_back_23
def f_X13_led (σ : Mem) (a1 : Int32) : Option (Int32 × Mem) :=
  fx2 FU (fun k_3 (i_1 : Int32) (i_2 : Int32) => jn0 (nm (sI σ 64 0 1) (fun (σ_5 : Mem) => some (0, σ_5))) (fun k_4 => (if (σ.1 64 14) = 0 then k_4 else ixd 4 (aln 67) ((if (σ.1 67 (4 : Int32).toNatClampNeg) ≤ i_2 then k_4 else ixd 79 (aln 69) (bd1 (f_X13_doesKnow σ i_2 (σ.1 69 (79 : Int32).toNatClampNeg)) (fun (r_6 : Int32) => jn1 (fun (i_7 : Int32) => nm (i_2 + 1) (fun (x_9 : Int32) => k_3 i_7 x_9)) (fun k_8 => (if r_6 = 0 then (if i_1 = a1 then nm (sI σ 64 0 0) (fun (σ_13 : Mem) => some (i_2, σ_13)) else nm (i_1 + 1) (fun (x_11 : Int32) => k_8 x_11)) else k_8 i_1))))))))) 0 0
set_option maxHeartbeats 4000000 in
set_option maxRecDepth 100000 in
theorem c_X13_led (g : XG) (l : Launch) (σ : Mem) (a1 : Int32) (r : Int32) (τ : Mem) (hf : f_X13_led σ a1 = some (r, τ)) : Met l yX13_led (wx (.code yX13_led cX13_led 4 (some .int))) (kr 5 115) (va_Pc [.ref (bs g 64), .int a1] (WS g 0 81 σ)) (Qi' g 0 81 r τ) 0 0 (Ag g 0) := by
  refine Met.ofW (cc := cX13_led) (maxL := 4) (ret := (some .int)) (by decide) rfl ?_
  intro p e s m args below meth c s₁ B hml hv
  obtain ⟨rfl, hZ, hT, hW⟩ := hv
  have hx := B.exec
  have hb := B.bytes
  have hr := B.returns
  have hts : ∀ w ∈ wx (.code yX13_led cX13_led 4 (some .int)), w.before _ s = true := atoms_spec B.pre
  have htg : ∀ w ∈ lwg, w.before _ s = true := fun w h => hts w (List.mem_cons_of_mem _ h)
  have hown : s.vm.findClass RX13 = some m.cls := findClass_of_methodNamed B.named
  have hlocks := B.notSynchronized
  change W p l e (kr 5 115) s m (List.toArray [.ref (bs g 64), .int a1]) below meth c s.heap [] 0 0 (MQ below (Qi' g 0 81 r τ) (List.toArray [.ref (bs g 64), .int a1]) s 0 0 (Ag g 0)) _
  generalize hQ : MQ below (Qi' g 0 81 r τ) (List.toArray [.ref (bs g 64), .int a1]) s 0 0 (Ag g 0) = Q
  have hS : va_S (Ag g 0) s.heap s.heap [] := va_S.rf
  have hl := lv_entry ([.ref (bs g 64), .int a1]) (n := 4) (Nat.le_of_ble_eq_true rfl)
  rw [lg_entry_eq]
  generalize (lg_sl ([.ref (bs g 64), .int a1]) ++ List.replicate (4 - (lg_sl ([.ref (bs g 64), .int a1])).length) Slot.unset).toArray = ls at hl ⊢
  have hl : lv_has ls 4 [(0, .ref (bs g 64)), (1, .int a1)] := hl
  delta f_X13_led at hf
  obtain ⟨H, hH⟩ : ∃ H, H = s.heap := ⟨_, rfl⟩
  obtain ⟨locs, hLc⟩ : ∃ z : List Loc, z = [] := ⟨_, rfl⟩
  have hS : va_S (Ag g 0) s.heap H locs := by rw [hH, hLc]; exact hS
  have hW : Wd g 0 81 σ H := by rw [hH]; exact hW
  suffices hG : W p l e (kr 5 115) s m (List.toArray [.ref (bs g 64), .int a1]) below meth c H locs 0 0 Q (F0 m 0 ls []) by rw [hH, hLc] at hG; exact hG
  clear hH hLc
  refine lv_iconst (v := 0) hx hb dX13_led_0 (by decide) ?_
  refine lv_istore_n (lv' := [(2, .int 0), (0, .ref (bs g 64)), (1, .int a1)]) hx hb dX13_led_1 rfl hl (by decide) rfl (fun ls hl => ?_)
  refine lv_iconst (v := 0) hx hb dX13_led_2 (by decide) ?_
  refine lv_istore_n (lv' := [(3, .int 0), (2, .int 0), (0, .ref (bs g 64)), (1, .int a1)]) hx hb dX13_led_3 rfl hl (by decide) rfl (fun ls hl => ?_)
  refine fx2_W (fun (i_1 : Int32) (i_2 : Int32) => ∀ (H : Heap) (locs : List Loc) (ls : Array Slot), Wd g 0 81 σ H → va_S (Ag g 0) s.heap H locs → lv_has ls 4 [(0, .ref (bs g 64)), (1, .int a1), (2, .int i_1), (3, .int i_2)] → W p l e (kr 5 115) s m (List.toArray [.ref (bs g 64), .int a1]) below meth c H locs 0 0 Q (F0 m 4 ls [])) (fun k_3 hk_3 i_1 i_2 hf => ?_) FU 0 0 hf H locs ls hW hS (lv_sub hl [2, 3, 1, 0] rfl)
  intro H locs ls hW hS hl
  refine lv_aload_n hx hb dX13_led_4 rfl (lv_at hl 0 rfl) ?_
  refine gf_13_14 hx hb htg (htg _ lf_X13_179) hown hZ hW tz_64 dX13_led_5 ?_
  refine jn0_W (∀ (H : Heap) (locs : List Loc) (ls : Array Slot), Wd g 0 81 σ H → va_S (Ag g 0) s.heap H locs → lv_has ls 4 [(0, .ref (bs g 64))] → W p l e (kr 5 115) s m (List.toArray [.ref (bs g 64), .int a1]) below meth c H locs 0 0 Q (F0 m 60 ls [])) hf (fun  hf => ?_) (fun k_4 hk_4 hf => ?_)
  · intro H locs ls hW hS hl
    refine lv_aload_n hx hb dX13_led_60 rfl (lv_at hl 0 rfl) ?_
    refine lv_iconst (v := 1) hx hb dX13_led_61 (by decide) ?_
    refine pf_13_0 hx hb htg (htg _ lf_X13_59) hown hZ hW hS tz_64 dX13_led_62 hf (fun σ_5 H locs hf hW hS => ?_)
    refine lv_iconst (v := 0) hx hb dX13_led_65 (by decide) ?_
    subst hQ
    exact mri hx hb hr hlocks hZ hT hS hW (pr1 hf) dX13_led_66
  · refine lv_if_eq (tgt := 60) hx hb dX13_led_8 (by decide) (fun hc => ?_) (fun hc => ?_)
    · have hf := ift hc hf
      exact hk_4  hf H locs ls hW hS (lv_sub hl [0] rfl)
    · have hf := iff_ hc hf
      refine lv_iload_n hx hb dX13_led_11 rfl (lv_at hl 3 rfl) ?_
      refine lv_aload_n hx hb dX13_led_12 rfl (lv_at hl 0 rfl) ?_
      refine gf_13_15 hx hb htg (htg _ lf_X13_20) hown hZ hW tz_64 dX13_led_13 ?_
      refine lv_iconst (v := 4) hx hb dX13_led_16 (by decide) ?_
      refine mld_i hx hb hZ hW tz_67 hf dX13_led_17 (fun hf => ?_)
      refine lv_icmp_ge (tgt := 60) hx hb dX13_led_18 (by decide) (fun hc => ?_) (fun hc => ?_)
      · have hf := ift hc hf
        exact hk_4  hf H locs ls hW hS (lv_sub hl [0] rfl)
      · have hf := iff_ hc hf
        refine lv_aload_n hx hb dX13_led_21 rfl (lv_at hl 0 rfl) ?_
        refine lv_iload_n hx hb dX13_led_22 rfl (lv_at hl 3 rfl) ?_
        refine lv_aload_n hx hb dX13_led_23 rfl (lv_at hl 0 rfl) ?_
        refine gf_13_17 hx hb htg (htg _ lf_X13_26) hown hZ hW tz_64 dX13_led_24 ?_
        refine lv_bipush (v := 79) hx hb dX13_led_27 (by decide) ?_
        refine mld_i hx hb hZ hW tz_69 hf dX13_led_29 (fun hf => ?_)
        refine mcip hf hS (fun r h => va_runV (As := [.int i_2, .int (σ.1 69 (79 : Int32).toNatClampNeg)]) (rest := []) ⟨hx, hb, hml, hown, hts⟩ (c_X13_doesKnow g l σ i_2 (σ.1 69 (79 : Int32).toNatClampNeg) r h) (cl_X13_291 hts ⟨Nat.le_of_ble_eq_true rfl, Nat.le_of_ble_eq_true rfl⟩) (mpV_13 hZ hT hS hW tz_64 _) rfl rfl hl.1 rfl (lv_room (Nat.le_of_ble_eq_true rfl)) dX13_led_30 ⟨Nat.zero_le _, Nat.zero_le _⟩) (fun r_6 H locs hf hW hS => ?_)
        refine jn1_W (fun (i_7 : Int32) => ∀ (H : Heap) (locs : List Loc) (ls : Array Slot), Wd g 0 81 σ H → va_S (Ag g 0) s.heap H locs → lv_has ls 4 [(0, .ref (bs g 64)), (1, .int a1), (2, .int i_7), (3, .int i_2)] → W p l e (kr 5 115) s m (List.toArray [.ref (bs g 64), .int a1]) below meth c H locs 0 0 Q (F0 m 54 ls [])) hf (fun i_7 hf => ?_) (fun k_8 hk_8 hf => ?_)
        · intro H locs ls hW hS hl
          obtain ⟨x_9, e_10, hf⟩ := nm_s hf
          refine lv_iinc (v := x_9) (lv' := [(3, .int x_9), (0, .ref (bs g 64)), (1, .int a1), (2, .int i_7)]) hx hb dX13_led_54 hl (k := 3) rfl (by rw [e_10]; rfl) (by decide) rfl (fun ls hl => ?_)
          refine lv_goto (tgt := 4) hx hb dX13_led_57 (by decide) ?_
          exact hk_3 i_7 x_9 hf H locs ls hW hS (lv_sub hl [1, 2, 3, 0] rfl)
        · refine lv_if_eq (tgt := 39) hx hb dX13_led_33 (by decide) (fun hc => ?_) (fun hc => ?_)
          · have hf := ift hc hf
            refine lv_iload_n hx hb dX13_led_39 rfl (lv_at hl 2 rfl) ?_
            refine lv_iload_n hx hb dX13_led_40 rfl (lv_at hl 1 rfl) ?_
            refine lv_icmp_ne (tgt := 51) hx hb dX13_led_41 (by decide) (fun hc => ?_) (fun hc => ?_)
            · have hf := iff_ hc hf
              obtain ⟨x_11, e_12, hf⟩ := nm_s hf
              refine lv_iinc (v := x_11) (lv' := [(2, .int x_11), (0, .ref (bs g 64)), (1, .int a1), (3, .int i_2)]) hx hb dX13_led_51 hl (k := 2) rfl (by rw [e_12]; rfl) (by decide) rfl (fun ls hl => ?_)
              exact hk_8 x_11 hf H locs ls hW hS (lv_sub hl [1, 2, 0, 3] rfl)
            · have hf := ift hc hf
              refine lv_aload_n hx hb dX13_led_44 rfl (lv_at hl 0 rfl) ?_
              refine lv_iconst (v := 0) hx hb dX13_led_45 (by decide) ?_
              refine pf_13_0 hx hb htg (htg _ lf_X13_59) hown hZ hW hS tz_64 dX13_led_46 hf (fun σ_13 H locs hf hW hS => ?_)
              refine lv_iload_n hx hb dX13_led_49 rfl (lv_at hl 3 rfl) ?_
              subst hQ
              exact mri hx hb hr hlocks hZ hT hS hW (pr1 hf) dX13_led_50
          · have hf := iff_ hc hf
            refine lv_goto (tgt := 54) hx hb dX13_led_36 (by decide) ?_
            exact hk_8 i_1 hf H locs ls hW hS (lv_sub hl [0, 1, 2, 3] rfl)
def f_X13_visitsNow (σ : Mem)  : Option (Int32) :=
  fx2 FU (fun k_3 (i_1 : Int32) (i_2 : Int32) => (if 30 ≤ i_2 then some i_1 else ixd i_2 (aln 69) (jn1 (fun (i_4 : Int32) => nm (i_1 + i_4) (fun (x_6 : Int32) => nm (i_2 + 1) (fun (x_7 : Int32) => k_3 x_6 x_7))) (fun k_5 => (if (σ.1 69 i_2.toNatClampNeg) ≤ 0 then k_5 0 else k_5 1))))) 0 0
set_option maxHeartbeats 4000000 in
set_option maxRecDepth 100000 in
theorem c_X13_visitsNow (g : XG) (l : Launch) (σ : Mem) (r : Int32) (hf : f_X13_visitsNow σ = some r) : Met l yX13_visitsNow (wx (.code yX13_visitsNow cX13_visitsNow 3 (some .int))) (kr 0 0) (va_Pc [.ref (bs g 64)] (WS g 0 81 σ)) (Qi' g 0 81 r σ) 0 0 (Ag g 0) := by
  refine Met.ofW (cc := cX13_visitsNow) (maxL := 3) (ret := (some .int)) (by decide) rfl ?_
  intro p e s m args below meth c s₁ B hml hv
  obtain ⟨rfl, hZ, hT, hW⟩ := hv
  have hx := B.exec
  have hb := B.bytes
  have hr := B.returns
  have hts : ∀ w ∈ wx (.code yX13_visitsNow cX13_visitsNow 3 (some .int)), w.before _ s = true := atoms_spec B.pre
  have htg : ∀ w ∈ lwg, w.before _ s = true := fun w h => hts w (List.mem_cons_of_mem _ h)
  have hown : s.vm.findClass RX13 = some m.cls := findClass_of_methodNamed B.named
  have hlocks := B.notSynchronized
  change W p l e (kr 0 0) s m (List.toArray [.ref (bs g 64)]) below meth c s.heap [] 0 0 (MQ below (Qi' g 0 81 r σ) (List.toArray [.ref (bs g 64)]) s 0 0 (Ag g 0)) _
  generalize hQ : MQ below (Qi' g 0 81 r σ) (List.toArray [.ref (bs g 64)]) s 0 0 (Ag g 0) = Q
  have hS : va_S (Ag g 0) s.heap s.heap [] := va_S.rf
  have hl := lv_entry ([.ref (bs g 64)]) (n := 3) (Nat.le_of_ble_eq_true rfl)
  rw [lg_entry_eq]
  generalize (lg_sl ([.ref (bs g 64)]) ++ List.replicate (3 - (lg_sl ([.ref (bs g 64)])).length) Slot.unset).toArray = ls at hl ⊢
  have hl : lv_has ls 3 [(0, .ref (bs g 64))] := hl
  delta f_X13_visitsNow at hf
  obtain ⟨H, hH⟩ : ∃ H, H = s.heap := ⟨_, rfl⟩
  obtain ⟨locs, hLc⟩ : ∃ z : List Loc, z = [] := ⟨_, rfl⟩
  have hS : va_S (Ag g 0) s.heap H locs := by rw [hH, hLc]; exact hS
  have hW : Wd g 0 81 σ H := by rw [hH]; exact hW
  suffices hG : W p l e (kr 0 0) s m (List.toArray [.ref (bs g 64)]) below meth c H locs 0 0 Q (F0 m 0 ls []) by rw [hH, hLc] at hG; exact hG
  clear hH hLc
  refine lv_iconst (v := 0) hx hb dX13_visitsNow_0 (by decide) ?_
  refine lv_istore_n (lv' := [(1, .int 0), (0, .ref (bs g 64))]) hx hb dX13_visitsNow_1 rfl hl (by decide) rfl (fun ls hl => ?_)
  refine lv_iconst (v := 0) hx hb dX13_visitsNow_2 (by decide) ?_
  refine lv_istore_n (lv' := [(2, .int 0), (1, .int 0), (0, .ref (bs g 64))]) hx hb dX13_visitsNow_3 rfl hl (by decide) rfl (fun ls hl => ?_)
  refine fx2_W (fun (i_1 : Int32) (i_2 : Int32) => ∀ (H : Heap) (locs : List Loc) (ls : Array Slot), Wd g 0 81 σ H → va_S (Ag g 0) s.heap H locs → lv_has ls 3 [(0, .ref (bs g 64)), (1, .int i_1), (2, .int i_2)] → W p l e (kr 0 0) s m (List.toArray [.ref (bs g 64)]) below meth c H locs 0 0 Q (F0 m 4 ls [])) (fun k_3 hk_3 i_1 i_2 hf => ?_) FU 0 0 hf H locs ls hW hS (lv_sub hl [2, 1, 0] rfl)
  intro H locs ls hW hS hl
  refine lv_iload_n hx hb dX13_visitsNow_4 rfl (lv_at hl 2 rfl) ?_
  refine lv_bipush (v := 30) hx hb dX13_visitsNow_5 (by decide) ?_
  refine lv_icmp_ge (tgt := 33) hx hb dX13_visitsNow_7 (by decide) (fun hc => ?_) (fun hc => ?_)
  · have hf := ift hc hf
    refine lv_iload_n hx hb dX13_visitsNow_33 rfl (lv_at hl 1 rfl) ?_
    subst hQ
    exact mri hx hb hr hlocks hZ hT hS hW ⟨Option.some.inj hf, rfl⟩ dX13_visitsNow_34
  · have hf := iff_ hc hf
    refine lv_iload_n hx hb dX13_visitsNow_10 rfl (lv_at hl 1 rfl) ?_
    refine lv_aload_n hx hb dX13_visitsNow_11 rfl (lv_at hl 0 rfl) ?_
    refine gf_13_17 hx hb htg (htg _ lf_X13_26) hown hZ hW tz_64 dX13_visitsNow_12 ?_
    refine lv_iload_n hx hb dX13_visitsNow_15 rfl (lv_at hl 2 rfl) ?_
    refine mld_i hx hb hZ hW tz_69 hf dX13_visitsNow_16 (fun hf => ?_)
    refine jn1_W (fun (i_4 : Int32) => ∀ (H : Heap) (locs : List Loc) (ls : Array Slot), Wd g 0 81 σ H → va_S (Ag g 0) s.heap H locs → lv_has ls 3 [(0, .ref (bs g 64)), (2, .int i_2)] → W p l e (kr 0 0) s m (List.toArray [.ref (bs g 64)]) below meth c H locs 0 0 Q (F0 m 25 ls [.int i_4, .int i_1])) hf (fun i_4 hf => ?_) (fun k_5 hk_5 hf => ?_)
    · intro H locs ls hW hS hl
      refine lv_iadd hx hb dX13_visitsNow_25 ?_
      refine mnmi hf (fun (x_6 : Int32) hf => ?_)
      refine lv_istore_n (lv' := [(1, .int x_6), (0, .ref (bs g 64)), (2, .int i_2)]) hx hb dX13_visitsNow_26 rfl hl (by decide) rfl (fun ls hl => ?_)
      obtain ⟨x_7, e_8, hf⟩ := nm_s hf
      refine lv_iinc (v := x_7) (lv' := [(2, .int x_7), (1, .int x_6), (0, .ref (bs g 64))]) hx hb dX13_visitsNow_27 hl (k := 2) rfl (by rw [e_8]; rfl) (by decide) rfl (fun ls hl => ?_)
      refine lv_goto (tgt := 4) hx hb dX13_visitsNow_30 (by decide) ?_
      exact hk_3 x_6 x_7 hf H locs ls hW hS (lv_sub hl [2, 1, 0] rfl)
    · refine lv_if_le (tgt := 24) hx hb dX13_visitsNow_17 (by decide) (fun hc => ?_) (fun hc => ?_)
      · have hf := ift hc hf
        refine lv_iconst (v := 0) hx hb dX13_visitsNow_24 (by decide) ?_
        exact hk_5 0 hf H locs ls hW hS (lv_sub hl [0, 2] rfl)
      · have hf := iff_ hc hf
        refine lv_iconst (v := 1) hx hb dX13_visitsNow_20 (by decide) ?_
        refine lv_goto (tgt := 25) hx hb dX13_visitsNow_21 (by decide) ?_
        exact hk_5 1 hf H locs ls hW hS (lv_sub hl [0, 2] rfl)
def f_X13_size (σ : Mem) (a1 : Int32) : Option (Int32 × Mem) :=
  nm (sI σ 64 0 0) (fun (σ_1 : Mem) => (if a1 = 14 then some (σ_1.1 64 2, σ_1) else (if (σ_1.1 64 14) = 0 then bd1 (f_X13_in a1 0 13) (fun (r_4 : Int32) => (if r_4 = 0 then some ((-1), σ_1) else some (0, σ_1))) else bd1 (f_X13_in a1 0 9) (fun (r_2 : Int32) => (if r_2 = 0 then (if a1 = 10 then ixd 79 (aln 69) (some (σ_1.1 69 (79 : Int32).toNatClampNeg, σ_1)) else (if a1 = 11 then ixd 78 (aln 69) (some (σ_1.1 69 (78 : Int32).toNatClampNeg, σ_1)) else (if a1 = 12 then some (σ_1.1 64 20, σ_1) else (if a1 = 13 then some (σ_1.1 64 21, σ_1) else some ((-1), σ_1))))) else (if a1 = 6 then bd1 (f_X13_visitsNow σ_1) (fun (r_3 : Int32) => some (r_3, σ_1)) else ixd a1 (aln 67) (some (σ_1.1 67 a1.toNatClampNeg, σ_1))))))))
set_option maxHeartbeats 4000000 in
set_option maxRecDepth 100000 in
theorem c_X13_size (g : XG) (l : Launch) (σ : Mem) (a1 : Int32) (r : Int32) (τ : Mem) (hf : f_X13_size σ a1 = some (r, τ)) : Met l yX13_size (wx (.code yX13_size cX13_size 2 (some .int))) (kr 1 22) (va_Pc [.ref (bs g 64), .int a1] (WS g 0 81 σ)) (Qi' g 0 81 r τ) 0 0 (Ag g 0) := by
  refine Met.ofW (cc := cX13_size) (maxL := 2) (ret := (some .int)) (by decide) rfl ?_
  intro p e s m args below meth c s₁ B hml hv
  obtain ⟨rfl, hZ, hT, hW⟩ := hv
  have hx := B.exec
  have hb := B.bytes
  have hr := B.returns
  have hts : ∀ w ∈ wx (.code yX13_size cX13_size 2 (some .int)), w.before _ s = true := atoms_spec B.pre
  have htg : ∀ w ∈ lwg, w.before _ s = true := fun w h => hts w (List.mem_cons_of_mem _ h)
  have hown : s.vm.findClass RX13 = some m.cls := findClass_of_methodNamed B.named
  have hlocks := B.notSynchronized
  change W p l e (kr 1 22) s m (List.toArray [.ref (bs g 64), .int a1]) below meth c s.heap [] 0 0 (MQ below (Qi' g 0 81 r τ) (List.toArray [.ref (bs g 64), .int a1]) s 0 0 (Ag g 0)) _
  generalize hQ : MQ below (Qi' g 0 81 r τ) (List.toArray [.ref (bs g 64), .int a1]) s 0 0 (Ag g 0) = Q
  have hS : va_S (Ag g 0) s.heap s.heap [] := va_S.rf
  have hl := lv_entry ([.ref (bs g 64), .int a1]) (n := 2) (Nat.le_of_ble_eq_true rfl)
  rw [lg_entry_eq]
  generalize (lg_sl ([.ref (bs g 64), .int a1]) ++ List.replicate (2 - (lg_sl ([.ref (bs g 64), .int a1])).length) Slot.unset).toArray = ls at hl ⊢
  have hl : lv_has ls 2 [(0, .ref (bs g 64)), (1, .int a1)] := hl
  delta f_X13_size at hf
  obtain ⟨H, hH⟩ : ∃ H, H = s.heap := ⟨_, rfl⟩
  obtain ⟨locs, hLc⟩ : ∃ z : List Loc, z = [] := ⟨_, rfl⟩
  have hS : va_S (Ag g 0) s.heap H locs := by rw [hH, hLc]; exact hS
  have hW : Wd g 0 81 σ H := by rw [hH]; exact hW
  suffices hG : W p l e (kr 1 22) s m (List.toArray [.ref (bs g 64), .int a1]) below meth c H locs 0 0 Q (F0 m 0 ls []) by rw [hH, hLc] at hG; exact hG
  clear hH hLc
  refine lv_aload_n hx hb dX13_size_0 rfl (lv_at hl 0 rfl) ?_
  refine lv_iconst (v := 0) hx hb dX13_size_1 (by decide) ?_
  refine pf_13_0 hx hb htg (htg _ lf_X13_59) hown hZ hW hS tz_64 dX13_size_2 hf (fun σ_1 H locs hf hW hS => ?_)
  refine lv_iload_n hx hb dX13_size_5 rfl (lv_at hl 1 rfl) ?_
  refine lv_bipush (v := 14) hx hb dX13_size_6 (by decide) ?_
  refine lv_icmp_ne (tgt := 16) hx hb dX13_size_8 (by decide) (fun hc => ?_) (fun hc => ?_)
  · have hf := iff_ hc hf
    refine lv_aload_n hx hb dX13_size_16 rfl (lv_at hl 0 rfl) ?_
    refine gf_13_14 hx hb htg (htg _ lf_X13_179) hown hZ hW tz_64 dX13_size_17 ?_
    refine lv_if_ne (tgt := 39) hx hb dX13_size_20 (by decide) (fun hc => ?_) (fun hc => ?_)
    · have hf := iff_ hc hf
      refine lv_iload_n hx hb dX13_size_39 rfl (lv_at hl 1 rfl) ?_
      refine lv_iconst (v := 0) hx hb dX13_size_40 (by decide) ?_
      refine lv_bipush (v := 9) hx hb dX13_size_41 (by decide) ?_
      refine mcip hf hS (fun r h => va_runS (As := [.int a1, .int 0, .int 9]) (rest := []) ⟨hx, hb, hml, hown, hts⟩ (c_X13_in g l 0 81 σ_1 a1 0 9 r h) (cl_X13_151 hts ⟨Nat.le_of_ble_eq_true rfl, Nat.le_of_ble_eq_true rfl⟩) (mpS hZ hT hS hW _) rfl rfl hl.1 rfl (lv_room (Nat.le_of_ble_eq_true rfl)) dX13_size_43 ⟨Nat.zero_le _, Nat.zero_le _⟩) (fun r_2 H locs hf hW hS => ?_)
      refine lv_if_eq (tgt := 69) hx hb dX13_size_46 (by decide) (fun hc => ?_) (fun hc => ?_)
      · have hf := ift hc hf
        refine lv_iload_n hx hb dX13_size_69 rfl (lv_at hl 1 rfl) ?_
        refine lv_bipush (v := 10) hx hb dX13_size_70 (by decide) ?_
        refine lv_icmp_ne (tgt := 85) hx hb dX13_size_72 (by decide) (fun hc => ?_) (fun hc => ?_)
        · have hf := iff_ hc hf
          refine lv_iload_n hx hb dX13_size_85 rfl (lv_at hl 1 rfl) ?_
          refine lv_bipush (v := 11) hx hb dX13_size_86 (by decide) ?_
          refine lv_icmp_ne (tgt := 101) hx hb dX13_size_88 (by decide) (fun hc => ?_) (fun hc => ?_)
          · have hf := iff_ hc hf
            refine lv_iload_n hx hb dX13_size_101 rfl (lv_at hl 1 rfl) ?_
            refine lv_bipush (v := 12) hx hb dX13_size_102 (by decide) ?_
            refine lv_icmp_ne (tgt := 114) hx hb dX13_size_104 (by decide) (fun hc => ?_) (fun hc => ?_)
            · have hf := iff_ hc hf
              refine lv_iload_n hx hb dX13_size_114 rfl (lv_at hl 1 rfl) ?_
              refine lv_bipush (v := 13) hx hb dX13_size_115 (by decide) ?_
              refine lv_icmp_ne (tgt := 127) hx hb dX13_size_117 (by decide) (fun hc => ?_) (fun hc => ?_)
              · have hf := iff_ hc hf
                refine lv_iconst (v := (-1)) hx hb dX13_size_127 (by decide) ?_
                subst hQ
                exact mri hx hb hr hlocks hZ hT hS hW (pr1 hf) dX13_size_128
              · have hf := ift hc hf
                refine lv_aload_n hx hb dX13_size_120 rfl (lv_at hl 0 rfl) ?_
                refine gf_13_21 hx hb htg (htg _ lf_X13_185) hown hZ hW tz_64 dX13_size_121 ?_
                refine lv_goto (tgt := 128) hx hb dX13_size_124 (by decide) ?_
                subst hQ
                exact mri hx hb hr hlocks hZ hT hS hW (pr1 hf) dX13_size_128
            · have hf := ift hc hf
              refine lv_aload_n hx hb dX13_size_107 rfl (lv_at hl 0 rfl) ?_
              refine gf_13_20 hx hb htg (htg _ lf_X13_182) hown hZ hW tz_64 dX13_size_108 ?_
              refine lv_goto (tgt := 128) hx hb dX13_size_111 (by decide) ?_
              subst hQ
              exact mri hx hb hr hlocks hZ hT hS hW (pr1 hf) dX13_size_128
          · have hf := ift hc hf
            refine lv_aload_n hx hb dX13_size_91 rfl (lv_at hl 0 rfl) ?_
            refine gf_13_17 hx hb htg (htg _ lf_X13_26) hown hZ hW tz_64 dX13_size_92 ?_
            refine lv_bipush (v := 78) hx hb dX13_size_95 (by decide) ?_
            refine mld_i hx hb hZ hW tz_69 hf dX13_size_97 (fun hf => ?_)
            refine lv_goto (tgt := 128) hx hb dX13_size_98 (by decide) ?_
            subst hQ
            exact mri hx hb hr hlocks hZ hT hS hW (pr1 hf) dX13_size_128
        · have hf := ift hc hf
          refine lv_aload_n hx hb dX13_size_75 rfl (lv_at hl 0 rfl) ?_
          refine gf_13_17 hx hb htg (htg _ lf_X13_26) hown hZ hW tz_64 dX13_size_76 ?_
          refine lv_bipush (v := 79) hx hb dX13_size_79 (by decide) ?_
          refine mld_i hx hb hZ hW tz_69 hf dX13_size_81 (fun hf => ?_)
          refine lv_goto (tgt := 128) hx hb dX13_size_82 (by decide) ?_
          subst hQ
          exact mri hx hb hr hlocks hZ hT hS hW (pr1 hf) dX13_size_128
      · have hf := iff_ hc hf
        refine lv_iload_n hx hb dX13_size_49 rfl (lv_at hl 1 rfl) ?_
        refine lv_bipush (v := 6) hx hb dX13_size_50 (by decide) ?_
        refine lv_icmp_ne (tgt := 62) hx hb dX13_size_52 (by decide) (fun hc => ?_) (fun hc => ?_)
        · have hf := iff_ hc hf
          refine lv_aload_n hx hb dX13_size_62 rfl (lv_at hl 0 rfl) ?_
          refine gf_13_15 hx hb htg (htg _ lf_X13_20) hown hZ hW tz_64 dX13_size_63 ?_
          refine lv_iload_n hx hb dX13_size_66 rfl (lv_at hl 1 rfl) ?_
          refine mld_i hx hb hZ hW tz_67 hf dX13_size_67 (fun hf => ?_)
          subst hQ
          exact mri hx hb hr hlocks hZ hT hS hW (pr1 hf) dX13_size_68
        · have hf := ift hc hf
          refine lv_aload_n hx hb dX13_size_55 rfl (lv_at hl 0 rfl) ?_
          refine mcip hf hS (fun r h => va_runV (As := []) (rest := []) ⟨hx, hb, hml, hown, hts⟩ (c_X13_visitsNow g l σ_1 r h) (cl_X13_410 hts ⟨Nat.le_of_ble_eq_true rfl, Nat.le_of_ble_eq_true rfl⟩) (mpV_13 hZ hT hS hW tz_64 _) rfl rfl hl.1 rfl (lv_room (Nat.le_of_ble_eq_true rfl)) dX13_size_56 ⟨Nat.zero_le _, Nat.zero_le _⟩) (fun r_3 H locs hf hW hS => ?_)
          refine lv_goto (tgt := 68) hx hb dX13_size_59 (by decide) ?_
          subst hQ
          exact mri hx hb hr hlocks hZ hT hS hW (pr1 hf) dX13_size_68
    · have hf := ift hc hf
      refine lv_iload_n hx hb dX13_size_23 rfl (lv_at hl 1 rfl) ?_
      refine lv_iconst (v := 0) hx hb dX13_size_24 (by decide) ?_
      refine lv_bipush (v := 13) hx hb dX13_size_25 (by decide) ?_
      refine mcip hf hS (fun r h => va_runS (As := [.int a1, .int 0, .int 13]) (rest := []) ⟨hx, hb, hml, hown, hts⟩ (c_X13_in g l 0 81 σ_1 a1 0 13 r h) (cl_X13_151 hts ⟨Nat.le_of_ble_eq_true rfl, Nat.le_of_ble_eq_true rfl⟩) (mpS hZ hT hS hW _) rfl rfl hl.1 rfl (lv_room (Nat.le_of_ble_eq_true rfl)) dX13_size_27 ⟨Nat.zero_le _, Nat.zero_le _⟩) (fun r_4 H locs hf hW hS => ?_)
      refine lv_if_eq (tgt := 37) hx hb dX13_size_30 (by decide) (fun hc => ?_) (fun hc => ?_)
      · have hf := ift hc hf
        refine lv_iconst (v := (-1)) hx hb dX13_size_37 (by decide) ?_
        subst hQ
        exact mri hx hb hr hlocks hZ hT hS hW (pr1 hf) dX13_size_38
      · have hf := iff_ hc hf
        refine lv_iconst (v := 0) hx hb dX13_size_33 (by decide) ?_
        refine lv_goto (tgt := 38) hx hb dX13_size_34 (by decide) ?_
        subst hQ
        exact mri hx hb hr hlocks hZ hT hS hW (pr1 hf) dX13_size_38
  · have hf := ift hc hf
    refine lv_aload_n hx hb dX13_size_11 rfl (lv_at hl 0 rfl) ?_
    refine gf_13_2 hx hb htg (htg _ lf_X13_65) hown hZ hW tz_64 dX13_size_12 ?_
    subst hQ
    exact mri hx hb hr hlocks hZ hT hS hW (pr1 hf) dX13_size_15
def f_X13_trouble (σ : Mem)  : Option (Int32 × Mem) :=
  nm (sI σ 64 0 0) (fun (σ_1 : Mem) => some (σ_1.1 64 11, σ_1))
set_option maxHeartbeats 4000000 in
set_option maxRecDepth 100000 in
theorem c_X13_trouble (g : XG) (l : Launch) (σ : Mem) (r : Int32) (τ : Mem) (hf : f_X13_trouble σ = some (r, τ)) : Met l yX13_trouble (wx (.code yX13_trouble cX13_trouble 1 (some .int))) (kr 0 0) (va_Pc [.ref (bs g 64)] (WS g 0 81 σ)) (Qi' g 0 81 r τ) 0 0 (Ag g 0) := by
  refine Met.ofW (cc := cX13_trouble) (maxL := 1) (ret := (some .int)) (by decide) rfl ?_
  intro p e s m args below meth c s₁ B hml hv
  obtain ⟨rfl, hZ, hT, hW⟩ := hv
  have hx := B.exec
  have hb := B.bytes
  have hr := B.returns
  have hts : ∀ w ∈ wx (.code yX13_trouble cX13_trouble 1 (some .int)), w.before _ s = true := atoms_spec B.pre
  have htg : ∀ w ∈ lwg, w.before _ s = true := fun w h => hts w (List.mem_cons_of_mem _ h)
  have hown : s.vm.findClass RX13 = some m.cls := findClass_of_methodNamed B.named
  have hlocks := B.notSynchronized
  change W p l e (kr 0 0) s m (List.toArray [.ref (bs g 64)]) below meth c s.heap [] 0 0 (MQ below (Qi' g 0 81 r τ) (List.toArray [.ref (bs g 64)]) s 0 0 (Ag g 0)) _
  generalize hQ : MQ below (Qi' g 0 81 r τ) (List.toArray [.ref (bs g 64)]) s 0 0 (Ag g 0) = Q
  have hS : va_S (Ag g 0) s.heap s.heap [] := va_S.rf
  have hl := lv_entry ([.ref (bs g 64)]) (n := 1) (Nat.le_of_ble_eq_true rfl)
  rw [lg_entry_eq]
  generalize (lg_sl ([.ref (bs g 64)]) ++ List.replicate (1 - (lg_sl ([.ref (bs g 64)])).length) Slot.unset).toArray = ls at hl ⊢
  have hl : lv_has ls 1 [(0, .ref (bs g 64))] := hl
  delta f_X13_trouble at hf
  obtain ⟨H, hH⟩ : ∃ H, H = s.heap := ⟨_, rfl⟩
  obtain ⟨locs, hLc⟩ : ∃ z : List Loc, z = [] := ⟨_, rfl⟩
  have hS : va_S (Ag g 0) s.heap H locs := by rw [hH, hLc]; exact hS
  have hW : Wd g 0 81 σ H := by rw [hH]; exact hW
  suffices hG : W p l e (kr 0 0) s m (List.toArray [.ref (bs g 64)]) below meth c H locs 0 0 Q (F0 m 0 ls []) by rw [hH, hLc] at hG; exact hG
  clear hH hLc
  refine lv_aload_n hx hb dX13_trouble_0 rfl (lv_at hl 0 rfl) ?_
  refine lv_iconst (v := 0) hx hb dX13_trouble_1 (by decide) ?_
  refine pf_13_0 hx hb htg (htg _ lf_X13_59) hown hZ hW hS tz_64 dX13_trouble_2 hf (fun σ_1 H locs hf hW hS => ?_)
  refine lv_aload_n hx hb dX13_trouble_5 rfl (lv_at hl 0 rfl) ?_
  refine gf_13_11 hx hb htg (htg _ lf_X13_62) hown hZ hW tz_64 dX13_trouble_6 ?_
  subst hQ
  exact mri hx hb hr hlocks hZ hT hS hW (pr1 hf) dX13_trouble_9
