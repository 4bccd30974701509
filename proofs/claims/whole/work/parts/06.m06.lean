def f_X13_town (σ : Mem) (a1 : Int32) : Option (Int32 × Mem) :=
  bd1 (f_X13_good σ) (fun (σ_1 : Mem) => bd1 (f_X13_in a1 0 (σ_1.1 64 2)) (fun (r_2 : Int32) => (if r_2 = 0 then bd2 (f_X13_no σ_1 2) (fun (r_42 : Int32) (σ_43 : Mem) => some (r_42, σ_43)) else nm (sI σ_1 64 2 0) (fun (σ_3 : Mem) => nm (sI σ_3 64 9 0) (fun (σ_4 : Mem) => nm (sI σ_4 64 13 0) (fun (σ_5 : Mem) => fx2 FU (fun k_8 (i_6 : Int32) (σ_7 : Mem) => (if 175 ≤ i_6 then nm (sI σ_7 64 3 a1) (fun (σ_9 : Mem) => nm (sI σ_9 64 5 0) (fun (σ_10 : Mem) => bd1 (f_X13_next σ_10) (fun (σ_11 : Mem) => bd1 (f_X13_readLine σ_11) (fun (σ_12 : Mem) => fx1 FU (fun k_14 (σ_13 : Mem) => jn0 (jn1 (fun (σ_16 : Mem) => jn1 (fun (σ_18 : Mem) => (if (σ_18.1 64 13) = 0 then bd1 (f_X13_copy σ_18 68 0 67 0 175) (fun (σ_20 : Mem) => fx2 FU (fun k_23 (i_21 : Int32) (σ_22 : Mem) => (if 80 ≤ i_21 then nm (sI σ_22 64 14 1) (fun (σ_24 : Mem) => nm (sI σ_24 64 20 0) (fun (σ_25 : Mem) => nm (sI σ_25 64 21 0) (fun (σ_26 : Mem) => ixd 4 (aln 67) (some (σ_26.1 67 (4 : Int32).toNatClampNeg, σ_26))))) else jn1 (fun (i_27 : Int32) => ixd i_21 (aln 69) (nm (sI σ_22 69 i_21.toNatClampNeg i_27) (fun (σ_29 : Mem) => nm (i_21 + 1) (fun (x_30 : Int32) => k_23 x_30 σ_29)))) (fun k_28 => (if 30 ≤ i_21 then k_28 0 else ixd (60 + i_21) (aln 67) (k_28 (σ_22.1 67 (60 + i_21).toNatClampNeg)))))) 0 σ_20) else bd2 (f_X13_no σ_18 4) (fun (r_32 : Int32) (σ_33 : Mem) => some (r_32, σ_33)))) (fun k_19 => (if (σ_16.1 64 13) = 0 then ixd 0 (aln 68) (jn0 (bd1 (f_X13_wrong σ_16 6 (σ_16.1 64 4)) (fun (σ_35 : Mem) => k_19 σ_35)) (fun k_34 => (if (σ_16.1 68 (0 : Int32).toNatClampNeg) = 0 then k_34 else ixd 4 (aln 68) ((if (σ_16.1 68 (4 : Int32).toNatClampNeg) = 0 then k_34 else k_19 σ_16))))) else k_19 σ_16))) (fun k_17 => (if (σ_13.1 64 13) = 0 then (if (σ_13.1 64 6) = 0 then k_17 σ_13 else bd1 (f_X13_wrong σ_13 1 (σ_13.1 64 4)) (fun (σ_36 : Mem) => k_17 σ_36)) else k_17 σ_13))) (fun k_15 => (if (σ_13.1 64 13) = 0 then (if (σ_13.1 64 6) = 59 then bd1 (f_X13_next σ_13) (fun (σ_37 : Mem) => bd1 (f_X13_readLine σ_37) (fun (σ_38 : Mem) => k_14 σ_38)) else k_15) else k_15))) σ_12)))) else ixd i_6 (aln 68) (nm (sI σ_7 68 i_6.toNatClampNeg 0) (fun (σ_39 : Mem) => nm (i_6 + 1) (fun (x_40 : Int32) => k_8 x_40 σ_39))))) 0 σ_5))))))
set_option maxHeartbeats 4000000 in
set_option maxRecDepth 100000 in
theorem c_X13_town (g : XG) (l : Launch) (σ : Mem) (a1 : Int32) (r : Int32) (τ : Mem) (hf : f_X13_town σ a1 = some (r, τ)) : Met l yX13_town (wx (.code yX13_town cX13_town 3 (some .int))) (kr 10 217) (va_Pc [.ref (bs g 64), .int a1] (WS g 0 81 σ)) (Qi' g 0 81 r τ) 0 0 (Ag g 0) := by
  refine Met.ofW (cc := cX13_town) (maxL := 3) (ret := (some .int)) (by decide) rfl ?_
  intro p e s m args below meth c s₁ B hml hv
  obtain ⟨rfl, hZ, hT, hW⟩ := hv
  have hx := B.exec
  have hb := B.bytes
  have hr := B.returns
  have hts : ∀ w ∈ wx (.code yX13_town cX13_town 3 (some .int)), w.before _ s = true := atoms_spec B.pre
  have htg : ∀ w ∈ lwg, w.before _ s = true := fun w h => hts w (List.mem_cons_of_mem _ h)
  have hown : s.vm.findClass RX13 = some m.cls := findClass_of_methodNamed B.named
  have hlocks := B.notSynchronized
  change W p l e (kr 10 217) s m (List.toArray [.ref (bs g 64), .int a1]) below meth c s.heap [] 0 0 (MQ below (Qi' g 0 81 r τ) (List.toArray [.ref (bs g 64), .int a1]) s 0 0 (Ag g 0)) _
  generalize hQ : MQ below (Qi' g 0 81 r τ) (List.toArray [.ref (bs g 64), .int a1]) s 0 0 (Ag g 0) = Q
  have hS : va_S (Ag g 0) s.heap s.heap [] := va_S.rf
  have hl := lv_entry ([.ref (bs g 64), .int a1]) (n := 3) (Nat.le_of_ble_eq_true rfl)
  rw [lg_entry_eq]
  generalize (lg_sl ([.ref (bs g 64), .int a1]) ++ List.replicate (3 - (lg_sl ([.ref (bs g 64), .int a1])).length) Slot.unset).toArray = ls at hl ⊢
  have hl : lv_has ls 3 [(0, .ref (bs g 64)), (1, .int a1)] := hl
  delta f_X13_town at hf
  obtain ⟨H, hH⟩ : ∃ H, H = s.heap := ⟨_, rfl⟩
  obtain ⟨locs, hLc⟩ : ∃ z : List Loc, z = [] := ⟨_, rfl⟩
  have hS : va_S (Ag g 0) s.heap H locs := by rw [hH, hLc]; exact hS
  have hW : Wd g 0 81 σ H := by rw [hH]; exact hW
  suffices hG : W p l e (kr 10 217) s m (List.toArray [.ref (bs g 64), .int a1]) below meth c H locs 0 0 Q (F0 m 0 ls []) by rw [hH, hLc] at hG; exact hG
  clear hH hLc
  refine lv_aload_n hx hb dX13_town_0 rfl (lv_at hl 0 rfl) ?_
  refine mcv hf hS (fun τ h => va_runV (As := []) (rest := []) ⟨hx, hb, hml, hown, hts⟩ (c_X13_good g l σ τ h) (cl_X13_166 hts ⟨Nat.le_of_ble_eq_true rfl, Nat.le_of_ble_eq_true rfl⟩) (mpV_13 hZ hT hS hW tz_64 _) rfl rfl hl.1 rfl (lv_room (Nat.le_of_ble_eq_true rfl)) dX13_town_1 ⟨Nat.zero_le _, Nat.zero_le _⟩) (fun σ_1 H locs hf hW hS => ?_)
  refine lv_iload_n hx hb dX13_town_4 rfl (lv_at hl 1 rfl) ?_
  refine lv_iconst (v := 0) hx hb dX13_town_5 (by decide) ?_
  refine lv_aload_n hx hb dX13_town_6 rfl (lv_at hl 0 rfl) ?_
  refine gf_13_2 hx hb htg (htg _ lf_X13_65) hown hZ hW tz_64 dX13_town_7 ?_
  refine mcip hf hS (fun r h => va_runS (As := [.int a1, .int 0, .int (σ_1.1 64 2)]) (rest := []) ⟨hx, hb, hml, hown, hts⟩ (c_X13_in g l 0 81 σ_1 a1 0 (σ_1.1 64 2) r h) (cl_X13_151 hts ⟨Nat.le_of_ble_eq_true rfl, Nat.le_of_ble_eq_true rfl⟩) (mpS hZ hT hS hW _) rfl rfl hl.1 rfl (lv_room (Nat.le_of_ble_eq_true rfl)) dX13_town_10 ⟨Nat.zero_le _, Nat.zero_le _⟩) (fun r_2 H locs hf hW hS => ?_)
  refine lv_if_ne (tgt := 22) hx hb dX13_town_13 (by decide) (fun hc => ?_) (fun hc => ?_)
  · have hf := iff_ hc hf
    refine lv_aload_n hx hb dX13_town_22 rfl (lv_at hl 0 rfl) ?_
    refine lv_iconst (v := 0) hx hb dX13_town_23 (by decide) ?_
    refine pf_13_2 hx hb htg (htg _ lf_X13_65) hown hZ hW hS tz_64 dX13_town_24 hf (fun σ_3 H locs hf hW hS => ?_)
    refine lv_aload_n hx hb dX13_town_27 rfl (lv_at hl 0 rfl) ?_
    refine lv_iconst (v := 0) hx hb dX13_town_28 (by decide) ?_
    refine pf_13_9 hx hb htg (htg _ lf_X13_101) hown hZ hW hS tz_64 dX13_town_29 hf (fun σ_4 H locs hf hW hS => ?_)
    refine lv_aload_n hx hb dX13_town_32 rfl (lv_at hl 0 rfl) ?_
    refine lv_iconst (v := 0) hx hb dX13_town_33 (by decide) ?_
    refine pf_13_13 hx hb htg (htg _ lf_X13_97) hown hZ hW hS tz_64 dX13_town_34 (by decide) (by decide) hf (fun σ_5 H locs hf hW hS => ?_)
    refine lv_iconst (v := 0) hx hb dX13_town_37 (by decide) ?_
    refine lv_istore_n (lv' := [(2, .int 0), (0, .ref (bs g 64)), (1, .int a1)]) hx hb dX13_town_38 rfl hl (by decide) rfl (fun ls hl => ?_)
    refine fx2_W (fun (i_6 : Int32) (σ_7 : Mem) => ∀ (H : Heap) (locs : List Loc) (ls : Array Slot), Wd g 0 81 σ_7 H → va_S (Ag g 0) s.heap H locs → lv_has ls 3 [(0, .ref (bs g 64)), (1, .int a1), (2, .int i_6)] → W p l e (kr 10 217) s m (List.toArray [.ref (bs g 64), .int a1]) below meth c H locs 0 0 Q (F0 m 39 ls [])) (fun k_8 hk_8 i_6 σ_7 hf => ?_) FU 0 σ_5 hf H locs ls hW hS (lv_sub hl [1, 2, 0] rfl)
    intro H locs ls hW hS hl
    refine lv_iload_n hx hb dX13_town_39 rfl (lv_at hl 2 rfl) ?_
    refine lv_sipush (v := 175) hx hb dX13_town_40 (by decide) ?_
    refine lv_icmp_ge (tgt := 59) hx hb dX13_town_43 (by decide) (fun hc => ?_) (fun hc => ?_)
    · have hf := ift hc hf
      refine lv_aload_n hx hb dX13_town_59 rfl (lv_at hl 0 rfl) ?_
      refine lv_iload_n hx hb dX13_town_60 rfl (lv_at hl 1 rfl) ?_
      refine pf_13_3 hx hb htg (htg _ lf_X13_68) hown hZ hW hS tz_64 dX13_town_61 hf (fun σ_9 H locs hf hW hS => ?_)
      refine lv_aload_n hx hb dX13_town_64 rfl (lv_at hl 0 rfl) ?_
      refine lv_iconst (v := 0) hx hb dX13_town_65 (by decide) ?_
      refine pf_13_5 hx hb htg (htg _ lf_X13_71) hown hZ hW hS tz_64 dX13_town_66 hf (fun σ_10 H locs hf hW hS => ?_)
      refine lv_aload_n hx hb dX13_town_69 rfl (lv_at hl 0 rfl) ?_
      refine mcv hf hS (fun τ h => va_runV (As := []) (rest := []) ⟨hx, hb, hml, hown, hts⟩ (c_X13_next g l σ_10 τ h) (cl_X13_118 hts ⟨Nat.le_of_ble_eq_true rfl, Nat.le_of_ble_eq_true rfl⟩) (mpV_13 hZ hT hS hW tz_64 _) rfl rfl hl.1 rfl (lv_room (Nat.le_of_ble_eq_true rfl)) dX13_town_70 ⟨Nat.zero_le _, Nat.zero_le _⟩) (fun σ_11 H locs hf hW hS => ?_)
      refine lv_aload_n hx hb dX13_town_73 rfl (lv_at hl 0 rfl) ?_
      refine mcv hf hS (fun τ h => va_runV (As := []) (rest := []) ⟨hx, hb, hml, hown, hts⟩ (c_X13_readLine g l σ_11 τ h) (cl_X13_172 hts ⟨Nat.le_of_ble_eq_true rfl, Nat.le_of_ble_eq_true rfl⟩) (mpV_13 hZ hT hS hW tz_64 _) rfl rfl hl.1 rfl (lv_room (Nat.le_of_ble_eq_true rfl)) dX13_town_74 ⟨Nat.zero_le _, Nat.zero_le _⟩) (fun σ_12 H locs hf hW hS => ?_)
      refine fx1_W (fun (σ_13 : Mem) => ∀ (H : Heap) (locs : List Loc) (ls : Array Slot), Wd g 0 81 σ_13 H → va_S (Ag g 0) s.heap H locs → lv_has ls 3 [(0, .ref (bs g 64))] → W p l e (kr 10 217) s m (List.toArray [.ref (bs g 64), .int a1]) below meth c H locs 0 0 Q (F0 m 77 ls [])) (fun k_14 hk_14 σ_13 hf => ?_) FU σ_12 hf H locs ls hW hS (lv_sub hl [0] rfl)
      intro H locs ls hW hS hl
      refine lv_aload_n hx hb dX13_town_77 rfl (lv_at hl 0 rfl) ?_
      refine gf_13_13 hx hb htg (htg _ lf_X13_97) hown hZ hW tz_64 dX13_town_78 ?_
      refine jn0_W (∀ (H : Heap) (locs : List Loc) (ls : Array Slot), Wd g 0 81 σ_13 H → va_S (Ag g 0) s.heap H locs → lv_has ls 3 [(0, .ref (bs g 64))] → W p l e (kr 10 217) s m (List.toArray [.ref (bs g 64), .int a1]) below meth c H locs 0 0 Q (F0 m 104 ls [])) hf (fun  hf => ?_) (fun k_15 hk_15 hf => ?_)
      · intro H locs ls hW hS hl
        refine lv_aload_n hx hb dX13_town_104 rfl (lv_at hl 0 rfl) ?_
        refine gf_13_13 hx hb htg (htg _ lf_X13_97) hown hZ hW tz_64 dX13_town_105 ?_
        refine jn1_W (fun (σ_16 : Mem) => ∀ (H : Heap) (locs : List Loc) (ls : Array Slot), Wd g 0 81 σ_16 H → va_S (Ag g 0) s.heap H locs → lv_has ls 3 [(0, .ref (bs g 64))] → W p l e (kr 10 217) s m (List.toArray [.ref (bs g 64), .int a1]) below meth c H locs 0 0 Q (F0 m 127 ls [])) hf (fun σ_16 hf => ?_) (fun k_17 hk_17 hf => ?_)
        · intro H locs ls hW hS hl
          refine lv_aload_n hx hb dX13_town_127 rfl (lv_at hl 0 rfl) ?_
          refine gf_13_13 hx hb htg (htg _ lf_X13_97) hown hZ hW tz_64 dX13_town_128 ?_
          refine jn1_W (fun (σ_18 : Mem) => ∀ (H : Heap) (locs : List Loc) (ls : Array Slot), Wd g 0 81 σ_18 H → va_S (Ag g 0) s.heap H locs → lv_has ls 3 [(0, .ref (bs g 64))] → W p l e (kr 10 217) s m (List.toArray [.ref (bs g 64), .int a1]) below meth c H locs 0 0 Q (F0 m 162 ls [])) hf (fun σ_18 hf => ?_) (fun k_19 hk_19 hf => ?_)
          · intro H locs ls hW hS hl
            refine lv_aload_n hx hb dX13_town_162 rfl (lv_at hl 0 rfl) ?_
            refine gf_13_13 hx hb htg (htg _ lf_X13_97) hown hZ hW tz_64 dX13_town_163 ?_
            refine lv_if_eq (tgt := 175) hx hb dX13_town_166 (by decide) (fun hc => ?_) (fun hc => ?_)
            · have hf := ift hc hf
              refine lv_aload_n hx hb dX13_town_175 rfl (lv_at hl 0 rfl) ?_
              refine gf_13_16 hx hb htg (htg _ lf_X13_23) hown hZ hW tz_64 dX13_town_176 ?_
              refine lv_iconst (v := 0) hx hb dX13_town_179 (by decide) ?_
              refine lv_aload_n hx hb dX13_town_180 rfl (lv_at hl 0 rfl) ?_
              refine gf_13_15 hx hb htg (htg _ lf_X13_20) hown hZ hW tz_64 dX13_town_181 ?_
              refine lv_iconst (v := 0) hx hb dX13_town_184 (by decide) ?_
              refine lv_sipush (v := 175) hx hb dX13_town_185 (by decide) ?_
              refine mcv hf hS (fun τ h => va_runS (As := [.ref (bs g 68), .int 0, .ref (bs g 67), .int 0, .int 175]) (rest := []) ⟨hx, hb, hml, hown, hts⟩ (c_X13_copy g l 0 81 σ_18 68 0 67 0 175 tz_68 tz_67 τ h) (cl_X13_175 hts ⟨Nat.le_of_ble_eq_true rfl, Nat.le_of_ble_eq_true rfl⟩) (mpS hZ hT hS hW _) rfl rfl hl.1 rfl (lv_room (Nat.le_of_ble_eq_true rfl)) dX13_town_188 ⟨Nat.zero_le _, Nat.zero_le _⟩) (fun σ_20 H locs hf hW hS => ?_)
              refine lv_iconst (v := 0) hx hb dX13_town_191 (by decide) ?_
              refine lv_istore_n (lv' := [(2, .int 0), (0, .ref (bs g 64))]) hx hb dX13_town_192 rfl hl (by decide) rfl (fun ls hl => ?_)
              refine fx2_W (fun (i_21 : Int32) (σ_22 : Mem) => ∀ (H : Heap) (locs : List Loc) (ls : Array Slot), Wd g 0 81 σ_22 H → va_S (Ag g 0) s.heap H locs → lv_has ls 3 [(0, .ref (bs g 64)), (2, .int i_21)] → W p l e (kr 10 217) s m (List.toArray [.ref (bs g 64), .int a1]) below meth c H locs 0 0 Q (F0 m 193 ls [])) (fun k_23 hk_23 i_21 σ_22 hf => ?_) FU 0 σ_20 hf H locs ls hW hS (lv_sub hl [1, 0] rfl)
              intro H locs ls hW hS hl
              refine lv_iload_n hx hb dX13_town_193 rfl (lv_at hl 1 rfl) ?_
              refine lv_bipush (v := 80) hx hb dX13_town_194 (by decide) ?_
              refine lv_icmp_ge (tgt := 230) hx hb dX13_town_196 (by decide) (fun hc => ?_) (fun hc => ?_)
              · have hf := ift hc hf
                refine lv_aload_n hx hb dX13_town_230 rfl (lv_at hl 0 rfl) ?_
                refine lv_iconst (v := 1) hx hb dX13_town_231 (by decide) ?_
                refine pf_13_14 hx hb htg (htg _ lf_X13_179) hown hZ hW hS tz_64 dX13_town_232 (by decide) (by decide) hf (fun σ_24 H locs hf hW hS => ?_)
                refine lv_aload_n hx hb dX13_town_235 rfl (lv_at hl 0 rfl) ?_
                refine lv_iconst (v := 0) hx hb dX13_town_236 (by decide) ?_
                refine pf_13_20 hx hb htg (htg _ lf_X13_182) hown hZ hW hS tz_64 dX13_town_237 hf (fun σ_25 H locs hf hW hS => ?_)
                refine lv_aload_n hx hb dX13_town_240 rfl (lv_at hl 0 rfl) ?_
                refine lv_iconst (v := 0) hx hb dX13_town_241 (by decide) ?_
                refine pf_13_21 hx hb htg (htg _ lf_X13_185) hown hZ hW hS tz_64 dX13_town_242 hf (fun σ_26 H locs hf hW hS => ?_)
                refine lv_aload_n hx hb dX13_town_245 rfl (lv_at hl 0 rfl) ?_
                refine gf_13_15 hx hb htg (htg _ lf_X13_20) hown hZ hW tz_64 dX13_town_246 ?_
                refine lv_iconst (v := 4) hx hb dX13_town_249 (by decide) ?_
                refine mld_i hx hb hZ hW tz_67 hf dX13_town_250 (fun hf => ?_)
                subst hQ
                exact mri hx hb hr hlocks hZ hT hS hW (pr1 hf) dX13_town_251
              · have hf := iff_ hc hf
                refine lv_aload_n hx hb dX13_town_199 rfl (lv_at hl 0 rfl) ?_
                refine gf_13_17 hx hb htg (htg _ lf_X13_26) hown hZ hW tz_64 dX13_town_200 ?_
                refine lv_iload_n hx hb dX13_town_203 rfl (lv_at hl 1 rfl) ?_
                refine lv_iload_n hx hb dX13_town_204 rfl (lv_at hl 1 rfl) ?_
                refine lv_bipush (v := 30) hx hb dX13_town_205 (by decide) ?_
                refine jn1_W (fun (i_27 : Int32) => ∀ (H : Heap) (locs : List Loc) (ls : Array Slot), Wd g 0 81 σ_22 H → va_S (Ag g 0) s.heap H locs → lv_has ls 3 [(0, .ref (bs g 64)), (2, .int i_21)] → W p l e (kr 10 217) s m (List.toArray [.ref (bs g 64), .int a1]) below meth c H locs 0 0 Q (F0 m 223 ls [.int i_27, .int i_21, .ref (bs g 69)])) hf (fun i_27 hf => ?_) (fun k_28 hk_28 hf => ?_)
                · intro H locs ls hW hS hl
                  refine mst_i hx hb hZ hW hS tz_69 hf dX13_town_223 (fun σ_29 H locs hf hW hS => ?_)
                  obtain ⟨x_30, e_31, hf⟩ := nm_s hf
                  refine lv_iinc (v := x_30) (lv' := [(2, .int x_30), (0, .ref (bs g 64))]) hx hb dX13_town_224 hl (k := 1) rfl (by rw [e_31]; rfl) (by decide) rfl (fun ls hl => ?_)
                  refine lv_goto (tgt := 193) hx hb dX13_town_227 (by decide) ?_
                  exact hk_23 x_30 σ_29 hf H locs ls hW hS (lv_sub hl [1, 0] rfl)
                · refine lv_icmp_ge (tgt := 222) hx hb dX13_town_207 (by decide) (fun hc => ?_) (fun hc => ?_)
                  · have hf := ift hc hf
                    refine lv_iconst (v := 0) hx hb dX13_town_222 (by decide) ?_
                    exact hk_28 0 hf H locs ls hW hS (lv_sub hl [0, 1] rfl)
                  · have hf := iff_ hc hf
                    refine lv_aload_n hx hb dX13_town_210 rfl (lv_at hl 0 rfl) ?_
                    refine gf_13_15 hx hb htg (htg _ lf_X13_20) hown hZ hW tz_64 dX13_town_211 ?_
                    refine lv_bipush (v := 60) hx hb dX13_town_214 (by decide) ?_
                    refine lv_iload_n hx hb dX13_town_216 rfl (lv_at hl 1 rfl) ?_
                    refine lv_iadd hx hb dX13_town_217 ?_
                    refine mld_i hx hb hZ hW tz_67 hf dX13_town_218 (fun hf => ?_)
                    refine lv_goto (tgt := 223) hx hb dX13_town_219 (by decide) ?_
                    exact hk_28 (σ_22.1 67 (60 + i_21).toNatClampNeg) hf H locs ls hW hS (lv_sub hl [0, 1] rfl)
            · have hf := iff_ hc hf
              refine lv_aload_n hx hb dX13_town_169 rfl (lv_at hl 0 rfl) ?_
              refine lv_iconst (v := 4) hx hb dX13_town_170 (by decide) ?_
              refine mci hf hS (fun r τ h => va_runV (As := [.int 4]) (rest := []) ⟨hx, hb, hml, hown, hts⟩ (c_X13_no g l σ_18 4 r τ h) (cl_X13_169 hts ⟨Nat.le_of_ble_eq_true rfl, Nat.le_of_ble_eq_true rfl⟩) (mpV_13 hZ hT hS hW tz_64 _) rfl rfl hl.1 rfl (lv_room (Nat.le_of_ble_eq_true rfl)) dX13_town_171 ⟨Nat.zero_le _, Nat.zero_le _⟩) (fun r_32 σ_33 H locs hf hW hS => ?_)
              subst hQ
              exact mri hx hb hr hlocks hZ hT hS hW (pr1 hf) dX13_town_174
          · refine lv_if_ne (tgt := 162) hx hb dX13_town_131 (by decide) (fun hc => ?_) (fun hc => ?_)
            · have hf := iff_ hc hf
              exact hk_19 σ_16 hf H locs ls hW hS (lv_sub hl [0] rfl)
            · have hf := ift hc hf
              refine lv_aload_n hx hb dX13_town_134 rfl (lv_at hl 0 rfl) ?_
              refine gf_13_16 hx hb htg (htg _ lf_X13_23) hown hZ hW tz_64 dX13_town_135 ?_
              refine lv_iconst (v := 0) hx hb dX13_town_138 (by decide) ?_
              refine mld_i hx hb hZ hW tz_68 hf dX13_town_139 (fun hf => ?_)
              refine jn0_W (∀ (H : Heap) (locs : List Loc) (ls : Array Slot), Wd g 0 81 σ_16 H → va_S (Ag g 0) s.heap H locs → lv_has ls 3 [(0, .ref (bs g 64))] → W p l e (kr 10 217) s m (List.toArray [.ref (bs g 64), .int a1]) below meth c H locs 0 0 Q (F0 m 152 ls [])) hf (fun  hf => ?_) (fun k_34 hk_34 hf => ?_)
              · intro H locs ls hW hS hl
                refine lv_aload_n hx hb dX13_town_152 rfl (lv_at hl 0 rfl) ?_
                refine lv_bipush (v := 6) hx hb dX13_town_153 (by decide) ?_
                refine lv_aload_n hx hb dX13_town_155 rfl (lv_at hl 0 rfl) ?_
                refine gf_13_4 hx hb htg (htg _ lf_X13_78) hown hZ hW tz_64 dX13_town_156 ?_
                refine mcv hf hS (fun τ h => va_runV (As := [.int 6, .int (σ_16.1 64 4)]) (rest := []) ⟨hx, hb, hml, hown, hts⟩ (c_X13_wrong g l σ_16 6 (σ_16.1 64 4) τ h) (cl_X13_124 hts ⟨Nat.le_of_ble_eq_true rfl, Nat.le_of_ble_eq_true rfl⟩) (mpV_13 hZ hT hS hW tz_64 _) rfl rfl hl.1 rfl (lv_room (Nat.le_of_ble_eq_true rfl)) dX13_town_159 ⟨Nat.zero_le _, Nat.zero_le _⟩) (fun σ_35 H locs hf hW hS => ?_)
                exact hk_19 σ_35 hf H locs ls hW hS (lv_sub hl [0] rfl)
              · refine lv_if_eq (tgt := 152) hx hb dX13_town_140 (by decide) (fun hc => ?_) (fun hc => ?_)
                · have hf := ift hc hf
                  exact hk_34  hf H locs ls hW hS (lv_sub hl [0] rfl)
                · have hf := iff_ hc hf
                  refine lv_aload_n hx hb dX13_town_143 rfl (lv_at hl 0 rfl) ?_
                  refine gf_13_16 hx hb htg (htg _ lf_X13_23) hown hZ hW tz_64 dX13_town_144 ?_
                  refine lv_iconst (v := 4) hx hb dX13_town_147 (by decide) ?_
                  refine mld_i hx hb hZ hW tz_68 hf dX13_town_148 (fun hf => ?_)
                  refine lv_if_ne (tgt := 162) hx hb dX13_town_149 (by decide) (fun hc => ?_) (fun hc => ?_)
                  · have hf := iff_ hc hf
                    exact hk_19 σ_16 hf H locs ls hW hS (lv_sub hl [0] rfl)
                  · have hf := ift hc hf
                    exact hk_34  hf H locs ls hW hS (lv_sub hl [0] rfl)
        · refine lv_if_ne (tgt := 127) hx hb dX13_town_108 (by decide) (fun hc => ?_) (fun hc => ?_)
          · have hf := iff_ hc hf
            exact hk_17 σ_13 hf H locs ls hW hS (lv_sub hl [0] rfl)
          · have hf := ift hc hf
            refine lv_aload_n hx hb dX13_town_111 rfl (lv_at hl 0 rfl) ?_
            refine gf_13_6 hx hb htg (htg _ lf_X13_87) hown hZ hW tz_64 dX13_town_112 ?_
            refine lv_if_eq (tgt := 127) hx hb dX13_town_115 (by decide) (fun hc => ?_) (fun hc => ?_)
            · have hf := ift hc hf
              exact hk_17 σ_13 hf H locs ls hW hS (lv_sub hl [0] rfl)
            · have hf := iff_ hc hf
              refine lv_aload_n hx hb dX13_town_118 rfl (lv_at hl 0 rfl) ?_
              refine lv_iconst (v := 1) hx hb dX13_town_119 (by decide) ?_
              refine lv_aload_n hx hb dX13_town_120 rfl (lv_at hl 0 rfl) ?_
              refine gf_13_4 hx hb htg (htg _ lf_X13_78) hown hZ hW tz_64 dX13_town_121 ?_
              refine mcv hf hS (fun τ h => va_runV (As := [.int 1, .int (σ_13.1 64 4)]) (rest := []) ⟨hx, hb, hml, hown, hts⟩ (c_X13_wrong g l σ_13 1 (σ_13.1 64 4) τ h) (cl_X13_124 hts ⟨Nat.le_of_ble_eq_true rfl, Nat.le_of_ble_eq_true rfl⟩) (mpV_13 hZ hT hS hW tz_64 _) rfl rfl hl.1 rfl (lv_room (Nat.le_of_ble_eq_true rfl)) dX13_town_124 ⟨Nat.zero_le _, Nat.zero_le _⟩) (fun σ_36 H locs hf hW hS => ?_)
              exact hk_17 σ_36 hf H locs ls hW hS (lv_sub hl [0] rfl)
      · refine lv_if_ne (tgt := 104) hx hb dX13_town_81 (by decide) (fun hc => ?_) (fun hc => ?_)
        · have hf := iff_ hc hf
          exact hk_15  hf H locs ls hW hS (lv_sub hl [0] rfl)
        · have hf := ift hc hf
          refine lv_aload_n hx hb dX13_town_84 rfl (lv_at hl 0 rfl) ?_
          refine gf_13_6 hx hb htg (htg _ lf_X13_87) hown hZ hW tz_64 dX13_town_85 ?_
          refine lv_bipush (v := 59) hx hb dX13_town_88 (by decide) ?_
          refine lv_icmp_ne (tgt := 104) hx hb dX13_town_90 (by decide) (fun hc => ?_) (fun hc => ?_)
          · have hf := iff_ hc hf
            exact hk_15  hf H locs ls hW hS (lv_sub hl [0] rfl)
          · have hf := ift hc hf
            refine lv_aload_n hx hb dX13_town_93 rfl (lv_at hl 0 rfl) ?_
            refine mcv hf hS (fun τ h => va_runV (As := []) (rest := []) ⟨hx, hb, hml, hown, hts⟩ (c_X13_next g l σ_13 τ h) (cl_X13_118 hts ⟨Nat.le_of_ble_eq_true rfl, Nat.le_of_ble_eq_true rfl⟩) (mpV_13 hZ hT hS hW tz_64 _) rfl rfl hl.1 rfl (lv_room (Nat.le_of_ble_eq_true rfl)) dX13_town_94 ⟨Nat.zero_le _, Nat.zero_le _⟩) (fun σ_37 H locs hf hW hS => ?_)
            refine lv_aload_n hx hb dX13_town_97 rfl (lv_at hl 0 rfl) ?_
            refine mcv hf hS (fun τ h => va_runV (As := []) (rest := []) ⟨hx, hb, hml, hown, hts⟩ (c_X13_readLine g l σ_37 τ h) (cl_X13_172 hts ⟨Nat.le_of_ble_eq_true rfl, Nat.le_of_ble_eq_true rfl⟩) (mpV_13 hZ hT hS hW tz_64 _) rfl rfl hl.1 rfl (lv_room (Nat.le_of_ble_eq_true rfl)) dX13_town_98 ⟨Nat.zero_le _, Nat.zero_le _⟩) (fun σ_38 H locs hf hW hS => ?_)
            refine lv_goto (tgt := 77) hx hb dX13_town_101 (by decide) ?_
            exact hk_14 σ_38 hf H locs ls hW hS (lv_sub hl [0] rfl)
    · have hf := iff_ hc hf
      refine lv_aload_n hx hb dX13_town_46 rfl (lv_at hl 0 rfl) ?_
      refine gf_13_16 hx hb htg (htg _ lf_X13_23) hown hZ hW tz_64 dX13_town_47 ?_
      refine lv_iload_n hx hb dX13_town_50 rfl (lv_at hl 2 rfl) ?_
      refine lv_iconst (v := 0) hx hb dX13_town_51 (by decide) ?_
      refine mst_i hx hb hZ hW hS tz_68 hf dX13_town_52 (fun σ_39 H locs hf hW hS => ?_)
      obtain ⟨x_40, e_41, hf⟩ := nm_s hf
      refine lv_iinc (v := x_40) (lv' := [(2, .int x_40), (0, .ref (bs g 64)), (1, .int a1)]) hx hb dX13_town_53 hl (k := 2) rfl (by rw [e_41]; rfl) (by decide) rfl (fun ls hl => ?_)
      refine lv_goto (tgt := 39) hx hb dX13_town_56 (by decide) ?_
      exact hk_8 x_40 σ_39 hf H locs ls hW hS (lv_sub hl [1, 2, 0] rfl)
  · have hf := ift hc hf
    refine lv_aload_n hx hb dX13_town_16 rfl (lv_at hl 0 rfl) ?_
    refine lv_iconst (v := 2) hx hb dX13_town_17 (by decide) ?_
    refine mci hf hS (fun r τ h => va_runV (As := [.int 2]) (rest := []) ⟨hx, hb, hml, hown, hts⟩ (c_X13_no g l σ_1 2 r τ h) (cl_X13_169 hts ⟨Nat.le_of_ble_eq_true rfl, Nat.le_of_ble_eq_true rfl⟩) (mpV_13 hZ hT hS hW tz_64 _) rfl rfl hl.1 rfl (lv_room (Nat.le_of_ble_eq_true rfl)) dX13_town_18 ⟨Nat.zero_le _, Nat.zero_le _⟩) (fun r_42 σ_43 H locs hf hW hS => ?_)
    subst hQ
    exact mri hx hb hr hlocks hZ hT hS hW (pr1 hf) dX13_town_21
def f_X13_fault (σ : Mem)  : Option (Int32 × Mem) :=
  nm (sI σ 64 0 0) (fun (σ_1 : Mem) => some (σ_1.1 64 9, σ_1))
set_option maxHeartbeats 4000000 in
set_option maxRecDepth 100000 in
theorem c_X13_fault (g : XG) (l : Launch) (σ : Mem) (r : Int32) (τ : Mem) (hf : f_X13_fault σ = some (r, τ)) : Met l yX13_fault (wx (.code yX13_fault cX13_fault 1 (some .int))) (kr 0 0) (va_Pc [.ref (bs g 64)] (WS g 0 81 σ)) (Qi' g 0 81 r τ) 0 0 (Ag g 0) := by
  refine Met.ofW (cc := cX13_fault) (maxL := 1) (ret := (some .int)) (by decide) rfl ?_
  intro p e s m args below meth c s₁ B hml hv
  obtain ⟨rfl, hZ, hT, hW⟩ := hv
  have hx := B.exec
  have hb := B.bytes
  have hr := B.returns
  have hts : ∀ w ∈ wx (.code yX13_fault cX13_fault 1 (some .int)), w.before _ s = true := atoms_spec B.pre
  have htg : ∀ w ∈ lwg, w.before _ s = true := fun w h => hts w (List.mem_cons_of_mem _ h)
  have hown : s.vm.findClass RX13 = some m.cls := findClass_of_methodNamed B.named
  have hlocks := B.notSynchronized
  change W p l e (kr 0 0) s m (List.toArray [.ref (bs g 64)]) below meth c s.heap [] 0 0 (MQ below (Qi' g 0 81 r τ) (List.toArray [.ref (bs g 64)]) s 0 0 (Ag g 0)) _
  generalize hQ : MQ below (Qi' g 0 81 r τ) (List.toArray [.ref (bs g 64)]) s 0 0 (Ag g 0) = Q
  have hS : va_S (Ag g 0) s.heap s.heap [] := va_S.rf
  have hl := lv_entry ([.ref (bs g 64)]) (n := 1) (Nat.le_of_ble_eq_true rfl)
  rw [lg_entry_eq]
  generalize (lg_sl ([.ref (bs g 64)]) ++ List.replicate (1 - (lg_sl ([.ref (bs g 64)])).length) Slot.unset).toArray = ls at hl ⊢
  have hl : lv_has ls 1 [(0, .ref (bs g 64))] := hl
  delta f_X13_fault at hf
  obtain ⟨H, hH⟩ : ∃ H, H = s.heap := ⟨_, rfl⟩
  obtain ⟨locs, hLc⟩ : ∃ z : List Loc, z = [] := ⟨_, rfl⟩
  have hS : va_S (Ag g 0) s.heap H locs := by rw [hH, hLc]; exact hS
  have hW : Wd g 0 81 σ H := by rw [hH]; exact hW
  suffices hG : W p l e (kr 0 0) s m (List.toArray [.ref (bs g 64)]) below meth c H locs 0 0 Q (F0 m 0 ls []) by rw [hH, hLc] at hG; exact hG
  clear hH hLc
  refine lv_aload_n hx hb dX13_fault_0 rfl (lv_at hl 0 rfl) ?_
  refine lv_iconst (v := 0) hx hb dX13_fault_1 (by decide) ?_
  refine pf_13_0 hx hb htg (htg _ lf_X13_59) hown hZ hW hS tz_64 dX13_fault_2 hf (fun σ_1 H locs hf hW hS => ?_)
  refine lv_aload_n hx hb dX13_fault_5 rfl (lv_at hl 0 rfl) ?_
  refine gf_13_9 hx hb htg (htg _ lf_X13_101) hown hZ hW tz_64 dX13_fault_6 ?_
  subst hQ
  exact mri hx hb hr hlocks hZ hT hS hW (pr1 hf) dX13_fault_9
def f_X13_where (σ : Mem)  : Option (Int32 × Mem) :=
  nm (sI σ 64 0 0) (fun (σ_1 : Mem) => (if (σ_1.1 64 11) = 4 then some (σ_1.1 64 10, σ_1) else some ((-1), σ_1)))
set_option maxHeartbeats 4000000 in
set_option maxRecDepth 100000 in
theorem c_X13_where (g : XG) (l : Launch) (σ : Mem) (r : Int32) (τ : Mem) (hf : f_X13_where σ = some (r, τ)) : Met l yX13_where (wx (.code yX13_where cX13_where 1 (some .int))) (kr 0 0) (va_Pc [.ref (bs g 64)] (WS g 0 81 σ)) (Qi' g 0 81 r τ) 0 0 (Ag g 0) := by
  refine Met.ofW (cc := cX13_where) (maxL := 1) (ret := (some .int)) (by decide) rfl ?_
  intro p e s m args below meth c s₁ B hml hv
  obtain ⟨rfl, hZ, hT, hW⟩ := hv
  have hx := B.exec
  have hb := B.bytes
  have hr := B.returns
  have hts : ∀ w ∈ wx (.code yX13_where cX13_where 1 (some .int)), w.before _ s = true := atoms_spec B.pre
  have htg : ∀ w ∈ lwg, w.before _ s = true := fun w h => hts w (List.mem_cons_of_mem _ h)
  have hown : s.vm.findClass RX13 = some m.cls := findClass_of_methodNamed B.named
  have hlocks := B.notSynchronized
  change W p l e (kr 0 0) s m (List.toArray [.ref (bs g 64)]) below meth c s.heap [] 0 0 (MQ below (Qi' g 0 81 r τ) (List.toArray [.ref (bs g 64)]) s 0 0 (Ag g 0)) _
  generalize hQ : MQ below (Qi' g 0 81 r τ) (List.toArray [.ref (bs g 64)]) s 0 0 (Ag g 0) = Q
  have hS : va_S (Ag g 0) s.heap s.heap [] := va_S.rf
  have hl := lv_entry ([.ref (bs g 64)]) (n := 1) (Nat.le_of_ble_eq_true rfl)
  rw [lg_entry_eq]
  generalize (lg_sl ([.ref (bs g 64)]) ++ List.replicate (1 - (lg_sl ([.ref (bs g 64)])).length) Slot.unset).toArray = ls at hl ⊢
  have hl : lv_has ls 1 [(0, .ref (bs g 64))] := hl
  delta f_X13_where at hf
  obtain ⟨H, hH⟩ : ∃ H, H = s.heap := ⟨_, rfl⟩
  obtain ⟨locs, hLc⟩ : ∃ z : List Loc, z = [] := ⟨_, rfl⟩
  have hS : va_S (Ag g 0) s.heap H locs := by rw [hH, hLc]; exact hS
  have hW : Wd g 0 81 σ H := by rw [hH]; exact hW
  suffices hG : W p l e (kr 0 0) s m (List.toArray [.ref (bs g 64)]) below meth c H locs 0 0 Q (F0 m 0 ls []) by rw [hH, hLc] at hG; exact hG
  clear hH hLc
  refine lv_aload_n hx hb dX13_where_0 rfl (lv_at hl 0 rfl) ?_
  refine lv_iconst (v := 0) hx hb dX13_where_1 (by decide) ?_
  refine pf_13_0 hx hb htg (htg _ lf_X13_59) hown hZ hW hS tz_64 dX13_where_2 hf (fun σ_1 H locs hf hW hS => ?_)
  refine lv_aload_n hx hb dX13_where_5 rfl (lv_at hl 0 rfl) ?_
  refine gf_13_11 hx hb htg (htg _ lf_X13_62) hown hZ hW tz_64 dX13_where_6 ?_
  refine lv_iconst (v := 4) hx hb dX13_where_9 (by decide) ?_
  refine lv_icmp_ne (tgt := 20) hx hb dX13_where_10 (by decide) (fun hc => ?_) (fun hc => ?_)
  · have hf := iff_ hc hf
    refine lv_iconst (v := (-1)) hx hb dX13_where_20 (by decide) ?_
    subst hQ
    exact mri hx hb hr hlocks hZ hT hS hW (pr1 hf) dX13_where_21
  · have hf := ift hc hf
    refine lv_aload_n hx hb dX13_where_13 rfl (lv_at hl 0 rfl) ?_
    refine gf_13_10 hx hb htg (htg _ lf_X13_13) hown hZ hW tz_64 dX13_where_14 ?_
    refine lv_goto (tgt := 21) hx hb dX13_where_17 (by decide) ?_
    subst hQ
    exact mri hx hb hr hlocks hZ hT hS hW (pr1 hf) dX13_where_21
def f_X13_isPerson (σ : Mem) (a1 : Int32) : Option (Int32) :=
  jn0 (some 0) (fun k_1 => (if (σ.1 64 14) = 0 then k_1 else ixd 4 (aln 67) (bd1 (f_X13_in a1 0 ((σ.1 67 (4 : Int32).toNatClampNeg) - 1)) (fun (r_2 : Int32) => (if r_2 = 0 then k_1 else some 1)))))
set_option maxHeartbeats 4000000 in
set_option maxRecDepth 100000 in
theorem c_X13_isPerson (g : XG) (l : Launch) (σ : Mem) (a1 : Int32) (r : Int32) (hf : f_X13_isPerson σ a1 = some r) : Met l yX13_isPerson (wx (.code yX13_isPerson cX13_isPerson 2 (some .boolean))) (kr 1 22) (va_Pc [.ref (bs g 64), .int a1] (WS g 0 81 σ)) (Qi' g 0 81 r σ) 0 0 (Ag g 0) := by
  refine Met.ofW (cc := cX13_isPerson) (maxL := 2) (ret := (some .boolean)) (by decide) rfl ?_
  intro p e s m args below meth c s₁ B hml hv
  obtain ⟨rfl, hZ, hT, hW⟩ := hv
  have hx := B.exec
  have hb := B.bytes
  have hr := B.returns
  have hts : ∀ w ∈ wx (.code yX13_isPerson cX13_isPerson 2 (some .boolean)), w.before _ s = true := atoms_spec B.pre
  have htg : ∀ w ∈ lwg, w.before _ s = true := fun w h => hts w (List.mem_cons_of_mem _ h)
  have hown : s.vm.findClass RX13 = some m.cls := findClass_of_methodNamed B.named
  have hlocks := B.notSynchronized
  change W p l e (kr 1 22) s m (List.toArray [.ref (bs g 64), .int a1]) below meth c s.heap [] 0 0 (MQ below (Qi' g 0 81 r σ) (List.toArray [.ref (bs g 64), .int a1]) s 0 0 (Ag g 0)) _
  generalize hQ : MQ below (Qi' g 0 81 r σ) (List.toArray [.ref (bs g 64), .int a1]) s 0 0 (Ag g 0) = Q
  have hS : va_S (Ag g 0) s.heap s.heap [] := va_S.rf
  have hl := lv_entry ([.ref (bs g 64), .int a1]) (n := 2) (Nat.le_of_ble_eq_true rfl)
  rw [lg_entry_eq]
  generalize (lg_sl ([.ref (bs g 64), .int a1]) ++ List.replicate (2 - (lg_sl ([.ref (bs g 64), .int a1])).length) Slot.unset).toArray = ls at hl ⊢
  have hl : lv_has ls 2 [(0, .ref (bs g 64)), (1, .int a1)] := hl
  delta f_X13_isPerson at hf
  obtain ⟨H, hH⟩ : ∃ H, H = s.heap := ⟨_, rfl⟩
  obtain ⟨locs, hLc⟩ : ∃ z : List Loc, z = [] := ⟨_, rfl⟩
  have hS : va_S (Ag g 0) s.heap H locs := by rw [hH, hLc]; exact hS
  have hW : Wd g 0 81 σ H := by rw [hH]; exact hW
  suffices hG : W p l e (kr 1 22) s m (List.toArray [.ref (bs g 64), .int a1]) below meth c H locs 0 0 Q (F0 m 0 ls []) by rw [hH, hLc] at hG; exact hG
  clear hH hLc
  refine lv_aload_n hx hb dX13_isPerson_0 rfl (lv_at hl 0 rfl) ?_
  refine gf_13_14 hx hb htg (htg _ lf_X13_179) hown hZ hW tz_64 dX13_isPerson_1 ?_
  refine jn0_W (∀ (H : Heap) (locs : List Loc) (ls : Array Slot), Wd g 0 81 σ H → va_S (Ag g 0) s.heap H locs → lv_has ls 2 [] → W p l e (kr 1 22) s m (List.toArray [.ref (bs g 64), .int a1]) below meth c H locs 0 0 Q (F0 m 27 ls [])) hf (fun  hf => ?_) (fun k_1 hk_1 hf => ?_)
  · intro H locs ls hW hS hl
    refine lv_iconst (v := 0) hx hb dX13_isPerson_27 (by decide) ?_
    subst hQ
    exact mrz hx hb hr hlocks hZ hT hS hW (by decide) ⟨Option.some.inj hf, rfl⟩ dX13_isPerson_28
  · refine lv_if_eq (tgt := 27) hx hb dX13_isPerson_4 (by decide) (fun hc => ?_) (fun hc => ?_)
    · have hf := ift hc hf
      exact hk_1  hf H locs ls hW hS (lv_sub hl [] rfl)
    · have hf := iff_ hc hf
      refine lv_iload_n hx hb dX13_isPerson_7 rfl (lv_at hl 1 rfl) ?_
      refine lv_iconst (v := 0) hx hb dX13_isPerson_8 (by decide) ?_
      refine lv_aload_n hx hb dX13_isPerson_9 rfl (lv_at hl 0 rfl) ?_
      refine gf_13_15 hx hb htg (htg _ lf_X13_20) hown hZ hW tz_64 dX13_isPerson_10 ?_
      refine lv_iconst (v := 4) hx hb dX13_isPerson_13 (by decide) ?_
      refine mld_i hx hb hZ hW tz_67 hf dX13_isPerson_14 (fun hf => ?_)
      refine lv_iconst (v := 1) hx hb dX13_isPerson_15 (by decide) ?_
      refine lv_isub hx hb dX13_isPerson_16 ?_
      refine mcip hf hS (fun r h => va_runS (As := [.int a1, .int 0, .int ((σ.1 67 (4 : Int32).toNatClampNeg) - 1)]) (rest := []) ⟨hx, hb, hml, hown, hts⟩ (c_X13_in g l 0 81 σ a1 0 ((σ.1 67 (4 : Int32).toNatClampNeg) - 1) r h) (cl_X13_151 hts ⟨Nat.le_of_ble_eq_true rfl, Nat.le_of_ble_eq_true rfl⟩) (mpS hZ hT hS hW _) rfl rfl hl.1 rfl (lv_room (Nat.le_of_ble_eq_true rfl)) dX13_isPerson_17 ⟨Nat.zero_le _, Nat.zero_le _⟩) (fun r_2 H locs hf hW hS => ?_)
      refine lv_if_eq (tgt := 27) hx hb dX13_isPerson_20 (by decide) (fun hc => ?_) (fun hc => ?_)
      · have hf := ift hc hf
        exact hk_1  hf H locs ls hW hS (lv_sub hl [] rfl)
      · have hf := iff_ hc hf
        refine lv_iconst (v := 1) hx hb dX13_isPerson_23 (by decide) ?_
        refine lv_goto (tgt := 28) hx hb dX13_isPerson_24 (by decide) ?_
        subst hQ
        exact mrz hx hb hr hlocks hZ hT hS hW (by decide) ⟨Option.some.inj hf, rfl⟩ dX13_isPerson_28
def f_X13_isMark (σ : Mem) (a1 : Int32) : Option (Int32) :=
  jn0 (some 0) (fun k_1 => (if (σ.1 64 14) = 0 then k_1 else ixd 0 (aln 67) (bd1 (f_X13_in a1 0 ((σ.1 67 (0 : Int32).toNatClampNeg) - 1)) (fun (r_2 : Int32) => (if r_2 = 0 then k_1 else some 1)))))
set_option maxHeartbeats 4000000 in
set_option maxRecDepth 100000 in
theorem c_X13_isMark (g : XG) (l : Launch) (σ : Mem) (a1 : Int32) (r : Int32) (hf : f_X13_isMark σ a1 = some r) : Met l yX13_isMark (wx (.code yX13_isMark cX13_isMark 2 (some .boolean))) (kr 1 22) (va_Pc [.ref (bs g 64), .int a1] (WS g 0 81 σ)) (Qi' g 0 81 r σ) 0 0 (Ag g 0) := by
  refine Met.ofW (cc := cX13_isMark) (maxL := 2) (ret := (some .boolean)) (by decide) rfl ?_
  intro p e s m args below meth c s₁ B hml hv
  obtain ⟨rfl, hZ, hT, hW⟩ := hv
  have hx := B.exec
  have hb := B.bytes
  have hr := B.returns
  have hts : ∀ w ∈ wx (.code yX13_isMark cX13_isMark 2 (some .boolean)), w.before _ s = true := atoms_spec B.pre
  have htg : ∀ w ∈ lwg, w.before _ s = true := fun w h => hts w (List.mem_cons_of_mem _ h)
  have hown : s.vm.findClass RX13 = some m.cls := findClass_of_methodNamed B.named
  have hlocks := B.notSynchronized
  change W p l e (kr 1 22) s m (List.toArray [.ref (bs g 64), .int a1]) below meth c s.heap [] 0 0 (MQ below (Qi' g 0 81 r σ) (List.toArray [.ref (bs g 64), .int a1]) s 0 0 (Ag g 0)) _
  generalize hQ : MQ below (Qi' g 0 81 r σ) (List.toArray [.ref (bs g 64), .int a1]) s 0 0 (Ag g 0) = Q
  have hS : va_S (Ag g 0) s.heap s.heap [] := va_S.rf
  have hl := lv_entry ([.ref (bs g 64), .int a1]) (n := 2) (Nat.le_of_ble_eq_true rfl)
  rw [lg_entry_eq]
  generalize (lg_sl ([.ref (bs g 64), .int a1]) ++ List.replicate (2 - (lg_sl ([.ref (bs g 64), .int a1])).length) Slot.unset).toArray = ls at hl ⊢
  have hl : lv_has ls 2 [(0, .ref (bs g 64)), (1, .int a1)] := hl
  delta f_X13_isMark at hf
  obtain ⟨H, hH⟩ : ∃ H, H = s.heap := ⟨_, rfl⟩
  obtain ⟨locs, hLc⟩ : ∃ z : List Loc, z = [] := ⟨_, rfl⟩
  have hS : va_S (Ag g 0) s.heap H locs := by rw [hH, hLc]; exact hS
  have hW : Wd g 0 81 σ H := by rw [hH]; exact hW
  suffices hG : W p l e (kr 1 22) s m (List.toArray [.ref (bs g 64), .int a1]) below meth c H locs 0 0 Q (F0 m 0 ls []) by rw [hH, hLc] at hG; exact hG
  clear hH hLc
  refine lv_aload_n hx hb dX13_isMark_0 rfl (lv_at hl 0 rfl) ?_
  refine gf_13_14 hx hb htg (htg _ lf_X13_179) hown hZ hW tz_64 dX13_isMark_1 ?_
  refine jn0_W (∀ (H : Heap) (locs : List Loc) (ls : Array Slot), Wd g 0 81 σ H → va_S (Ag g 0) s.heap H locs → lv_has ls 2 [] → W p l e (kr 1 22) s m (List.toArray [.ref (bs g 64), .int a1]) below meth c H locs 0 0 Q (F0 m 27 ls [])) hf (fun  hf => ?_) (fun k_1 hk_1 hf => ?_)
  · intro H locs ls hW hS hl
    refine lv_iconst (v := 0) hx hb dX13_isMark_27 (by decide) ?_
    subst hQ
    exact mrz hx hb hr hlocks hZ hT hS hW (by decide) ⟨Option.some.inj hf, rfl⟩ dX13_isMark_28
  · refine lv_if_eq (tgt := 27) hx hb dX13_isMark_4 (by decide) (fun hc => ?_) (fun hc => ?_)
    · have hf := ift hc hf
      exact hk_1  hf H locs ls hW hS (lv_sub hl [] rfl)
    · have hf := iff_ hc hf
      refine lv_iload_n hx hb dX13_isMark_7 rfl (lv_at hl 1 rfl) ?_
      refine lv_iconst (v := 0) hx hb dX13_isMark_8 (by decide) ?_
      refine lv_aload_n hx hb dX13_isMark_9 rfl (lv_at hl 0 rfl) ?_
      refine gf_13_15 hx hb htg (htg _ lf_X13_20) hown hZ hW tz_64 dX13_isMark_10 ?_
      refine lv_iconst (v := 0) hx hb dX13_isMark_13 (by decide) ?_
      refine mld_i hx hb hZ hW tz_67 hf dX13_isMark_14 (fun hf => ?_)
      refine lv_iconst (v := 1) hx hb dX13_isMark_15 (by decide) ?_
      refine lv_isub hx hb dX13_isMark_16 ?_
      refine mcip hf hS (fun r h => va_runS (As := [.int a1, .int 0, .int ((σ.1 67 (0 : Int32).toNatClampNeg) - 1)]) (rest := []) ⟨hx, hb, hml, hown, hts⟩ (c_X13_in g l 0 81 σ a1 0 ((σ.1 67 (0 : Int32).toNatClampNeg) - 1) r h) (cl_X13_151 hts ⟨Nat.le_of_ble_eq_true rfl, Nat.le_of_ble_eq_true rfl⟩) (mpS hZ hT hS hW _) rfl rfl hl.1 rfl (lv_room (Nat.le_of_ble_eq_true rfl)) dX13_isMark_17 ⟨Nat.zero_le _, Nat.zero_le _⟩) (fun r_2 H locs hf hW hS => ?_)
      refine lv_if_eq (tgt := 27) hx hb dX13_isMark_20 (by decide) (fun hc => ?_) (fun hc => ?_)
      · have hf := ift hc hf
        exact hk_1  hf H locs ls hW hS (lv_sub hl [] rfl)
      · have hf := iff_ hc hf
        refine lv_iconst (v := 1) hx hb dX13_isMark_23 (by decide) ?_
        refine lv_goto (tgt := 28) hx hb dX13_isMark_24 (by decide) ?_
        subst hQ
        exact mrz hx hb hr hlocks hZ hT hS hW (by decide) ⟨Option.some.inj hf, rfl⟩ dX13_isMark_28
def f_X13_isDay (a0 : Int32) : Option (Int32) :=
  bd1 (f_X13_in a0 0 29) (fun (r_1 : Int32) => zrt r_1)
set_option maxHeartbeats 4000000 in
set_option maxRecDepth 100000 in
theorem c_X13_isDay (g : XG) (l : Launch) (lo n : Nat) (σ : Mem) (a0 : Int32) (r : Int32) (hf : f_X13_isDay a0 = some r) : Met l yX13_isDay (wx (.code yX13_isDay cX13_isDay 1 (some .boolean))) (kr 1 22) (va_Pc [.int a0] (WS g lo n σ)) (Qi' g lo n r σ) 0 0 (Ag g lo) := by
  refine Met.ofW (cc := cX13_isDay) (maxL := 1) (ret := (some .boolean)) (by decide) rfl ?_
  intro p e s m args below meth c s₁ B hml hv
  obtain ⟨rfl, hZ, hT, hW⟩ := hv
  have hx := B.exec
  have hb := B.bytes
  have hr := B.returns
  have hts : ∀ w ∈ wx (.code yX13_isDay cX13_isDay 1 (some .boolean)), w.before _ s = true := atoms_spec B.pre
  have htg : ∀ w ∈ lwg, w.before _ s = true := fun w h => hts w (List.mem_cons_of_mem _ h)
  have hown : s.vm.findClass RX13 = some m.cls := findClass_of_methodNamed B.named
  have hlocks := B.notSynchronized
  change W p l e (kr 1 22) s m (List.toArray [.int a0]) below meth c s.heap [] 0 0 (MQ below (Qi' g lo n r σ) (List.toArray [.int a0]) s 0 0 (Ag g lo)) _
  generalize hQ : MQ below (Qi' g lo n r σ) (List.toArray [.int a0]) s 0 0 (Ag g lo) = Q
  have hS : va_S (Ag g lo) s.heap s.heap [] := va_S.rf
  have hl := lv_entry ([.int a0]) (n := 1) (Nat.le_of_ble_eq_true rfl)
  rw [lg_entry_eq]
  generalize (lg_sl ([.int a0]) ++ List.replicate (1 - (lg_sl ([.int a0])).length) Slot.unset).toArray = ls at hl ⊢
  have hl : lv_has ls 1 [(0, .int a0)] := hl
  delta f_X13_isDay at hf
  obtain ⟨H, hH⟩ : ∃ H, H = s.heap := ⟨_, rfl⟩
  obtain ⟨locs, hLc⟩ : ∃ z : List Loc, z = [] := ⟨_, rfl⟩
  have hS : va_S (Ag g lo) s.heap H locs := by rw [hH, hLc]; exact hS
  have hW : Wd g lo n σ H := by rw [hH]; exact hW
  suffices hG : W p l e (kr 1 22) s m (List.toArray [.int a0]) below meth c H locs 0 0 Q (F0 m 0 ls []) by rw [hH, hLc] at hG; exact hG
  clear hH hLc
  refine lv_iload_n hx hb dX13_isDay_0 rfl (lv_at hl 0 rfl) ?_
  refine lv_iconst (v := 0) hx hb dX13_isDay_1 (by decide) ?_
  refine lv_bipush (v := 29) hx hb dX13_isDay_2 (by decide) ?_
  refine mcip hf hS (fun r h => va_runS (As := [.int a0, .int 0, .int 29]) (rest := []) ⟨hx, hb, hml, hown, hts⟩ (c_X13_in g l lo n σ a0 0 29 r h) (cl_X13_151 hts ⟨Nat.le_of_ble_eq_true rfl, Nat.le_of_ble_eq_true rfl⟩) (mpS hZ hT hS hW _) rfl rfl hl.1 rfl (lv_room (Nat.le_of_ble_eq_true rfl)) dX13_isDay_4 ⟨Nat.zero_le _, Nat.zero_le _⟩) (fun r_1 H locs hf hW hS => ?_)
  subst hQ
  exact mrz hx hb hr hlocks hZ hT hS hW (zrt_s hf).1 ⟨(zrt_s hf).2, rfl⟩ dX13_isDay_7
def f_X13_toldLook (σ : Mem) (a1 : Int32) : Option (Int32) :=
  ixd ((10 + (2 * a1)) + 1) (aln 67) (some (σ.1 67 ((10 + (2 * a1)) + 1).toNatClampNeg))
set_option maxHeartbeats 4000000 in
set_option maxRecDepth 100000 in
theorem c_X13_toldLook (g : XG) (l : Launch) (σ : Mem) (a1 : Int32) (r : Int32) (hf : f_X13_toldLook σ a1 = some r) : Met l yX13_toldLook (wx (.code yX13_toldLook cX13_toldLook 2 (some .int))) (kr 0 0) (va_Pc [.ref (bs g 64), .int a1] (WS g 0 81 σ)) (Qi' g 0 81 r σ) 0 0 (Ag g 0) := by
  refine Met.ofW (cc := cX13_toldLook) (maxL := 2) (ret := (some .int)) (by decide) rfl ?_
  intro p e s m args below meth c s₁ B hml hv
  obtain ⟨rfl, hZ, hT, hW⟩ := hv
  have hx := B.exec
  have hb := B.bytes
  have hr := B.returns
  have hts : ∀ w ∈ wx (.code yX13_toldLook cX13_toldLook 2 (some .int)), w.before _ s = true := atoms_spec B.pre
  have htg : ∀ w ∈ lwg, w.before _ s = true := fun w h => hts w (List.mem_cons_of_mem _ h)
  have hown : s.vm.findClass RX13 = some m.cls := findClass_of_methodNamed B.named
  have hlocks := B.notSynchronized
  change W p l e (kr 0 0) s m (List.toArray [.ref (bs g 64), .int a1]) below meth c s.heap [] 0 0 (MQ below (Qi' g 0 81 r σ) (List.toArray [.ref (bs g 64), .int a1]) s 0 0 (Ag g 0)) _
  generalize hQ : MQ below (Qi' g 0 81 r σ) (List.toArray [.ref (bs g 64), .int a1]) s 0 0 (Ag g 0) = Q
  have hS : va_S (Ag g 0) s.heap s.heap [] := va_S.rf
  have hl := lv_entry ([.ref (bs g 64), .int a1]) (n := 2) (Nat.le_of_ble_eq_true rfl)
  rw [lg_entry_eq]
  generalize (lg_sl ([.ref (bs g 64), .int a1]) ++ List.replicate (2 - (lg_sl ([.ref (bs g 64), .int a1])).length) Slot.unset).toArray = ls at hl ⊢
  have hl : lv_has ls 2 [(0, .ref (bs g 64)), (1, .int a1)] := hl
  delta f_X13_toldLook at hf
  obtain ⟨H, hH⟩ : ∃ H, H = s.heap := ⟨_, rfl⟩
  obtain ⟨locs, hLc⟩ : ∃ z : List Loc, z = [] := ⟨_, rfl⟩
  have hS : va_S (Ag g 0) s.heap H locs := by rw [hH, hLc]; exact hS
  have hW : Wd g 0 81 σ H := by rw [hH]; exact hW
  suffices hG : W p l e (kr 0 0) s m (List.toArray [.ref (bs g 64), .int a1]) below meth c H locs 0 0 Q (F0 m 0 ls []) by rw [hH, hLc] at hG; exact hG
  clear hH hLc
  refine lv_aload_n hx hb dX13_toldLook_0 rfl (lv_at hl 0 rfl) ?_
  refine gf_13_15 hx hb htg (htg _ lf_X13_20) hown hZ hW tz_64 dX13_toldLook_1 ?_
  refine lv_bipush (v := 10) hx hb dX13_toldLook_4 (by decide) ?_
  refine lv_iconst (v := 2) hx hb dX13_toldLook_6 (by decide) ?_
  refine lv_iload_n hx hb dX13_toldLook_7 rfl (lv_at hl 1 rfl) ?_
  refine lv_imul hx hb dX13_toldLook_8 ?_
  refine lv_iadd hx hb dX13_toldLook_9 ?_
  refine lv_iconst (v := 1) hx hb dX13_toldLook_10 (by decide) ?_
  refine lv_iadd hx hb dX13_toldLook_11 ?_
  refine mld_i hx hb hZ hW tz_67 hf dX13_toldLook_12 (fun hf => ?_)
  subst hQ
  exact mri hx hb hr hlocks hZ hT hS hW ⟨Option.some.inj hf, rfl⟩ dX13_toldLook_13
def f_X13_markOf (a0 : Int32) (a1 : Int32) : Option (Int32) :=
  some ((a0 >>> ((2 * a1) &&& 31)) &&& 3)
set_option maxHeartbeats 4000000 in
set_option maxRecDepth 100000 in
theorem c_X13_markOf (g : XG) (l : Launch) (lo n : Nat) (σ : Mem) (a0 : Int32) (a1 : Int32) (r : Int32) (hf : f_X13_markOf a0 a1 = some r) : Met l yX13_markOf (wx (.code yX13_markOf cX13_markOf 2 (some .int))) (kr 0 0) (va_Pc [.int a0, .int a1] (WS g lo n σ)) (Qi' g lo n r σ) 0 0 (Ag g lo) := by
  refine Met.ofW (cc := cX13_markOf) (maxL := 2) (ret := (some .int)) (by decide) rfl ?_
  intro p e s m args below meth c s₁ B hml hv
  obtain ⟨rfl, hZ, hT, hW⟩ := hv
  have hx := B.exec
  have hb := B.bytes
  have hr := B.returns
  have hts : ∀ w ∈ wx (.code yX13_markOf cX13_markOf 2 (some .int)), w.before _ s = true := atoms_spec B.pre
  have htg : ∀ w ∈ lwg, w.before _ s = true := fun w h => hts w (List.mem_cons_of_mem _ h)
  have hown : s.vm.findClass RX13 = some m.cls := findClass_of_methodNamed B.named
  have hlocks := B.notSynchronized
  change W p l e (kr 0 0) s m (List.toArray [.int a0, .int a1]) below meth c s.heap [] 0 0 (MQ below (Qi' g lo n r σ) (List.toArray [.int a0, .int a1]) s 0 0 (Ag g lo)) _
  generalize hQ : MQ below (Qi' g lo n r σ) (List.toArray [.int a0, .int a1]) s 0 0 (Ag g lo) = Q
  have hS : va_S (Ag g lo) s.heap s.heap [] := va_S.rf
  have hl := lv_entry ([.int a0, .int a1]) (n := 2) (Nat.le_of_ble_eq_true rfl)
  rw [lg_entry_eq]
  generalize (lg_sl ([.int a0, .int a1]) ++ List.replicate (2 - (lg_sl ([.int a0, .int a1])).length) Slot.unset).toArray = ls at hl ⊢
  have hl : lv_has ls 2 [(0, .int a0), (1, .int a1)] := hl
  delta f_X13_markOf at hf
  obtain ⟨H, hH⟩ : ∃ H, H = s.heap := ⟨_, rfl⟩
  obtain ⟨locs, hLc⟩ : ∃ z : List Loc, z = [] := ⟨_, rfl⟩
  have hS : va_S (Ag g lo) s.heap H locs := by rw [hH, hLc]; exact hS
  have hW : Wd g lo n σ H := by rw [hH]; exact hW
  suffices hG : W p l e (kr 0 0) s m (List.toArray [.int a0, .int a1]) below meth c H locs 0 0 Q (F0 m 0 ls []) by rw [hH, hLc] at hG; exact hG
  clear hH hLc
  refine lv_iload_n hx hb dX13_markOf_0 rfl (lv_at hl 0 rfl) ?_
  refine lv_iconst (v := 2) hx hb dX13_markOf_1 (by decide) ?_
  refine lv_iload_n hx hb dX13_markOf_2 rfl (lv_at hl 1 rfl) ?_
  refine lv_imul hx hb dX13_markOf_3 ?_
  refine lv_ishr hx hb dX13_markOf_4 ?_
  refine lv_iconst (v := 3) hx hb dX13_markOf_5 (by decide) ?_
  refine lv_iand hx hb dX13_markOf_6 ?_
  subst hQ
  exact mri hx hb hr hlocks hZ hT hS hW ⟨Option.some.inj hf, rfl⟩ dX13_markOf_7
def f_X13_goesOn (a0 : Int32) (a1 : Int32) (a2 : Int32) : Option (Int32) :=
  bd1 (f_X13_markOf a0 a1) (fun (r_1 : Int32) => some ((a0 &&& ((3 <<< ((2 * a1) &&& 31)) ^^^ (-1))) ||| (((r_1 + a2) &&& 3) <<< ((2 * a1) &&& 31))))
set_option maxHeartbeats 4000000 in
set_option maxRecDepth 100000 in
theorem c_X13_goesOn (g : XG) (l : Launch) (lo n : Nat) (σ : Mem) (a0 : Int32) (a1 : Int32) (a2 : Int32) (r : Int32) (hf : f_X13_goesOn a0 a1 a2 = some r) : Met l yX13_goesOn (wx (.code yX13_goesOn cX13_goesOn 3 (some .int))) (kr 1 21) (va_Pc [.int a0, .int a1, .int a2] (WS g lo n σ)) (Qi' g lo n r σ) 0 0 (Ag g lo) := by
  refine Met.ofW (cc := cX13_goesOn) (maxL := 3) (ret := (some .int)) (by decide) rfl ?_
  intro p e s m args below meth c s₁ B hml hv
  obtain ⟨rfl, hZ, hT, hW⟩ := hv
  have hx := B.exec
  have hb := B.bytes
  have hr := B.returns
  have hts : ∀ w ∈ wx (.code yX13_goesOn cX13_goesOn 3 (some .int)), w.before _ s = true := atoms_spec B.pre
  have htg : ∀ w ∈ lwg, w.before _ s = true := fun w h => hts w (List.mem_cons_of_mem _ h)
  have hown : s.vm.findClass RX13 = some m.cls := findClass_of_methodNamed B.named
  have hlocks := B.notSynchronized
  change W p l e (kr 1 21) s m (List.toArray [.int a0, .int a1, .int a2]) below meth c s.heap [] 0 0 (MQ below (Qi' g lo n r σ) (List.toArray [.int a0, .int a1, .int a2]) s 0 0 (Ag g lo)) _
  generalize hQ : MQ below (Qi' g lo n r σ) (List.toArray [.int a0, .int a1, .int a2]) s 0 0 (Ag g lo) = Q
  have hS : va_S (Ag g lo) s.heap s.heap [] := va_S.rf
  have hl := lv_entry ([.int a0, .int a1, .int a2]) (n := 3) (Nat.le_of_ble_eq_true rfl)
  rw [lg_entry_eq]
  generalize (lg_sl ([.int a0, .int a1, .int a2]) ++ List.replicate (3 - (lg_sl ([.int a0, .int a1, .int a2])).length) Slot.unset).toArray = ls at hl ⊢
  have hl : lv_has ls 3 [(0, .int a0), (1, .int a1), (2, .int a2)] := hl
  delta f_X13_goesOn at hf
  obtain ⟨H, hH⟩ : ∃ H, H = s.heap := ⟨_, rfl⟩
  obtain ⟨locs, hLc⟩ : ∃ z : List Loc, z = [] := ⟨_, rfl⟩
  have hS : va_S (Ag g lo) s.heap H locs := by rw [hH, hLc]; exact hS
  have hW : Wd g lo n σ H := by rw [hH]; exact hW
  suffices hG : W p l e (kr 1 21) s m (List.toArray [.int a0, .int a1, .int a2]) below meth c H locs 0 0 Q (F0 m 0 ls []) by rw [hH, hLc] at hG; exact hG
  clear hH hLc
  refine lv_iload_n hx hb dX13_goesOn_0 rfl (lv_at hl 0 rfl) ?_
  refine lv_iconst (v := 3) hx hb dX13_goesOn_1 (by decide) ?_
  refine lv_iconst (v := 2) hx hb dX13_goesOn_2 (by decide) ?_
  refine lv_iload_n hx hb dX13_goesOn_3 rfl (lv_at hl 1 rfl) ?_
  refine lv_imul hx hb dX13_goesOn_4 ?_
  refine lv_ishl hx hb dX13_goesOn_5 ?_
  refine lv_iconst (v := (-1)) hx hb dX13_goesOn_6 (by decide) ?_
  refine lv_ixor hx hb dX13_goesOn_7 ?_
  refine lv_iand hx hb dX13_goesOn_8 ?_
  refine lv_iload_n hx hb dX13_goesOn_9 rfl (lv_at hl 0 rfl) ?_
  refine lv_iload_n hx hb dX13_goesOn_10 rfl (lv_at hl 1 rfl) ?_
  refine mcip hf hS (fun r h => va_runS (As := [.int a0, .int a1]) (rest := [.int (a0 &&& ((3 <<< ((2 * a1) &&& 31)) ^^^ (-1)))]) ⟨hx, hb, hml, hown, hts⟩ (c_X13_markOf g l lo n σ a0 a1 r h) (cl_X13_247 hts ⟨Nat.le_of_ble_eq_true rfl, Nat.le_of_ble_eq_true rfl⟩) (mpS hZ hT hS hW _) rfl rfl hl.1 rfl (lv_room (Nat.le_of_ble_eq_true rfl)) dX13_goesOn_11 ⟨Nat.zero_le _, Nat.zero_le _⟩) (fun r_1 H locs hf hW hS => ?_)
  refine lv_iload_n hx hb dX13_goesOn_14 rfl (lv_at hl 2 rfl) ?_
  refine lv_iadd hx hb dX13_goesOn_15 ?_
  refine lv_iconst (v := 3) hx hb dX13_goesOn_16 (by decide) ?_
  refine lv_iand hx hb dX13_goesOn_17 ?_
  refine lv_iconst (v := 2) hx hb dX13_goesOn_18 (by decide) ?_
  refine lv_iload_n hx hb dX13_goesOn_19 rfl (lv_at hl 1 rfl) ?_
  refine lv_imul hx hb dX13_goesOn_20 ?_
  refine lv_ishl hx hb dX13_goesOn_21 ?_
  refine lv_ior hx hb dX13_goesOn_22 ?_
  subst hQ
  exact mri hx hb hr hlocks hZ hT hS hW ⟨Option.some.inj hf, rfl⟩ dX13_goesOn_23
def f_X13_lookOn (σ : Mem) (a1 : Int32) (a2 : Int32) : Option (Int32) :=
  bd1 (f_X13_toldLook σ a1) (fun (r_1 : Int32) => fx2 FU (fun k_4 (i_2 : Int32) (i_3 : Int32) => ixd 5 (aln 67) ((if (σ.1 67 (5 : Int32).toNatClampNeg) ≤ i_3 then fx2 FU (fun k_7 (i_5 : Int32) (i_6 : Int32) => ixd 78 (aln 69) ((if (σ.1 69 (78 : Int32).toNatClampNeg) ≤ i_6 then fx2 FU (fun k_10 (i_8 : Int32) (i_9 : Int32) => jn0 (ixd (10 + (2 * a1)) (aln 67) (jn1 (fun (i_12 : Int32) => ixd (10 + (2 * a1)) (aln 67) ((if (σ.1 67 (10 + (2 * a1)).toNatClampNeg) = 2 then dvd 4 (bd1 (f_X13_goesOn i_12 1 (a2 / 4)) (fun (r_14 : Int32) => some r_14)) else some i_12))) (fun k_13 => (if (σ.1 67 (10 + (2 * a1)).toNatClampNeg) = 1 then dvd 10 (bd1 (f_X13_goesOn i_8 0 (a2 / 10)) (fun (r_15 : Int32) => k_13 r_15)) else k_13 i_8)))) (fun k_11 => (if a2 < i_9 then k_11 else (if (σ.1 64 24) = 0 then k_11 else ixd i_9 (aln 72) (jn1 (fun (i_16 : Int32) => nm (i_9 + 1) (fun (x_18 : Int32) => k_10 i_16 x_18)) (fun k_17 => (if (σ.1 72 i_9.toNatClampNeg) = a1 then ixd i_9 (aln 73) (bd1 (f_X13_goesOn i_8 (σ.1 73 i_9.toNatClampNeg) 1) (fun (r_20 : Int32) => k_17 r_20)) else k_17 i_8))))))) i_5 0 else nm (30 + (4 * i_6)) (fun (x_21 : Int32) => ixd x_21 (aln 69) (jn1 (fun (i_22 : Int32) => nm (i_6 + 1) (fun (x_24 : Int32) => k_7 i_22 x_24)) (fun k_23 => (if (σ.1 69 x_21.toNatClampNeg) = a1 then ixd (x_21 + 1) (aln 69) ((if a2 < (σ.1 69 (x_21 + 1).toNatClampNeg) then k_23 i_5 else ixd (x_21 + 2) (aln 69) (ixd (x_21 + 3) (aln 69) (bd1 (f_X13_goesOn i_5 (σ.1 69 (x_21 + 2).toNatClampNeg) (σ.1 69 (x_21 + 3).toNatClampNeg)) (fun (r_26 : Int32) => k_23 r_26))))) else k_23 i_5))))))) i_2 0 else nm (20 + (4 * i_3)) (fun (x_27 : Int32) => ixd x_27 (aln 67) (jn1 (fun (i_28 : Int32) => nm (i_3 + 1) (fun (x_30 : Int32) => k_4 i_28 x_30)) (fun k_29 => (if (σ.1 67 x_27.toNatClampNeg) = a1 then ixd (x_27 + 1) (aln 67) ((if a2 < (σ.1 67 (x_27 + 1).toNatClampNeg) then k_29 i_2 else ixd (x_27 + 2) (aln 67) (ixd (x_27 + 3) (aln 67) (bd1 (f_X13_goesOn i_2 (σ.1 67 (x_27 + 2).toNatClampNeg) (σ.1 67 (x_27 + 3).toNatClampNeg)) (fun (r_32 : Int32) => k_29 r_32))))) else k_29 i_2))))))) r_1 0)
set_option maxHeartbeats 4000000 in
set_option maxRecDepth 100000 in
theorem c_X13_lookOn (g : XG) (l : Launch) (σ : Mem) (a1 : Int32) (a2 : Int32) (r : Int32) (hf : f_X13_lookOn σ a1 a2 = some r) : Met l yX13_lookOn (wx (.code yX13_lookOn cX13_lookOn 6 (some .int))) (kr 2 43) (va_Pc [.ref (bs g 64), .int a1, .int a2] (WS g 0 81 σ)) (Qi' g 0 81 r σ) 0 0 (Ag g 0) := by
  refine Met.ofW (cc := cX13_lookOn) (maxL := 6) (ret := (some .int)) (by decide) rfl ?_
  intro p e s m args below meth c s₁ B hml hv
  obtain ⟨rfl, hZ, hT, hW⟩ := hv
  have hx := B.exec
  have hb := B.bytes
  have hr := B.returns
  have hts : ∀ w ∈ wx (.code yX13_lookOn cX13_lookOn 6 (some .int)), w.before _ s = true := atoms_spec B.pre
  have htg : ∀ w ∈ lwg, w.before _ s = true := fun w h => hts w (List.mem_cons_of_mem _ h)
  have hown : s.vm.findClass RX13 = some m.cls := findClass_of_methodNamed B.named
  have hlocks := B.notSynchronized
  change W p l e (kr 2 43) s m (List.toArray [.ref (bs g 64), .int a1, .int a2]) below meth c s.heap [] 0 0 (MQ below (Qi' g 0 81 r σ) (List.toArray [.ref (bs g 64), .int a1, .int a2]) s 0 0 (Ag g 0)) _
  generalize hQ : MQ below (Qi' g 0 81 r σ) (List.toArray [.ref (bs g 64), .int a1, .int a2]) s 0 0 (Ag g 0) = Q
  have hS : va_S (Ag g 0) s.heap s.heap [] := va_S.rf
  have hl := lv_entry ([.ref (bs g 64), .int a1, .int a2]) (n := 6) (Nat.le_of_ble_eq_true rfl)
  rw [lg_entry_eq]
  generalize (lg_sl ([.ref (bs g 64), .int a1, .int a2]) ++ List.replicate (6 - (lg_sl ([.ref (bs g 64), .int a1, .int a2])).length) Slot.unset).toArray = ls at hl ⊢
  have hl : lv_has ls 6 [(0, .ref (bs g 64)), (1, .int a1), (2, .int a2)] := hl
  delta f_X13_lookOn at hf
  obtain ⟨H, hH⟩ : ∃ H, H = s.heap := ⟨_, rfl⟩
  obtain ⟨locs, hLc⟩ : ∃ z : List Loc, z = [] := ⟨_, rfl⟩
  have hS : va_S (Ag g 0) s.heap H locs := by rw [hH, hLc]; exact hS
  have hW : Wd g 0 81 σ H := by rw [hH]; exact hW
  suffices hG : W p l e (kr 2 43) s m (List.toArray [.ref (bs g 64), .int a1, .int a2]) below meth c H locs 0 0 Q (F0 m 0 ls []) by rw [hH, hLc] at hG; exact hG
  clear hH hLc
  refine lv_aload_n hx hb dX13_lookOn_0 rfl (lv_at hl 0 rfl) ?_
  refine lv_iload_n hx hb dX13_lookOn_1 rfl (lv_at hl 1 rfl) ?_
  refine mcip hf hS (fun r h => va_runV (As := [.int a1]) (rest := []) ⟨hx, hb, hml, hown, hts⟩ (c_X13_toldLook g l σ a1 r h) (cl_X13_250 hts ⟨Nat.le_of_ble_eq_true rfl, Nat.le_of_ble_eq_true rfl⟩) (mpV_13 hZ hT hS hW tz_64 _) rfl rfl hl.1 rfl (lv_room (Nat.le_of_ble_eq_true rfl)) dX13_lookOn_2 ⟨Nat.zero_le _, Nat.zero_le _⟩) (fun r_1 H locs hf hW hS => ?_)
  refine lv_istore_n (lv' := [(3, .int r_1), (0, .ref (bs g 64)), (1, .int a1), (2, .int a2)]) hx hb dX13_lookOn_5 rfl hl (by decide) rfl (fun ls hl => ?_)
  refine lv_iconst (v := 0) hx hb dX13_lookOn_6 (by decide) ?_
  refine lv_istore (lv' := [(4, .int 0), (3, .int r_1), (0, .ref (bs g 64)), (1, .int a1), (2, .int a2)]) hx hb dX13_lookOn_7 hl (by decide) rfl (fun ls hl => ?_)
  refine fx2_W (fun (i_2 : Int32) (i_3 : Int32) => ∀ (H : Heap) (locs : List Loc) (ls : Array Slot), Wd g 0 81 σ H → va_S (Ag g 0) s.heap H locs → lv_has ls 6 [(0, .ref (bs g 64)), (1, .int a1), (2, .int a2), (3, .int i_2), (4, .int i_3)] → W p l e (kr 2 43) s m (List.toArray [.ref (bs g 64), .int a1, .int a2]) below meth c H locs 0 0 Q (F0 m 9 ls [])) (fun k_4 hk_4 i_2 i_3 hf => ?_) FU r_1 0 hf H locs ls hW hS (lv_sub hl [2, 3, 4, 1, 0] rfl)
  intro H locs ls hW hS hl
  refine lv_iload hx hb dX13_lookOn_9 (lv_at hl 4 rfl) ?_
  refine lv_aload_n hx hb dX13_lookOn_11 rfl (lv_at hl 0 rfl) ?_
  refine gf_13_15 hx hb htg (htg _ lf_X13_20) hown hZ hW tz_64 dX13_lookOn_12 ?_
  refine lv_iconst (v := 5) hx hb dX13_lookOn_15 (by decide) ?_
  refine mld_i hx hb hZ hW tz_67 hf dX13_lookOn_16 (fun hf => ?_)
  refine lv_icmp_ge (tgt := 82) hx hb dX13_lookOn_17 (by decide) (fun hc => ?_) (fun hc => ?_)
  · have hf := ift hc hf
    refine lv_iconst (v := 0) hx hb dX13_lookOn_82 (by decide) ?_
    refine lv_istore (lv' := [(4, .int 0), (0, .ref (bs g 64)), (1, .int a1), (2, .int a2), (3, .int i_2)]) hx hb dX13_lookOn_83 hl (by decide) rfl (fun ls hl => ?_)
    refine fx2_W (fun (i_5 : Int32) (i_6 : Int32) => ∀ (H : Heap) (locs : List Loc) (ls : Array Slot), Wd g 0 81 σ H → va_S (Ag g 0) s.heap H locs → lv_has ls 6 [(0, .ref (bs g 64)), (1, .int a1), (2, .int a2), (3, .int i_5), (4, .int i_6)] → W p l e (kr 2 43) s m (List.toArray [.ref (bs g 64), .int a1, .int a2]) below meth c H locs 0 0 Q (F0 m 85 ls [])) (fun k_7 hk_7 i_5 i_6 hf => ?_) FU i_2 0 hf H locs ls hW hS (lv_sub hl [1, 2, 3, 4, 0] rfl)
    intro H locs ls hW hS hl
    refine lv_iload hx hb dX13_lookOn_85 (lv_at hl 4 rfl) ?_
    refine lv_aload_n hx hb dX13_lookOn_87 rfl (lv_at hl 0 rfl) ?_
    refine gf_13_17 hx hb htg (htg _ lf_X13_26) hown hZ hW tz_64 dX13_lookOn_88 ?_
    refine lv_bipush (v := 78) hx hb dX13_lookOn_91 (by decide) ?_
    refine mld_i hx hb hZ hW tz_69 hf dX13_lookOn_93 (fun hf => ?_)
    refine lv_icmp_ge (tgt := 159) hx hb dX13_lookOn_94 (by decide) (fun hc => ?_) (fun hc => ?_)
    · have hf := ift hc hf
      refine lv_iconst (v := 0) hx hb dX13_lookOn_159 (by decide) ?_
      refine lv_istore (lv' := [(4, .int 0), (0, .ref (bs g 64)), (1, .int a1), (2, .int a2), (3, .int i_5)]) hx hb dX13_lookOn_160 hl (by decide) rfl (fun ls hl => ?_)
      refine fx2_W (fun (i_8 : Int32) (i_9 : Int32) => ∀ (H : Heap) (locs : List Loc) (ls : Array Slot), Wd g 0 81 σ H → va_S (Ag g 0) s.heap H locs → lv_has ls 6 [(0, .ref (bs g 64)), (1, .int a1), (2, .int a2), (3, .int i_8), (4, .int i_9)] → W p l e (kr 2 43) s m (List.toArray [.ref (bs g 64), .int a1, .int a2]) below meth c H locs 0 0 Q (F0 m 162 ls [])) (fun k_10 hk_10 i_8 i_9 hf => ?_) FU i_5 0 hf H locs ls hW hS (lv_sub hl [1, 2, 3, 4, 0] rfl)
      intro H locs ls hW hS hl
      refine lv_iload hx hb dX13_lookOn_162 (lv_at hl 4 rfl) ?_
      refine lv_iload_n hx hb dX13_lookOn_164 rfl (lv_at hl 2 rfl) ?_
      refine jn0_W (∀ (H : Heap) (locs : List Loc) (ls : Array Slot), Wd g 0 81 σ H → va_S (Ag g 0) s.heap H locs → lv_has ls 6 [(0, .ref (bs g 64)), (1, .int a1), (2, .int a2), (3, .int i_8)] → W p l e (kr 2 43) s m (List.toArray [.ref (bs g 64), .int a1, .int a2]) below meth c H locs 0 0 Q (F0 m 205 ls [])) hf (fun  hf => ?_) (fun k_11 hk_11 hf => ?_)
      · intro H locs ls hW hS hl
        refine lv_aload_n hx hb dX13_lookOn_205 rfl (lv_at hl 0 rfl) ?_
        refine gf_13_15 hx hb htg (htg _ lf_X13_20) hown hZ hW tz_64 dX13_lookOn_206 ?_
        refine lv_bipush (v := 10) hx hb dX13_lookOn_209 (by decide) ?_
        refine lv_iconst (v := 2) hx hb dX13_lookOn_211 (by decide) ?_
        refine lv_iload_n hx hb dX13_lookOn_212 rfl (lv_at hl 1 rfl) ?_
        refine lv_imul hx hb dX13_lookOn_213 ?_
        refine lv_iadd hx hb dX13_lookOn_214 ?_
        refine mld_i hx hb hZ hW tz_67 hf dX13_lookOn_215 (fun hf => ?_)
        refine lv_iconst (v := 1) hx hb dX13_lookOn_216 (by decide) ?_
        refine jn1_W (fun (i_12 : Int32) => ∀ (H : Heap) (locs : List Loc) (ls : Array Slot), Wd g 0 81 σ H → va_S (Ag g 0) s.heap H locs → lv_has ls 6 [(0, .ref (bs g 64)), (1, .int a1), (2, .int a2), (3, .int i_12)] → W p l e (kr 2 43) s m (List.toArray [.ref (bs g 64), .int a1, .int a2]) below meth c H locs 0 0 Q (F0 m 230 ls [])) hf (fun i_12 hf => ?_) (fun k_13 hk_13 hf => ?_)
        · intro H locs ls hW hS hl
          refine lv_aload_n hx hb dX13_lookOn_230 rfl (lv_at hl 0 rfl) ?_
          refine gf_13_15 hx hb htg (htg _ lf_X13_20) hown hZ hW tz_64 dX13_lookOn_231 ?_
          refine lv_bipush (v := 10) hx hb dX13_lookOn_234 (by decide) ?_
          refine lv_iconst (v := 2) hx hb dX13_lookOn_236 (by decide) ?_
          refine lv_iload_n hx hb dX13_lookOn_237 rfl (lv_at hl 1 rfl) ?_
          refine lv_imul hx hb dX13_lookOn_238 ?_
          refine lv_iadd hx hb dX13_lookOn_239 ?_
          refine mld_i hx hb hZ hW tz_67 hf dX13_lookOn_240 (fun hf => ?_)
          refine lv_iconst (v := 2) hx hb dX13_lookOn_241 (by decide) ?_
          refine lv_icmp_ne (tgt := 254) hx hb dX13_lookOn_242 (by decide) (fun hc => ?_) (fun hc => ?_)
          · have hf := iff_ hc hf
            refine lv_iload_n hx hb dX13_lookOn_254 rfl (lv_at hl 3 rfl) ?_
            subst hQ
            exact mri hx hb hr hlocks hZ hT hS hW ⟨Option.some.inj hf, rfl⟩ dX13_lookOn_255
          · have hf := ift hc hf
            refine lv_iload_n hx hb dX13_lookOn_245 rfl (lv_at hl 3 rfl) ?_
            refine lv_iconst (v := 1) hx hb dX13_lookOn_246 (by decide) ?_
            refine lv_iload_n hx hb dX13_lookOn_247 rfl (lv_at hl 2 rfl) ?_
            refine lv_iconst (v := 4) hx hb dX13_lookOn_248 (by decide) ?_
            obtain ⟨hd, hf⟩ := dvd_s hf
            refine lv_idiv hx hb dX13_lookOn_249 hd ?_
            refine mcip hf hS (fun r h => va_runS (As := [.int i_12, .int 1, .int (a2 / 4)]) (rest := []) ⟨hx, hb, hml, hown, hts⟩ (c_X13_goesOn g l 0 81 σ i_12 1 (a2 / 4) r h) (cl_X13_253 hts ⟨Nat.le_of_ble_eq_true rfl, Nat.le_of_ble_eq_true rfl⟩) (mpS hZ hT hS hW _) rfl rfl hl.1 rfl (lv_room (Nat.le_of_ble_eq_true rfl)) dX13_lookOn_250 ⟨Nat.zero_le _, Nat.zero_le _⟩) (fun r_14 H locs hf hW hS => ?_)
            refine lv_istore_n (lv' := [(3, .int r_14), (0, .ref (bs g 64)), (1, .int a1), (2, .int a2)]) hx hb dX13_lookOn_253 rfl hl (by decide) rfl (fun ls hl => ?_)
            refine lv_iload_n hx hb dX13_lookOn_254 rfl (lv_at hl 0 rfl) ?_
            subst hQ
            exact mri hx hb hr hlocks hZ hT hS hW ⟨Option.some.inj hf, rfl⟩ dX13_lookOn_255
        · refine lv_icmp_ne (tgt := 230) hx hb dX13_lookOn_217 (by decide) (fun hc => ?_) (fun hc => ?_)
          · have hf := iff_ hc hf
            exact hk_13 i_8 hf H locs ls hW hS (lv_sub hl [0, 1, 2, 3] rfl)
          · have hf := ift hc hf
            refine lv_iload_n hx hb dX13_lookOn_220 rfl (lv_at hl 3 rfl) ?_
            refine lv_iconst (v := 0) hx hb dX13_lookOn_221 (by decide) ?_
            refine lv_iload_n hx hb dX13_lookOn_222 rfl (lv_at hl 2 rfl) ?_
            refine lv_bipush (v := 10) hx hb dX13_lookOn_223 (by decide) ?_
            obtain ⟨hd, hf⟩ := dvd_s hf
            refine lv_idiv hx hb dX13_lookOn_225 hd ?_
            refine mcip hf hS (fun r h => va_runS (As := [.int i_8, .int 0, .int (a2 / 10)]) (rest := []) ⟨hx, hb, hml, hown, hts⟩ (c_X13_goesOn g l 0 81 σ i_8 0 (a2 / 10) r h) (cl_X13_253 hts ⟨Nat.le_of_ble_eq_true rfl, Nat.le_of_ble_eq_true rfl⟩) (mpS hZ hT hS hW _) rfl rfl hl.1 rfl (lv_room (Nat.le_of_ble_eq_true rfl)) dX13_lookOn_226 ⟨Nat.zero_le _, Nat.zero_le _⟩) (fun r_15 H locs hf hW hS => ?_)
            refine lv_istore_n (lv' := [(3, .int r_15), (0, .ref (bs g 64)), (1, .int a1), (2, .int a2)]) hx hb dX13_lookOn_229 rfl hl (by decide) rfl (fun ls hl => ?_)
            exact hk_13 r_15 hf H locs ls hW hS (lv_sub hl [1, 2, 3, 0] rfl)
      · refine lv_icmp_gt (tgt := 205) hx hb dX13_lookOn_165 (by decide) (fun hc => ?_) (fun hc => ?_)
        · have hf := ift hc hf
          exact hk_11  hf H locs ls hW hS (lv_sub hl [0, 1, 2, 3] rfl)
        · have hf := iff_ hc hf
          refine lv_aload_n hx hb dX13_lookOn_168 rfl (lv_at hl 0 rfl) ?_
          refine gf_13_24 hx hb htg (htg _ lf_X13_257) hown hZ hW tz_64 dX13_lookOn_169 ?_
          refine lv_if_eq (tgt := 205) hx hb dX13_lookOn_172 (by decide) (fun hc => ?_) (fun hc => ?_)
          · have hf := ift hc hf
            exact hk_11  hf H locs ls hW hS (lv_sub hl [0, 1, 2, 3] rfl)
          · have hf := iff_ hc hf
            refine lv_aload_n hx hb dX13_lookOn_175 rfl (lv_at hl 0 rfl) ?_
            refine gf_13_22 hx hb htg (htg _ lf_X13_35) hown hZ hW tz_64 dX13_lookOn_176 ?_
            refine lv_iload hx hb dX13_lookOn_179 (lv_at hl 4 rfl) ?_
            refine mld_i hx hb hZ hW tz_72 hf dX13_lookOn_181 (fun hf => ?_)
            refine lv_iload_n hx hb dX13_lookOn_182 rfl (lv_at hl 1 rfl) ?_
            refine jn1_W (fun (i_16 : Int32) => ∀ (H : Heap) (locs : List Loc) (ls : Array Slot), Wd g 0 81 σ H → va_S (Ag g 0) s.heap H locs → lv_has ls 6 [(0, .ref (bs g 64)), (1, .int a1), (2, .int a2), (3, .int i_16), (4, .int i_9)] → W p l e (kr 2 43) s m (List.toArray [.ref (bs g 64), .int a1, .int a2]) below meth c H locs 0 0 Q (F0 m 199 ls [])) hf (fun i_16 hf => ?_) (fun k_17 hk_17 hf => ?_)
            · intro H locs ls hW hS hl
              obtain ⟨x_18, e_19, hf⟩ := nm_s hf
              refine lv_iinc (v := x_18) (lv' := [(4, .int x_18), (0, .ref (bs g 64)), (1, .int a1), (2, .int a2), (3, .int i_16)]) hx hb dX13_lookOn_199 hl (k := 4) rfl (by rw [e_19]; rfl) (by decide) rfl (fun ls hl => ?_)
              refine lv_goto (tgt := 162) hx hb dX13_lookOn_202 (by decide) ?_
              exact hk_10 i_16 x_18 hf H locs ls hW hS (lv_sub hl [1, 2, 3, 4, 0] rfl)
            · refine lv_icmp_ne (tgt := 199) hx hb dX13_lookOn_183 (by decide) (fun hc => ?_) (fun hc => ?_)
              · have hf := iff_ hc hf
                exact hk_17 i_8 hf H locs ls hW hS (lv_sub hl [0, 1, 2, 3, 4] rfl)
              · have hf := ift hc hf
                refine lv_iload_n hx hb dX13_lookOn_186 rfl (lv_at hl 3 rfl) ?_
                refine lv_aload_n hx hb dX13_lookOn_187 rfl (lv_at hl 0 rfl) ?_
                refine gf_13_23 hx hb htg (htg _ lf_X13_38) hown hZ hW tz_64 dX13_lookOn_188 ?_
                refine lv_iload hx hb dX13_lookOn_191 (lv_at hl 4 rfl) ?_
                refine mld_i hx hb hZ hW tz_73 hf dX13_lookOn_193 (fun hf => ?_)
                refine lv_iconst (v := 1) hx hb dX13_lookOn_194 (by decide) ?_
                refine mcip hf hS (fun r h => va_runS (As := [.int i_8, .int (σ.1 73 i_9.toNatClampNeg), .int 1]) (rest := []) ⟨hx, hb, hml, hown, hts⟩ (c_X13_goesOn g l 0 81 σ i_8 (σ.1 73 i_9.toNatClampNeg) 1 r h) (cl_X13_253 hts ⟨Nat.le_of_ble_eq_true rfl, Nat.le_of_ble_eq_true rfl⟩) (mpS hZ hT hS hW _) rfl rfl hl.1 rfl (lv_room (Nat.le_of_ble_eq_true rfl)) dX13_lookOn_195 ⟨Nat.zero_le _, Nat.zero_le _⟩) (fun r_20 H locs hf hW hS => ?_)
                refine lv_istore_n (lv' := [(3, .int r_20), (0, .ref (bs g 64)), (1, .int a1), (2, .int a2), (4, .int i_9)]) hx hb dX13_lookOn_198 rfl hl (by decide) rfl (fun ls hl => ?_)
                exact hk_17 r_20 hf H locs ls hW hS (lv_sub hl [1, 2, 3, 0, 4] rfl)
    · have hf := iff_ hc hf
      refine lv_bipush (v := 30) hx hb dX13_lookOn_97 (by decide) ?_
      refine lv_iconst (v := 4) hx hb dX13_lookOn_99 (by decide) ?_
      refine lv_iload hx hb dX13_lookOn_100 (lv_at hl 4 rfl) ?_
      refine lv_imul hx hb dX13_lookOn_102 ?_
      refine lv_iadd hx hb dX13_lookOn_103 ?_
      refine mnmi hf (fun (x_21 : Int32) hf => ?_)
      refine lv_istore (lv' := [(5, .int x_21), (0, .ref (bs g 64)), (1, .int a1), (2, .int a2), (3, .int i_5), (4, .int i_6)]) hx hb dX13_lookOn_104 hl (by decide) rfl (fun ls hl => ?_)
      refine lv_aload_n hx hb dX13_lookOn_106 rfl (lv_at hl 1 rfl) ?_
      refine gf_13_17 hx hb htg (htg _ lf_X13_26) hown hZ hW tz_64 dX13_lookOn_107 ?_
      refine lv_iload hx hb dX13_lookOn_110 (lv_at hl 0 rfl) ?_
      refine mld_i hx hb hZ hW tz_69 hf dX13_lookOn_112 (fun hf => ?_)
      refine lv_iload_n hx hb dX13_lookOn_113 rfl (lv_at hl 2 rfl) ?_
      refine jn1_W (fun (i_22 : Int32) => ∀ (H : Heap) (locs : List Loc) (ls : Array Slot), Wd g 0 81 σ H → va_S (Ag g 0) s.heap H locs → lv_has ls 6 [(0, .ref (bs g 64)), (1, .int a1), (2, .int a2), (3, .int i_22), (4, .int i_6)] → W p l e (kr 2 43) s m (List.toArray [.ref (bs g 64), .int a1, .int a2]) below meth c H locs 0 0 Q (F0 m 153 ls [])) hf (fun i_22 hf => ?_) (fun k_23 hk_23 hf => ?_)
      · intro H locs ls hW hS hl
        obtain ⟨x_24, e_25, hf⟩ := nm_s hf
        refine lv_iinc (v := x_24) (lv' := [(4, .int x_24), (0, .ref (bs g 64)), (1, .int a1), (2, .int a2), (3, .int i_22)]) hx hb dX13_lookOn_153 hl (k := 4) rfl (by rw [e_25]; rfl) (by decide) rfl (fun ls hl => ?_)
        refine lv_goto (tgt := 85) hx hb dX13_lookOn_156 (by decide) ?_
        exact hk_7 i_22 x_24 hf H locs ls hW hS (lv_sub hl [1, 2, 3, 4, 0] rfl)
      · refine lv_icmp_ne (tgt := 153) hx hb dX13_lookOn_114 (by decide) (fun hc => ?_) (fun hc => ?_)
        · have hf := iff_ hc hf
          exact hk_23 i_5 hf H locs ls hW hS (lv_sub hl [1, 2, 3, 4, 5] rfl)
        · have hf := ift hc hf
          refine lv_aload_n hx hb dX13_lookOn_117 rfl (lv_at hl 1 rfl) ?_
          refine gf_13_17 hx hb htg (htg _ lf_X13_26) hown hZ hW tz_64 dX13_lookOn_118 ?_
          refine lv_iload hx hb dX13_lookOn_121 (lv_at hl 0 rfl) ?_
          refine lv_iconst (v := 1) hx hb dX13_lookOn_123 (by decide) ?_
          refine lv_iadd hx hb dX13_lookOn_124 ?_
          refine mld_i hx hb hZ hW tz_69 hf dX13_lookOn_125 (fun hf => ?_)
          refine lv_iload_n hx hb dX13_lookOn_126 rfl (lv_at hl 3 rfl) ?_
          refine lv_icmp_gt (tgt := 153) hx hb dX13_lookOn_127 (by decide) (fun hc => ?_) (fun hc => ?_)
          · have hf := ift hc hf
            exact hk_23 i_5 hf H locs ls hW hS (lv_sub hl [1, 2, 3, 4, 5] rfl)
          · have hf := iff_ hc hf
            refine lv_iload_n hx hb dX13_lookOn_130 rfl (lv_at hl 4 rfl) ?_
            refine lv_aload_n hx hb dX13_lookOn_131 rfl (lv_at hl 1 rfl) ?_
            refine gf_13_17 hx hb htg (htg _ lf_X13_26) hown hZ hW tz_64 dX13_lookOn_132 ?_
            refine lv_iload hx hb dX13_lookOn_135 (lv_at hl 0 rfl) ?_
            refine lv_iconst (v := 2) hx hb dX13_lookOn_137 (by decide) ?_
            refine lv_iadd hx hb dX13_lookOn_138 ?_
            refine mld_i hx hb hZ hW tz_69 hf dX13_lookOn_139 (fun hf => ?_)
            refine lv_aload_n hx hb dX13_lookOn_140 rfl (lv_at hl 1 rfl) ?_
            refine gf_13_17 hx hb htg (htg _ lf_X13_26) hown hZ hW tz_64 dX13_lookOn_141 ?_
            refine lv_iload hx hb dX13_lookOn_144 (lv_at hl 0 rfl) ?_
            refine lv_iconst (v := 3) hx hb dX13_lookOn_146 (by decide) ?_
            refine lv_iadd hx hb dX13_lookOn_147 ?_
            refine mld_i hx hb hZ hW tz_69 hf dX13_lookOn_148 (fun hf => ?_)
            refine mcip hf hS (fun r h => va_runS (As := [.int i_5, .int (σ.1 69 (x_21 + 2).toNatClampNeg), .int (σ.1 69 (x_21 + 3).toNatClampNeg)]) (rest := []) ⟨hx, hb, hml, hown, hts⟩ (c_X13_goesOn g l 0 81 σ i_5 (σ.1 69 (x_21 + 2).toNatClampNeg) (σ.1 69 (x_21 + 3).toNatClampNeg) r h) (cl_X13_253 hts ⟨Nat.le_of_ble_eq_true rfl, Nat.le_of_ble_eq_true rfl⟩) (mpS hZ hT hS hW _) rfl rfl hl.1 rfl (lv_room (Nat.le_of_ble_eq_true rfl)) dX13_lookOn_149 ⟨Nat.zero_le _, Nat.zero_le _⟩) (fun r_26 H locs hf hW hS => ?_)
            refine lv_istore_n (lv' := [(3, .int r_26), (5, .int x_21), (0, .ref (bs g 64)), (1, .int a1), (2, .int a2), (4, .int i_6)]) hx hb dX13_lookOn_152 rfl hl (by decide) rfl (fun ls hl => ?_)
            exact hk_23 r_26 hf H locs ls hW hS (lv_sub hl [2, 3, 4, 0, 5] rfl)
  · have hf := iff_ hc hf
    refine lv_bipush (v := 20) hx hb dX13_lookOn_20 (by decide) ?_
    refine lv_iconst (v := 4) hx hb dX13_lookOn_22 (by decide) ?_
    refine lv_iload hx hb dX13_lookOn_23 (lv_at hl 4 rfl) ?_
    refine lv_imul hx hb dX13_lookOn_25 ?_
    refine lv_iadd hx hb dX13_lookOn_26 ?_
    refine mnmi hf (fun (x_27 : Int32) hf => ?_)
    refine lv_istore (lv' := [(5, .int x_27), (0, .ref (bs g 64)), (1, .int a1), (2, .int a2), (3, .int i_2), (4, .int i_3)]) hx hb dX13_lookOn_27 hl (by decide) rfl (fun ls hl => ?_)
    refine lv_aload_n hx hb dX13_lookOn_29 rfl (lv_at hl 1 rfl) ?_
    refine gf_13_15 hx hb htg (htg _ lf_X13_20) hown hZ hW tz_64 dX13_lookOn_30 ?_
    refine lv_iload hx hb dX13_lookOn_33 (lv_at hl 0 rfl) ?_
    refine mld_i hx hb hZ hW tz_67 hf dX13_lookOn_35 (fun hf => ?_)
    refine lv_iload_n hx hb dX13_lookOn_36 rfl (lv_at hl 2 rfl) ?_
    refine jn1_W (fun (i_28 : Int32) => ∀ (H : Heap) (locs : List Loc) (ls : Array Slot), Wd g 0 81 σ H → va_S (Ag g 0) s.heap H locs → lv_has ls 6 [(0, .ref (bs g 64)), (1, .int a1), (2, .int a2), (3, .int i_28), (4, .int i_3)] → W p l e (kr 2 43) s m (List.toArray [.ref (bs g 64), .int a1, .int a2]) below meth c H locs 0 0 Q (F0 m 76 ls [])) hf (fun i_28 hf => ?_) (fun k_29 hk_29 hf => ?_)
    · intro H locs ls hW hS hl
      obtain ⟨x_30, e_31, hf⟩ := nm_s hf
      refine lv_iinc (v := x_30) (lv' := [(4, .int x_30), (0, .ref (bs g 64)), (1, .int a1), (2, .int a2), (3, .int i_28)]) hx hb dX13_lookOn_76 hl (k := 4) rfl (by rw [e_31]; rfl) (by decide) rfl (fun ls hl => ?_)
      refine lv_goto (tgt := 9) hx hb dX13_lookOn_79 (by decide) ?_
      exact hk_4 i_28 x_30 hf H locs ls hW hS (lv_sub hl [1, 2, 3, 4, 0] rfl)
    · refine lv_icmp_ne (tgt := 76) hx hb dX13_lookOn_37 (by decide) (fun hc => ?_) (fun hc => ?_)
      · have hf := iff_ hc hf
        exact hk_29 i_2 hf H locs ls hW hS (lv_sub hl [1, 2, 3, 4, 5] rfl)
      · have hf := ift hc hf
        refine lv_aload_n hx hb dX13_lookOn_40 rfl (lv_at hl 1 rfl) ?_
        refine gf_13_15 hx hb htg (htg _ lf_X13_20) hown hZ hW tz_64 dX13_lookOn_41 ?_
        refine lv_iload hx hb dX13_lookOn_44 (lv_at hl 0 rfl) ?_
        refine lv_iconst (v := 1) hx hb dX13_lookOn_46 (by decide) ?_
        refine lv_iadd hx hb dX13_lookOn_47 ?_
        refine mld_i hx hb hZ hW tz_67 hf dX13_lookOn_48 (fun hf => ?_)
        refine lv_iload_n hx hb dX13_lookOn_49 rfl (lv_at hl 3 rfl) ?_
        refine lv_icmp_gt (tgt := 76) hx hb dX13_lookOn_50 (by decide) (fun hc => ?_) (fun hc => ?_)
        · have hf := ift hc hf
          exact hk_29 i_2 hf H locs ls hW hS (lv_sub hl [1, 2, 3, 4, 5] rfl)
        · have hf := iff_ hc hf
          refine lv_iload_n hx hb dX13_lookOn_53 rfl (lv_at hl 4 rfl) ?_
          refine lv_aload_n hx hb dX13_lookOn_54 rfl (lv_at hl 1 rfl) ?_
          refine gf_13_15 hx hb htg (htg _ lf_X13_20) hown hZ hW tz_64 dX13_lookOn_55 ?_
          refine lv_iload hx hb dX13_lookOn_58 (lv_at hl 0 rfl) ?_
          refine lv_iconst (v := 2) hx hb dX13_lookOn_60 (by decide) ?_
          refine lv_iadd hx hb dX13_lookOn_61 ?_
          refine mld_i hx hb hZ hW tz_67 hf dX13_lookOn_62 (fun hf => ?_)
          refine lv_aload_n hx hb dX13_lookOn_63 rfl (lv_at hl 1 rfl) ?_
          refine gf_13_15 hx hb htg (htg _ lf_X13_20) hown hZ hW tz_64 dX13_lookOn_64 ?_
          refine lv_iload hx hb dX13_lookOn_67 (lv_at hl 0 rfl) ?_
          refine lv_iconst (v := 3) hx hb dX13_lookOn_69 (by decide) ?_
          refine lv_iadd hx hb dX13_lookOn_70 ?_
          refine mld_i hx hb hZ hW tz_67 hf dX13_lookOn_71 (fun hf => ?_)
          refine mcip hf hS (fun r h => va_runS (As := [.int i_2, .int (σ.1 67 (x_27 + 2).toNatClampNeg), .int (σ.1 67 (x_27 + 3).toNatClampNeg)]) (rest := []) ⟨hx, hb, hml, hown, hts⟩ (c_X13_goesOn g l 0 81 σ i_2 (σ.1 67 (x_27 + 2).toNatClampNeg) (σ.1 67 (x_27 + 3).toNatClampNeg) r h) (cl_X13_253 hts ⟨Nat.le_of_ble_eq_true rfl, Nat.le_of_ble_eq_true rfl⟩) (mpS hZ hT hS hW _) rfl rfl hl.1 rfl (lv_room (Nat.le_of_ble_eq_true rfl)) dX13_lookOn_72 ⟨Nat.zero_le _, Nat.zero_le _⟩) (fun r_32 H locs hf hW hS => ?_)
          refine lv_istore_n (lv' := [(3, .int r_32), (5, .int x_27), (0, .ref (bs g 64)), (1, .int a1), (2, .int a2), (4, .int i_3)]) hx hb dX13_lookOn_75 rfl hl (by decide) rfl (fun ls hl => ?_)
          exact hk_29 r_32 hf H locs ls hW hS (lv_sub hl [2, 3, 4, 0, 5] rfl)
def f_X13_latestOn (σ : Mem) (a1 : Int32) (a2 : Int32) : Option (Int32) :=
  fx1 FU (fun k_2 (i_1 : Int32) => (if i_1 < 0 then some (-2) else ixd i_1 (aln 69) ((if (σ.1 69 i_1.toNatClampNeg) = (a1 + 1) then some i_1 else nm (i_1 + (-1)) (fun (x_3 : Int32) => k_2 x_3))))) a2
set_option maxHeartbeats 4000000 in
set_option maxRecDepth 100000 in
theorem c_X13_latestOn (g : XG) (l : Launch) (σ : Mem) (a1 : Int32) (a2 : Int32) (r : Int32) (hf : f_X13_latestOn σ a1 a2 = some r) : Met l yX13_latestOn (wx (.code yX13_latestOn cX13_latestOn 4 (some .int))) (kr 0 0) (va_Pc [.ref (bs g 64), .int a1, .int a2] (WS g 0 81 σ)) (Qi' g 0 81 r σ) 0 0 (Ag g 0) := by
  refine Met.ofW (cc := cX13_latestOn) (maxL := 4) (ret := (some .int)) (by decide) rfl ?_
  intro p e s m args below meth c s₁ B hml hv
  obtain ⟨rfl, hZ, hT, hW⟩ := hv
  have hx := B.exec
  have hb := B.bytes
  have hr := B.returns
  have hts : ∀ w ∈ wx (.code yX13_latestOn cX13_latestOn 4 (some .int)), w.before _ s = true := atoms_spec B.pre
  have htg : ∀ w ∈ lwg, w.before _ s = true := fun w h => hts w (List.mem_cons_of_mem _ h)
  have hown : s.vm.findClass RX13 = some m.cls := findClass_of_methodNamed B.named
  have hlocks := B.notSynchronized
  change W p l e (kr 0 0) s m (List.toArray [.ref (bs g 64), .int a1, .int a2]) below meth c s.heap [] 0 0 (MQ below (Qi' g 0 81 r σ) (List.toArray [.ref (bs g 64), .int a1, .int a2]) s 0 0 (Ag g 0)) _
  generalize hQ : MQ below (Qi' g 0 81 r σ) (List.toArray [.ref (bs g 64), .int a1, .int a2]) s 0 0 (Ag g 0) = Q
  have hS : va_S (Ag g 0) s.heap s.heap [] := va_S.rf
  have hl := lv_entry ([.ref (bs g 64), .int a1, .int a2]) (n := 4) (Nat.le_of_ble_eq_true rfl)
  rw [lg_entry_eq]
  generalize (lg_sl ([.ref (bs g 64), .int a1, .int a2]) ++ List.replicate (4 - (lg_sl ([.ref (bs g 64), .int a1, .int a2])).length) Slot.unset).toArray = ls at hl ⊢
  have hl : lv_has ls 4 [(0, .ref (bs g 64)), (1, .int a1), (2, .int a2)] := hl
  delta f_X13_latestOn at hf
  obtain ⟨H, hH⟩ : ∃ H, H = s.heap := ⟨_, rfl⟩
  obtain ⟨locs, hLc⟩ : ∃ z : List Loc, z = [] := ⟨_, rfl⟩
  have hS : va_S (Ag g 0) s.heap H locs := by rw [hH, hLc]; exact hS
  have hW : Wd g 0 81 σ H := by rw [hH]; exact hW
  suffices hG : W p l e (kr 0 0) s m (List.toArray [.ref (bs g 64), .int a1, .int a2]) below meth c H locs 0 0 Q (F0 m 0 ls []) by rw [hH, hLc] at hG; exact hG
  clear hH hLc
  refine lv_iload_n hx hb dX13_latestOn_0 rfl (lv_at hl 2 rfl) ?_
  refine lv_istore_n (lv' := [(3, .int a2), (0, .ref (bs g 64)), (1, .int a1), (2, .int a2)]) hx hb dX13_latestOn_1 rfl hl (by decide) rfl (fun ls hl => ?_)
  refine fx1_W (fun (i_1 : Int32) => ∀ (H : Heap) (locs : List Loc) (ls : Array Slot), Wd g 0 81 σ H → va_S (Ag g 0) s.heap H locs → lv_has ls 4 [(0, .ref (bs g 64)), (1, .int a1), (3, .int i_1)] → W p l e (kr 0 0) s m (List.toArray [.ref (bs g 64), .int a1, .int a2]) below meth c H locs 0 0 Q (F0 m 2 ls [])) (fun k_2 hk_2 i_1 hf => ?_) FU a2 hf H locs ls hW hS (lv_sub hl [1, 2, 0] rfl)
  intro H locs ls hW hS hl
  refine lv_iload_n hx hb dX13_latestOn_2 rfl (lv_at hl 2 rfl) ?_
  refine lv_if_lt (tgt := 26) hx hb dX13_latestOn_3 (by decide) (fun hc => ?_) (fun hc => ?_)
  · have hf := ift hc hf
    refine lv_bipush (v := (-2)) hx hb dX13_latestOn_26 (by decide) ?_
    subst hQ
    exact mri hx hb hr hlocks hZ hT hS hW ⟨Option.some.inj hf, rfl⟩ dX13_latestOn_28
  · have hf := iff_ hc hf
    refine lv_aload_n hx hb dX13_latestOn_6 rfl (lv_at hl 0 rfl) ?_
    refine gf_13_17 hx hb htg (htg _ lf_X13_26) hown hZ hW tz_64 dX13_latestOn_7 ?_
    refine lv_iload_n hx hb dX13_latestOn_10 rfl (lv_at hl 2 rfl) ?_
    refine mld_i hx hb hZ hW tz_69 hf dX13_latestOn_11 (fun hf => ?_)
    refine lv_iload_n hx hb dX13_latestOn_12 rfl (lv_at hl 1 rfl) ?_
    refine lv_iconst (v := 1) hx hb dX13_latestOn_13 (by decide) ?_
    refine lv_iadd hx hb dX13_latestOn_14 ?_
    refine lv_icmp_ne (tgt := 20) hx hb dX13_latestOn_15 (by decide) (fun hc => ?_) (fun hc => ?_)
    · have hf := iff_ hc hf
      obtain ⟨x_3, e_4, hf⟩ := nm_s hf
      refine lv_iinc (v := x_3) (lv' := [(3, .int x_3), (0, .ref (bs g 64)), (1, .int a1)]) hx hb dX13_latestOn_20 hl (k := 2) rfl (by rw [e_4]; rfl) (by decide) rfl (fun ls hl => ?_)
      refine lv_goto (tgt := 2) hx hb dX13_latestOn_23 (by decide) ?_
      exact hk_2 x_3 hf H locs ls hW hS (lv_sub hl [1, 2, 0] rfl)
    · have hf := ift hc hf
      refine lv_iload_n hx hb dX13_latestOn_18 rfl (lv_at hl 2 rfl) ?_
      subst hQ
      exact mri hx hb hr hlocks hZ hT hS hW ⟨Option.some.inj hf, rfl⟩ dX13_latestOn_19
def f_X13_beliefOn (σ : Mem) (a1 : Int32) (a2 : Int32) : Option (Int32) :=
  bd1 (f_X13_latestOn σ a1 a2) (fun (r_1 : Int32) => ixd 2 (aln 67) (jn1 (fun (i_2 : Int32) => jn1 (fun (i_4 : Int32) => ixd (10 + (2 * a1)) (aln 67) ((if (σ.1 67 (10 + (2 * a1)).toNatClampNeg) = 3 then some (i_4 &&& (-4)) else some i_4))) (fun k_5 => (if 0 ≤ r_1 then bd1 (f_X13_lookOn σ a1 i_2) (fun (r_6 : Int32) => k_5 r_6) else bd1 (f_X13_toldLook σ a1) (fun (r_7 : Int32) => k_5 r_7)))) (fun k_3 => (if (σ.1 67 (2 : Int32).toNatClampNeg) ≤ r_1 then ixd 2 (aln 67) (k_3 (r_1 - (σ.1 67 (2 : Int32).toNatClampNeg))) else k_3 0))))
set_option maxHeartbeats 4000000 in
set_option maxRecDepth 100000 in
theorem c_X13_beliefOn (g : XG) (l : Launch) (σ : Mem) (a1 : Int32) (a2 : Int32) (r : Int32) (hf : f_X13_beliefOn σ a1 a2 = some r) : Met l yX13_beliefOn (wx (.code yX13_beliefOn cX13_beliefOn 6 (some .int))) (kr 3 68) (va_Pc [.ref (bs g 64), .int a1, .int a2] (WS g 0 81 σ)) (Qi' g 0 81 r σ) 0 0 (Ag g 0) := by
  refine Met.ofW (cc := cX13_beliefOn) (maxL := 6) (ret := (some .int)) (by decide) rfl ?_
  intro p e s m args below meth c s₁ B hml hv
  obtain ⟨rfl, hZ, hT, hW⟩ := hv
  have hx := B.exec
  have hb := B.bytes
  have hr := B.returns
  have hts : ∀ w ∈ wx (.code yX13_beliefOn cX13_beliefOn 6 (some .int)), w.before _ s = true := atoms_spec B.pre
  have htg : ∀ w ∈ lwg, w.before _ s = true := fun w h => hts w (List.mem_cons_of_mem _ h)
  have hown : s.vm.findClass RX13 = some m.cls := findClass_of_methodNamed B.named
  have hlocks := B.notSynchronized
  change W p l e (kr 3 68) s m (List.toArray [.ref (bs g 64), .int a1, .int a2]) below meth c s.heap [] 0 0 (MQ below (Qi' g 0 81 r σ) (List.toArray [.ref (bs g 64), .int a1, .int a2]) s 0 0 (Ag g 0)) _
  generalize hQ : MQ below (Qi' g 0 81 r σ) (List.toArray [.ref (bs g 64), .int a1, .int a2]) s 0 0 (Ag g 0) = Q
  have hS : va_S (Ag g 0) s.heap s.heap [] := va_S.rf
  have hl := lv_entry ([.ref (bs g 64), .int a1, .int a2]) (n := 6) (Nat.le_of_ble_eq_true rfl)
  rw [lg_entry_eq]
  generalize (lg_sl ([.ref (bs g 64), .int a1, .int a2]) ++ List.replicate (6 - (lg_sl ([.ref (bs g 64), .int a1, .int a2])).length) Slot.unset).toArray = ls at hl ⊢
  have hl : lv_has ls 6 [(0, .ref (bs g 64)), (1, .int a1), (2, .int a2)] := hl
  delta f_X13_beliefOn at hf
  obtain ⟨H, hH⟩ : ∃ H, H = s.heap := ⟨_, rfl⟩
  obtain ⟨locs, hLc⟩ : ∃ z : List Loc, z = [] := ⟨_, rfl⟩
  have hS : va_S (Ag g 0) s.heap H locs := by rw [hH, hLc]; exact hS
  have hW : Wd g 0 81 σ H := by rw [hH]; exact hW
  suffices hG : W p l e (kr 3 68) s m (List.toArray [.ref (bs g 64), .int a1, .int a2]) below meth c H locs 0 0 Q (F0 m 0 ls []) by rw [hH, hLc] at hG; exact hG
  clear hH hLc
  refine lv_aload_n hx hb dX13_beliefOn_0 rfl (lv_at hl 0 rfl) ?_
  refine lv_iload_n hx hb dX13_beliefOn_1 rfl (lv_at hl 1 rfl) ?_
  refine lv_iload_n hx hb dX13_beliefOn_2 rfl (lv_at hl 2 rfl) ?_
  refine mcip hf hS (fun r h => va_runV (As := [.int a1, .int a2]) (rest := []) ⟨hx, hb, hml, hown, hts⟩ (c_X13_latestOn g l σ a1 a2 r h) (cl_X13_260 hts ⟨Nat.le_of_ble_eq_true rfl, Nat.le_of_ble_eq_true rfl⟩) (mpV_13 hZ hT hS hW tz_64 _) rfl rfl hl.1 rfl (lv_room (Nat.le_of_ble_eq_true rfl)) dX13_beliefOn_3 ⟨Nat.zero_le _, Nat.zero_le _⟩) (fun r_1 H locs hf hW hS => ?_)
  refine lv_istore_n (lv' := [(3, .int r_1), (0, .ref (bs g 64)), (1, .int a1), (2, .int a2)]) hx hb dX13_beliefOn_6 rfl hl (by decide) rfl (fun ls hl => ?_)
  refine lv_iload_n hx hb dX13_beliefOn_7 rfl (lv_at hl 0 rfl) ?_
  refine lv_aload_n hx hb dX13_beliefOn_8 rfl (lv_at hl 1 rfl) ?_
  refine gf_13_15 hx hb htg (htg _ lf_X13_20) hown hZ hW tz_64 dX13_beliefOn_9 ?_
  refine lv_iconst (v := 2) hx hb dX13_beliefOn_12 (by decide) ?_
  refine mld_i hx hb hZ hW tz_67 hf dX13_beliefOn_13 (fun hf => ?_)
  refine jn1_W (fun (i_2 : Int32) => ∀ (H : Heap) (locs : List Loc) (ls : Array Slot), Wd g 0 81 σ H → va_S (Ag g 0) s.heap H locs → lv_has ls 6 [(0, .ref (bs g 64)), (1, .int a1), (3, .int r_1)] → W p l e (kr 3 68) s m (List.toArray [.ref (bs g 64), .int a1, .int a2]) below meth c H locs 0 0 Q (F0 m 29 ls [.int i_2])) hf (fun i_2 hf => ?_) (fun k_3 hk_3 hf => ?_)
  · intro H locs ls hW hS hl
    refine lv_istore (lv' := [(4, .int i_2), (0, .ref (bs g 64)), (1, .int a1), (3, .int r_1)]) hx hb dX13_beliefOn_29 hl (by decide) rfl (fun ls hl => ?_)
    refine lv_iload_n hx hb dX13_beliefOn_31 rfl (lv_at hl 3 rfl) ?_
    refine jn1_W (fun (i_4 : Int32) => ∀ (H : Heap) (locs : List Loc) (ls : Array Slot), Wd g 0 81 σ H → va_S (Ag g 0) s.heap H locs → lv_has ls 6 [(0, .ref (bs g 64)), (1, .int a1)] → W p l e (kr 3 68) s m (List.toArray [.ref (bs g 64), .int a1, .int a2]) below meth c H locs 0 0 Q (F0 m 50 ls [.int i_4])) hf (fun i_4 hf => ?_) (fun k_5 hk_5 hf => ?_)
    · intro H locs ls hW hS hl
      refine lv_istore (lv' := [(5, .int i_4), (0, .ref (bs g 64)), (1, .int a1)]) hx hb dX13_beliefOn_50 hl (by decide) rfl (fun ls hl => ?_)
      refine lv_aload_n hx hb dX13_beliefOn_52 rfl (lv_at hl 1 rfl) ?_
      refine gf_13_15 hx hb htg (htg _ lf_X13_20) hown hZ hW tz_64 dX13_beliefOn_53 ?_
      refine lv_bipush (v := 10) hx hb dX13_beliefOn_56 (by decide) ?_
      refine lv_iconst (v := 2) hx hb dX13_beliefOn_58 (by decide) ?_
      refine lv_iload_n hx hb dX13_beliefOn_59 rfl (lv_at hl 2 rfl) ?_
      refine lv_imul hx hb dX13_beliefOn_60 ?_
      refine lv_iadd hx hb dX13_beliefOn_61 ?_
      refine mld_i hx hb hZ hW tz_67 hf dX13_beliefOn_62 (fun hf => ?_)
      refine lv_iconst (v := 3) hx hb dX13_beliefOn_63 (by decide) ?_
      refine lv_icmp_ne (tgt := 75) hx hb dX13_beliefOn_64 (by decide) (fun hc => ?_) (fun hc => ?_)
      · have hf := iff_ hc hf
        refine lv_iload hx hb dX13_beliefOn_75 (lv_at hl 0 rfl) ?_
        subst hQ
        exact mri hx hb hr hlocks hZ hT hS hW ⟨Option.some.inj hf, rfl⟩ dX13_beliefOn_77
      · have hf := ift hc hf
        refine lv_iload hx hb dX13_beliefOn_67 (lv_at hl 0 rfl) ?_
        refine lv_bipush (v := (-4)) hx hb dX13_beliefOn_69 (by decide) ?_
        refine lv_iand hx hb dX13_beliefOn_71 ?_
        refine lv_goto (tgt := 77) hx hb dX13_beliefOn_72 (by decide) ?_
        subst hQ
        exact mri hx hb hr hlocks hZ hT hS hW ⟨Option.some.inj hf, rfl⟩ dX13_beliefOn_77
    · refine lv_if_ge (tgt := 43) hx hb dX13_beliefOn_32 (by decide) (fun hc => ?_) (fun hc => ?_)
      · have hf := ift hc hf
        refine lv_aload_n hx hb dX13_beliefOn_43 rfl (lv_at hl 1 rfl) ?_
        refine lv_iload_n hx hb dX13_beliefOn_44 rfl (lv_at hl 2 rfl) ?_
        refine lv_iload hx hb dX13_beliefOn_45 (lv_at hl 0 rfl) ?_
        refine mcip hf hS (fun r h => va_runV (As := [.int a1, .int i_2]) (rest := []) ⟨hx, hb, hml, hown, hts⟩ (c_X13_lookOn g l σ a1 i_2 r h) (cl_X13_263 hts ⟨Nat.le_of_ble_eq_true rfl, Nat.le_of_ble_eq_true rfl⟩) (mpV_13 hZ hT hS hW tz_64 _) rfl rfl hl.1 rfl (lv_room (Nat.le_of_ble_eq_true rfl)) dX13_beliefOn_47 ⟨Nat.zero_le _, Nat.zero_le _⟩) (fun r_6 H locs hf hW hS => ?_)
        exact hk_5 r_6 hf H locs ls hW hS (lv_sub hl [1, 2] rfl)
      · have hf := iff_ hc hf
        refine lv_aload_n hx hb dX13_beliefOn_35 rfl (lv_at hl 1 rfl) ?_
        refine lv_iload_n hx hb dX13_beliefOn_36 rfl (lv_at hl 2 rfl) ?_
        refine mcip hf hS (fun r h => va_runV (As := [.int a1]) (rest := []) ⟨hx, hb, hml, hown, hts⟩ (c_X13_toldLook g l σ a1 r h) (cl_X13_250 hts ⟨Nat.le_of_ble_eq_true rfl, Nat.le_of_ble_eq_true rfl⟩) (mpV_13 hZ hT hS hW tz_64 _) rfl rfl hl.1 rfl (lv_room (Nat.le_of_ble_eq_true rfl)) dX13_beliefOn_37 ⟨Nat.zero_le _, Nat.zero_le _⟩) (fun r_7 H locs hf hW hS => ?_)
        refine lv_goto (tgt := 50) hx hb dX13_beliefOn_40 (by decide) ?_
        exact hk_5 r_7 hf H locs ls hW hS (lv_sub hl [1, 2] rfl)
  · refine lv_icmp_ge (tgt := 21) hx hb dX13_beliefOn_14 (by decide) (fun hc => ?_) (fun hc => ?_)
    · have hf := ift hc hf
      refine lv_iload_n hx hb dX13_beliefOn_21 rfl (lv_at hl 0 rfl) ?_
      refine lv_aload_n hx hb dX13_beliefOn_22 rfl (lv_at hl 1 rfl) ?_
      refine gf_13_15 hx hb htg (htg _ lf_X13_20) hown hZ hW tz_64 dX13_beliefOn_23 ?_
      refine lv_iconst (v := 2) hx hb dX13_beliefOn_26 (by decide) ?_
      refine mld_i hx hb hZ hW tz_67 hf dX13_beliefOn_27 (fun hf => ?_)
      refine lv_isub hx hb dX13_beliefOn_28 ?_
      exact hk_3 (r_1 - (σ.1 67 (2 : Int32).toNatClampNeg)) hf H locs ls hW hS (lv_sub hl [1, 2, 0] rfl)
    · have hf := iff_ hc hf
      refine lv_iconst (v := 0) hx hb dX13_beliefOn_17 (by decide) ?_
      refine lv_goto (tgt := 29) hx hb dX13_beliefOn_18 (by decide) ?_
      exact hk_3 0 hf H locs ls hW hS (lv_sub hl [1, 2, 0] rfl)
def f_X13_papersOn (σ : Mem) (a1 : Int32) (a2 : Int32) : Option (Int32) :=
  bd1 (f_X13_latestOn σ a1 a2) (fun (r_1 : Int32) => (if 0 ≤ r_1 then bd1 (f_X13_lookOn σ a1 r_1) (fun (r_2 : Int32) => some r_2) else bd1 (f_X13_toldLook σ a1) (fun (r_3 : Int32) => some r_3)))
set_option maxHeartbeats 4000000 in
set_option maxRecDepth 100000 in
theorem c_X13_papersOn (g : XG) (l : Launch) (σ : Mem) (a1 : Int32) (a2 : Int32) (r : Int32) (hf : f_X13_papersOn σ a1 a2 = some r) : Met l yX13_papersOn (wx (.code yX13_papersOn cX13_papersOn 4 (some .int))) (kr 3 68) (va_Pc [.ref (bs g 64), .int a1, .int a2] (WS g 0 81 σ)) (Qi' g 0 81 r σ) 0 0 (Ag g 0) := by
  refine Met.ofW (cc := cX13_papersOn) (maxL := 4) (ret := (some .int)) (by decide) rfl ?_
  intro p e s m args below meth c s₁ B hml hv
  obtain ⟨rfl, hZ, hT, hW⟩ := hv
  have hx := B.exec
  have hb := B.bytes
  have hr := B.returns
  have hts : ∀ w ∈ wx (.code yX13_papersOn cX13_papersOn 4 (some .int)), w.before _ s = true := atoms_spec B.pre
  have htg : ∀ w ∈ lwg, w.before _ s = true := fun w h => hts w (List.mem_cons_of_mem _ h)
  have hown : s.vm.findClass RX13 = some m.cls := findClass_of_methodNamed B.named
  have hlocks := B.notSynchronized
  change W p l e (kr 3 68) s m (List.toArray [.ref (bs g 64), .int a1, .int a2]) below meth c s.heap [] 0 0 (MQ below (Qi' g 0 81 r σ) (List.toArray [.ref (bs g 64), .int a1, .int a2]) s 0 0 (Ag g 0)) _
  generalize hQ : MQ below (Qi' g 0 81 r σ) (List.toArray [.ref (bs g 64), .int a1, .int a2]) s 0 0 (Ag g 0) = Q
  have hS : va_S (Ag g 0) s.heap s.heap [] := va_S.rf
  have hl := lv_entry ([.ref (bs g 64), .int a1, .int a2]) (n := 4) (Nat.le_of_ble_eq_true rfl)
  rw [lg_entry_eq]
  generalize (lg_sl ([.ref (bs g 64), .int a1, .int a2]) ++ List.replicate (4 - (lg_sl ([.ref (bs g 64), .int a1, .int a2])).length) Slot.unset).toArray = ls at hl ⊢
  have hl : lv_has ls 4 [(0, .ref (bs g 64)), (1, .int a1), (2, .int a2)] := hl
  delta f_X13_papersOn at hf
  obtain ⟨H, hH⟩ : ∃ H, H = s.heap := ⟨_, rfl⟩
  obtain ⟨locs, hLc⟩ : ∃ z : List Loc, z = [] := ⟨_, rfl⟩
  have hS : va_S (Ag g 0) s.heap H locs := by rw [hH, hLc]; exact hS
  have hW : Wd g 0 81 σ H := by rw [hH]; exact hW
  suffices hG : W p l e (kr 3 68) s m (List.toArray [.ref (bs g 64), .int a1, .int a2]) below meth c H locs 0 0 Q (F0 m 0 ls []) by rw [hH, hLc] at hG; exact hG
  clear hH hLc
  refine lv_aload_n hx hb dX13_papersOn_0 rfl (lv_at hl 0 rfl) ?_
  refine lv_iload_n hx hb dX13_papersOn_1 rfl (lv_at hl 1 rfl) ?_
  refine lv_iload_n hx hb dX13_papersOn_2 rfl (lv_at hl 2 rfl) ?_
  refine mcip hf hS (fun r h => va_runV (As := [.int a1, .int a2]) (rest := []) ⟨hx, hb, hml, hown, hts⟩ (c_X13_latestOn g l σ a1 a2 r h) (cl_X13_260 hts ⟨Nat.le_of_ble_eq_true rfl, Nat.le_of_ble_eq_true rfl⟩) (mpV_13 hZ hT hS hW tz_64 _) rfl rfl hl.1 rfl (lv_room (Nat.le_of_ble_eq_true rfl)) dX13_papersOn_3 ⟨Nat.zero_le _, Nat.zero_le _⟩) (fun r_1 H locs hf hW hS => ?_)
  refine lv_istore_n (lv' := [(3, .int r_1), (0, .ref (bs g 64)), (1, .int a1), (2, .int a2)]) hx hb dX13_papersOn_6 rfl hl (by decide) rfl (fun ls hl => ?_)
  refine lv_iload_n hx hb dX13_papersOn_7 rfl (lv_at hl 0 rfl) ?_
  refine lv_if_ge (tgt := 19) hx hb dX13_papersOn_8 (by decide) (fun hc => ?_) (fun hc => ?_)
  · have hf := ift hc hf
    refine lv_aload_n hx hb dX13_papersOn_19 rfl (lv_at hl 1 rfl) ?_
    refine lv_iload_n hx hb dX13_papersOn_20 rfl (lv_at hl 2 rfl) ?_
    refine lv_iload_n hx hb dX13_papersOn_21 rfl (lv_at hl 0 rfl) ?_
    refine mcip hf hS (fun r h => va_runV (As := [.int a1, .int r_1]) (rest := []) ⟨hx, hb, hml, hown, hts⟩ (c_X13_lookOn g l σ a1 r_1 r h) (cl_X13_263 hts ⟨Nat.le_of_ble_eq_true rfl, Nat.le_of_ble_eq_true rfl⟩) (mpV_13 hZ hT hS hW tz_64 _) rfl rfl hl.1 rfl (lv_room (Nat.le_of_ble_eq_true rfl)) dX13_papersOn_22 ⟨Nat.zero_le _, Nat.zero_le _⟩) (fun r_2 H locs hf hW hS => ?_)
    subst hQ
    exact mri hx hb hr hlocks hZ hT hS hW ⟨Option.some.inj hf, rfl⟩ dX13_papersOn_25
  · have hf := iff_ hc hf
    refine lv_aload_n hx hb dX13_papersOn_11 rfl (lv_at hl 1 rfl) ?_
    refine lv_iload_n hx hb dX13_papersOn_12 rfl (lv_at hl 2 rfl) ?_
    refine mcip hf hS (fun r h => va_runV (As := [.int a1]) (rest := []) ⟨hx, hb, hml, hown, hts⟩ (c_X13_toldLook g l σ a1 r h) (cl_X13_250 hts ⟨Nat.le_of_ble_eq_true rfl, Nat.le_of_ble_eq_true rfl⟩) (mpV_13 hZ hT hS hW tz_64 _) rfl rfl hl.1 rfl (lv_room (Nat.le_of_ble_eq_true rfl)) dX13_papersOn_13 ⟨Nat.zero_le _, Nat.zero_le _⟩) (fun r_3 H locs hf hW hS => ?_)
    refine lv_goto (tgt := 25) hx hb dX13_papersOn_16 (by decide) ?_
    subst hQ
    exact mri hx hb hr hlocks hZ hT hS hW ⟨Option.some.inj hf, rfl⟩ dX13_papersOn_25
def f_X13_unlike (σ : Mem) (a1 : Int32) (a2 : Int32) : Option (Int32) :=
  fx2 FU (fun k_3 (i_1 : Int32) (i_2 : Int32) => ixd 0 (aln 67) ((if (σ.1 67 (0 : Int32).toNatClampNeg) ≤ i_2 then some i_1 else bd1 (f_X13_markOf a1 i_2) (fun (r_4 : Int32) => bd1 (f_X13_markOf a2 i_2) (fun (r_5 : Int32) => jn1 (fun (i_6 : Int32) => nm (i_1 + i_6) (fun (x_8 : Int32) => nm (i_2 + 1) (fun (x_9 : Int32) => k_3 x_8 x_9))) (fun k_7 => (if r_4 = r_5 then k_7 0 else k_7 1))))))) 0 0
set_option maxHeartbeats 4000000 in
set_option maxRecDepth 100000 in
theorem c_X13_unlike (g : XG) (l : Launch) (σ : Mem) (a1 : Int32) (a2 : Int32) (r : Int32) (hf : f_X13_unlike σ a1 a2 = some r) : Met l yX13_unlike (wx (.code yX13_unlike cX13_unlike 5 (some .int))) (kr 1 21) (va_Pc [.ref (bs g 64), .int a1, .int a2] (WS g 0 81 σ)) (Qi' g 0 81 r σ) 0 0 (Ag g 0) := by
  refine Met.ofW (cc := cX13_unlike) (maxL := 5) (ret := (some .int)) (by decide) rfl ?_
  intro p e s m args below meth c s₁ B hml hv
  obtain ⟨rfl, hZ, hT, hW⟩ := hv
  have hx := B.exec
  have hb := B.bytes
  have hr := B.returns
  have hts : ∀ w ∈ wx (.code yX13_unlike cX13_unlike 5 (some .int)), w.before _ s = true := atoms_spec B.pre
  have htg : ∀ w ∈ lwg, w.before _ s = true := fun w h => hts w (List.mem_cons_of_mem _ h)
  have hown : s.vm.findClass RX13 = some m.cls := findClass_of_methodNamed B.named
  have hlocks := B.notSynchronized
  change W p l e (kr 1 21) s m (List.toArray [.ref (bs g 64), .int a1, .int a2]) below meth c s.heap [] 0 0 (MQ below (Qi' g 0 81 r σ) (List.toArray [.ref (bs g 64), .int a1, .int a2]) s 0 0 (Ag g 0)) _
  generalize hQ : MQ below (Qi' g 0 81 r σ) (List.toArray [.ref (bs g 64), .int a1, .int a2]) s 0 0 (Ag g 0) = Q
  have hS : va_S (Ag g 0) s.heap s.heap [] := va_S.rf
  have hl := lv_entry ([.ref (bs g 64), .int a1, .int a2]) (n := 5) (Nat.le_of_ble_eq_true rfl)
  rw [lg_entry_eq]
  generalize (lg_sl ([.ref (bs g 64), .int a1, .int a2]) ++ List.replicate (5 - (lg_sl ([.ref (bs g 64), .int a1, .int a2])).length) Slot.unset).toArray = ls at hl ⊢
  have hl : lv_has ls 5 [(0, .ref (bs g 64)), (1, .int a1), (2, .int a2)] := hl
  delta f_X13_unlike at hf
  obtain ⟨H, hH⟩ : ∃ H, H = s.heap := ⟨_, rfl⟩
  obtain ⟨locs, hLc⟩ : ∃ z : List Loc, z = [] := ⟨_, rfl⟩
  have hS : va_S (Ag g 0) s.heap H locs := by rw [hH, hLc]; exact hS
  have hW : Wd g 0 81 σ H := by rw [hH]; exact hW
  suffices hG : W p l e (kr 1 21) s m (List.toArray [.ref (bs g 64), .int a1, .int a2]) below meth c H locs 0 0 Q (F0 m 0 ls []) by rw [hH, hLc] at hG; exact hG
  clear hH hLc
  refine lv_iconst (v := 0) hx hb dX13_unlike_0 (by decide) ?_
  refine lv_istore_n (lv' := [(3, .int 0), (0, .ref (bs g 64)), (1, .int a1), (2, .int a2)]) hx hb dX13_unlike_1 rfl hl (by decide) rfl (fun ls hl => ?_)
  refine lv_iconst (v := 0) hx hb dX13_unlike_2 (by decide) ?_
  refine lv_istore (lv' := [(4, .int 0), (3, .int 0), (0, .ref (bs g 64)), (1, .int a1), (2, .int a2)]) hx hb dX13_unlike_3 hl (by decide) rfl (fun ls hl => ?_)
  refine fx2_W (fun (i_1 : Int32) (i_2 : Int32) => ∀ (H : Heap) (locs : List Loc) (ls : Array Slot), Wd g 0 81 σ H → va_S (Ag g 0) s.heap H locs → lv_has ls 5 [(0, .ref (bs g 64)), (1, .int a1), (2, .int a2), (3, .int i_1), (4, .int i_2)] → W p l e (kr 1 21) s m (List.toArray [.ref (bs g 64), .int a1, .int a2]) below meth c H locs 0 0 Q (F0 m 5 ls [])) (fun k_3 hk_3 i_1 i_2 hf => ?_) FU 0 0 hf H locs ls hW hS (lv_sub hl [2, 3, 4, 1, 0] rfl)
  intro H locs ls hW hS hl
  refine lv_iload hx hb dX13_unlike_5 (lv_at hl 4 rfl) ?_
  refine lv_aload_n hx hb dX13_unlike_7 rfl (lv_at hl 0 rfl) ?_
  refine gf_13_15 hx hb htg (htg _ lf_X13_20) hown hZ hW tz_64 dX13_unlike_8 ?_
  refine lv_iconst (v := 0) hx hb dX13_unlike_11 (by decide) ?_
  refine mld_i hx hb hZ hW tz_67 hf dX13_unlike_12 (fun hf => ?_)
  refine lv_icmp_ge (tgt := 45) hx hb dX13_unlike_13 (by decide) (fun hc => ?_) (fun hc => ?_)
  · have hf := ift hc hf
    refine lv_iload_n hx hb dX13_unlike_45 rfl (lv_at hl 3 rfl) ?_
    subst hQ
    exact mri hx hb hr hlocks hZ hT hS hW ⟨Option.some.inj hf, rfl⟩ dX13_unlike_46
  · have hf := iff_ hc hf
    refine lv_iload_n hx hb dX13_unlike_16 rfl (lv_at hl 3 rfl) ?_
    refine lv_iload_n hx hb dX13_unlike_17 rfl (lv_at hl 1 rfl) ?_
    refine lv_iload hx hb dX13_unlike_18 (lv_at hl 4 rfl) ?_
    refine mcip hf hS (fun r h => va_runS (As := [.int a1, .int i_2]) (rest := [.int i_1]) ⟨hx, hb, hml, hown, hts⟩ (c_X13_markOf g l 0 81 σ a1 i_2 r h) (cl_X13_247 hts ⟨Nat.le_of_ble_eq_true rfl, Nat.le_of_ble_eq_true rfl⟩) (mpS hZ hT hS hW _) rfl rfl hl.1 rfl (lv_room (Nat.le_of_ble_eq_true rfl)) dX13_unlike_20 ⟨Nat.zero_le _, Nat.zero_le _⟩) (fun r_4 H locs hf hW hS => ?_)
    refine lv_iload_n hx hb dX13_unlike_23 rfl (lv_at hl 2 rfl) ?_
    refine lv_iload hx hb dX13_unlike_24 (lv_at hl 4 rfl) ?_
    refine mcip hf hS (fun r h => va_runS (As := [.int a2, .int i_2]) (rest := [.int r_4, .int i_1]) ⟨hx, hb, hml, hown, hts⟩ (c_X13_markOf g l 0 81 σ a2 i_2 r h) (cl_X13_247 hts ⟨Nat.le_of_ble_eq_true rfl, Nat.le_of_ble_eq_true rfl⟩) (mpS hZ hT hS hW _) rfl rfl hl.1 rfl (lv_room (Nat.le_of_ble_eq_true rfl)) dX13_unlike_26 ⟨Nat.zero_le _, Nat.zero_le _⟩) (fun r_5 H locs hf hW hS => ?_)
    refine jn1_W (fun (i_6 : Int32) => ∀ (H : Heap) (locs : List Loc) (ls : Array Slot), Wd g 0 81 σ H → va_S (Ag g 0) s.heap H locs → lv_has ls 5 [(0, .ref (bs g 64)), (1, .int a1), (2, .int a2), (4, .int i_2)] → W p l e (kr 1 21) s m (List.toArray [.ref (bs g 64), .int a1, .int a2]) below meth c H locs 0 0 Q (F0 m 37 ls [.int i_6, .int i_1])) hf (fun i_6 hf => ?_) (fun k_7 hk_7 hf => ?_)
    · intro H locs ls hW hS hl
      refine lv_iadd hx hb dX13_unlike_37 ?_
      refine mnmi hf (fun (x_8 : Int32) hf => ?_)
      refine lv_istore_n (lv' := [(3, .int x_8), (0, .ref (bs g 64)), (1, .int a1), (2, .int a2), (4, .int i_2)]) hx hb dX13_unlike_38 rfl hl (by decide) rfl (fun ls hl => ?_)
      obtain ⟨x_9, e_10, hf⟩ := nm_s hf
      refine lv_iinc (v := x_9) (lv' := [(4, .int x_9), (3, .int x_8), (0, .ref (bs g 64)), (1, .int a1), (2, .int a2)]) hx hb dX13_unlike_39 hl (k := 4) rfl (by rw [e_10]; rfl) (by decide) rfl (fun ls hl => ?_)
      refine lv_goto (tgt := 5) hx hb dX13_unlike_42 (by decide) ?_
      exact hk_3 x_8 x_9 hf H locs ls hW hS (lv_sub hl [2, 3, 4, 1, 0] rfl)
    · refine lv_icmp_ne (tgt := 36) hx hb dX13_unlike_29 (by decide) (fun hc => ?_) (fun hc => ?_)
      · have hf := iff_ hc hf
        refine lv_iconst (v := 1) hx hb dX13_unlike_36 (by decide) ?_
        exact hk_7 1 hf H locs ls hW hS (lv_sub hl [0, 1, 2, 4] rfl)
      · have hf := ift hc hf
        refine lv_iconst (v := 0) hx hb dX13_unlike_32 (by decide) ?_
        refine lv_goto (tgt := 37) hx hb dX13_unlike_33 (by decide) ?_
        exact hk_7 0 hf H locs ls hW hS (lv_sub hl [0, 1, 2, 4] rfl)
def f_X13_doesKnow (σ : Mem) (a1 : Int32) (a2 : Int32) : Option (Int32) :=
  bd1 (f_X13_beliefOn σ a1 a2) (fun (r_1 : Int32) => bd1 (f_X13_lookOn σ a1 a2) (fun (r_2 : Int32) => bd1 (f_X13_unlike σ r_1 r_2) (fun (r_3 : Int32) => ixd 1 (aln 67) ((if (σ.1 67 (1 : Int32).toNatClampNeg) < r_3 then some 0 else some 1)))))
set_option maxHeartbeats 4000000 in
set_option maxRecDepth 100000 in
theorem c_X13_doesKnow (g : XG) (l : Launch) (σ : Mem) (a1 : Int32) (a2 : Int32) (r : Int32) (hf : f_X13_doesKnow σ a1 a2 = some r) : Met l yX13_doesKnow (wx (.code yX13_doesKnow cX13_doesKnow 3 (some .boolean))) (kr 4 93) (va_Pc [.ref (bs g 64), .int a1, .int a2] (WS g 0 81 σ)) (Qi' g 0 81 r σ) 0 0 (Ag g 0) := by
  refine Met.ofW (cc := cX13_doesKnow) (maxL := 3) (ret := (some .boolean)) (by decide) rfl ?_
  intro p e s m args below meth c s₁ B hml hv
  obtain ⟨rfl, hZ, hT, hW⟩ := hv
  have hx := B.exec
  have hb := B.bytes
  have hr := B.returns
  have hts : ∀ w ∈ wx (.code yX13_doesKnow cX13_doesKnow 3 (some .boolean)), w.before _ s = true := atoms_spec B.pre
  have htg : ∀ w ∈ lwg, w.before _ s = true := fun w h => hts w (List.mem_cons_of_mem _ h)
  have hown : s.vm.findClass RX13 = some m.cls := findClass_of_methodNamed B.named
  have hlocks := B.notSynchronized
  change W p l e (kr 4 93) s m (List.toArray [.ref (bs g 64), .int a1, .int a2]) below meth c s.heap [] 0 0 (MQ below (Qi' g 0 81 r σ) (List.toArray [.ref (bs g 64), .int a1, .int a2]) s 0 0 (Ag g 0)) _
  generalize hQ : MQ below (Qi' g 0 81 r σ) (List.toArray [.ref (bs g 64), .int a1, .int a2]) s 0 0 (Ag g 0) = Q
  have hS : va_S (Ag g 0) s.heap s.heap [] := va_S.rf
  have hl := lv_entry ([.ref (bs g 64), .int a1, .int a2]) (n := 3) (Nat.le_of_ble_eq_true rfl)
  rw [lg_entry_eq]
  generalize (lg_sl ([.ref (bs g 64), .int a1, .int a2]) ++ List.replicate (3 - (lg_sl ([.ref (bs g 64), .int a1, .int a2])).length) Slot.unset).toArray = ls at hl ⊢
  have hl : lv_has ls 3 [(0, .ref (bs g 64)), (1, .int a1), (2, .int a2)] := hl
  delta f_X13_doesKnow at hf
  obtain ⟨H, hH⟩ : ∃ H, H = s.heap := ⟨_, rfl⟩
  obtain ⟨locs, hLc⟩ : ∃ z : List Loc, z = [] := ⟨_, rfl⟩
  have hS : va_S (Ag g 0) s.heap H locs := by rw [hH, hLc]; exact hS
  have hW : Wd g 0 81 σ H := by rw [hH]; exact hW
  suffices hG : W p l e (kr 4 93) s m (List.toArray [.ref (bs g 64), .int a1, .int a2]) below meth c H locs 0 0 Q (F0 m 0 ls []) by rw [hH, hLc] at hG; exact hG
  clear hH hLc
  refine lv_aload_n hx hb dX13_doesKnow_0 rfl (lv_at hl 0 rfl) ?_
  refine lv_aload_n hx hb dX13_doesKnow_1 rfl (lv_at hl 0 rfl) ?_
  refine lv_iload_n hx hb dX13_doesKnow_2 rfl (lv_at hl 1 rfl) ?_
  refine lv_iload_n hx hb dX13_doesKnow_3 rfl (lv_at hl 2 rfl) ?_
  refine mcip hf hS (fun r h => va_runV (As := [.int a1, .int a2]) (rest := [.ref (bs g 64)]) ⟨hx, hb, hml, hown, hts⟩ (c_X13_beliefOn g l σ a1 a2 r h) (cl_X13_266 hts ⟨Nat.le_of_ble_eq_true rfl, Nat.le_of_ble_eq_true rfl⟩) (mpV_13 hZ hT hS hW tz_64 _) rfl rfl hl.1 rfl (lv_room (Nat.le_of_ble_eq_true rfl)) dX13_doesKnow_4 ⟨Nat.zero_le _, Nat.zero_le _⟩) (fun r_1 H locs hf hW hS => ?_)
  refine lv_aload_n hx hb dX13_doesKnow_7 rfl (lv_at hl 0 rfl) ?_
  refine lv_iload_n hx hb dX13_doesKnow_8 rfl (lv_at hl 1 rfl) ?_
  refine lv_iload_n hx hb dX13_doesKnow_9 rfl (lv_at hl 2 rfl) ?_
  refine mcip hf hS (fun r h => va_runV (As := [.int a1, .int a2]) (rest := [.int r_1, .ref (bs g 64)]) ⟨hx, hb, hml, hown, hts⟩ (c_X13_lookOn g l σ a1 a2 r h) (cl_X13_263 hts ⟨Nat.le_of_ble_eq_true rfl, Nat.le_of_ble_eq_true rfl⟩) (mpV_13 hZ hT hS hW tz_64 _) rfl rfl hl.1 rfl (lv_room (Nat.le_of_ble_eq_true rfl)) dX13_doesKnow_10 ⟨Nat.zero_le _, Nat.zero_le _⟩) (fun r_2 H locs hf hW hS => ?_)
  refine mcip hf hS (fun r h => va_runV (As := [.int r_1, .int r_2]) (rest := []) ⟨hx, hb, hml, hown, hts⟩ (c_X13_unlike g l σ r_1 r_2 r h) (cl_X13_269 hts ⟨Nat.le_of_ble_eq_true rfl, Nat.le_of_ble_eq_true rfl⟩) (mpV_13 hZ hT hS hW tz_64 _) rfl rfl hl.1 rfl (lv_room (Nat.le_of_ble_eq_true rfl)) dX13_doesKnow_13 ⟨Nat.zero_le _, Nat.zero_le _⟩) (fun r_3 H locs hf hW hS => ?_)
  refine lv_aload_n hx hb dX13_doesKnow_16 rfl (lv_at hl 0 rfl) ?_
  refine gf_13_15 hx hb htg (htg _ lf_X13_20) hown hZ hW tz_64 dX13_doesKnow_17 ?_
  refine lv_iconst (v := 1) hx hb dX13_doesKnow_20 (by decide) ?_
  refine mld_i hx hb hZ hW tz_67 hf dX13_doesKnow_21 (fun hf => ?_)
  refine lv_icmp_gt (tgt := 29) hx hb dX13_doesKnow_22 (by decide) (fun hc => ?_) (fun hc => ?_)
  · have hf := ift hc hf
    refine lv_iconst (v := 0) hx hb dX13_doesKnow_29 (by decide) ?_
    subst hQ
    exact mrz hx hb hr hlocks hZ hT hS hW (by decide) ⟨Option.some.inj hf, rfl⟩ dX13_doesKnow_30
  · have hf := iff_ hc hf
    refine lv_iconst (v := 1) hx hb dX13_doesKnow_25 (by decide) ?_
    refine lv_goto (tgt := 30) hx hb dX13_doesKnow_26 (by decide) ?_
    subst hQ
    exact mrz hx hb hr hlocks hZ hT hS hW (by decide) ⟨Option.some.inj hf, rfl⟩ dX13_doesKnow_30
def f_X13_why (a1 : Int32) (a2 : Int32) : Option (Int32) :=
  (if a1 = 0 then some 1 else bd1 (f_X13_isDay a2) (fun (r_1 : Int32) => (if r_1 = 0 then some 2 else some 0)))
set_option maxHeartbeats 4000000 in
set_option maxRecDepth 100000 in
theorem c_X13_why (g : XG) (l : Launch) (σ : Mem) (a1 : Int32) (a2 : Int32) (r : Int32) (hf : f_X13_why a1 a2 = some r) : Met l yX13_why (wx (.code yX13_why cX13_why 3 (some .int))) (kr 2 42) (va_Pc [.ref (bs g 64), .int a1, .int a2] (WS g 0 81 σ)) (Qi' g 0 81 r σ) 0 0 (Ag g 0) := by
  refine Met.ofW (cc := cX13_why) (maxL := 3) (ret := (some .int)) (by decide) rfl ?_
  intro p e s m args below meth c s₁ B hml hv
  obtain ⟨rfl, hZ, hT, hW⟩ := hv
  have hx := B.exec
  have hb := B.bytes
  have hr := B.returns
  have hts : ∀ w ∈ wx (.code yX13_why cX13_why 3 (some .int)), w.before _ s = true := atoms_spec B.pre
  have htg : ∀ w ∈ lwg, w.before _ s = true := fun w h => hts w (List.mem_cons_of_mem _ h)
  have hown : s.vm.findClass RX13 = some m.cls := findClass_of_methodNamed B.named
  have hlocks := B.notSynchronized
  change W p l e (kr 2 42) s m (List.toArray [.ref (bs g 64), .int a1, .int a2]) below meth c s.heap [] 0 0 (MQ below (Qi' g 0 81 r σ) (List.toArray [.ref (bs g 64), .int a1, .int a2]) s 0 0 (Ag g 0)) _
  generalize hQ : MQ below (Qi' g 0 81 r σ) (List.toArray [.ref (bs g 64), .int a1, .int a2]) s 0 0 (Ag g 0) = Q
  have hS : va_S (Ag g 0) s.heap s.heap [] := va_S.rf
  have hl := lv_entry ([.ref (bs g 64), .int a1, .int a2]) (n := 3) (Nat.le_of_ble_eq_true rfl)
  rw [lg_entry_eq]
  generalize (lg_sl ([.ref (bs g 64), .int a1, .int a2]) ++ List.replicate (3 - (lg_sl ([.ref (bs g 64), .int a1, .int a2])).length) Slot.unset).toArray = ls at hl ⊢
  have hl : lv_has ls 3 [(0, .ref (bs g 64)), (1, .int a1), (2, .int a2)] := hl
  delta f_X13_why at hf
  obtain ⟨H, hH⟩ : ∃ H, H = s.heap := ⟨_, rfl⟩
  obtain ⟨locs, hLc⟩ : ∃ z : List Loc, z = [] := ⟨_, rfl⟩
  have hS : va_S (Ag g 0) s.heap H locs := by rw [hH, hLc]; exact hS
  have hW : Wd g 0 81 σ H := by rw [hH]; exact hW
  suffices hG : W p l e (kr 2 42) s m (List.toArray [.ref (bs g 64), .int a1, .int a2]) below meth c H locs 0 0 Q (F0 m 0 ls []) by rw [hH, hLc] at hG; exact hG
  clear hH hLc
  refine lv_iload_n hx hb dX13_why_0 rfl (lv_at hl 1 rfl) ?_
  refine lv_if_ne (tgt := 8) hx hb dX13_why_1 (by decide) (fun hc => ?_) (fun hc => ?_)
  · have hf := iff_ hc hf
    refine lv_iload_n hx hb dX13_why_8 rfl (lv_at hl 2 rfl) ?_
    refine mcip hf hS (fun r h => va_runS (As := [.int a2]) (rest := []) ⟨hx, hb, hml, hown, hts⟩ (c_X13_isDay g l 0 81 σ a2 r h) (cl_X13_272 hts ⟨Nat.le_of_ble_eq_true rfl, Nat.le_of_ble_eq_true rfl⟩) (mpS hZ hT hS hW _) rfl rfl hl.1 rfl (lv_room (Nat.le_of_ble_eq_true rfl)) dX13_why_9 ⟨Nat.zero_le _, Nat.zero_le _⟩) (fun r_1 H locs hf hW hS => ?_)
    refine lv_if_eq (tgt := 19) hx hb dX13_why_12 (by decide) (fun hc => ?_) (fun hc => ?_)
    · have hf := ift hc hf
      refine lv_iconst (v := 2) hx hb dX13_why_19 (by decide) ?_
      subst hQ
      exact mri hx hb hr hlocks hZ hT hS hW ⟨Option.some.inj hf, rfl⟩ dX13_why_20
    · have hf := iff_ hc hf
      refine lv_iconst (v := 0) hx hb dX13_why_15 (by decide) ?_
      refine lv_goto (tgt := 20) hx hb dX13_why_16 (by decide) ?_
      subst hQ
      exact mri hx hb hr hlocks hZ hT hS hW ⟨Option.some.inj hf, rfl⟩ dX13_why_20
  · have hf := ift hc hf
    refine lv_iconst (v := 1) hx hb dX13_why_4 (by decide) ?_
    refine lv_goto (tgt := 20) hx hb dX13_why_5 (by decide) ?_
    subst hQ
    exact mri hx hb hr hlocks hZ hT hS hW ⟨Option.some.inj hf, rfl⟩ dX13_why_20
def f_X13_look (σ : Mem) (a1 : Int32) (a2 : Int32) (a3 : Int32) : Option (Int32 × Mem) :=
  bd1 (f_X13_good σ) (fun (σ_1 : Mem) => bd1 (f_X13_isPerson σ_1 a1) (fun (r_2 : Int32) => jn1 (fun (i_3 : Int32) => bd1 (f_X13_why i_3 a2) (fun (r_5 : Int32) => (if r_5 = 0 then bd1 (f_X13_lookOn σ_1 a1 a2) (fun (r_6 : Int32) => bd1 (f_X13_markOf r_6 a3) (fun (r_7 : Int32) => some (r_7, σ_1))) else bd2 (f_X13_no σ_1 r_5) (fun (r_8 : Int32) (σ_9 : Mem) => some (r_8, σ_9))))) (fun k_4 => jn0 (k_4 0) (fun k_10 => (if r_2 = 0 then k_10 else bd1 (f_X13_isMark σ_1 a3) (fun (r_11 : Int32) => (if r_11 = 0 then k_10 else k_4 1)))))))
set_option maxHeartbeats 4000000 in
set_option maxRecDepth 100000 in
theorem c_X13_look (g : XG) (l : Launch) (σ : Mem) (a1 : Int32) (a2 : Int32) (a3 : Int32) (r : Int32) (τ : Mem) (hf : f_X13_look σ a1 a2 a3 = some (r, τ)) : Met l yX13_look (wx (.code yX13_look cX13_look 5 (some .int))) (kr 3 68) (va_Pc [.ref (bs g 64), .int a1, .int a2, .int a3] (WS g 0 81 σ)) (Qi' g 0 81 r τ) 0 0 (Ag g 0) := by
  refine Met.ofW (cc := cX13_look) (maxL := 5) (ret := (some .int)) (by decide) rfl ?_
  intro p e s m args below meth c s₁ B hml hv
  obtain ⟨rfl, hZ, hT, hW⟩ := hv
  have hx := B.exec
  have hb := B.bytes
  have hr := B.returns
  have hts : ∀ w ∈ wx (.code yX13_look cX13_look 5 (some .int)), w.before _ s = true := atoms_spec B.pre
  have htg : ∀ w ∈ lwg, w.before _ s = true := fun w h => hts w (List.mem_cons_of_mem _ h)
  have hown : s.vm.findClass RX13 = some m.cls := findClass_of_methodNamed B.named
  have hlocks := B.notSynchronized
  change W p l e (kr 3 68) s m (List.toArray [.ref (bs g 64), .int a1, .int a2, .int a3]) below meth c s.heap [] 0 0 (MQ below (Qi' g 0 81 r τ) (List.toArray [.ref (bs g 64), .int a1, .int a2, .int a3]) s 0 0 (Ag g 0)) _
  generalize hQ : MQ below (Qi' g 0 81 r τ) (List.toArray [.ref (bs g 64), .int a1, .int a2, .int a3]) s 0 0 (Ag g 0) = Q
  have hS : va_S (Ag g 0) s.heap s.heap [] := va_S.rf
  have hl := lv_entry ([.ref (bs g 64), .int a1, .int a2, .int a3]) (n := 5) (Nat.le_of_ble_eq_true rfl)
  rw [lg_entry_eq]
  generalize (lg_sl ([.ref (bs g 64), .int a1, .int a2, .int a3]) ++ List.replicate (5 - (lg_sl ([.ref (bs g 64), .int a1, .int a2, .int a3])).length) Slot.unset).toArray = ls at hl ⊢
  have hl : lv_has ls 5 [(0, .ref (bs g 64)), (1, .int a1), (2, .int a2), (3, .int a3)] := hl
  delta f_X13_look at hf
  obtain ⟨H, hH⟩ : ∃ H, H = s.heap := ⟨_, rfl⟩
  obtain ⟨locs, hLc⟩ : ∃ z : List Loc, z = [] := ⟨_, rfl⟩
  have hS : va_S (Ag g 0) s.heap H locs := by rw [hH, hLc]; exact hS
  have hW : Wd g 0 81 σ H := by rw [hH]; exact hW
  suffices hG : W p l e (kr 3 68) s m (List.toArray [.ref (bs g 64), .int a1, .int a2, .int a3]) below meth c H locs 0 0 Q (F0 m 0 ls []) by rw [hH, hLc] at hG; exact hG
  clear hH hLc
  refine lv_aload_n hx hb dX13_look_0 rfl (lv_at hl 0 rfl) ?_
  refine mcv hf hS (fun τ h => va_runV (As := []) (rest := []) ⟨hx, hb, hml, hown, hts⟩ (c_X13_good g l σ τ h) (cl_X13_166 hts ⟨Nat.le_of_ble_eq_true rfl, Nat.le_of_ble_eq_true rfl⟩) (mpV_13 hZ hT hS hW tz_64 _) rfl rfl hl.1 rfl (lv_room (Nat.le_of_ble_eq_true rfl)) dX13_look_1 ⟨Nat.zero_le _, Nat.zero_le _⟩) (fun σ_1 H locs hf hW hS => ?_)
  refine lv_aload_n hx hb dX13_look_4 rfl (lv_at hl 0 rfl) ?_
  refine lv_aload_n hx hb dX13_look_5 rfl (lv_at hl 0 rfl) ?_
  refine lv_iload_n hx hb dX13_look_6 rfl (lv_at hl 1 rfl) ?_
  refine mcip hf hS (fun r h => va_runV (As := [.int a1]) (rest := [.ref (bs g 64)]) ⟨hx, hb, hml, hown, hts⟩ (c_X13_isPerson g l σ_1 a1 r h) (cl_X13_275 hts ⟨Nat.le_of_ble_eq_true rfl, Nat.le_of_ble_eq_true rfl⟩) (mpV_13 hZ hT hS hW tz_64 _) rfl rfl hl.1 rfl (lv_room (Nat.le_of_ble_eq_true rfl)) dX13_look_7 ⟨Nat.zero_le _, Nat.zero_le _⟩) (fun r_2 H locs hf hW hS => ?_)
  refine jn1_W (fun (i_3 : Int32) => ∀ (H : Heap) (locs : List Loc) (ls : Array Slot), Wd g 0 81 σ_1 H → va_S (Ag g 0) s.heap H locs → lv_has ls 5 [(0, .ref (bs g 64)), (1, .int a1), (2, .int a2), (3, .int a3)] → W p l e (kr 3 68) s m (List.toArray [.ref (bs g 64), .int a1, .int a2, .int a3]) below meth c H locs 0 0 Q (F0 m 26 ls [.int i_3, .ref (bs g 64)])) hf (fun i_3 hf => ?_) (fun k_4 hk_4 hf => ?_)
  · intro H locs ls hW hS hl
    refine lv_iload_n hx hb dX13_look_26 rfl (lv_at hl 2 rfl) ?_
    refine mcip hf hS (fun r h => va_runV (As := [.int i_3, .int a2]) (rest := []) ⟨hx, hb, hml, hown, hts⟩ (c_X13_why g l σ_1 i_3 a2 r h) (cl_X13_281 hts ⟨Nat.le_of_ble_eq_true rfl, Nat.le_of_ble_eq_true rfl⟩) (mpV_13 hZ hT hS hW tz_64 _) rfl rfl hl.1 rfl (lv_room (Nat.le_of_ble_eq_true rfl)) dX13_look_27 ⟨Nat.zero_le _, Nat.zero_le _⟩) (fun r_5 H locs hf hW hS => ?_)
    refine lv_istore (lv' := [(4, .int r_5), (0, .ref (bs g 64)), (1, .int a1), (2, .int a2), (3, .int a3)]) hx hb dX13_look_30 hl (by decide) rfl (fun ls hl => ?_)
    refine lv_iload hx hb dX13_look_32 (lv_at hl 0 rfl) ?_
    refine lv_if_eq (tgt := 46) hx hb dX13_look_34 (by decide) (fun hc => ?_) (fun hc => ?_)
    · have hf := ift hc hf
      refine lv_aload_n hx hb dX13_look_46 rfl (lv_at hl 1 rfl) ?_
      refine lv_iload_n hx hb dX13_look_47 rfl (lv_at hl 2 rfl) ?_
      refine lv_iload_n hx hb dX13_look_48 rfl (lv_at hl 3 rfl) ?_
      refine mcip hf hS (fun r h => va_runV (As := [.int a1, .int a2]) (rest := []) ⟨hx, hb, hml, hown, hts⟩ (c_X13_lookOn g l σ_1 a1 a2 r h) (cl_X13_263 hts ⟨Nat.le_of_ble_eq_true rfl, Nat.le_of_ble_eq_true rfl⟩) (mpV_13 hZ hT hS hW tz_64 _) rfl rfl hl.1 rfl (lv_room (Nat.le_of_ble_eq_true rfl)) dX13_look_49 ⟨Nat.zero_le _, Nat.zero_le _⟩) (fun r_6 H locs hf hW hS => ?_)
      refine lv_iload_n hx hb dX13_look_52 rfl (lv_at hl 4 rfl) ?_
      refine mcip hf hS (fun r h => va_runS (As := [.int r_6, .int a3]) (rest := []) ⟨hx, hb, hml, hown, hts⟩ (c_X13_markOf g l 0 81 σ_1 r_6 a3 r h) (cl_X13_247 hts ⟨Nat.le_of_ble_eq_true rfl, Nat.le_of_ble_eq_true rfl⟩) (mpS hZ hT hS hW _) rfl rfl hl.1 rfl (lv_room (Nat.le_of_ble_eq_true rfl)) dX13_look_53 ⟨Nat.zero_le _, Nat.zero_le _⟩) (fun r_7 H locs hf hW hS => ?_)
      subst hQ
      exact mri hx hb hr hlocks hZ hT hS hW (pr1 hf) dX13_look_56
    · have hf := iff_ hc hf
      refine lv_aload_n hx hb dX13_look_37 rfl (lv_at hl 1 rfl) ?_
      refine lv_iload hx hb dX13_look_38 (lv_at hl 0 rfl) ?_
      refine mci hf hS (fun r τ h => va_runV (As := [.int r_5]) (rest := []) ⟨hx, hb, hml, hown, hts⟩ (c_X13_no g l σ_1 r_5 r τ h) (cl_X13_169 hts ⟨Nat.le_of_ble_eq_true rfl, Nat.le_of_ble_eq_true rfl⟩) (mpV_13 hZ hT hS hW tz_64 _) rfl rfl hl.1 rfl (lv_room (Nat.le_of_ble_eq_true rfl)) dX13_look_40 ⟨Nat.zero_le _, Nat.zero_le _⟩) (fun r_8 σ_9 H locs hf hW hS => ?_)
      refine lv_goto (tgt := 56) hx hb dX13_look_43 (by decide) ?_
      subst hQ
      exact mri hx hb hr hlocks hZ hT hS hW (pr1 hf) dX13_look_56
  · refine jn0_W (∀ (H : Heap) (locs : List Loc) (ls : Array Slot), Wd g 0 81 σ_1 H → va_S (Ag g 0) s.heap H locs → lv_has ls 5 [(0, .ref (bs g 64)), (1, .int a1), (2, .int a2), (3, .int a3)] → W p l e (kr 3 68) s m (List.toArray [.ref (bs g 64), .int a1, .int a2, .int a3]) below meth c H locs 0 0 Q (F0 m 25 ls [.ref (bs g 64)])) hf (fun  hf => ?_) (fun k_10 hk_10 hf => ?_)
    · intro H locs ls hW hS hl
      refine lv_iconst (v := 0) hx hb dX13_look_25 (by decide) ?_
      exact hk_4 0 hf H locs ls hW hS (lv_sub hl [0, 1, 2, 3] rfl)
    · refine lv_if_eq (tgt := 25) hx hb dX13_look_10 (by decide) (fun hc => ?_) (fun hc => ?_)
      · have hf := ift hc hf
        exact hk_10  hf H locs ls hW hS (lv_sub hl [0, 1, 2, 3] rfl)
      · have hf := iff_ hc hf
        refine lv_aload_n hx hb dX13_look_13 rfl (lv_at hl 0 rfl) ?_
        refine lv_iload_n hx hb dX13_look_14 rfl (lv_at hl 3 rfl) ?_
        refine mcip hf hS (fun r h => va_runV (As := [.int a3]) (rest := [.ref (bs g 64)]) ⟨hx, hb, hml, hown, hts⟩ (c_X13_isMark g l σ_1 a3 r h) (cl_X13_278 hts ⟨Nat.le_of_ble_eq_true rfl, Nat.le_of_ble_eq_true rfl⟩) (mpV_13 hZ hT hS hW tz_64 _) rfl rfl hl.1 rfl (lv_room (Nat.le_of_ble_eq_true rfl)) dX13_look_15 ⟨Nat.zero_le _, Nat.zero_le _⟩) (fun r_11 H locs hf hW hS => ?_)
        refine lv_if_eq (tgt := 25) hx hb dX13_look_18 (by decide) (fun hc => ?_) (fun hc => ?_)
        · have hf := ift hc hf
          exact hk_10  hf H locs ls hW hS (lv_sub hl [0, 1, 2, 3] rfl)
        · have hf := iff_ hc hf
          refine lv_iconst (v := 1) hx hb dX13_look_21 (by decide) ?_
          refine lv_goto (tgt := 26) hx hb dX13_look_22 (by decide) ?_
          exact hk_4 1 hf H locs ls hW hS (lv_sub hl [0, 1, 2, 3] rfl)
def f_X13_belief (σ : Mem) (a1 : Int32) (a2 : Int32) (a3 : Int32) : Option (Int32 × Mem) :=
  bd1 (f_X13_good σ) (fun (σ_1 : Mem) => bd1 (f_X13_isPerson σ_1 a1) (fun (r_2 : Int32) => jn1 (fun (i_3 : Int32) => bd1 (f_X13_why i_3 a2) (fun (r_5 : Int32) => (if r_5 = 0 then bd1 (f_X13_beliefOn σ_1 a1 a2) (fun (r_6 : Int32) => bd1 (f_X13_markOf r_6 a3) (fun (r_7 : Int32) => some (r_7, σ_1))) else bd2 (f_X13_no σ_1 r_5) (fun (r_8 : Int32) (σ_9 : Mem) => some (r_8, σ_9))))) (fun k_4 => jn0 (k_4 0) (fun k_10 => (if r_2 = 0 then k_10 else bd1 (f_X13_isMark σ_1 a3) (fun (r_11 : Int32) => (if r_11 = 0 then k_10 else k_4 1)))))))
set_option maxHeartbeats 4000000 in
set_option maxRecDepth 100000 in
theorem c_X13_belief (g : XG) (l : Launch) (σ : Mem) (a1 : Int32) (a2 : Int32) (a3 : Int32) (r : Int32) (τ : Mem) (hf : f_X13_belief σ a1 a2 a3 = some (r, τ)) : Met l yX13_belief (wx (.code yX13_belief cX13_belief 5 (some .int))) (kr 4 93) (va_Pc [.ref (bs g 64), .int a1, .int a2, .int a3] (WS g 0 81 σ)) (Qi' g 0 81 r τ) 0 0 (Ag g 0) := by
  refine Met.ofW (cc := cX13_belief) (maxL := 5) (ret := (some .int)) (by decide) rfl ?_
  intro p e s m args below meth c s₁ B hml hv
  obtain ⟨rfl, hZ, hT, hW⟩ := hv
  have hx := B.exec
  have hb := B.bytes
  have hr := B.returns
  have hts : ∀ w ∈ wx (.code yX13_belief cX13_belief 5 (some .int)), w.before _ s = true := atoms_spec B.pre
  have htg : ∀ w ∈ lwg, w.before _ s = true := fun w h => hts w (List.mem_cons_of_mem _ h)
  have hown : s.vm.findClass RX13 = some m.cls := findClass_of_methodNamed B.named
  have hlocks := B.notSynchronized
  change W p l e (kr 4 93) s m (List.toArray [.ref (bs g 64), .int a1, .int a2, .int a3]) below meth c s.heap [] 0 0 (MQ below (Qi' g 0 81 r τ) (List.toArray [.ref (bs g 64), .int a1, .int a2, .int a3]) s 0 0 (Ag g 0)) _
  generalize hQ : MQ below (Qi' g 0 81 r τ) (List.toArray [.ref (bs g 64), .int a1, .int a2, .int a3]) s 0 0 (Ag g 0) = Q
  have hS : va_S (Ag g 0) s.heap s.heap [] := va_S.rf
  have hl := lv_entry ([.ref (bs g 64), .int a1, .int a2, .int a3]) (n := 5) (Nat.le_of_ble_eq_true rfl)
  rw [lg_entry_eq]
  generalize (lg_sl ([.ref (bs g 64), .int a1, .int a2, .int a3]) ++ List.replicate (5 - (lg_sl ([.ref (bs g 64), .int a1, .int a2, .int a3])).length) Slot.unset).toArray = ls at hl ⊢
  have hl : lv_has ls 5 [(0, .ref (bs g 64)), (1, .int a1), (2, .int a2), (3, .int a3)] := hl
  delta f_X13_belief at hf
  obtain ⟨H, hH⟩ : ∃ H, H = s.heap := ⟨_, rfl⟩
  obtain ⟨locs, hLc⟩ : ∃ z : List Loc, z = [] := ⟨_, rfl⟩
  have hS : va_S (Ag g 0) s.heap H locs := by rw [hH, hLc]; exact hS
  have hW : Wd g 0 81 σ H := by rw [hH]; exact hW
  suffices hG : W p l e (kr 4 93) s m (List.toArray [.ref (bs g 64), .int a1, .int a2, .int a3]) below meth c H locs 0 0 Q (F0 m 0 ls []) by rw [hH, hLc] at hG; exact hG
  clear hH hLc
  refine lv_aload_n hx hb dX13_belief_0 rfl (lv_at hl 0 rfl) ?_
  refine mcv hf hS (fun τ h => va_runV (As := []) (rest := []) ⟨hx, hb, hml, hown, hts⟩ (c_X13_good g l σ τ h) (cl_X13_166 hts ⟨Nat.le_of_ble_eq_true rfl, Nat.le_of_ble_eq_true rfl⟩) (mpV_13 hZ hT hS hW tz_64 _) rfl rfl hl.1 rfl (lv_room (Nat.le_of_ble_eq_true rfl)) dX13_belief_1 ⟨Nat.zero_le _, Nat.zero_le _⟩) (fun σ_1 H locs hf hW hS => ?_)
  refine lv_aload_n hx hb dX13_belief_4 rfl (lv_at hl 0 rfl) ?_
  refine lv_aload_n hx hb dX13_belief_5 rfl (lv_at hl 0 rfl) ?_
  refine lv_iload_n hx hb dX13_belief_6 rfl (lv_at hl 1 rfl) ?_
  refine mcip hf hS (fun r h => va_runV (As := [.int a1]) (rest := [.ref (bs g 64)]) ⟨hx, hb, hml, hown, hts⟩ (c_X13_isPerson g l σ_1 a1 r h) (cl_X13_275 hts ⟨Nat.le_of_ble_eq_true rfl, Nat.le_of_ble_eq_true rfl⟩) (mpV_13 hZ hT hS hW tz_64 _) rfl rfl hl.1 rfl (lv_room (Nat.le_of_ble_eq_true rfl)) dX13_belief_7 ⟨Nat.zero_le _, Nat.zero_le _⟩) (fun r_2 H locs hf hW hS => ?_)
  refine jn1_W (fun (i_3 : Int32) => ∀ (H : Heap) (locs : List Loc) (ls : Array Slot), Wd g 0 81 σ_1 H → va_S (Ag g 0) s.heap H locs → lv_has ls 5 [(0, .ref (bs g 64)), (1, .int a1), (2, .int a2), (3, .int a3)] → W p l e (kr 4 93) s m (List.toArray [.ref (bs g 64), .int a1, .int a2, .int a3]) below meth c H locs 0 0 Q (F0 m 26 ls [.int i_3, .ref (bs g 64)])) hf (fun i_3 hf => ?_) (fun k_4 hk_4 hf => ?_)
  · intro H locs ls hW hS hl
    refine lv_iload_n hx hb dX13_belief_26 rfl (lv_at hl 2 rfl) ?_
    refine mcip hf hS (fun r h => va_runV (As := [.int i_3, .int a2]) (rest := []) ⟨hx, hb, hml, hown, hts⟩ (c_X13_why g l σ_1 i_3 a2 r h) (cl_X13_281 hts ⟨Nat.le_of_ble_eq_true rfl, Nat.le_of_ble_eq_true rfl⟩) (mpV_13 hZ hT hS hW tz_64 _) rfl rfl hl.1 rfl (lv_room (Nat.le_of_ble_eq_true rfl)) dX13_belief_27 ⟨Nat.zero_le _, Nat.zero_le _⟩) (fun r_5 H locs hf hW hS => ?_)
    refine lv_istore (lv' := [(4, .int r_5), (0, .ref (bs g 64)), (1, .int a1), (2, .int a2), (3, .int a3)]) hx hb dX13_belief_30 hl (by decide) rfl (fun ls hl => ?_)
    refine lv_iload hx hb dX13_belief_32 (lv_at hl 0 rfl) ?_
    refine lv_if_eq (tgt := 46) hx hb dX13_belief_34 (by decide) (fun hc => ?_) (fun hc => ?_)
    · have hf := ift hc hf
      refine lv_aload_n hx hb dX13_belief_46 rfl (lv_at hl 1 rfl) ?_
      refine lv_iload_n hx hb dX13_belief_47 rfl (lv_at hl 2 rfl) ?_
      refine lv_iload_n hx hb dX13_belief_48 rfl (lv_at hl 3 rfl) ?_
      refine mcip hf hS (fun r h => va_runV (As := [.int a1, .int a2]) (rest := []) ⟨hx, hb, hml, hown, hts⟩ (c_X13_beliefOn g l σ_1 a1 a2 r h) (cl_X13_266 hts ⟨Nat.le_of_ble_eq_true rfl, Nat.le_of_ble_eq_true rfl⟩) (mpV_13 hZ hT hS hW tz_64 _) rfl rfl hl.1 rfl (lv_room (Nat.le_of_ble_eq_true rfl)) dX13_belief_49 ⟨Nat.zero_le _, Nat.zero_le _⟩) (fun r_6 H locs hf hW hS => ?_)
      refine lv_iload_n hx hb dX13_belief_52 rfl (lv_at hl 4 rfl) ?_
      refine mcip hf hS (fun r h => va_runS (As := [.int r_6, .int a3]) (rest := []) ⟨hx, hb, hml, hown, hts⟩ (c_X13_markOf g l 0 81 σ_1 r_6 a3 r h) (cl_X13_247 hts ⟨Nat.le_of_ble_eq_true rfl, Nat.le_of_ble_eq_true rfl⟩) (mpS hZ hT hS hW _) rfl rfl hl.1 rfl (lv_room (Nat.le_of_ble_eq_true rfl)) dX13_belief_53 ⟨Nat.zero_le _, Nat.zero_le _⟩) (fun r_7 H locs hf hW hS => ?_)
      subst hQ
      exact mri hx hb hr hlocks hZ hT hS hW (pr1 hf) dX13_belief_56
    · have hf := iff_ hc hf
      refine lv_aload_n hx hb dX13_belief_37 rfl (lv_at hl 1 rfl) ?_
      refine lv_iload hx hb dX13_belief_38 (lv_at hl 0 rfl) ?_
      refine mci hf hS (fun r τ h => va_runV (As := [.int r_5]) (rest := []) ⟨hx, hb, hml, hown, hts⟩ (c_X13_no g l σ_1 r_5 r τ h) (cl_X13_169 hts ⟨Nat.le_of_ble_eq_true rfl, Nat.le_of_ble_eq_true rfl⟩) (mpV_13 hZ hT hS hW tz_64 _) rfl rfl hl.1 rfl (lv_room (Nat.le_of_ble_eq_true rfl)) dX13_belief_40 ⟨Nat.zero_le _, Nat.zero_le _⟩) (fun r_8 σ_9 H locs hf hW hS => ?_)
      refine lv_goto (tgt := 56) hx hb dX13_belief_43 (by decide) ?_
      subst hQ
      exact mri hx hb hr hlocks hZ hT hS hW (pr1 hf) dX13_belief_56
  · refine jn0_W (∀ (H : Heap) (locs : List Loc) (ls : Array Slot), Wd g 0 81 σ_1 H → va_S (Ag g 0) s.heap H locs → lv_has ls 5 [(0, .ref (bs g 64)), (1, .int a1), (2, .int a2), (3, .int a3)] → W p l e (kr 4 93) s m (List.toArray [.ref (bs g 64), .int a1, .int a2, .int a3]) below meth c H locs 0 0 Q (F0 m 25 ls [.ref (bs g 64)])) hf (fun  hf => ?_) (fun k_10 hk_10 hf => ?_)
    · intro H locs ls hW hS hl
      refine lv_iconst (v := 0) hx hb dX13_belief_25 (by decide) ?_
      exact hk_4 0 hf H locs ls hW hS (lv_sub hl [0, 1, 2, 3] rfl)
    · refine lv_if_eq (tgt := 25) hx hb dX13_belief_10 (by decide) (fun hc => ?_) (fun hc => ?_)
      · have hf := ift hc hf
        exact hk_10  hf H locs ls hW hS (lv_sub hl [0, 1, 2, 3] rfl)
      · have hf := iff_ hc hf
        refine lv_aload_n hx hb dX13_belief_13 rfl (lv_at hl 0 rfl) ?_
        refine lv_iload_n hx hb dX13_belief_14 rfl (lv_at hl 3 rfl) ?_
        refine mcip hf hS (fun r h => va_runV (As := [.int a3]) (rest := [.ref (bs g 64)]) ⟨hx, hb, hml, hown, hts⟩ (c_X13_isMark g l σ_1 a3 r h) (cl_X13_278 hts ⟨Nat.le_of_ble_eq_true rfl, Nat.le_of_ble_eq_true rfl⟩) (mpV_13 hZ hT hS hW tz_64 _) rfl rfl hl.1 rfl (lv_room (Nat.le_of_ble_eq_true rfl)) dX13_belief_15 ⟨Nat.zero_le _, Nat.zero_le _⟩) (fun r_11 H locs hf hW hS => ?_)
        refine lv_if_eq (tgt := 25) hx hb dX13_belief_18 (by decide) (fun hc => ?_) (fun hc => ?_)
        · have hf := ift hc hf
          exact hk_10  hf H locs ls hW hS (lv_sub hl [0, 1, 2, 3] rfl)
        · have hf := iff_ hc hf
          refine lv_iconst (v := 1) hx hb dX13_belief_21 (by decide) ?_
          refine lv_goto (tgt := 26) hx hb dX13_belief_22 (by decide) ?_
          exact hk_4 1 hf H locs ls hW hS (lv_sub hl [0, 1, 2, 3] rfl)
def f_X13_papers (σ : Mem) (a1 : Int32) (a2 : Int32) (a3 : Int32) : Option (Int32 × Mem) :=
  bd1 (f_X13_good σ) (fun (σ_1 : Mem) => bd1 (f_X13_isPerson σ_1 a1) (fun (r_2 : Int32) => jn1 (fun (i_3 : Int32) => bd1 (f_X13_why i_3 a2) (fun (r_5 : Int32) => (if r_5 = 0 then bd1 (f_X13_papersOn σ_1 a1 a2) (fun (r_6 : Int32) => bd1 (f_X13_markOf r_6 a3) (fun (r_7 : Int32) => some (r_7, σ_1))) else bd2 (f_X13_no σ_1 r_5) (fun (r_8 : Int32) (σ_9 : Mem) => some (r_8, σ_9))))) (fun k_4 => jn0 (k_4 0) (fun k_10 => (if r_2 = 0 then k_10 else bd1 (f_X13_isMark σ_1 a3) (fun (r_11 : Int32) => (if r_11 = 0 then k_10 else k_4 1)))))))
set_option maxHeartbeats 4000000 in
set_option maxRecDepth 100000 in
theorem c_X13_papers (g : XG) (l : Launch) (σ : Mem) (a1 : Int32) (a2 : Int32) (a3 : Int32) (r : Int32) (τ : Mem) (hf : f_X13_papers σ a1 a2 a3 = some (r, τ)) : Met l yX13_papers (wx (.code yX13_papers cX13_papers 5 (some .int))) (kr 4 91) (va_Pc [.ref (bs g 64), .int a1, .int a2, .int a3] (WS g 0 81 σ)) (Qi' g 0 81 r τ) 0 0 (Ag g 0) := by
  refine Met.ofW (cc := cX13_papers) (maxL := 5) (ret := (some .int)) (by decide) rfl ?_
  intro p e s m args below meth c s₁ B hml hv
  obtain ⟨rfl, hZ, hT, hW⟩ := hv
  have hx := B.exec
  have hb := B.bytes
  have hr := B.returns
  have hts : ∀ w ∈ wx (.code yX13_papers cX13_papers 5 (some .int)), w.before _ s = true := atoms_spec B.pre
  have htg : ∀ w ∈ lwg, w.before _ s = true := fun w h => hts w (List.mem_cons_of_mem _ h)
  have hown : s.vm.findClass RX13 = some m.cls := findClass_of_methodNamed B.named
  have hlocks := B.notSynchronized
  change W p l e (kr 4 91) s m (List.toArray [.ref (bs g 64), .int a1, .int a2, .int a3]) below meth c s.heap [] 0 0 (MQ below (Qi' g 0 81 r τ) (List.toArray [.ref (bs g 64), .int a1, .int a2, .int a3]) s 0 0 (Ag g 0)) _
  generalize hQ : MQ below (Qi' g 0 81 r τ) (List.toArray [.ref (bs g 64), .int a1, .int a2, .int a3]) s 0 0 (Ag g 0) = Q
  have hS : va_S (Ag g 0) s.heap s.heap [] := va_S.rf
  have hl := lv_entry ([.ref (bs g 64), .int a1, .int a2, .int a3]) (n := 5) (Nat.le_of_ble_eq_true rfl)
  rw [lg_entry_eq]
  generalize (lg_sl ([.ref (bs g 64), .int a1, .int a2, .int a3]) ++ List.replicate (5 - (lg_sl ([.ref (bs g 64), .int a1, .int a2, .int a3])).length) Slot.unset).toArray = ls at hl ⊢
  have hl : lv_has ls 5 [(0, .ref (bs g 64)), (1, .int a1), (2, .int a2), (3, .int a3)] := hl
  delta f_X13_papers at hf
  obtain ⟨H, hH⟩ : ∃ H, H = s.heap := ⟨_, rfl⟩
  obtain ⟨locs, hLc⟩ : ∃ z : List Loc, z = [] := ⟨_, rfl⟩
  have hS : va_S (Ag g 0) s.heap H locs := by rw [hH, hLc]; exact hS
  have hW : Wd g 0 81 σ H := by rw [hH]; exact hW
  suffices hG : W p l e (kr 4 91) s m (List.toArray [.ref (bs g 64), .int a1, .int a2, .int a3]) below meth c H locs 0 0 Q (F0 m 0 ls []) by rw [hH, hLc] at hG; exact hG
  clear hH hLc
  refine lv_aload_n hx hb dX13_papers_0 rfl (lv_at hl 0 rfl) ?_
  refine mcv hf hS (fun τ h => va_runV (As := []) (rest := []) ⟨hx, hb, hml, hown, hts⟩ (c_X13_good g l σ τ h) (cl_X13_166 hts ⟨Nat.le_of_ble_eq_true rfl, Nat.le_of_ble_eq_true rfl⟩) (mpV_13 hZ hT hS hW tz_64 _) rfl rfl hl.1 rfl (lv_room (Nat.le_of_ble_eq_true rfl)) dX13_papers_1 ⟨Nat.zero_le _, Nat.zero_le _⟩) (fun σ_1 H locs hf hW hS => ?_)
  refine lv_aload_n hx hb dX13_papers_4 rfl (lv_at hl 0 rfl) ?_
  refine lv_aload_n hx hb dX13_papers_5 rfl (lv_at hl 0 rfl) ?_
  refine lv_iload_n hx hb dX13_papers_6 rfl (lv_at hl 1 rfl) ?_
  refine mcip hf hS (fun r h => va_runV (As := [.int a1]) (rest := [.ref (bs g 64)]) ⟨hx, hb, hml, hown, hts⟩ (c_X13_isPerson g l σ_1 a1 r h) (cl_X13_275 hts ⟨Nat.le_of_ble_eq_true rfl, Nat.le_of_ble_eq_true rfl⟩) (mpV_13 hZ hT hS hW tz_64 _) rfl rfl hl.1 rfl (lv_room (Nat.le_of_ble_eq_true rfl)) dX13_papers_7 ⟨Nat.zero_le _, Nat.zero_le _⟩) (fun r_2 H locs hf hW hS => ?_)
  refine jn1_W (fun (i_3 : Int32) => ∀ (H : Heap) (locs : List Loc) (ls : Array Slot), Wd g 0 81 σ_1 H → va_S (Ag g 0) s.heap H locs → lv_has ls 5 [(0, .ref (bs g 64)), (1, .int a1), (2, .int a2), (3, .int a3)] → W p l e (kr 4 91) s m (List.toArray [.ref (bs g 64), .int a1, .int a2, .int a3]) below meth c H locs 0 0 Q (F0 m 26 ls [.int i_3, .ref (bs g 64)])) hf (fun i_3 hf => ?_) (fun k_4 hk_4 hf => ?_)
  · intro H locs ls hW hS hl
    refine lv_iload_n hx hb dX13_papers_26 rfl (lv_at hl 2 rfl) ?_
    refine mcip hf hS (fun r h => va_runV (As := [.int i_3, .int a2]) (rest := []) ⟨hx, hb, hml, hown, hts⟩ (c_X13_why g l σ_1 i_3 a2 r h) (cl_X13_281 hts ⟨Nat.le_of_ble_eq_true rfl, Nat.le_of_ble_eq_true rfl⟩) (mpV_13 hZ hT hS hW tz_64 _) rfl rfl hl.1 rfl (lv_room (Nat.le_of_ble_eq_true rfl)) dX13_papers_27 ⟨Nat.zero_le _, Nat.zero_le _⟩) (fun r_5 H locs hf hW hS => ?_)
    refine lv_istore (lv' := [(4, .int r_5), (0, .ref (bs g 64)), (1, .int a1), (2, .int a2), (3, .int a3)]) hx hb dX13_papers_30 hl (by decide) rfl (fun ls hl => ?_)
    refine lv_iload hx hb dX13_papers_32 (lv_at hl 0 rfl) ?_
    refine lv_if_eq (tgt := 46) hx hb dX13_papers_34 (by decide) (fun hc => ?_) (fun hc => ?_)
    · have hf := ift hc hf
      refine lv_aload_n hx hb dX13_papers_46 rfl (lv_at hl 1 rfl) ?_
      refine lv_iload_n hx hb dX13_papers_47 rfl (lv_at hl 2 rfl) ?_
      refine lv_iload_n hx hb dX13_papers_48 rfl (lv_at hl 3 rfl) ?_
      refine mcip hf hS (fun r h => va_runV (As := [.int a1, .int a2]) (rest := []) ⟨hx, hb, hml, hown, hts⟩ (c_X13_papersOn g l σ_1 a1 a2 r h) (cl_X13_285 hts ⟨Nat.le_of_ble_eq_true rfl, Nat.le_of_ble_eq_true rfl⟩) (mpV_13 hZ hT hS hW tz_64 _) rfl rfl hl.1 rfl (lv_room (Nat.le_of_ble_eq_true rfl)) dX13_papers_49 ⟨Nat.zero_le _, Nat.zero_le _⟩) (fun r_6 H locs hf hW hS => ?_)
      refine lv_iload_n hx hb dX13_papers_52 rfl (lv_at hl 4 rfl) ?_
      refine mcip hf hS (fun r h => va_runS (As := [.int r_6, .int a3]) (rest := []) ⟨hx, hb, hml, hown, hts⟩ (c_X13_markOf g l 0 81 σ_1 r_6 a3 r h) (cl_X13_247 hts ⟨Nat.le_of_ble_eq_true rfl, Nat.le_of_ble_eq_true rfl⟩) (mpS hZ hT hS hW _) rfl rfl hl.1 rfl (lv_room (Nat.le_of_ble_eq_true rfl)) dX13_papers_53 ⟨Nat.zero_le _, Nat.zero_le _⟩) (fun r_7 H locs hf hW hS => ?_)
      subst hQ
      exact mri hx hb hr hlocks hZ hT hS hW (pr1 hf) dX13_papers_56
    · have hf := iff_ hc hf
      refine lv_aload_n hx hb dX13_papers_37 rfl (lv_at hl 1 rfl) ?_
      refine lv_iload hx hb dX13_papers_38 (lv_at hl 0 rfl) ?_
      refine mci hf hS (fun r τ h => va_runV (As := [.int r_5]) (rest := []) ⟨hx, hb, hml, hown, hts⟩ (c_X13_no g l σ_1 r_5 r τ h) (cl_X13_169 hts ⟨Nat.le_of_ble_eq_true rfl, Nat.le_of_ble_eq_true rfl⟩) (mpV_13 hZ hT hS hW tz_64 _) rfl rfl hl.1 rfl (lv_room (Nat.le_of_ble_eq_true rfl)) dX13_papers_40 ⟨Nat.zero_le _, Nat.zero_le _⟩) (fun r_8 σ_9 H locs hf hW hS => ?_)
      refine lv_goto (tgt := 56) hx hb dX13_papers_43 (by decide) ?_
      subst hQ
      exact mri hx hb hr hlocks hZ hT hS hW (pr1 hf) dX13_papers_56
  · refine jn0_W (∀ (H : Heap) (locs : List Loc) (ls : Array Slot), Wd g 0 81 σ_1 H → va_S (Ag g 0) s.heap H locs → lv_has ls 5 [(0, .ref (bs g 64)), (1, .int a1), (2, .int a2), (3, .int a3)] → W p l e (kr 4 91) s m (List.toArray [.ref (bs g 64), .int a1, .int a2, .int a3]) below meth c H locs 0 0 Q (F0 m 25 ls [.ref (bs g 64)])) hf (fun  hf => ?_) (fun k_10 hk_10 hf => ?_)
    · intro H locs ls hW hS hl
      refine lv_iconst (v := 0) hx hb dX13_papers_25 (by decide) ?_
      exact hk_4 0 hf H locs ls hW hS (lv_sub hl [0, 1, 2, 3] rfl)
    · refine lv_if_eq (tgt := 25) hx hb dX13_papers_10 (by decide) (fun hc => ?_) (fun hc => ?_)
      · have hf := ift hc hf
        exact hk_10  hf H locs ls hW hS (lv_sub hl [0, 1, 2, 3] rfl)
      · have hf := iff_ hc hf
        refine lv_aload_n hx hb dX13_papers_13 rfl (lv_at hl 0 rfl) ?_
        refine lv_iload_n hx hb dX13_papers_14 rfl (lv_at hl 3 rfl) ?_
        refine mcip hf hS (fun r h => va_runV (As := [.int a3]) (rest := [.ref (bs g 64)]) ⟨hx, hb, hml, hown, hts⟩ (c_X13_isMark g l σ_1 a3 r h) (cl_X13_278 hts ⟨Nat.le_of_ble_eq_true rfl, Nat.le_of_ble_eq_true rfl⟩) (mpV_13 hZ hT hS hW tz_64 _) rfl rfl hl.1 rfl (lv_room (Nat.le_of_ble_eq_true rfl)) dX13_papers_15 ⟨Nat.zero_le _, Nat.zero_le _⟩) (fun r_11 H locs hf hW hS => ?_)
        refine lv_if_eq (tgt := 25) hx hb dX13_papers_18 (by decide) (fun hc => ?_) (fun hc => ?_)
        · have hf := ift hc hf
          exact hk_10  hf H locs ls hW hS (lv_sub hl [0, 1, 2, 3] rfl)
        · have hf := iff_ hc hf
          refine lv_iconst (v := 1) hx hb dX13_papers_21 (by decide) ?_
          refine lv_goto (tgt := 26) hx hb dX13_papers_22 (by decide) ?_
          exact hk_4 1 hf H locs ls hW hS (lv_sub hl [0, 1, 2, 3] rfl)
def f_X13_kind (σ : Mem) (a1 : Int32) : Option (Int32 × Mem) :=
  bd1 (f_X13_good σ) (fun (σ_1 : Mem) => bd1 (f_X13_isPerson σ_1 a1) (fun (r_2 : Int32) => (if r_2 = 0 then bd2 (f_X13_no σ_1 1) (fun (r_3 : Int32) (σ_4 : Mem) => some (r_3, σ_4)) else ixd (10 + (2 * a1)) (aln 67) (some (σ_1.1 67 (10 + (2 * a1)).toNatClampNeg, σ_1)))))
set_option maxHeartbeats 4000000 in
set_option maxRecDepth 100000 in
theorem c_X13_kind (g : XG) (l : Launch) (σ : Mem) (a1 : Int32) (r : Int32) (τ : Mem) (hf : f_X13_kind σ a1 = some (r, τ)) : Met l yX13_kind (wx (.code yX13_kind cX13_kind 2 (some .int))) (kr 2 43) (va_Pc [.ref (bs g 64), .int a1] (WS g 0 81 σ)) (Qi' g 0 81 r τ) 0 0 (Ag g 0) := by
  refine Met.ofW (cc := cX13_kind) (maxL := 2) (ret := (some .int)) (by decide) rfl ?_
  intro p e s m args below meth c s₁ B hml hv
  obtain ⟨rfl, hZ, hT, hW⟩ := hv
  have hx := B.exec
  have hb := B.bytes
  have hr := B.returns
  have hts : ∀ w ∈ wx (.code yX13_kind cX13_kind 2 (some .int)), w.before _ s = true := atoms_spec B.pre
  have htg : ∀ w ∈ lwg, w.before _ s = true := fun w h => hts w (List.mem_cons_of_mem _ h)
  have hown : s.vm.findClass RX13 = some m.cls := findClass_of_methodNamed B.named
  have hlocks := B.notSynchronized
  change W p l e (kr 2 43) s m (List.toArray [.ref (bs g 64), .int a1]) below meth c s.heap [] 0 0 (MQ below (Qi' g 0 81 r τ) (List.toArray [.ref (bs g 64), .int a1]) s 0 0 (Ag g 0)) _
  generalize hQ : MQ below (Qi' g 0 81 r τ) (List.toArray [.ref (bs g 64), .int a1]) s 0 0 (Ag g 0) = Q
  have hS : va_S (Ag g 0) s.heap s.heap [] := va_S.rf
  have hl := lv_entry ([.ref (bs g 64), .int a1]) (n := 2) (Nat.le_of_ble_eq_true rfl)
  rw [lg_entry_eq]
  generalize (lg_sl ([.ref (bs g 64), .int a1]) ++ List.replicate (2 - (lg_sl ([.ref (bs g 64), .int a1])).length) Slot.unset).toArray = ls at hl ⊢
  have hl : lv_has ls 2 [(0, .ref (bs g 64)), (1, .int a1)] := hl
  delta f_X13_kind at hf
  obtain ⟨H, hH⟩ : ∃ H, H = s.heap := ⟨_, rfl⟩
  obtain ⟨locs, hLc⟩ : ∃ z : List Loc, z = [] := ⟨_, rfl⟩
  have hS : va_S (Ag g 0) s.heap H locs := by rw [hH, hLc]; exact hS
  have hW : Wd g 0 81 σ H := by rw [hH]; exact hW
  suffices hG : W p l e (kr 2 43) s m (List.toArray [.ref (bs g 64), .int a1]) below meth c H locs 0 0 Q (F0 m 0 ls []) by rw [hH, hLc] at hG; exact hG
  clear hH hLc
  refine lv_aload_n hx hb dX13_kind_0 rfl (lv_at hl 0 rfl) ?_
  refine mcv hf hS (fun τ h => va_runV (As := []) (rest := []) ⟨hx, hb, hml, hown, hts⟩ (c_X13_good g l σ τ h) (cl_X13_166 hts ⟨Nat.le_of_ble_eq_true rfl, Nat.le_of_ble_eq_true rfl⟩) (mpV_13 hZ hT hS hW tz_64 _) rfl rfl hl.1 rfl (lv_room (Nat.le_of_ble_eq_true rfl)) dX13_kind_1 ⟨Nat.zero_le _, Nat.zero_le _⟩) (fun σ_1 H locs hf hW hS => ?_)
  refine lv_aload_n hx hb dX13_kind_4 rfl (lv_at hl 0 rfl) ?_
  refine lv_iload_n hx hb dX13_kind_5 rfl (lv_at hl 1 rfl) ?_
  refine mcip hf hS (fun r h => va_runV (As := [.int a1]) (rest := []) ⟨hx, hb, hml, hown, hts⟩ (c_X13_isPerson g l σ_1 a1 r h) (cl_X13_275 hts ⟨Nat.le_of_ble_eq_true rfl, Nat.le_of_ble_eq_true rfl⟩) (mpV_13 hZ hT hS hW tz_64 _) rfl rfl hl.1 rfl (lv_room (Nat.le_of_ble_eq_true rfl)) dX13_kind_6 ⟨Nat.zero_le _, Nat.zero_le _⟩) (fun r_2 H locs hf hW hS => ?_)
  refine lv_if_eq (tgt := 26) hx hb dX13_kind_9 (by decide) (fun hc => ?_) (fun hc => ?_)
  · have hf := ift hc hf
    refine lv_aload_n hx hb dX13_kind_26 rfl (lv_at hl 0 rfl) ?_
    refine lv_iconst (v := 1) hx hb dX13_kind_27 (by decide) ?_
    refine mci hf hS (fun r τ h => va_runV (As := [.int 1]) (rest := []) ⟨hx, hb, hml, hown, hts⟩ (c_X13_no g l σ_1 1 r τ h) (cl_X13_169 hts ⟨Nat.le_of_ble_eq_true rfl, Nat.le_of_ble_eq_true rfl⟩) (mpV_13 hZ hT hS hW tz_64 _) rfl rfl hl.1 rfl (lv_room (Nat.le_of_ble_eq_true rfl)) dX13_kind_28 ⟨Nat.zero_le _, Nat.zero_le _⟩) (fun r_3 σ_4 H locs hf hW hS => ?_)
    subst hQ
    exact mri hx hb hr hlocks hZ hT hS hW (pr1 hf) dX13_kind_31
  · have hf := iff_ hc hf
    refine lv_aload_n hx hb dX13_kind_12 rfl (lv_at hl 0 rfl) ?_
    refine gf_13_15 hx hb htg (htg _ lf_X13_20) hown hZ hW tz_64 dX13_kind_13 ?_
    refine lv_bipush (v := 10) hx hb dX13_kind_16 (by decide) ?_
    refine lv_iconst (v := 2) hx hb dX13_kind_18 (by decide) ?_
    refine lv_iload_n hx hb dX13_kind_19 rfl (lv_at hl 1 rfl) ?_
    refine lv_imul hx hb dX13_kind_20 ?_
    refine lv_iadd hx hb dX13_kind_21 ?_
    refine mld_i hx hb hZ hW tz_67 hf dX13_kind_22 (fun hf => ?_)
    refine lv_goto (tgt := 31) hx hb dX13_kind_23 (by decide) ?_
    subst hQ
    exact mri hx hb hr hlocks hZ hT hS hW (pr1 hf) dX13_kind_31
def f_X13_latest (σ : Mem) (a1 : Int32) (a2 : Int32) : Option (Int32 × Mem) :=
  bd1 (f_X13_good σ) (fun (σ_1 : Mem) => bd1 (f_X13_isPerson σ_1 a1) (fun (r_2 : Int32) => bd1 (f_X13_why r_2 a2) (fun (r_3 : Int32) => (if r_3 = 0 then bd1 (f_X13_latestOn σ_1 a1 a2) (fun (r_4 : Int32) => some (r_4, σ_1)) else bd2 (f_X13_no σ_1 r_3) (fun (r_5 : Int32) (σ_6 : Mem) => some (r_5, σ_6))))))
set_option maxHeartbeats 4000000 in
set_option maxRecDepth 100000 in
theorem c_X13_latest (g : XG) (l : Launch) (σ : Mem) (a1 : Int32) (a2 : Int32) (r : Int32) (τ : Mem) (hf : f_X13_latest σ a1 a2 = some (r, τ)) : Met l yX13_latest (wx (.code yX13_latest cX13_latest 4 (some .int))) (kr 3 64) (va_Pc [.ref (bs g 64), .int a1, .int a2] (WS g 0 81 σ)) (Qi' g 0 81 r τ) 0 0 (Ag g 0) := by
  refine Met.ofW (cc := cX13_latest) (maxL := 4) (ret := (some .int)) (by decide) rfl ?_
  intro p e s m args below meth c s₁ B hml hv
  obtain ⟨rfl, hZ, hT, hW⟩ := hv
  have hx := B.exec
  have hb := B.bytes
  have hr := B.returns
  have hts : ∀ w ∈ wx (.code yX13_latest cX13_latest 4 (some .int)), w.before _ s = true := atoms_spec B.pre
  have htg : ∀ w ∈ lwg, w.before _ s = true := fun w h => hts w (List.mem_cons_of_mem _ h)
  have hown : s.vm.findClass RX13 = some m.cls := findClass_of_methodNamed B.named
  have hlocks := B.notSynchronized
  change W p l e (kr 3 64) s m (List.toArray [.ref (bs g 64), .int a1, .int a2]) below meth c s.heap [] 0 0 (MQ below (Qi' g 0 81 r τ) (List.toArray [.ref (bs g 64), .int a1, .int a2]) s 0 0 (Ag g 0)) _
  generalize hQ : MQ below (Qi' g 0 81 r τ) (List.toArray [.ref (bs g 64), .int a1, .int a2]) s 0 0 (Ag g 0) = Q
  have hS : va_S (Ag g 0) s.heap s.heap [] := va_S.rf
  have hl := lv_entry ([.ref (bs g 64), .int a1, .int a2]) (n := 4) (Nat.le_of_ble_eq_true rfl)
  rw [lg_entry_eq]
  generalize (lg_sl ([.ref (bs g 64), .int a1, .int a2]) ++ List.replicate (4 - (lg_sl ([.ref (bs g 64), .int a1, .int a2])).length) Slot.unset).toArray = ls at hl ⊢
  have hl : lv_has ls 4 [(0, .ref (bs g 64)), (1, .int a1), (2, .int a2)] := hl
  delta f_X13_latest at hf
  obtain ⟨H, hH⟩ : ∃ H, H = s.heap := ⟨_, rfl⟩
  obtain ⟨locs, hLc⟩ : ∃ z : List Loc, z = [] := ⟨_, rfl⟩
  have hS : va_S (Ag g 0) s.heap H locs := by rw [hH, hLc]; exact hS
  have hW : Wd g 0 81 σ H := by rw [hH]; exact hW
  suffices hG : W p l e (kr 3 64) s m (List.toArray [.ref (bs g 64), .int a1, .int a2]) below meth c H locs 0 0 Q (F0 m 0 ls []) by rw [hH, hLc] at hG; exact hG
  clear hH hLc
  refine lv_aload_n hx hb dX13_latest_0 rfl (lv_at hl 0 rfl) ?_
  refine mcv hf hS (fun τ h => va_runV (As := []) (rest := []) ⟨hx, hb, hml, hown, hts⟩ (c_X13_good g l σ τ h) (cl_X13_166 hts ⟨Nat.le_of_ble_eq_true rfl, Nat.le_of_ble_eq_true rfl⟩) (mpV_13 hZ hT hS hW tz_64 _) rfl rfl hl.1 rfl (lv_room (Nat.le_of_ble_eq_true rfl)) dX13_latest_1 ⟨Nat.zero_le _, Nat.zero_le _⟩) (fun σ_1 H locs hf hW hS => ?_)
  refine lv_aload_n hx hb dX13_latest_4 rfl (lv_at hl 0 rfl) ?_
  refine lv_aload_n hx hb dX13_latest_5 rfl (lv_at hl 0 rfl) ?_
  refine lv_iload_n hx hb dX13_latest_6 rfl (lv_at hl 1 rfl) ?_
  refine mcip hf hS (fun r h => va_runV (As := [.int a1]) (rest := [.ref (bs g 64)]) ⟨hx, hb, hml, hown, hts⟩ (c_X13_isPerson g l σ_1 a1 r h) (cl_X13_275 hts ⟨Nat.le_of_ble_eq_true rfl, Nat.le_of_ble_eq_true rfl⟩) (mpV_13 hZ hT hS hW tz_64 _) rfl rfl hl.1 rfl (lv_room (Nat.le_of_ble_eq_true rfl)) dX13_latest_7 ⟨Nat.zero_le _, Nat.zero_le _⟩) (fun r_2 H locs hf hW hS => ?_)
  refine lv_iload_n hx hb dX13_latest_10 rfl (lv_at hl 2 rfl) ?_
  refine mcip hf hS (fun r h => va_runV (As := [.int r_2, .int a2]) (rest := []) ⟨hx, hb, hml, hown, hts⟩ (c_X13_why g l σ_1 r_2 a2 r h) (cl_X13_281 hts ⟨Nat.le_of_ble_eq_true rfl, Nat.le_of_ble_eq_true rfl⟩) (mpV_13 hZ hT hS hW tz_64 _) rfl rfl hl.1 rfl (lv_room (Nat.le_of_ble_eq_true rfl)) dX13_latest_11 ⟨Nat.zero_le _, Nat.zero_le _⟩) (fun r_3 H locs hf hW hS => ?_)
  refine lv_istore_n (lv' := [(3, .int r_3), (0, .ref (bs g 64)), (1, .int a1), (2, .int a2)]) hx hb dX13_latest_14 rfl hl (by decide) rfl (fun ls hl => ?_)
  refine lv_iload_n hx hb dX13_latest_15 rfl (lv_at hl 0 rfl) ?_
  refine lv_if_eq (tgt := 27) hx hb dX13_latest_16 (by decide) (fun hc => ?_) (fun hc => ?_)
  · have hf := ift hc hf
    refine lv_aload_n hx hb dX13_latest_27 rfl (lv_at hl 1 rfl) ?_
    refine lv_iload_n hx hb dX13_latest_28 rfl (lv_at hl 2 rfl) ?_
    refine lv_iload_n hx hb dX13_latest_29 rfl (lv_at hl 3 rfl) ?_
    refine mcip hf hS (fun r h => va_runV (As := [.int a1, .int a2]) (rest := []) ⟨hx, hb, hml, hown, hts⟩ (c_X13_latestOn g l σ_1 a1 a2 r h) (cl_X13_260 hts ⟨Nat.le_of_ble_eq_true rfl, Nat.le_of_ble_eq_true rfl⟩) (mpV_13 hZ hT hS hW tz_64 _) rfl rfl hl.1 rfl (lv_room (Nat.le_of_ble_eq_true rfl)) dX13_latest_30 ⟨Nat.zero_le _, Nat.zero_le _⟩) (fun r_4 H locs hf hW hS => ?_)
    subst hQ
    exact mri hx hb hr hlocks hZ hT hS hW (pr1 hf) dX13_latest_33
  · have hf := iff_ hc hf
    refine lv_aload_n hx hb dX13_latest_19 rfl (lv_at hl 1 rfl) ?_
    refine lv_iload_n hx hb dX13_latest_20 rfl (lv_at hl 0 rfl) ?_
    refine mci hf hS (fun r τ h => va_runV (As := [.int r_3]) (rest := []) ⟨hx, hb, hml, hown, hts⟩ (c_X13_no g l σ_1 r_3 r τ h) (cl_X13_169 hts ⟨Nat.le_of_ble_eq_true rfl, Nat.le_of_ble_eq_true rfl⟩) (mpV_13 hZ hT hS hW tz_64 _) rfl rfl hl.1 rfl (lv_room (Nat.le_of_ble_eq_true rfl)) dX13_latest_21 ⟨Nat.zero_le _, Nat.zero_le _⟩) (fun r_5 σ_6 H locs hf hW hS => ?_)
    refine lv_goto (tgt := 33) hx hb dX13_latest_24 (by decide) ?_
    subst hQ
    exact mri hx hb hr hlocks hZ hT hS hW (pr1 hf) dX13_latest_33
def f_X13_isShut (σ : Mem) (a1 : Int32) : Option (Int32) :=
  dvd 7 (ixd 3 (aln 67) ((if (a1 - a1 / 7 * 7) = (σ.1 67 (3 : Int32).toNatClampNeg) then some 1 else some 0)))
set_option maxHeartbeats 4000000 in
set_option maxRecDepth 100000 in
theorem c_X13_isShut (g : XG) (l : Launch) (σ : Mem) (a1 : Int32) (r : Int32) (hf : f_X13_isShut σ a1 = some r) : Met l yX13_isShut (wx (.code yX13_isShut cX13_isShut 2 (some .boolean))) (kr 0 0) (va_Pc [.ref (bs g 64), .int a1] (WS g 0 81 σ)) (Qi' g 0 81 r σ) 0 0 (Ag g 0) := by
  refine Met.ofW (cc := cX13_isShut) (maxL := 2) (ret := (some .boolean)) (by decide) rfl ?_
  intro p e s m args below meth c s₁ B hml hv
  obtain ⟨rfl, hZ, hT, hW⟩ := hv
  have hx := B.exec
  have hb := B.bytes
  have hr := B.returns
  have hts : ∀ w ∈ wx (.code yX13_isShut cX13_isShut 2 (some .boolean)), w.before _ s = true := atoms_spec B.pre
  have htg : ∀ w ∈ lwg, w.before _ s = true := fun w h => hts w (List.mem_cons_of_mem _ h)
  have hown : s.vm.findClass RX13 = some m.cls := findClass_of_methodNamed B.named
  have hlocks := B.notSynchronized
  change W p l e (kr 0 0) s m (List.toArray [.ref (bs g 64), .int a1]) below meth c s.heap [] 0 0 (MQ below (Qi' g 0 81 r σ) (List.toArray [.ref (bs g 64), .int a1]) s 0 0 (Ag g 0)) _
  generalize hQ : MQ below (Qi' g 0 81 r σ) (List.toArray [.ref (bs g 64), .int a1]) s 0 0 (Ag g 0) = Q
  have hS : va_S (Ag g 0) s.heap s.heap [] := va_S.rf
  have hl := lv_entry ([.ref (bs g 64), .int a1]) (n := 2) (Nat.le_of_ble_eq_true rfl)
  rw [lg_entry_eq]
  generalize (lg_sl ([.ref (bs g 64), .int a1]) ++ List.replicate (2 - (lg_sl ([.ref (bs g 64), .int a1])).length) Slot.unset).toArray = ls at hl ⊢
  have hl : lv_has ls 2 [(0, .ref (bs g 64)), (1, .int a1)] := hl
  delta f_X13_isShut at hf
  obtain ⟨H, hH⟩ : ∃ H, H = s.heap := ⟨_, rfl⟩
  obtain ⟨locs, hLc⟩ : ∃ z : List Loc, z = [] := ⟨_, rfl⟩
  have hS : va_S (Ag g 0) s.heap H locs := by rw [hH, hLc]; exact hS
  have hW : Wd g 0 81 σ H := by rw [hH]; exact hW
  suffices hG : W p l e (kr 0 0) s m (List.toArray [.ref (bs g 64), .int a1]) below meth c H locs 0 0 Q (F0 m 0 ls []) by rw [hH, hLc] at hG; exact hG
  clear hH hLc
  refine lv_iload_n hx hb dX13_isShut_0 rfl (lv_at hl 1 rfl) ?_
  refine lv_bipush (v := 7) hx hb dX13_isShut_1 (by decide) ?_
  obtain ⟨hd, hf⟩ := dvd_s hf
  refine lv_irem hx hb dX13_isShut_3 hd ?_
  refine lv_aload_n hx hb dX13_isShut_4 rfl (lv_at hl 0 rfl) ?_
  refine gf_13_15 hx hb htg (htg _ lf_X13_20) hown hZ hW tz_64 dX13_isShut_5 ?_
  refine lv_iconst (v := 3) hx hb dX13_isShut_8 (by decide) ?_
  refine mld_i hx hb hZ hW tz_67 hf dX13_isShut_9 (fun hf => ?_)
  refine lv_icmp_ne (tgt := 17) hx hb dX13_isShut_10 (by decide) (fun hc => ?_) (fun hc => ?_)
  · have hf := iff_ hc hf
    refine lv_iconst (v := 0) hx hb dX13_isShut_17 (by decide) ?_
    subst hQ
    exact mrz hx hb hr hlocks hZ hT hS hW (by decide) ⟨Option.some.inj hf, rfl⟩ dX13_isShut_18
  · have hf := ift hc hf
    refine lv_iconst (v := 1) hx hb dX13_isShut_13 (by decide) ?_
    refine lv_goto (tgt := 18) hx hb dX13_isShut_14 (by decide) ?_
    subst hQ
    exact mrz hx hb hr hlocks hZ hT hS hW (by decide) ⟨Option.some.inj hf, rfl⟩ dX13_isShut_18
def f_X13_hall (σ : Mem) (a1 : Int32) : Option (Int32 × Mem) :=
  bd1 (f_X13_good σ) (fun (σ_1 : Mem) => bd1 (f_X13_why (σ_1.1 64 14) a1) (fun (r_2 : Int32) => (if r_2 = 0 then bd1 (f_X13_isShut σ_1 a1) (fun (r_3 : Int32) => (if r_3 = 0 then ixd a1 (aln 69) ((if (σ_1.1 69 a1.toNatClampNeg) = 0 then some ((-2), σ_1) else ixd a1 (aln 69) (some ((σ_1.1 69 a1.toNatClampNeg) - 1, σ_1)))) else some ((-3), σ_1))) else bd2 (f_X13_no σ_1 r_2) (fun (r_4 : Int32) (σ_5 : Mem) => some (r_4, σ_5)))))
set_option maxHeartbeats 4000000 in
set_option maxRecDepth 100000 in
theorem c_X13_hall (g : XG) (l : Launch) (σ : Mem) (a1 : Int32) (r : Int32) (τ : Mem) (hf : f_X13_hall σ a1 = some (r, τ)) : Met l yX13_hall (wx (.code yX13_hall cX13_hall 3 (some .int))) (kr 3 64) (va_Pc [.ref (bs g 64), .int a1] (WS g 0 81 σ)) (Qi' g 0 81 r τ) 0 0 (Ag g 0) := by
  refine Met.ofW (cc := cX13_hall) (maxL := 3) (ret := (some .int)) (by decide) rfl ?_
  intro p e s m args below meth c s₁ B hml hv
  obtain ⟨rfl, hZ, hT, hW⟩ := hv
  have hx := B.exec
  have hb := B.bytes
  have hr := B.returns
  have hts : ∀ w ∈ wx (.code yX13_hall cX13_hall 3 (some .int)), w.before _ s = true := atoms_spec B.pre
  have htg : ∀ w ∈ lwg, w.before _ s = true := fun w h => hts w (List.mem_cons_of_mem _ h)
  have hown : s.vm.findClass RX13 = some m.cls := findClass_of_methodNamed B.named
  have hlocks := B.notSynchronized
  change W p l e (kr 3 64) s m (List.toArray [.ref (bs g 64), .int a1]) below meth c s.heap [] 0 0 (MQ below (Qi' g 0 81 r τ) (List.toArray [.ref (bs g 64), .int a1]) s 0 0 (Ag g 0)) _
  generalize hQ : MQ below (Qi' g 0 81 r τ) (List.toArray [.ref (bs g 64), .int a1]) s 0 0 (Ag g 0) = Q
  have hS : va_S (Ag g 0) s.heap s.heap [] := va_S.rf
  have hl := lv_entry ([.ref (bs g 64), .int a1]) (n := 3) (Nat.le_of_ble_eq_true rfl)
  rw [lg_entry_eq]
  generalize (lg_sl ([.ref (bs g 64), .int a1]) ++ List.replicate (3 - (lg_sl ([.ref (bs g 64), .int a1])).length) Slot.unset).toArray = ls at hl ⊢
  have hl : lv_has ls 3 [(0, .ref (bs g 64)), (1, .int a1)] := hl
  delta f_X13_hall at hf
  obtain ⟨H, hH⟩ : ∃ H, H = s.heap := ⟨_, rfl⟩
  obtain ⟨locs, hLc⟩ : ∃ z : List Loc, z = [] := ⟨_, rfl⟩
  have hS : va_S (Ag g 0) s.heap H locs := by rw [hH, hLc]; exact hS
  have hW : Wd g 0 81 σ H := by rw [hH]; exact hW
  suffices hG : W p l e (kr 3 64) s m (List.toArray [.ref (bs g 64), .int a1]) below meth c H locs 0 0 Q (F0 m 0 ls []) by rw [hH, hLc] at hG; exact hG
  clear hH hLc
  refine lv_aload_n hx hb dX13_hall_0 rfl (lv_at hl 0 rfl) ?_
  refine mcv hf hS (fun τ h => va_runV (As := []) (rest := []) ⟨hx, hb, hml, hown, hts⟩ (c_X13_good g l σ τ h) (cl_X13_166 hts ⟨Nat.le_of_ble_eq_true rfl, Nat.le_of_ble_eq_true rfl⟩) (mpV_13 hZ hT hS hW tz_64 _) rfl rfl hl.1 rfl (lv_room (Nat.le_of_ble_eq_true rfl)) dX13_hall_1 ⟨Nat.zero_le _, Nat.zero_le _⟩) (fun σ_1 H locs hf hW hS => ?_)
  refine lv_aload_n hx hb dX13_hall_4 rfl (lv_at hl 0 rfl) ?_
  refine lv_aload_n hx hb dX13_hall_5 rfl (lv_at hl 0 rfl) ?_
  refine gf_13_14 hx hb htg (htg _ lf_X13_179) hown hZ hW tz_64 dX13_hall_6 ?_
  refine lv_iload_n hx hb dX13_hall_9 rfl (lv_at hl 1 rfl) ?_
  refine mcip hf hS (fun r h => va_runV (As := [.int (σ_1.1 64 14), .int a1]) (rest := []) ⟨hx, hb, hml, hown, hts⟩ (c_X13_why g l σ_1 (σ_1.1 64 14) a1 r h) (cl_X13_281 hts ⟨Nat.le_of_ble_eq_true rfl, Nat.le_of_ble_eq_true rfl⟩) (mpV_13 hZ hT hS hW tz_64 _) rfl rfl hl.1 rfl (lv_room (Nat.le_of_ble_eq_true rfl)) dX13_hall_10 ⟨Nat.zero_le _, Nat.zero_le _⟩) (fun r_2 H locs hf hW hS => ?_)
  refine lv_istore_n (lv' := [(2, .int r_2), (0, .ref (bs g 64)), (1, .int a1)]) hx hb dX13_hall_13 rfl hl (by decide) rfl (fun ls hl => ?_)
  refine lv_iload_n hx hb dX13_hall_14 rfl (lv_at hl 0 rfl) ?_
  refine lv_if_eq (tgt := 24) hx hb dX13_hall_15 (by decide) (fun hc => ?_) (fun hc => ?_)
  · have hf := ift hc hf
    refine lv_aload_n hx hb dX13_hall_24 rfl (lv_at hl 1 rfl) ?_
    refine lv_iload_n hx hb dX13_hall_25 rfl (lv_at hl 2 rfl) ?_
    refine mcip hf hS (fun r h => va_runV (As := [.int a1]) (rest := []) ⟨hx, hb, hml, hown, hts⟩ (c_X13_isShut g l σ_1 a1 r h) (cl_X13_288 hts ⟨Nat.le_of_ble_eq_true rfl, Nat.le_of_ble_eq_true rfl⟩) (mpV_13 hZ hT hS hW tz_64 _) rfl rfl hl.1 rfl (lv_room (Nat.le_of_ble_eq_true rfl)) dX13_hall_26 ⟨Nat.zero_le _, Nat.zero_le _⟩) (fun r_3 H locs hf hW hS => ?_)
    refine lv_if_eq (tgt := 37) hx hb dX13_hall_29 (by decide) (fun hc => ?_) (fun hc => ?_)
    · have hf := ift hc hf
      refine lv_aload_n hx hb dX13_hall_37 rfl (lv_at hl 1 rfl) ?_
      refine gf_13_17 hx hb htg (htg _ lf_X13_26) hown hZ hW tz_64 dX13_hall_38 ?_
      refine lv_iload_n hx hb dX13_hall_41 rfl (lv_at hl 2 rfl) ?_
      refine mld_i hx hb hZ hW tz_69 hf dX13_hall_42 (fun hf => ?_)
      refine lv_if_ne (tgt := 51) hx hb dX13_hall_43 (by decide) (fun hc => ?_) (fun hc => ?_)
      · have hf := iff_ hc hf
        refine lv_aload_n hx hb dX13_hall_51 rfl (lv_at hl 1 rfl) ?_
        refine gf_13_17 hx hb htg (htg _ lf_X13_26) hown hZ hW tz_64 dX13_hall_52 ?_
        refine lv_iload_n hx hb dX13_hall_55 rfl (lv_at hl 2 rfl) ?_
        refine mld_i hx hb hZ hW tz_69 hf dX13_hall_56 (fun hf => ?_)
        refine lv_iconst (v := 1) hx hb dX13_hall_57 (by decide) ?_
        refine lv_isub hx hb dX13_hall_58 ?_
        subst hQ
        exact mri hx hb hr hlocks hZ hT hS hW (pr1 hf) dX13_hall_59
      · have hf := ift hc hf
        refine lv_bipush (v := (-2)) hx hb dX13_hall_46 (by decide) ?_
        refine lv_goto (tgt := 59) hx hb dX13_hall_48 (by decide) ?_
        subst hQ
        exact mri hx hb hr hlocks hZ hT hS hW (pr1 hf) dX13_hall_59
    · have hf := iff_ hc hf
      refine lv_bipush (v := (-3)) hx hb dX13_hall_32 (by decide) ?_
      refine lv_goto (tgt := 59) hx hb dX13_hall_34 (by decide) ?_
      subst hQ
      exact mri hx hb hr hlocks hZ hT hS hW (pr1 hf) dX13_hall_59
  · have hf := iff_ hc hf
    refine lv_aload_n hx hb dX13_hall_18 rfl (lv_at hl 1 rfl) ?_
    refine lv_iload_n hx hb dX13_hall_19 rfl (lv_at hl 0 rfl) ?_
    refine mci hf hS (fun r τ h => va_runV (As := [.int r_2]) (rest := []) ⟨hx, hb, hml, hown, hts⟩ (c_X13_no g l σ_1 r_2 r τ h) (cl_X13_169 hts ⟨Nat.le_of_ble_eq_true rfl, Nat.le_of_ble_eq_true rfl⟩) (mpV_13 hZ hT hS hW tz_64 _) rfl rfl hl.1 rfl (lv_room (Nat.le_of_ble_eq_true rfl)) dX13_hall_20 ⟨Nat.zero_le _, Nat.zero_le _⟩) (fun r_4 σ_5 H locs hf hW hS => ?_)
    subst hQ
    exact mri hx hb hr hlocks hZ hT hS hW (pr1 hf) dX13_hall_23
def f_X13_mistaken (σ : Mem) (a1 : Int32) (a2 : Int32) : Option (Int32 × Mem) :=
  bd1 (f_X13_good σ) (fun (σ_1 : Mem) => bd1 (f_X13_isPerson σ_1 a1) (fun (r_2 : Int32) => bd1 (f_X13_why r_2 a2) (fun (r_3 : Int32) => (if r_3 = 0 then bd1 (f_X13_lookOn σ_1 a1 a2) (fun (r_4 : Int32) => bd1 (f_X13_beliefOn σ_1 a1 a2) (fun (r_5 : Int32) => bd1 (f_X13_unlike σ_1 r_4 r_5) (fun (r_6 : Int32) => some (r_6, σ_1)))) else bd2 (f_X13_no σ_1 r_3) (fun (r_7 : Int32) (σ_8 : Mem) => some (r_7, σ_8))))))
set_option maxHeartbeats 4000000 in
set_option maxRecDepth 100000 in
theorem c_X13_mistaken (g : XG) (l : Launch) (σ : Mem) (a1 : Int32) (a2 : Int32) (r : Int32) (τ : Mem) (hf : f_X13_mistaken σ a1 a2 = some (r, τ)) : Met l yX13_mistaken (wx (.code yX13_mistaken cX13_mistaken 4 (some .int))) (kr 4 93) (va_Pc [.ref (bs g 64), .int a1, .int a2] (WS g 0 81 σ)) (Qi' g 0 81 r τ) 0 0 (Ag g 0) := by
  refine Met.ofW (cc := cX13_mistaken) (maxL := 4) (ret := (some .int)) (by decide) rfl ?_
  intro p e s m args below meth c s₁ B hml hv
  obtain ⟨rfl, hZ, hT, hW⟩ := hv
  have hx := B.exec
  have hb := B.bytes
  have hr := B.returns
  have hts : ∀ w ∈ wx (.code yX13_mistaken cX13_mistaken 4 (some .int)), w.before _ s = true := atoms_spec B.pre
  have htg : ∀ w ∈ lwg, w.before _ s = true := fun w h => hts w (List.mem_cons_of_mem _ h)
  have hown : s.vm.findClass RX13 = some m.cls := findClass_of_methodNamed B.named
  have hlocks := B.notSynchronized
  change W p l e (kr 4 93) s m (List.toArray [.ref (bs g 64), .int a1, .int a2]) below meth c s.heap [] 0 0 (MQ below (Qi' g 0 81 r τ) (List.toArray [.ref (bs g 64), .int a1, .int a2]) s 0 0 (Ag g 0)) _
  generalize hQ : MQ below (Qi' g 0 81 r τ) (List.toArray [.ref (bs g 64), .int a1, .int a2]) s 0 0 (Ag g 0) = Q
  have hS : va_S (Ag g 0) s.heap s.heap [] := va_S.rf
  have hl := lv_entry ([.ref (bs g 64), .int a1, .int a2]) (n := 4) (Nat.le_of_ble_eq_true rfl)
  rw [lg_entry_eq]
  generalize (lg_sl ([.ref (bs g 64), .int a1, .int a2]) ++ List.replicate (4 - (lg_sl ([.ref (bs g 64), .int a1, .int a2])).length) Slot.unset).toArray = ls at hl ⊢
  have hl : lv_has ls 4 [(0, .ref (bs g 64)), (1, .int a1), (2, .int a2)] := hl
  delta f_X13_mistaken at hf
  obtain ⟨H, hH⟩ : ∃ H, H = s.heap := ⟨_, rfl⟩
  obtain ⟨locs, hLc⟩ : ∃ z : List Loc, z = [] := ⟨_, rfl⟩
  have hS : va_S (Ag g 0) s.heap H locs := by rw [hH, hLc]; exact hS
  have hW : Wd g 0 81 σ H := by rw [hH]; exact hW
  suffices hG : W p l e (kr 4 93) s m (List.toArray [.ref (bs g 64), .int a1, .int a2]) below meth c H locs 0 0 Q (F0 m 0 ls []) by rw [hH, hLc] at hG; exact hG
  clear hH hLc
  refine lv_aload_n hx hb dX13_mistaken_0 rfl (lv_at hl 0 rfl) ?_
  refine mcv hf hS (fun τ h => va_runV (As := []) (rest := []) ⟨hx, hb, hml, hown, hts⟩ (c_X13_good g l σ τ h) (cl_X13_166 hts ⟨Nat.le_of_ble_eq_true rfl, Nat.le_of_ble_eq_true rfl⟩) (mpV_13 hZ hT hS hW tz_64 _) rfl rfl hl.1 rfl (lv_room (Nat.le_of_ble_eq_true rfl)) dX13_mistaken_1 ⟨Nat.zero_le _, Nat.zero_le _⟩) (fun σ_1 H locs hf hW hS => ?_)
  refine lv_aload_n hx hb dX13_mistaken_4 rfl (lv_at hl 0 rfl) ?_
  refine lv_aload_n hx hb dX13_mistaken_5 rfl (lv_at hl 0 rfl) ?_
  refine lv_iload_n hx hb dX13_mistaken_6 rfl (lv_at hl 1 rfl) ?_
  refine mcip hf hS (fun r h => va_runV (As := [.int a1]) (rest := [.ref (bs g 64)]) ⟨hx, hb, hml, hown, hts⟩ (c_X13_isPerson g l σ_1 a1 r h) (cl_X13_275 hts ⟨Nat.le_of_ble_eq_true rfl, Nat.le_of_ble_eq_true rfl⟩) (mpV_13 hZ hT hS hW tz_64 _) rfl rfl hl.1 rfl (lv_room (Nat.le_of_ble_eq_true rfl)) dX13_mistaken_7 ⟨Nat.zero_le _, Nat.zero_le _⟩) (fun r_2 H locs hf hW hS => ?_)
  refine lv_iload_n hx hb dX13_mistaken_10 rfl (lv_at hl 2 rfl) ?_
  refine mcip hf hS (fun r h => va_runV (As := [.int r_2, .int a2]) (rest := []) ⟨hx, hb, hml, hown, hts⟩ (c_X13_why g l σ_1 r_2 a2 r h) (cl_X13_281 hts ⟨Nat.le_of_ble_eq_true rfl, Nat.le_of_ble_eq_true rfl⟩) (mpV_13 hZ hT hS hW tz_64 _) rfl rfl hl.1 rfl (lv_room (Nat.le_of_ble_eq_true rfl)) dX13_mistaken_11 ⟨Nat.zero_le _, Nat.zero_le _⟩) (fun r_3 H locs hf hW hS => ?_)
  refine lv_istore_n (lv' := [(3, .int r_3), (0, .ref (bs g 64)), (1, .int a1), (2, .int a2)]) hx hb dX13_mistaken_14 rfl hl (by decide) rfl (fun ls hl => ?_)
  refine lv_iload_n hx hb dX13_mistaken_15 rfl (lv_at hl 0 rfl) ?_
  refine lv_if_eq (tgt := 27) hx hb dX13_mistaken_16 (by decide) (fun hc => ?_) (fun hc => ?_)
  · have hf := ift hc hf
    refine lv_aload_n hx hb dX13_mistaken_27 rfl (lv_at hl 1 rfl) ?_
    refine lv_aload_n hx hb dX13_mistaken_28 rfl (lv_at hl 1 rfl) ?_
    refine lv_iload_n hx hb dX13_mistaken_29 rfl (lv_at hl 2 rfl) ?_
    refine lv_iload_n hx hb dX13_mistaken_30 rfl (lv_at hl 3 rfl) ?_
    refine mcip hf hS (fun r h => va_runV (As := [.int a1, .int a2]) (rest := [.ref (bs g 64)]) ⟨hx, hb, hml, hown, hts⟩ (c_X13_lookOn g l σ_1 a1 a2 r h) (cl_X13_263 hts ⟨Nat.le_of_ble_eq_true rfl, Nat.le_of_ble_eq_true rfl⟩) (mpV_13 hZ hT hS hW tz_64 _) rfl rfl hl.1 rfl (lv_room (Nat.le_of_ble_eq_true rfl)) dX13_mistaken_31 ⟨Nat.zero_le _, Nat.zero_le _⟩) (fun r_4 H locs hf hW hS => ?_)
    refine lv_aload_n hx hb dX13_mistaken_34 rfl (lv_at hl 1 rfl) ?_
    refine lv_iload_n hx hb dX13_mistaken_35 rfl (lv_at hl 2 rfl) ?_
    refine lv_iload_n hx hb dX13_mistaken_36 rfl (lv_at hl 3 rfl) ?_
    refine mcip hf hS (fun r h => va_runV (As := [.int a1, .int a2]) (rest := [.int r_4, .ref (bs g 64)]) ⟨hx, hb, hml, hown, hts⟩ (c_X13_beliefOn g l σ_1 a1 a2 r h) (cl_X13_266 hts ⟨Nat.le_of_ble_eq_true rfl, Nat.le_of_ble_eq_true rfl⟩) (mpV_13 hZ hT hS hW tz_64 _) rfl rfl hl.1 rfl (lv_room (Nat.le_of_ble_eq_true rfl)) dX13_mistaken_37 ⟨Nat.zero_le _, Nat.zero_le _⟩) (fun r_5 H locs hf hW hS => ?_)
    refine mcip hf hS (fun r h => va_runV (As := [.int r_4, .int r_5]) (rest := []) ⟨hx, hb, hml, hown, hts⟩ (c_X13_unlike g l σ_1 r_4 r_5 r h) (cl_X13_269 hts ⟨Nat.le_of_ble_eq_true rfl, Nat.le_of_ble_eq_true rfl⟩) (mpV_13 hZ hT hS hW tz_64 _) rfl rfl hl.1 rfl (lv_room (Nat.le_of_ble_eq_true rfl)) dX13_mistaken_40 ⟨Nat.zero_le _, Nat.zero_le _⟩) (fun r_6 H locs hf hW hS => ?_)
    subst hQ
    exact mri hx hb hr hlocks hZ hT hS hW (pr1 hf) dX13_mistaken_43
  · have hf := iff_ hc hf
    refine lv_aload_n hx hb dX13_mistaken_19 rfl (lv_at hl 1 rfl) ?_
    refine lv_iload_n hx hb dX13_mistaken_20 rfl (lv_at hl 0 rfl) ?_
    refine mci hf hS (fun r τ h => va_runV (As := [.int r_3]) (rest := []) ⟨hx, hb, hml, hown, hts⟩ (c_X13_no g l σ_1 r_3 r τ h) (cl_X13_169 hts ⟨Nat.le_of_ble_eq_true rfl, Nat.le_of_ble_eq_true rfl⟩) (mpV_13 hZ hT hS hW tz_64 _) rfl rfl hl.1 rfl (lv_room (Nat.le_of_ble_eq_true rfl)) dX13_mistaken_21 ⟨Nat.zero_le _, Nat.zero_le _⟩) (fun r_7 σ_8 H locs hf hW hS => ?_)
    refine lv_goto (tgt := 43) hx hb dX13_mistaken_24 (by decide) ?_
    subst hQ
    exact mri hx hb hr hlocks hZ hT hS hW (pr1 hf) dX13_mistaken_43
def f_X13_knows (σ : Mem) (a1 : Int32) : Option (Int32 × Mem) :=
  bd1 (f_X13_good σ) (fun (σ_1 : Mem) => bd1 (f_X13_why (σ_1.1 64 14) a1) (fun (r_2 : Int32) => (if r_2 = 0 then fx2 FU (fun k_5 (i_3 : Int32) (i_4 : Int32) => ixd 4 (aln 67) ((if (σ_1.1 67 (4 : Int32).toNatClampNeg) ≤ i_4 then some (i_3, σ_1) else bd1 (f_X13_doesKnow σ_1 i_4 a1) (fun (r_6 : Int32) => jn1 (fun (i_7 : Int32) => nm (i_3 ||| i_7) (fun (x_9 : Int32) => nm (i_4 + 1) (fun (x_10 : Int32) => k_5 x_9 x_10))) (fun k_8 => (if r_6 = 0 then k_8 0 else k_8 (1 <<< (i_4 &&& 31)))))))) 0 0 else bd2 (f_X13_no σ_1 r_2) (fun (r_12 : Int32) (σ_13 : Mem) => some (r_12, σ_13)))))
set_option maxHeartbeats 4000000 in
set_option maxRecDepth 100000 in
theorem c_X13_knows (g : XG) (l : Launch) (σ : Mem) (a1 : Int32) (r : Int32) (τ : Mem) (hf : f_X13_knows σ a1 = some (r, τ)) : Met l yX13_knows (wx (.code yX13_knows cX13_knows 5 (some .int))) (kr 5 115) (va_Pc [.ref (bs g 64), .int a1] (WS g 0 81 σ)) (Qi' g 0 81 r τ) 0 0 (Ag g 0) := by
  refine Met.ofW (cc := cX13_knows) (maxL := 5) (ret := (some .int)) (by decide) rfl ?_
  intro p e s m args below meth c s₁ B hml hv
  obtain ⟨rfl, hZ, hT, hW⟩ := hv
  have hx := B.exec
  have hb := B.bytes
  have hr := B.returns
  have hts : ∀ w ∈ wx (.code yX13_knows cX13_knows 5 (some .int)), w.before _ s = true := atoms_spec B.pre
  have htg : ∀ w ∈ lwg, w.before _ s = true := fun w h => hts w (List.mem_cons_of_mem _ h)
  have hown : s.vm.findClass RX13 = some m.cls := findClass_of_methodNamed B.named
  have hlocks := B.notSynchronized
  change W p l e (kr 5 115) s m (List.toArray [.ref (bs g 64), .int a1]) below meth c s.heap [] 0 0 (MQ below (Qi' g 0 81 r τ) (List.toArray [.ref (bs g 64), .int a1]) s 0 0 (Ag g 0)) _
  generalize hQ : MQ below (Qi' g 0 81 r τ) (List.toArray [.ref (bs g 64), .int a1]) s 0 0 (Ag g 0) = Q
  have hS : va_S (Ag g 0) s.heap s.heap [] := va_S.rf
  have hl := lv_entry ([.ref (bs g 64), .int a1]) (n := 5) (Nat.le_of_ble_eq_true rfl)
  rw [lg_entry_eq]
  generalize (lg_sl ([.ref (bs g 64), .int a1]) ++ List.replicate (5 - (lg_sl ([.ref (bs g 64), .int a1])).length) Slot.unset).toArray = ls at hl ⊢
  have hl : lv_has ls 5 [(0, .ref (bs g 64)), (1, .int a1)] := hl
  delta f_X13_knows at hf
  obtain ⟨H, hH⟩ : ∃ H, H = s.heap := ⟨_, rfl⟩
  obtain ⟨locs, hLc⟩ : ∃ z : List Loc, z = [] := ⟨_, rfl⟩
  have hS : va_S (Ag g 0) s.heap H locs := by rw [hH, hLc]; exact hS
  have hW : Wd g 0 81 σ H := by rw [hH]; exact hW
  suffices hG : W p l e (kr 5 115) s m (List.toArray [.ref (bs g 64), .int a1]) below meth c H locs 0 0 Q (F0 m 0 ls []) by rw [hH, hLc] at hG; exact hG
  clear hH hLc
  refine lv_aload_n hx hb dX13_knows_0 rfl (lv_at hl 0 rfl) ?_
  refine mcv hf hS (fun τ h => va_runV (As := []) (rest := []) ⟨hx, hb, hml, hown, hts⟩ (c_X13_good g l σ τ h) (cl_X13_166 hts ⟨Nat.le_of_ble_eq_true rfl, Nat.le_of_ble_eq_true rfl⟩) (mpV_13 hZ hT hS hW tz_64 _) rfl rfl hl.1 rfl (lv_room (Nat.le_of_ble_eq_true rfl)) dX13_knows_1 ⟨Nat.zero_le _, Nat.zero_le _⟩) (fun σ_1 H locs hf hW hS => ?_)
  refine lv_aload_n hx hb dX13_knows_4 rfl (lv_at hl 0 rfl) ?_
  refine lv_aload_n hx hb dX13_knows_5 rfl (lv_at hl 0 rfl) ?_
  refine gf_13_14 hx hb htg (htg _ lf_X13_179) hown hZ hW tz_64 dX13_knows_6 ?_
  refine lv_iload_n hx hb dX13_knows_9 rfl (lv_at hl 1 rfl) ?_
  refine mcip hf hS (fun r h => va_runV (As := [.int (σ_1.1 64 14), .int a1]) (rest := []) ⟨hx, hb, hml, hown, hts⟩ (c_X13_why g l σ_1 (σ_1.1 64 14) a1 r h) (cl_X13_281 hts ⟨Nat.le_of_ble_eq_true rfl, Nat.le_of_ble_eq_true rfl⟩) (mpV_13 hZ hT hS hW tz_64 _) rfl rfl hl.1 rfl (lv_room (Nat.le_of_ble_eq_true rfl)) dX13_knows_10 ⟨Nat.zero_le _, Nat.zero_le _⟩) (fun r_2 H locs hf hW hS => ?_)
  refine lv_istore_n (lv' := [(2, .int r_2), (0, .ref (bs g 64)), (1, .int a1)]) hx hb dX13_knows_13 rfl hl (by decide) rfl (fun ls hl => ?_)
  refine lv_iload_n hx hb dX13_knows_14 rfl (lv_at hl 0 rfl) ?_
  refine lv_if_eq (tgt := 24) hx hb dX13_knows_15 (by decide) (fun hc => ?_) (fun hc => ?_)
  · have hf := ift hc hf
    refine lv_iconst (v := 0) hx hb dX13_knows_24 (by decide) ?_
    refine lv_istore_n (lv' := [(3, .int 0), (2, .int r_2), (0, .ref (bs g 64)), (1, .int a1)]) hx hb dX13_knows_25 rfl hl (by decide) rfl (fun ls hl => ?_)
    refine lv_iconst (v := 0) hx hb dX13_knows_26 (by decide) ?_
    refine lv_istore (lv' := [(4, .int 0), (3, .int 0), (2, .int r_2), (0, .ref (bs g 64)), (1, .int a1)]) hx hb dX13_knows_27 hl (by decide) rfl (fun ls hl => ?_)
    refine fx2_W (fun (i_3 : Int32) (i_4 : Int32) => ∀ (H : Heap) (locs : List Loc) (ls : Array Slot), Wd g 0 81 σ_1 H → va_S (Ag g 0) s.heap H locs → lv_has ls 5 [(0, .ref (bs g 64)), (1, .int a1), (3, .int i_3), (4, .int i_4)] → W p l e (kr 5 115) s m (List.toArray [.ref (bs g 64), .int a1]) below meth c H locs 0 0 Q (F0 m 29 ls [])) (fun k_5 hk_5 i_3 i_4 hf => ?_) FU 0 0 hf H locs ls hW hS (lv_sub hl [3, 4, 1, 0] rfl)
    intro H locs ls hW hS hl
    refine lv_iload hx hb dX13_knows_29 (lv_at hl 3 rfl) ?_
    refine lv_aload_n hx hb dX13_knows_31 rfl (lv_at hl 0 rfl) ?_
    refine gf_13_15 hx hb htg (htg _ lf_X13_20) hown hZ hW tz_64 dX13_knows_32 ?_
    refine lv_iconst (v := 4) hx hb dX13_knows_35 (by decide) ?_
    refine mld_i hx hb hZ hW tz_67 hf dX13_knows_36 (fun hf => ?_)
    refine lv_icmp_ge (tgt := 67) hx hb dX13_knows_37 (by decide) (fun hc => ?_) (fun hc => ?_)
    · have hf := ift hc hf
      refine lv_iload_n hx hb dX13_knows_67 rfl (lv_at hl 2 rfl) ?_
      subst hQ
      exact mri hx hb hr hlocks hZ hT hS hW (pr1 hf) dX13_knows_68
    · have hf := iff_ hc hf
      refine lv_iload_n hx hb dX13_knows_40 rfl (lv_at hl 2 rfl) ?_
      refine lv_aload_n hx hb dX13_knows_41 rfl (lv_at hl 0 rfl) ?_
      refine lv_iload hx hb dX13_knows_42 (lv_at hl 3 rfl) ?_
      refine lv_iload_n hx hb dX13_knows_44 rfl (lv_at hl 1 rfl) ?_
      refine mcip hf hS (fun r h => va_runV (As := [.int i_4, .int a1]) (rest := [.int i_3]) ⟨hx, hb, hml, hown, hts⟩ (c_X13_doesKnow g l σ_1 i_4 a1 r h) (cl_X13_291 hts ⟨Nat.le_of_ble_eq_true rfl, Nat.le_of_ble_eq_true rfl⟩) (mpV_13 hZ hT hS hW tz_64 _) rfl rfl hl.1 rfl (lv_room (Nat.le_of_ble_eq_true rfl)) dX13_knows_45 ⟨Nat.zero_le _, Nat.zero_le _⟩) (fun r_6 H locs hf hW hS => ?_)
      refine jn1_W (fun (i_7 : Int32) => ∀ (H : Heap) (locs : List Loc) (ls : Array Slot), Wd g 0 81 σ_1 H → va_S (Ag g 0) s.heap H locs → lv_has ls 5 [(0, .ref (bs g 64)), (1, .int a1), (4, .int i_4)] → W p l e (kr 5 115) s m (List.toArray [.ref (bs g 64), .int a1]) below meth c H locs 0 0 Q (F0 m 59 ls [.int i_7, .int i_3])) hf (fun i_7 hf => ?_) (fun k_8 hk_8 hf => ?_)
      · intro H locs ls hW hS hl
        refine lv_ior hx hb dX13_knows_59 ?_
        refine mnmi hf (fun (x_9 : Int32) hf => ?_)
        refine lv_istore_n (lv' := [(3, .int x_9), (0, .ref (bs g 64)), (1, .int a1), (4, .int i_4)]) hx hb dX13_knows_60 rfl hl (by decide) rfl (fun ls hl => ?_)
        obtain ⟨x_10, e_11, hf⟩ := nm_s hf
        refine lv_iinc (v := x_10) (lv' := [(4, .int x_10), (3, .int x_9), (0, .ref (bs g 64)), (1, .int a1)]) hx hb dX13_knows_61 hl (k := 3) rfl (by rw [e_11]; rfl) (by decide) rfl (fun ls hl => ?_)
        refine lv_goto (tgt := 29) hx hb dX13_knows_64 (by decide) ?_
        exact hk_5 x_9 x_10 hf H locs ls hW hS (lv_sub hl [2, 3, 1, 0] rfl)
      · refine lv_if_eq (tgt := 58) hx hb dX13_knows_48 (by decide) (fun hc => ?_) (fun hc => ?_)
        · have hf := ift hc hf
          refine lv_iconst (v := 0) hx hb dX13_knows_58 (by decide) ?_
          exact hk_8 0 hf H locs ls hW hS (lv_sub hl [0, 1, 3] rfl)
        · have hf := iff_ hc hf
          refine lv_iconst (v := 1) hx hb dX13_knows_51 (by decide) ?_
          refine lv_iload hx hb dX13_knows_52 (lv_at hl 3 rfl) ?_
          refine lv_ishl hx hb dX13_knows_54 ?_
          refine lv_goto (tgt := 59) hx hb dX13_knows_55 (by decide) ?_
          exact hk_8 (1 <<< (i_4 &&& 31)) hf H locs ls hW hS (lv_sub hl [0, 1, 3] rfl)
  · have hf := iff_ hc hf
    refine lv_aload_n hx hb dX13_knows_18 rfl (lv_at hl 1 rfl) ?_
    refine lv_iload_n hx hb dX13_knows_19 rfl (lv_at hl 0 rfl) ?_
    refine mci hf hS (fun r τ h => va_runV (As := [.int r_2]) (rest := []) ⟨hx, hb, hml, hown, hts⟩ (c_X13_no g l σ_1 r_2 r τ h) (cl_X13_169 hts ⟨Nat.le_of_ble_eq_true rfl, Nat.le_of_ble_eq_true rfl⟩) (mpV_13 hZ hT hS hW tz_64 _) rfl rfl hl.1 rfl (lv_room (Nat.le_of_ble_eq_true rfl)) dX13_knows_20 ⟨Nat.zero_le _, Nat.zero_le _⟩) (fun r_12 σ_13 H locs hf hW hS => ?_)
    subst hQ
    exact mri hx hb hr hlocks hZ hT hS hW (pr1 hf) dX13_knows_23
def f_X13_stranger (σ : Mem) (a1 : Int32) : Option (Int32 × Mem) :=
  bd1 (f_X13_good σ) (fun (σ_1 : Mem) => bd1 (f_X13_isPerson σ_1 a1) (fun (r_2 : Int32) => (if r_2 = 0 then bd2 (f_X13_no σ_1 1) (fun (r_8 : Int32) (σ_9 : Mem) => some (r_8, σ_9)) else fx1 FU (fun k_4 (i_3 : Int32) => (if 30 ≤ i_3 then some ((-2), σ_1) else bd1 (f_X13_doesKnow σ_1 a1 i_3) (fun (r_5 : Int32) => (if r_5 = 0 then some (i_3, σ_1) else nm (i_3 + 1) (fun (x_6 : Int32) => k_4 x_6))))) 0)))
set_option maxHeartbeats 4000000 in
set_option maxRecDepth 100000 in
theorem c_X13_stranger (g : XG) (l : Launch) (σ : Mem) (a1 : Int32) (r : Int32) (τ : Mem) (hf : f_X13_stranger σ a1 = some (r, τ)) : Met l yX13_stranger (wx (.code yX13_stranger cX13_stranger 3 (some .int))) (kr 5 115) (va_Pc [.ref (bs g 64), .int a1] (WS g 0 81 σ)) (Qi' g 0 81 r τ) 0 0 (Ag g 0) := by
  refine Met.ofW (cc := cX13_stranger) (maxL := 3) (ret := (some .int)) (by decide) rfl ?_
  intro p e s m args below meth c s₁ B hml hv
  obtain ⟨rfl, hZ, hT, hW⟩ := hv
  have hx := B.exec
  have hb := B.bytes
  have hr := B.returns
  have hts : ∀ w ∈ wx (.code yX13_stranger cX13_stranger 3 (some .int)), w.before _ s = true := atoms_spec B.pre
  have htg : ∀ w ∈ lwg, w.before _ s = true := fun w h => hts w (List.mem_cons_of_mem _ h)
  have hown : s.vm.findClass RX13 = some m.cls := findClass_of_methodNamed B.named
  have hlocks := B.notSynchronized
  change W p l e (kr 5 115) s m (List.toArray [.ref (bs g 64), .int a1]) below meth c s.heap [] 0 0 (MQ below (Qi' g 0 81 r τ) (List.toArray [.ref (bs g 64), .int a1]) s 0 0 (Ag g 0)) _
  generalize hQ : MQ below (Qi' g 0 81 r τ) (List.toArray [.ref (bs g 64), .int a1]) s 0 0 (Ag g 0) = Q
  have hS : va_S (Ag g 0) s.heap s.heap [] := va_S.rf
  have hl := lv_entry ([.ref (bs g 64), .int a1]) (n := 3) (Nat.le_of_ble_eq_true rfl)
  rw [lg_entry_eq]
  generalize (lg_sl ([.ref (bs g 64), .int a1]) ++ List.replicate (3 - (lg_sl ([.ref (bs g 64), .int a1])).length) Slot.unset).toArray = ls at hl ⊢
  have hl : lv_has ls 3 [(0, .ref (bs g 64)), (1, .int a1)] := hl
  delta f_X13_stranger at hf
  obtain ⟨H, hH⟩ : ∃ H, H = s.heap := ⟨_, rfl⟩
  obtain ⟨locs, hLc⟩ : ∃ z : List Loc, z = [] := ⟨_, rfl⟩
  have hS : va_S (Ag g 0) s.heap H locs := by rw [hH, hLc]; exact hS
  have hW : Wd g 0 81 σ H := by rw [hH]; exact hW
  suffices hG : W p l e (kr 5 115) s m (List.toArray [.ref (bs g 64), .int a1]) below meth c H locs 0 0 Q (F0 m 0 ls []) by rw [hH, hLc] at hG; exact hG
  clear hH hLc
  refine lv_aload_n hx hb dX13_stranger_0 rfl (lv_at hl 0 rfl) ?_
  refine mcv hf hS (fun τ h => va_runV (As := []) (rest := []) ⟨hx, hb, hml, hown, hts⟩ (c_X13_good g l σ τ h) (cl_X13_166 hts ⟨Nat.le_of_ble_eq_true rfl, Nat.le_of_ble_eq_true rfl⟩) (mpV_13 hZ hT hS hW tz_64 _) rfl rfl hl.1 rfl (lv_room (Nat.le_of_ble_eq_true rfl)) dX13_stranger_1 ⟨Nat.zero_le _, Nat.zero_le _⟩) (fun σ_1 H locs hf hW hS => ?_)
  refine lv_aload_n hx hb dX13_stranger_4 rfl (lv_at hl 0 rfl) ?_
  refine lv_iload_n hx hb dX13_stranger_5 rfl (lv_at hl 1 rfl) ?_
  refine mcip hf hS (fun r h => va_runV (As := [.int a1]) (rest := []) ⟨hx, hb, hml, hown, hts⟩ (c_X13_isPerson g l σ_1 a1 r h) (cl_X13_275 hts ⟨Nat.le_of_ble_eq_true rfl, Nat.le_of_ble_eq_true rfl⟩) (mpV_13 hZ hT hS hW tz_64 _) rfl rfl hl.1 rfl (lv_room (Nat.le_of_ble_eq_true rfl)) dX13_stranger_6 ⟨Nat.zero_le _, Nat.zero_le _⟩) (fun r_2 H locs hf hW hS => ?_)
  refine lv_if_ne (tgt := 18) hx hb dX13_stranger_9 (by decide) (fun hc => ?_) (fun hc => ?_)
  · have hf := iff_ hc hf
    refine lv_iconst (v := 0) hx hb dX13_stranger_18 (by decide) ?_
    refine lv_istore_n (lv' := [(2, .int 0), (0, .ref (bs g 64)), (1, .int a1)]) hx hb dX13_stranger_19 rfl hl (by decide) rfl (fun ls hl => ?_)
    refine fx1_W (fun (i_3 : Int32) => ∀ (H : Heap) (locs : List Loc) (ls : Array Slot), Wd g 0 81 σ_1 H → va_S (Ag g 0) s.heap H locs → lv_has ls 3 [(0, .ref (bs g 64)), (1, .int a1), (2, .int i_3)] → W p l e (kr 5 115) s m (List.toArray [.ref (bs g 64), .int a1]) below meth c H locs 0 0 Q (F0 m 20 ls [])) (fun k_4 hk_4 i_3 hf => ?_) FU 0 hf H locs ls hW hS (lv_sub hl [1, 2, 0] rfl)
    intro H locs ls hW hS hl
    refine lv_iload_n hx hb dX13_stranger_20 rfl (lv_at hl 2 rfl) ?_
    refine lv_bipush (v := 30) hx hb dX13_stranger_21 (by decide) ?_
    refine lv_icmp_ge (tgt := 43) hx hb dX13_stranger_23 (by decide) (fun hc => ?_) (fun hc => ?_)
    · have hf := ift hc hf
      refine lv_bipush (v := (-2)) hx hb dX13_stranger_43 (by decide) ?_
      subst hQ
      exact mri hx hb hr hlocks hZ hT hS hW (pr1 hf) dX13_stranger_45
    · have hf := iff_ hc hf
      refine lv_aload_n hx hb dX13_stranger_26 rfl (lv_at hl 0 rfl) ?_
      refine lv_iload_n hx hb dX13_stranger_27 rfl (lv_at hl 1 rfl) ?_
      refine lv_iload_n hx hb dX13_stranger_28 rfl (lv_at hl 2 rfl) ?_
      refine mcip hf hS (fun r h => va_runV (As := [.int a1, .int i_3]) (rest := []) ⟨hx, hb, hml, hown, hts⟩ (c_X13_doesKnow g l σ_1 a1 i_3 r h) (cl_X13_291 hts ⟨Nat.le_of_ble_eq_true rfl, Nat.le_of_ble_eq_true rfl⟩) (mpV_13 hZ hT hS hW tz_64 _) rfl rfl hl.1 rfl (lv_room (Nat.le_of_ble_eq_true rfl)) dX13_stranger_29 ⟨Nat.zero_le _, Nat.zero_le _⟩) (fun r_5 H locs hf hW hS => ?_)
      refine lv_if_ne (tgt := 37) hx hb dX13_stranger_32 (by decide) (fun hc => ?_) (fun hc => ?_)
      · have hf := iff_ hc hf
        obtain ⟨x_6, e_7, hf⟩ := nm_s hf
        refine lv_iinc (v := x_6) (lv' := [(2, .int x_6), (0, .ref (bs g 64)), (1, .int a1)]) hx hb dX13_stranger_37 hl (k := 2) rfl (by rw [e_7]; rfl) (by decide) rfl (fun ls hl => ?_)
        refine lv_goto (tgt := 20) hx hb dX13_stranger_40 (by decide) ?_
        exact hk_4 x_6 hf H locs ls hW hS (lv_sub hl [1, 2, 0] rfl)
      · have hf := ift hc hf
        refine lv_iload_n hx hb dX13_stranger_35 rfl (lv_at hl 2 rfl) ?_
        subst hQ
        exact mri hx hb hr hlocks hZ hT hS hW (pr1 hf) dX13_stranger_36
  · have hf := ift hc hf
    refine lv_aload_n hx hb dX13_stranger_12 rfl (lv_at hl 0 rfl) ?_
    refine lv_iconst (v := 1) hx hb dX13_stranger_13 (by decide) ?_
    refine mci hf hS (fun r τ h => va_runV (As := [.int 1]) (rest := []) ⟨hx, hb, hml, hown, hts⟩ (c_X13_no g l σ_1 1 r τ h) (cl_X13_169 hts ⟨Nat.le_of_ble_eq_true rfl, Nat.le_of_ble_eq_true rfl⟩) (mpV_13 hZ hT hS hW tz_64 _) rfl rfl hl.1 rfl (lv_room (Nat.le_of_ble_eq_true rfl)) dX13_stranger_14 ⟨Nat.zero_le _, Nat.zero_le _⟩) (fun r_8 σ_9 H locs hf hW hS => ?_)
    subst hQ
    exact mri hx hb hr hlocks hZ hT hS hW (pr1 hf) dX13_stranger_17
def f_X13_passesOn (σ : Mem) (a1 : Int32) (a2 : Int32) : Option (Int32) :=
  fx2 FU (fun k_3 (i_1 : Int32) (i_2 : Int32) => ixd 4 (aln 67) ((if (σ.1 67 (4 : Int32).toNatClampNeg) ≤ i_2 then some i_1 else jn1 (fun (i_4 : Int32) => nm (i_1 ||| i_4) (fun (x_6 : Int32) => nm (i_2 + 1) (fun (x_7 : Int32) => k_3 x_6 x_7))) (fun k_5 => jn0 (k_5 0) (fun k_9 => (if i_2 = a1 then k_9 else bd1 (f_X13_lookOn σ a1 a2) (fun (r_10 : Int32) => bd1 (f_X13_papersOn σ i_2 a2) (fun (r_11 : Int32) => bd1 (f_X13_unlike σ r_10 r_11) (fun (r_12 : Int32) => ixd 1 (aln 67) ((if (σ.1 67 (1 : Int32).toNatClampNeg) < r_12 then k_9 else k_5 (1 <<< (i_2 &&& 31))))))))))))) 0 0
set_option maxHeartbeats 4000000 in
set_option maxRecDepth 100000 in
theorem c_X13_passesOn (g : XG) (l : Launch) (σ : Mem) (a1 : Int32) (a2 : Int32) (r : Int32) (hf : f_X13_passesOn σ a1 a2 = some r) : Met l yX13_passesOn (wx (.code yX13_passesOn cX13_passesOn 5 (some .int))) (kr 4 91) (va_Pc [.ref (bs g 64), .int a1, .int a2] (WS g 0 81 σ)) (Qi' g 0 81 r σ) 0 0 (Ag g 0) := by
  refine Met.ofW (cc := cX13_passesOn) (maxL := 5) (ret := (some .int)) (by decide) rfl ?_
  intro p e s m args below meth c s₁ B hml hv
  obtain ⟨rfl, hZ, hT, hW⟩ := hv
  have hx := B.exec
  have hb := B.bytes
  have hr := B.returns
  have hts : ∀ w ∈ wx (.code yX13_passesOn cX13_passesOn 5 (some .int)), w.before _ s = true := atoms_spec B.pre
  have htg : ∀ w ∈ lwg, w.before _ s = true := fun w h => hts w (List.mem_cons_of_mem _ h)
  have hown : s.vm.findClass RX13 = some m.cls := findClass_of_methodNamed B.named
  have hlocks := B.notSynchronized
  change W p l e (kr 4 91) s m (List.toArray [.ref (bs g 64), .int a1, .int a2]) below meth c s.heap [] 0 0 (MQ below (Qi' g 0 81 r σ) (List.toArray [.ref (bs g 64), .int a1, .int a2]) s 0 0 (Ag g 0)) _
  generalize hQ : MQ below (Qi' g 0 81 r σ) (List.toArray [.ref (bs g 64), .int a1, .int a2]) s 0 0 (Ag g 0) = Q
  have hS : va_S (Ag g 0) s.heap s.heap [] := va_S.rf
  have hl := lv_entry ([.ref (bs g 64), .int a1, .int a2]) (n := 5) (Nat.le_of_ble_eq_true rfl)
  rw [lg_entry_eq]
  generalize (lg_sl ([.ref (bs g 64), .int a1, .int a2]) ++ List.replicate (5 - (lg_sl ([.ref (bs g 64), .int a1, .int a2])).length) Slot.unset).toArray = ls at hl ⊢
  have hl : lv_has ls 5 [(0, .ref (bs g 64)), (1, .int a1), (2, .int a2)] := hl
  delta f_X13_passesOn at hf
  obtain ⟨H, hH⟩ : ∃ H, H = s.heap := ⟨_, rfl⟩
  obtain ⟨locs, hLc⟩ : ∃ z : List Loc, z = [] := ⟨_, rfl⟩
  have hS : va_S (Ag g 0) s.heap H locs := by rw [hH, hLc]; exact hS
  have hW : Wd g 0 81 σ H := by rw [hH]; exact hW
  suffices hG : W p l e (kr 4 91) s m (List.toArray [.ref (bs g 64), .int a1, .int a2]) below meth c H locs 0 0 Q (F0 m 0 ls []) by rw [hH, hLc] at hG; exact hG
  clear hH hLc
  refine lv_iconst (v := 0) hx hb dX13_passesOn_0 (by decide) ?_
  refine lv_istore_n (lv' := [(3, .int 0), (0, .ref (bs g 64)), (1, .int a1), (2, .int a2)]) hx hb dX13_passesOn_1 rfl hl (by decide) rfl (fun ls hl => ?_)
  refine lv_iconst (v := 0) hx hb dX13_passesOn_2 (by decide) ?_
  refine lv_istore (lv' := [(4, .int 0), (3, .int 0), (0, .ref (bs g 64)), (1, .int a1), (2, .int a2)]) hx hb dX13_passesOn_3 hl (by decide) rfl (fun ls hl => ?_)
  refine fx2_W (fun (i_1 : Int32) (i_2 : Int32) => ∀ (H : Heap) (locs : List Loc) (ls : Array Slot), Wd g 0 81 σ H → va_S (Ag g 0) s.heap H locs → lv_has ls 5 [(0, .ref (bs g 64)), (1, .int a1), (2, .int a2), (3, .int i_1), (4, .int i_2)] → W p l e (kr 4 91) s m (List.toArray [.ref (bs g 64), .int a1, .int a2]) below meth c H locs 0 0 Q (F0 m 5 ls [])) (fun k_3 hk_3 i_1 i_2 hf => ?_) FU 0 0 hf H locs ls hW hS (lv_sub hl [2, 3, 4, 1, 0] rfl)
  intro H locs ls hW hS hl
  refine lv_iload hx hb dX13_passesOn_5 (lv_at hl 4 rfl) ?_
  refine lv_aload_n hx hb dX13_passesOn_7 rfl (lv_at hl 0 rfl) ?_
  refine gf_13_15 hx hb htg (htg _ lf_X13_20) hown hZ hW tz_64 dX13_passesOn_8 ?_
  refine lv_iconst (v := 4) hx hb dX13_passesOn_11 (by decide) ?_
  refine mld_i hx hb hZ hW tz_67 hf dX13_passesOn_12 (fun hf => ?_)
  refine lv_icmp_ge (tgt := 65) hx hb dX13_passesOn_13 (by decide) (fun hc => ?_) (fun hc => ?_)
  · have hf := ift hc hf
    refine lv_iload_n hx hb dX13_passesOn_65 rfl (lv_at hl 3 rfl) ?_
    subst hQ
    exact mri hx hb hr hlocks hZ hT hS hW ⟨Option.some.inj hf, rfl⟩ dX13_passesOn_66
  · have hf := iff_ hc hf
    refine lv_iload_n hx hb dX13_passesOn_16 rfl (lv_at hl 3 rfl) ?_
    refine lv_iload hx hb dX13_passesOn_17 (lv_at hl 4 rfl) ?_
    refine lv_iload_n hx hb dX13_passesOn_19 rfl (lv_at hl 1 rfl) ?_
    refine jn1_W (fun (i_4 : Int32) => ∀ (H : Heap) (locs : List Loc) (ls : Array Slot), Wd g 0 81 σ H → va_S (Ag g 0) s.heap H locs → lv_has ls 5 [(0, .ref (bs g 64)), (1, .int a1), (2, .int a2), (4, .int i_2)] → W p l e (kr 4 91) s m (List.toArray [.ref (bs g 64), .int a1, .int a2]) below meth c H locs 0 0 Q (F0 m 57 ls [.int i_4, .int i_1])) hf (fun i_4 hf => ?_) (fun k_5 hk_5 hf => ?_)
    · intro H locs ls hW hS hl
      refine lv_ior hx hb dX13_passesOn_57 ?_
      refine mnmi hf (fun (x_6 : Int32) hf => ?_)
      refine lv_istore_n (lv' := [(3, .int x_6), (0, .ref (bs g 64)), (1, .int a1), (2, .int a2), (4, .int i_2)]) hx hb dX13_passesOn_58 rfl hl (by decide) rfl (fun ls hl => ?_)
      obtain ⟨x_7, e_8, hf⟩ := nm_s hf
      refine lv_iinc (v := x_7) (lv' := [(4, .int x_7), (3, .int x_6), (0, .ref (bs g 64)), (1, .int a1), (2, .int a2)]) hx hb dX13_passesOn_59 hl (k := 4) rfl (by rw [e_8]; rfl) (by decide) rfl (fun ls hl => ?_)
      refine lv_goto (tgt := 5) hx hb dX13_passesOn_62 (by decide) ?_
      exact hk_3 x_6 x_7 hf H locs ls hW hS (lv_sub hl [2, 3, 4, 1, 0] rfl)
    · refine jn0_W (∀ (H : Heap) (locs : List Loc) (ls : Array Slot), Wd g 0 81 σ H → va_S (Ag g 0) s.heap H locs → lv_has ls 5 [(0, .ref (bs g 64)), (1, .int a1), (2, .int a2), (4, .int i_2)] → W p l e (kr 4 91) s m (List.toArray [.ref (bs g 64), .int a1, .int a2]) below meth c H locs 0 0 Q (F0 m 56 ls [.int i_1])) hf (fun  hf => ?_) (fun k_9 hk_9 hf => ?_)
      · intro H locs ls hW hS hl
        refine lv_iconst (v := 0) hx hb dX13_passesOn_56 (by decide) ?_
        exact hk_5 0 hf H locs ls hW hS (lv_sub hl [0, 1, 2, 3] rfl)
      · refine lv_icmp_eq (tgt := 56) hx hb dX13_passesOn_20 (by decide) (fun hc => ?_) (fun hc => ?_)
        · have hf := ift hc hf
          exact hk_9  hf H locs ls hW hS (lv_sub hl [0, 1, 2, 4] rfl)
        · have hf := iff_ hc hf
          refine lv_aload_n hx hb dX13_passesOn_23 rfl (lv_at hl 0 rfl) ?_
          refine lv_aload_n hx hb dX13_passesOn_24 rfl (lv_at hl 0 rfl) ?_
          refine lv_iload_n hx hb dX13_passesOn_25 rfl (lv_at hl 1 rfl) ?_
          refine lv_iload_n hx hb dX13_passesOn_26 rfl (lv_at hl 2 rfl) ?_
          refine mcip hf hS (fun r h => va_runV (As := [.int a1, .int a2]) (rest := [.ref (bs g 64), .int i_1]) ⟨hx, hb, hml, hown, hts⟩ (c_X13_lookOn g l σ a1 a2 r h) (cl_X13_263 hts ⟨Nat.le_of_ble_eq_true rfl, Nat.le_of_ble_eq_true rfl⟩) (mpV_13 hZ hT hS hW tz_64 _) rfl rfl hl.1 rfl (lv_room (Nat.le_of_ble_eq_true rfl)) dX13_passesOn_27 ⟨Nat.zero_le _, Nat.zero_le _⟩) (fun r_10 H locs hf hW hS => ?_)
          refine lv_aload_n hx hb dX13_passesOn_30 rfl (lv_at hl 0 rfl) ?_
          refine lv_iload hx hb dX13_passesOn_31 (lv_at hl 4 rfl) ?_
          refine lv_iload_n hx hb dX13_passesOn_33 rfl (lv_at hl 2 rfl) ?_
          refine mcip hf hS (fun r h => va_runV (As := [.int i_2, .int a2]) (rest := [.int r_10, .ref (bs g 64), .int i_1]) ⟨hx, hb, hml, hown, hts⟩ (c_X13_papersOn g l σ i_2 a2 r h) (cl_X13_285 hts ⟨Nat.le_of_ble_eq_true rfl, Nat.le_of_ble_eq_true rfl⟩) (mpV_13 hZ hT hS hW tz_64 _) rfl rfl hl.1 rfl (lv_room (Nat.le_of_ble_eq_true rfl)) dX13_passesOn_34 ⟨Nat.zero_le _, Nat.zero_le _⟩) (fun r_11 H locs hf hW hS => ?_)
          refine mcip hf hS (fun r h => va_runV (As := [.int r_10, .int r_11]) (rest := [.int i_1]) ⟨hx, hb, hml, hown, hts⟩ (c_X13_unlike g l σ r_10 r_11 r h) (cl_X13_269 hts ⟨Nat.le_of_ble_eq_true rfl, Nat.le_of_ble_eq_true rfl⟩) (mpV_13 hZ hT hS hW tz_64 _) rfl rfl hl.1 rfl (lv_room (Nat.le_of_ble_eq_true rfl)) dX13_passesOn_37 ⟨Nat.zero_le _, Nat.zero_le _⟩) (fun r_12 H locs hf hW hS => ?_)
          refine lv_aload_n hx hb dX13_passesOn_40 rfl (lv_at hl 0 rfl) ?_
          refine gf_13_15 hx hb htg (htg _ lf_X13_20) hown hZ hW tz_64 dX13_passesOn_41 ?_
          refine lv_iconst (v := 1) hx hb dX13_passesOn_44 (by decide) ?_
          refine mld_i hx hb hZ hW tz_67 hf dX13_passesOn_45 (fun hf => ?_)
          refine lv_icmp_gt (tgt := 56) hx hb dX13_passesOn_46 (by decide) (fun hc => ?_) (fun hc => ?_)
          · have hf := ift hc hf
            exact hk_9  hf H locs ls hW hS (lv_sub hl [0, 1, 2, 4] rfl)
          · have hf := iff_ hc hf
            refine lv_iconst (v := 1) hx hb dX13_passesOn_49 (by decide) ?_
            refine lv_iload hx hb dX13_passesOn_50 (lv_at hl 4 rfl) ?_
            refine lv_ishl hx hb dX13_passesOn_52 ?_
            refine lv_goto (tgt := 57) hx hb dX13_passesOn_53 (by decide) ?_
            exact hk_5 (1 <<< (i_2 &&& 31)) hf H locs ls hW hS (lv_sub hl [0, 1, 2, 4] rfl)
def f_X13_passes (σ : Mem) (a1 : Int32) (a2 : Int32) : Option (Int32 × Mem) :=
  bd1 (f_X13_good σ) (fun (σ_1 : Mem) => bd1 (f_X13_isPerson σ_1 a1) (fun (r_2 : Int32) => bd1 (f_X13_why r_2 a2) (fun (r_3 : Int32) => (if r_3 = 0 then bd1 (f_X13_passesOn σ_1 a1 a2) (fun (r_4 : Int32) => some (r_4, σ_1)) else bd2 (f_X13_no σ_1 r_3) (fun (r_5 : Int32) (σ_6 : Mem) => some (r_5, σ_6))))))
set_option maxHeartbeats 4000000 in
set_option maxRecDepth 100000 in
theorem c_X13_passes (g : XG) (l : Launch) (σ : Mem) (a1 : Int32) (a2 : Int32) (r : Int32) (τ : Mem) (hf : f_X13_passes σ a1 a2 = some (r, τ)) : Met l yX13_passes (wx (.code yX13_passes cX13_passes 4 (some .int))) (kr 5 115) (va_Pc [.ref (bs g 64), .int a1, .int a2] (WS g 0 81 σ)) (Qi' g 0 81 r τ) 0 0 (Ag g 0) := by
  refine Met.ofW (cc := cX13_passes) (maxL := 4) (ret := (some .int)) (by decide) rfl ?_
  intro p e s m args below meth c s₁ B hml hv
  obtain ⟨rfl, hZ, hT, hW⟩ := hv
  have hx := B.exec
  have hb := B.bytes
  have hr := B.returns
  have hts : ∀ w ∈ wx (.code yX13_passes cX13_passes 4 (some .int)), w.before _ s = true := atoms_spec B.pre
  have htg : ∀ w ∈ lwg, w.before _ s = true := fun w h => hts w (List.mem_cons_of_mem _ h)
  have hown : s.vm.findClass RX13 = some m.cls := findClass_of_methodNamed B.named
  have hlocks := B.notSynchronized
  change W p l e (kr 5 115) s m (List.toArray [.ref (bs g 64), .int a1, .int a2]) below meth c s.heap [] 0 0 (MQ below (Qi' g 0 81 r τ) (List.toArray [.ref (bs g 64), .int a1, .int a2]) s 0 0 (Ag g 0)) _
  generalize hQ : MQ below (Qi' g 0 81 r τ) (List.toArray [.ref (bs g 64), .int a1, .int a2]) s 0 0 (Ag g 0) = Q
  have hS : va_S (Ag g 0) s.heap s.heap [] := va_S.rf
  have hl := lv_entry ([.ref (bs g 64), .int a1, .int a2]) (n := 4) (Nat.le_of_ble_eq_true rfl)
  rw [lg_entry_eq]
  generalize (lg_sl ([.ref (bs g 64), .int a1, .int a2]) ++ List.replicate (4 - (lg_sl ([.ref (bs g 64), .int a1, .int a2])).length) Slot.unset).toArray = ls at hl ⊢
  have hl : lv_has ls 4 [(0, .ref (bs g 64)), (1, .int a1), (2, .int a2)] := hl
  delta f_X13_passes at hf
  obtain ⟨H, hH⟩ : ∃ H, H = s.heap := ⟨_, rfl⟩
  obtain ⟨locs, hLc⟩ : ∃ z : List Loc, z = [] := ⟨_, rfl⟩
  have hS : va_S (Ag g 0) s.heap H locs := by rw [hH, hLc]; exact hS
  have hW : Wd g 0 81 σ H := by rw [hH]; exact hW
  suffices hG : W p l e (kr 5 115) s m (List.toArray [.ref (bs g 64), .int a1, .int a2]) below meth c H locs 0 0 Q (F0 m 0 ls []) by rw [hH, hLc] at hG; exact hG
  clear hH hLc
  refine lv_aload_n hx hb dX13_passes_0 rfl (lv_at hl 0 rfl) ?_
  refine mcv hf hS (fun τ h => va_runV (As := []) (rest := []) ⟨hx, hb, hml, hown, hts⟩ (c_X13_good g l σ τ h) (cl_X13_166 hts ⟨Nat.le_of_ble_eq_true rfl, Nat.le_of_ble_eq_true rfl⟩) (mpV_13 hZ hT hS hW tz_64 _) rfl rfl hl.1 rfl (lv_room (Nat.le_of_ble_eq_true rfl)) dX13_passes_1 ⟨Nat.zero_le _, Nat.zero_le _⟩) (fun σ_1 H locs hf hW hS => ?_)
  refine lv_aload_n hx hb dX13_passes_4 rfl (lv_at hl 0 rfl) ?_
  refine lv_aload_n hx hb dX13_passes_5 rfl (lv_at hl 0 rfl) ?_
  refine lv_iload_n hx hb dX13_passes_6 rfl (lv_at hl 1 rfl) ?_
  refine mcip hf hS (fun r h => va_runV (As := [.int a1]) (rest := [.ref (bs g 64)]) ⟨hx, hb, hml, hown, hts⟩ (c_X13_isPerson g l σ_1 a1 r h) (cl_X13_275 hts ⟨Nat.le_of_ble_eq_true rfl, Nat.le_of_ble_eq_true rfl⟩) (mpV_13 hZ hT hS hW tz_64 _) rfl rfl hl.1 rfl (lv_room (Nat.le_of_ble_eq_true rfl)) dX13_passes_7 ⟨Nat.zero_le _, Nat.zero_le _⟩) (fun r_2 H locs hf hW hS => ?_)
  refine lv_iload_n hx hb dX13_passes_10 rfl (lv_at hl 2 rfl) ?_
  refine mcip hf hS (fun r h => va_runV (As := [.int r_2, .int a2]) (rest := []) ⟨hx, hb, hml, hown, hts⟩ (c_X13_why g l σ_1 r_2 a2 r h) (cl_X13_281 hts ⟨Nat.le_of_ble_eq_true rfl, Nat.le_of_ble_eq_true rfl⟩) (mpV_13 hZ hT hS hW tz_64 _) rfl rfl hl.1 rfl (lv_room (Nat.le_of_ble_eq_true rfl)) dX13_passes_11 ⟨Nat.zero_le _, Nat.zero_le _⟩) (fun r_3 H locs hf hW hS => ?_)
  refine lv_istore_n (lv' := [(3, .int r_3), (0, .ref (bs g 64)), (1, .int a1), (2, .int a2)]) hx hb dX13_passes_14 rfl hl (by decide) rfl (fun ls hl => ?_)
  refine lv_iload_n hx hb dX13_passes_15 rfl (lv_at hl 0 rfl) ?_
  refine lv_if_eq (tgt := 27) hx hb dX13_passes_16 (by decide) (fun hc => ?_) (fun hc => ?_)
  · have hf := ift hc hf
    refine lv_aload_n hx hb dX13_passes_27 rfl (lv_at hl 1 rfl) ?_
    refine lv_iload_n hx hb dX13_passes_28 rfl (lv_at hl 2 rfl) ?_
    refine lv_iload_n hx hb dX13_passes_29 rfl (lv_at hl 3 rfl) ?_
    refine mcip hf hS (fun r h => va_runV (As := [.int a1, .int a2]) (rest := []) ⟨hx, hb, hml, hown, hts⟩ (c_X13_passesOn g l σ_1 a1 a2 r h) (cl_X13_295 hts ⟨Nat.le_of_ble_eq_true rfl, Nat.le_of_ble_eq_true rfl⟩) (mpV_13 hZ hT hS hW tz_64 _) rfl rfl hl.1 rfl (lv_room (Nat.le_of_ble_eq_true rfl)) dX13_passes_30 ⟨Nat.zero_le _, Nat.zero_le _⟩) (fun r_4 H locs hf hW hS => ?_)
    subst hQ
    exact mri hx hb hr hlocks hZ hT hS hW (pr1 hf) dX13_passes_33
  · have hf := iff_ hc hf
    refine lv_aload_n hx hb dX13_passes_19 rfl (lv_at hl 1 rfl) ?_
    refine lv_iload_n hx hb dX13_passes_20 rfl (lv_at hl 0 rfl) ?_
    refine mci hf hS (fun r τ h => va_runV (As := [.int r_3]) (rest := []) ⟨hx, hb, hml, hown, hts⟩ (c_X13_no g l σ_1 r_3 r τ h) (cl_X13_169 hts ⟨Nat.le_of_ble_eq_true rfl, Nat.le_of_ble_eq_true rfl⟩) (mpV_13 hZ hT hS hW tz_64 _) rfl rfl hl.1 rfl (lv_room (Nat.le_of_ble_eq_true rfl)) dX13_passes_21 ⟨Nat.zero_le _, Nat.zero_le _⟩) (fun r_5 σ_6 H locs hf hW hS => ?_)
    refine lv_goto (tgt := 33) hx hb dX13_passes_24 (by decide) ?_
    subst hQ
    exact mri hx hb hr hlocks hZ hT hS hW (pr1 hf) dX13_passes_33
def f_X13_doubles (σ : Mem) (a1 : Int32) : Option (Int32 × Mem) :=
  bd1 (f_X13_good σ) (fun (σ_1 : Mem) => bd1 (f_X13_why (σ_1.1 64 14) a1) (fun (r_2 : Int32) => (if r_2 = 0 then fx2 FU (fun k_5 (i_3 : Int32) (i_4 : Int32) => ixd 4 (aln 67) ((if (σ_1.1 67 (4 : Int32).toNatClampNeg) ≤ i_4 then some (i_3, σ_1) else bd1 (f_X13_passesOn σ_1 i_4 a1) (fun (r_6 : Int32) => bd1 (f_X13_ones r_6) (fun (r_7 : Int32) => nm (i_3 + r_7) (fun (x_8 : Int32) => nm (i_4 + 1) (fun (x_9 : Int32) => k_5 x_8 x_9))))))) 0 0 else bd2 (f_X13_no σ_1 r_2) (fun (r_11 : Int32) (σ_12 : Mem) => some (r_11, σ_12)))))
set_option maxHeartbeats 4000000 in
set_option maxRecDepth 100000 in
theorem c_X13_doubles (g : XG) (l : Launch) (σ : Mem) (a1 : Int32) (r : Int32) (τ : Mem) (hf : f_X13_doubles σ a1 = some (r, τ)) : Met l yX13_doubles (wx (.code yX13_doubles cX13_doubles 5 (some .int))) (kr 5 115) (va_Pc [.ref (bs g 64), .int a1] (WS g 0 81 σ)) (Qi' g 0 81 r τ) 0 0 (Ag g 0) := by
  refine Met.ofW (cc := cX13_doubles) (maxL := 5) (ret := (some .int)) (by decide) rfl ?_
  intro p e s m args below meth c s₁ B hml hv
  obtain ⟨rfl, hZ, hT, hW⟩ := hv
  have hx := B.exec
  have hb := B.bytes
  have hr := B.returns
  have hts : ∀ w ∈ wx (.code yX13_doubles cX13_doubles 5 (some .int)), w.before _ s = true := atoms_spec B.pre
  have htg : ∀ w ∈ lwg, w.before _ s = true := fun w h => hts w (List.mem_cons_of_mem _ h)
  have hown : s.vm.findClass RX13 = some m.cls := findClass_of_methodNamed B.named
  have hlocks := B.notSynchronized
  change W p l e (kr 5 115) s m (List.toArray [.ref (bs g 64), .int a1]) below meth c s.heap [] 0 0 (MQ below (Qi' g 0 81 r τ) (List.toArray [.ref (bs g 64), .int a1]) s 0 0 (Ag g 0)) _
  generalize hQ : MQ below (Qi' g 0 81 r τ) (List.toArray [.ref (bs g 64), .int a1]) s 0 0 (Ag g 0) = Q
  have hS : va_S (Ag g 0) s.heap s.heap [] := va_S.rf
  have hl := lv_entry ([.ref (bs g 64), .int a1]) (n := 5) (Nat.le_of_ble_eq_true rfl)
  rw [lg_entry_eq]
  generalize (lg_sl ([.ref (bs g 64), .int a1]) ++ List.replicate (5 - (lg_sl ([.ref (bs g 64), .int a1])).length) Slot.unset).toArray = ls at hl ⊢
  have hl : lv_has ls 5 [(0, .ref (bs g 64)), (1, .int a1)] := hl
  delta f_X13_doubles at hf
  obtain ⟨H, hH⟩ : ∃ H, H = s.heap := ⟨_, rfl⟩
  obtain ⟨locs, hLc⟩ : ∃ z : List Loc, z = [] := ⟨_, rfl⟩
  have hS : va_S (Ag g 0) s.heap H locs := by rw [hH, hLc]; exact hS
  have hW : Wd g 0 81 σ H := by rw [hH]; exact hW
  suffices hG : W p l e (kr 5 115) s m (List.toArray [.ref (bs g 64), .int a1]) below meth c H locs 0 0 Q (F0 m 0 ls []) by rw [hH, hLc] at hG; exact hG
  clear hH hLc
  refine lv_aload_n hx hb dX13_doubles_0 rfl (lv_at hl 0 rfl) ?_
  refine mcv hf hS (fun τ h => va_runV (As := []) (rest := []) ⟨hx, hb, hml, hown, hts⟩ (c_X13_good g l σ τ h) (cl_X13_166 hts ⟨Nat.le_of_ble_eq_true rfl, Nat.le_of_ble_eq_true rfl⟩) (mpV_13 hZ hT hS hW tz_64 _) rfl rfl hl.1 rfl (lv_room (Nat.le_of_ble_eq_true rfl)) dX13_doubles_1 ⟨Nat.zero_le _, Nat.zero_le _⟩) (fun σ_1 H locs hf hW hS => ?_)
  refine lv_aload_n hx hb dX13_doubles_4 rfl (lv_at hl 0 rfl) ?_
  refine lv_aload_n hx hb dX13_doubles_5 rfl (lv_at hl 0 rfl) ?_
  refine gf_13_14 hx hb htg (htg _ lf_X13_179) hown hZ hW tz_64 dX13_doubles_6 ?_
  refine lv_iload_n hx hb dX13_doubles_9 rfl (lv_at hl 1 rfl) ?_
  refine mcip hf hS (fun r h => va_runV (As := [.int (σ_1.1 64 14), .int a1]) (rest := []) ⟨hx, hb, hml, hown, hts⟩ (c_X13_why g l σ_1 (σ_1.1 64 14) a1 r h) (cl_X13_281 hts ⟨Nat.le_of_ble_eq_true rfl, Nat.le_of_ble_eq_true rfl⟩) (mpV_13 hZ hT hS hW tz_64 _) rfl rfl hl.1 rfl (lv_room (Nat.le_of_ble_eq_true rfl)) dX13_doubles_10 ⟨Nat.zero_le _, Nat.zero_le _⟩) (fun r_2 H locs hf hW hS => ?_)
  refine lv_istore_n (lv' := [(2, .int r_2), (0, .ref (bs g 64)), (1, .int a1)]) hx hb dX13_doubles_13 rfl hl (by decide) rfl (fun ls hl => ?_)
  refine lv_iload_n hx hb dX13_doubles_14 rfl (lv_at hl 0 rfl) ?_
  refine lv_if_eq (tgt := 24) hx hb dX13_doubles_15 (by decide) (fun hc => ?_) (fun hc => ?_)
  · have hf := ift hc hf
    refine lv_iconst (v := 0) hx hb dX13_doubles_24 (by decide) ?_
    refine lv_istore_n (lv' := [(3, .int 0), (2, .int r_2), (0, .ref (bs g 64)), (1, .int a1)]) hx hb dX13_doubles_25 rfl hl (by decide) rfl (fun ls hl => ?_)
    refine lv_iconst (v := 0) hx hb dX13_doubles_26 (by decide) ?_
    refine lv_istore (lv' := [(4, .int 0), (3, .int 0), (2, .int r_2), (0, .ref (bs g 64)), (1, .int a1)]) hx hb dX13_doubles_27 hl (by decide) rfl (fun ls hl => ?_)
    refine fx2_W (fun (i_3 : Int32) (i_4 : Int32) => ∀ (H : Heap) (locs : List Loc) (ls : Array Slot), Wd g 0 81 σ_1 H → va_S (Ag g 0) s.heap H locs → lv_has ls 5 [(0, .ref (bs g 64)), (1, .int a1), (3, .int i_3), (4, .int i_4)] → W p l e (kr 5 115) s m (List.toArray [.ref (bs g 64), .int a1]) below meth c H locs 0 0 Q (F0 m 29 ls [])) (fun k_5 hk_5 i_3 i_4 hf => ?_) FU 0 0 hf H locs ls hW hS (lv_sub hl [3, 4, 1, 0] rfl)
    intro H locs ls hW hS hl
    refine lv_iload hx hb dX13_doubles_29 (lv_at hl 3 rfl) ?_
    refine lv_aload_n hx hb dX13_doubles_31 rfl (lv_at hl 0 rfl) ?_
    refine gf_13_15 hx hb htg (htg _ lf_X13_20) hown hZ hW tz_64 dX13_doubles_32 ?_
    refine lv_iconst (v := 4) hx hb dX13_doubles_35 (by decide) ?_
    refine mld_i hx hb hZ hW tz_67 hf dX13_doubles_36 (fun hf => ?_)
    refine lv_icmp_ge (tgt := 59) hx hb dX13_doubles_37 (by decide) (fun hc => ?_) (fun hc => ?_)
    · have hf := ift hc hf
      refine lv_iload_n hx hb dX13_doubles_59 rfl (lv_at hl 2 rfl) ?_
      subst hQ
      exact mri hx hb hr hlocks hZ hT hS hW (pr1 hf) dX13_doubles_60
    · have hf := iff_ hc hf
      refine lv_iload_n hx hb dX13_doubles_40 rfl (lv_at hl 2 rfl) ?_
      refine lv_aload_n hx hb dX13_doubles_41 rfl (lv_at hl 0 rfl) ?_
      refine lv_iload hx hb dX13_doubles_42 (lv_at hl 3 rfl) ?_
      refine lv_iload_n hx hb dX13_doubles_44 rfl (lv_at hl 1 rfl) ?_
      refine mcip hf hS (fun r h => va_runV (As := [.int i_4, .int a1]) (rest := [.int i_3]) ⟨hx, hb, hml, hown, hts⟩ (c_X13_passesOn g l σ_1 i_4 a1 r h) (cl_X13_295 hts ⟨Nat.le_of_ble_eq_true rfl, Nat.le_of_ble_eq_true rfl⟩) (mpV_13 hZ hT hS hW tz_64 _) rfl rfl hl.1 rfl (lv_room (Nat.le_of_ble_eq_true rfl)) dX13_doubles_45 ⟨Nat.zero_le _, Nat.zero_le _⟩) (fun r_6 H locs hf hW hS => ?_)
      refine mcip hf hS (fun r h => va_runS (As := [.int r_6]) (rest := [.int i_3]) ⟨hx, hb, hml, hown, hts⟩ (c_X13_ones g l 0 81 σ_1 r_6 r h) (cl_X13_298 hts ⟨Nat.le_of_ble_eq_true rfl, Nat.le_of_ble_eq_true rfl⟩) (mpS hZ hT hS hW _) rfl rfl hl.1 rfl (lv_room (Nat.le_of_ble_eq_true rfl)) dX13_doubles_48 ⟨Nat.zero_le _, Nat.zero_le _⟩) (fun r_7 H locs hf hW hS => ?_)
      refine lv_iadd hx hb dX13_doubles_51 ?_
      refine mnmi hf (fun (x_8 : Int32) hf => ?_)
      refine lv_istore_n (lv' := [(3, .int x_8), (0, .ref (bs g 64)), (1, .int a1), (4, .int i_4)]) hx hb dX13_doubles_52 rfl hl (by decide) rfl (fun ls hl => ?_)
      obtain ⟨x_9, e_10, hf⟩ := nm_s hf
      refine lv_iinc (v := x_9) (lv' := [(4, .int x_9), (3, .int x_8), (0, .ref (bs g 64)), (1, .int a1)]) hx hb dX13_doubles_53 hl (k := 3) rfl (by rw [e_10]; rfl) (by decide) rfl (fun ls hl => ?_)
      refine lv_goto (tgt := 29) hx hb dX13_doubles_56 (by decide) ?_
      exact hk_5 x_8 x_9 hf H locs ls hW hS (lv_sub hl [2, 3, 1, 0] rfl)
  · have hf := iff_ hc hf
    refine lv_aload_n hx hb dX13_doubles_18 rfl (lv_at hl 1 rfl) ?_
    refine lv_iload_n hx hb dX13_doubles_19 rfl (lv_at hl 0 rfl) ?_
    refine mci hf hS (fun r τ h => va_runV (As := [.int r_2]) (rest := []) ⟨hx, hb, hml, hown, hts⟩ (c_X13_no g l σ_1 r_2 r τ h) (cl_X13_169 hts ⟨Nat.le_of_ble_eq_true rfl, Nat.le_of_ble_eq_true rfl⟩) (mpV_13 hZ hT hS hW tz_64 _) rfl rfl hl.1 rfl (lv_room (Nat.le_of_ble_eq_true rfl)) dX13_doubles_20 ⟨Nat.zero_le _, Nat.zero_le _⟩) (fun r_11 σ_12 H locs hf hW hS => ?_)
    subst hQ
    exact mri hx hb hr hlocks hZ hT hS hW (pr1 hf) dX13_doubles_23
def f_X13_twins (σ : Mem)  : Option (Int32 × Mem) :=
  bd1 (f_X13_good σ) (fun (σ_1 : Mem) => (if (σ_1.1 64 14) = 0 then bd2 (f_X13_no σ_1 1) (fun (r_16 : Int32) (σ_17 : Mem) => some (r_16, σ_17)) else fx1 FU (fun k_3 (i_2 : Int32) => (if 30 ≤ i_2 then some ((-2), σ_1) else fx1 FU (fun k_5 (i_4 : Int32) => ixd 4 (aln 67) ((if (σ_1.1 67 (4 : Int32).toNatClampNeg) ≤ i_4 then nm (i_2 + 1) (fun (x_6 : Int32) => k_3 x_6) else fx1 FU (fun k_9 (i_8 : Int32) => (if i_4 ≤ i_8 then nm (i_4 + 1) (fun (x_10 : Int32) => k_5 x_10) else bd1 (f_X13_lookOn σ_1 i_4 i_2) (fun (r_12 : Int32) => bd1 (f_X13_lookOn σ_1 i_8 i_2) (fun (r_13 : Int32) => (if r_12 = r_13 then some (i_2, σ_1) else nm (i_8 + 1) (fun (x_14 : Int32) => k_9 x_14)))))) 0))) 0)) 0))
set_option maxHeartbeats 4000000 in
set_option maxRecDepth 100000 in
theorem c_X13_twins (g : XG) (l : Launch) (σ : Mem) (r : Int32) (τ : Mem) (hf : f_X13_twins σ = some (r, τ)) : Met l yX13_twins (wx (.code yX13_twins cX13_twins 4 (some .int))) (kr 3 68) (va_Pc [.ref (bs g 64)] (WS g 0 81 σ)) (Qi' g 0 81 r τ) 0 0 (Ag g 0) := by
  refine Met.ofW (cc := cX13_twins) (maxL := 4) (ret := (some .int)) (by decide) rfl ?_
  intro p e s m args below meth c s₁ B hml hv
  obtain ⟨rfl, hZ, hT, hW⟩ := hv
  have hx := B.exec
  have hb := B.bytes
  have hr := B.returns
  have hts : ∀ w ∈ wx (.code yX13_twins cX13_twins 4 (some .int)), w.before _ s = true := atoms_spec B.pre
  have htg : ∀ w ∈ lwg, w.before _ s = true := fun w h => hts w (List.mem_cons_of_mem _ h)
  have hown : s.vm.findClass RX13 = some m.cls := findClass_of_methodNamed B.named
  have hlocks := B.notSynchronized
  change W p l e (kr 3 68) s m (List.toArray [.ref (bs g 64)]) below meth c s.heap [] 0 0 (MQ below (Qi' g 0 81 r τ) (List.toArray [.ref (bs g 64)]) s 0 0 (Ag g 0)) _
  generalize hQ : MQ below (Qi' g 0 81 r τ) (List.toArray [.ref (bs g 64)]) s 0 0 (Ag g 0) = Q
  have hS : va_S (Ag g 0) s.heap s.heap [] := va_S.rf
  have hl := lv_entry ([.ref (bs g 64)]) (n := 4) (Nat.le_of_ble_eq_true rfl)
  rw [lg_entry_eq]
  generalize (lg_sl ([.ref (bs g 64)]) ++ List.replicate (4 - (lg_sl ([.ref (bs g 64)])).length) Slot.unset).toArray = ls at hl ⊢
  have hl : lv_has ls 4 [(0, .ref (bs g 64))] := hl
  delta f_X13_twins at hf
  obtain ⟨H, hH⟩ : ∃ H, H = s.heap := ⟨_, rfl⟩
  obtain ⟨locs, hLc⟩ : ∃ z : List Loc, z = [] := ⟨_, rfl⟩
  have hS : va_S (Ag g 0) s.heap H locs := by rw [hH, hLc]; exact hS
  have hW : Wd g 0 81 σ H := by rw [hH]; exact hW
  suffices hG : W p l e (kr 3 68) s m (List.toArray [.ref (bs g 64)]) below meth c H locs 0 0 Q (F0 m 0 ls []) by rw [hH, hLc] at hG; exact hG
  clear hH hLc
  refine lv_aload_n hx hb dX13_twins_0 rfl (lv_at hl 0 rfl) ?_
  refine mcv hf hS (fun τ h => va_runV (As := []) (rest := []) ⟨hx, hb, hml, hown, hts⟩ (c_X13_good g l σ τ h) (cl_X13_166 hts ⟨Nat.le_of_ble_eq_true rfl, Nat.le_of_ble_eq_true rfl⟩) (mpV_13 hZ hT hS hW tz_64 _) rfl rfl hl.1 rfl (lv_room (Nat.le_of_ble_eq_true rfl)) dX13_twins_1 ⟨Nat.zero_le _, Nat.zero_le _⟩) (fun σ_1 H locs hf hW hS => ?_)
  refine lv_aload_n hx hb dX13_twins_4 rfl (lv_at hl 0 rfl) ?_
  refine gf_13_14 hx hb htg (htg _ lf_X13_179) hown hZ hW tz_64 dX13_twins_5 ?_
  refine lv_if_ne (tgt := 17) hx hb dX13_twins_8 (by decide) (fun hc => ?_) (fun hc => ?_)
  · have hf := iff_ hc hf
    refine lv_iconst (v := 0) hx hb dX13_twins_17 (by decide) ?_
    refine lv_istore_n (lv' := [(1, .int 0), (0, .ref (bs g 64))]) hx hb dX13_twins_18 rfl hl (by decide) rfl (fun ls hl => ?_)
    refine fx1_W (fun (i_2 : Int32) => ∀ (H : Heap) (locs : List Loc) (ls : Array Slot), Wd g 0 81 σ_1 H → va_S (Ag g 0) s.heap H locs → lv_has ls 4 [(0, .ref (bs g 64)), (1, .int i_2)] → W p l e (kr 3 68) s m (List.toArray [.ref (bs g 64)]) below meth c H locs 0 0 Q (F0 m 19 ls [])) (fun k_3 hk_3 i_2 hf => ?_) FU 0 hf H locs ls hW hS (lv_sub hl [1, 0] rfl)
    intro H locs ls hW hS hl
    refine lv_iload_n hx hb dX13_twins_19 rfl (lv_at hl 1 rfl) ?_
    refine lv_bipush (v := 30) hx hb dX13_twins_20 (by decide) ?_
    refine lv_icmp_ge (tgt := 79) hx hb dX13_twins_22 (by decide) (fun hc => ?_) (fun hc => ?_)
    · have hf := ift hc hf
      refine lv_bipush (v := (-2)) hx hb dX13_twins_79 (by decide) ?_
      subst hQ
      exact mri hx hb hr hlocks hZ hT hS hW (pr1 hf) dX13_twins_81
    · have hf := iff_ hc hf
      refine lv_iconst (v := 0) hx hb dX13_twins_25 (by decide) ?_
      refine lv_istore_n (lv' := [(2, .int 0), (0, .ref (bs g 64)), (1, .int i_2)]) hx hb dX13_twins_26 rfl hl (by decide) rfl (fun ls hl => ?_)
      refine fx1_W (fun (i_4 : Int32) => ∀ (H : Heap) (locs : List Loc) (ls : Array Slot), Wd g 0 81 σ_1 H → va_S (Ag g 0) s.heap H locs → lv_has ls 4 [(0, .ref (bs g 64)), (1, .int i_2), (2, .int i_4)] → W p l e (kr 3 68) s m (List.toArray [.ref (bs g 64)]) below meth c H locs 0 0 Q (F0 m 27 ls [])) (fun k_5 hk_5 i_4 hf => ?_) FU 0 hf H locs ls hW hS (lv_sub hl [1, 2, 0] rfl)
      intro H locs ls hW hS hl
      refine lv_iload_n hx hb dX13_twins_27 rfl (lv_at hl 2 rfl) ?_
      refine lv_aload_n hx hb dX13_twins_28 rfl (lv_at hl 0 rfl) ?_
      refine gf_13_15 hx hb htg (htg _ lf_X13_20) hown hZ hW tz_64 dX13_twins_29 ?_
      refine lv_iconst (v := 4) hx hb dX13_twins_32 (by decide) ?_
      refine mld_i hx hb hZ hW tz_67 hf dX13_twins_33 (fun hf => ?_)
      refine lv_icmp_ge (tgt := 73) hx hb dX13_twins_34 (by decide) (fun hc => ?_) (fun hc => ?_)
      · have hf := ift hc hf
        obtain ⟨x_6, e_7, hf⟩ := nm_s hf
        refine lv_iinc (v := x_6) (lv' := [(1, .int x_6), (0, .ref (bs g 64)), (2, .int i_4)]) hx hb dX13_twins_73 hl (k := 1) rfl (by rw [e_7]; rfl) (by decide) rfl (fun ls hl => ?_)
        refine lv_goto (tgt := 19) hx hb dX13_twins_76 (by decide) ?_
        exact hk_3 x_6 hf H locs ls hW hS (lv_sub hl [1, 0] rfl)
      · have hf := iff_ hc hf
        refine lv_iconst (v := 0) hx hb dX13_twins_37 (by decide) ?_
        refine lv_istore_n (lv' := [(3, .int 0), (0, .ref (bs g 64)), (1, .int i_2), (2, .int i_4)]) hx hb dX13_twins_38 rfl hl (by decide) rfl (fun ls hl => ?_)
        refine fx1_W (fun (i_8 : Int32) => ∀ (H : Heap) (locs : List Loc) (ls : Array Slot), Wd g 0 81 σ_1 H → va_S (Ag g 0) s.heap H locs → lv_has ls 4 [(0, .ref (bs g 64)), (1, .int i_2), (2, .int i_4), (3, .int i_8)] → W p l e (kr 3 68) s m (List.toArray [.ref (bs g 64)]) below meth c H locs 0 0 Q (F0 m 39 ls [])) (fun k_9 hk_9 i_8 hf => ?_) FU 0 hf H locs ls hW hS (lv_sub hl [1, 2, 3, 0] rfl)
        intro H locs ls hW hS hl
        refine lv_iload_n hx hb dX13_twins_39 rfl (lv_at hl 3 rfl) ?_
        refine lv_iload_n hx hb dX13_twins_40 rfl (lv_at hl 2 rfl) ?_
        refine lv_icmp_ge (tgt := 67) hx hb dX13_twins_41 (by decide) (fun hc => ?_) (fun hc => ?_)
        · have hf := ift hc hf
          obtain ⟨x_10, e_11, hf⟩ := nm_s hf
          refine lv_iinc (v := x_10) (lv' := [(2, .int x_10), (0, .ref (bs g 64)), (1, .int i_2), (3, .int i_8)]) hx hb dX13_twins_67 hl (k := 2) rfl (by rw [e_11]; rfl) (by decide) rfl (fun ls hl => ?_)
          refine lv_goto (tgt := 27) hx hb dX13_twins_70 (by decide) ?_
          exact hk_5 x_10 hf H locs ls hW hS (lv_sub hl [1, 2, 0] rfl)
        · have hf := iff_ hc hf
          refine lv_aload_n hx hb dX13_twins_44 rfl (lv_at hl 0 rfl) ?_
          refine lv_iload_n hx hb dX13_twins_45 rfl (lv_at hl 2 rfl) ?_
          refine lv_iload_n hx hb dX13_twins_46 rfl (lv_at hl 1 rfl) ?_
          refine mcip hf hS (fun r h => va_runV (As := [.int i_4, .int i_2]) (rest := []) ⟨hx, hb, hml, hown, hts⟩ (c_X13_lookOn g l σ_1 i_4 i_2 r h) (cl_X13_263 hts ⟨Nat.le_of_ble_eq_true rfl, Nat.le_of_ble_eq_true rfl⟩) (mpV_13 hZ hT hS hW tz_64 _) rfl rfl hl.1 rfl (lv_room (Nat.le_of_ble_eq_true rfl)) dX13_twins_47 ⟨Nat.zero_le _, Nat.zero_le _⟩) (fun r_12 H locs hf hW hS => ?_)
          refine lv_aload_n hx hb dX13_twins_50 rfl (lv_at hl 0 rfl) ?_
          refine lv_iload_n hx hb dX13_twins_51 rfl (lv_at hl 3 rfl) ?_
          refine lv_iload_n hx hb dX13_twins_52 rfl (lv_at hl 1 rfl) ?_
          refine mcip hf hS (fun r h => va_runV (As := [.int i_8, .int i_2]) (rest := [.int r_12]) ⟨hx, hb, hml, hown, hts⟩ (c_X13_lookOn g l σ_1 i_8 i_2 r h) (cl_X13_263 hts ⟨Nat.le_of_ble_eq_true rfl, Nat.le_of_ble_eq_true rfl⟩) (mpV_13 hZ hT hS hW tz_64 _) rfl rfl hl.1 rfl (lv_room (Nat.le_of_ble_eq_true rfl)) dX13_twins_53 ⟨Nat.zero_le _, Nat.zero_le _⟩) (fun r_13 H locs hf hW hS => ?_)
          refine lv_icmp_ne (tgt := 61) hx hb dX13_twins_56 (by decide) (fun hc => ?_) (fun hc => ?_)
          · have hf := iff_ hc hf
            obtain ⟨x_14, e_15, hf⟩ := nm_s hf
            refine lv_iinc (v := x_14) (lv' := [(3, .int x_14), (0, .ref (bs g 64)), (1, .int i_2), (2, .int i_4)]) hx hb dX13_twins_61 hl (k := 3) rfl (by rw [e_15]; rfl) (by decide) rfl (fun ls hl => ?_)
            refine lv_goto (tgt := 39) hx hb dX13_twins_64 (by decide) ?_
            exact hk_9 x_14 hf H locs ls hW hS (lv_sub hl [1, 2, 3, 0] rfl)
          · have hf := ift hc hf
            refine lv_iload_n hx hb dX13_twins_59 rfl (lv_at hl 1 rfl) ?_
            subst hQ
            exact mri hx hb hr hlocks hZ hT hS hW (pr1 hf) dX13_twins_60
  · have hf := ift hc hf
    refine lv_aload_n hx hb dX13_twins_11 rfl (lv_at hl 0 rfl) ?_
    refine lv_iconst (v := 1) hx hb dX13_twins_12 (by decide) ?_
    refine mci hf hS (fun r τ h => va_runV (As := [.int 1]) (rest := []) ⟨hx, hb, hml, hown, hts⟩ (c_X13_no g l σ_1 1 r τ h) (cl_X13_169 hts ⟨Nat.le_of_ble_eq_true rfl, Nat.le_of_ble_eq_true rfl⟩) (mpV_13 hZ hT hS hW tz_64 _) rfl rfl hl.1 rfl (lv_room (Nat.le_of_ble_eq_true rfl)) dX13_twins_13 ⟨Nat.zero_le _, Nat.zero_le _⟩) (fun r_16 σ_17 H locs hf hW hS => ?_)
    subst hQ
    exact mri hx hb hr hlocks hZ hT hS hW (pr1 hf) dX13_twins_16
def f_X13_doesHold (σ : Mem) (a1 : Int32) : Option (Int32) :=
  ixd (90 + (2 * a1)) (aln 67) (ixd ((90 + (2 * a1)) + 1) (aln 67) (bd1 (f_X13_doesKnow σ (σ.1 67 (90 + (2 * a1)).toNatClampNeg) (σ.1 67 ((90 + (2 * a1)) + 1).toNatClampNeg)) (fun (r_1 : Int32) => zrt r_1)))
set_option maxHeartbeats 4000000 in
set_option maxRecDepth 100000 in
theorem c_X13_doesHold (g : XG) (l : Launch) (σ : Mem) (a1 : Int32) (r : Int32) (hf : f_X13_doesHold σ a1 = some r) : Met l yX13_doesHold (wx (.code yX13_doesHold cX13_doesHold 2 (some .boolean))) (kr 5 115) (va_Pc [.ref (bs g 64), .int a1] (WS g 0 81 σ)) (Qi' g 0 81 r σ) 0 0 (Ag g 0) := by
  refine Met.ofW (cc := cX13_doesHold) (maxL := 2) (ret := (some .boolean)) (by decide) rfl ?_
  intro p e s m args below meth c s₁ B hml hv
  obtain ⟨rfl, hZ, hT, hW⟩ := hv
  have hx := B.exec
  have hb := B.bytes
  have hr := B.returns
  have hts : ∀ w ∈ wx (.code yX13_doesHold cX13_doesHold 2 (some .boolean)), w.before _ s = true := atoms_spec B.pre
  have htg : ∀ w ∈ lwg, w.before _ s = true := fun w h => hts w (List.mem_cons_of_mem _ h)
  have hown : s.vm.findClass RX13 = some m.cls := findClass_of_methodNamed B.named
  have hlocks := B.notSynchronized
  change W p l e (kr 5 115) s m (List.toArray [.ref (bs g 64), .int a1]) below meth c s.heap [] 0 0 (MQ below (Qi' g 0 81 r σ) (List.toArray [.ref (bs g 64), .int a1]) s 0 0 (Ag g 0)) _
  generalize hQ : MQ below (Qi' g 0 81 r σ) (List.toArray [.ref (bs g 64), .int a1]) s 0 0 (Ag g 0) = Q
  have hS : va_S (Ag g 0) s.heap s.heap [] := va_S.rf
  have hl := lv_entry ([.ref (bs g 64), .int a1]) (n := 2) (Nat.le_of_ble_eq_true rfl)
  rw [lg_entry_eq]
  generalize (lg_sl ([.ref (bs g 64), .int a1]) ++ List.replicate (2 - (lg_sl ([.ref (bs g 64), .int a1])).length) Slot.unset).toArray = ls at hl ⊢
  have hl : lv_has ls 2 [(0, .ref (bs g 64)), (1, .int a1)] := hl
  delta f_X13_doesHold at hf
  obtain ⟨H, hH⟩ : ∃ H, H = s.heap := ⟨_, rfl⟩
  obtain ⟨locs, hLc⟩ : ∃ z : List Loc, z = [] := ⟨_, rfl⟩
  have hS : va_S (Ag g 0) s.heap H locs := by rw [hH, hLc]; exact hS
  have hW : Wd g 0 81 σ H := by rw [hH]; exact hW
  suffices hG : W p l e (kr 5 115) s m (List.toArray [.ref (bs g 64), .int a1]) below meth c H locs 0 0 Q (F0 m 0 ls []) by rw [hH, hLc] at hG; exact hG
  clear hH hLc
  refine lv_aload_n hx hb dX13_doesHold_0 rfl (lv_at hl 0 rfl) ?_
  refine lv_aload_n hx hb dX13_doesHold_1 rfl (lv_at hl 0 rfl) ?_
  refine gf_13_15 hx hb htg (htg _ lf_X13_20) hown hZ hW tz_64 dX13_doesHold_2 ?_
  refine lv_bipush (v := 90) hx hb dX13_doesHold_5 (by decide) ?_
  refine lv_iconst (v := 2) hx hb dX13_doesHold_7 (by decide) ?_
  refine lv_iload_n hx hb dX13_doesHold_8 rfl (lv_at hl 1 rfl) ?_
  refine lv_imul hx hb dX13_doesHold_9 ?_
  refine lv_iadd hx hb dX13_doesHold_10 ?_
  refine mld_i hx hb hZ hW tz_67 hf dX13_doesHold_11 (fun hf => ?_)
  refine lv_aload_n hx hb dX13_doesHold_12 rfl (lv_at hl 0 rfl) ?_
  refine gf_13_15 hx hb htg (htg _ lf_X13_20) hown hZ hW tz_64 dX13_doesHold_13 ?_
  refine lv_bipush (v := 90) hx hb dX13_doesHold_16 (by decide) ?_
  refine lv_iconst (v := 2) hx hb dX13_doesHold_18 (by decide) ?_
  refine lv_iload_n hx hb dX13_doesHold_19 rfl (lv_at hl 1 rfl) ?_
  refine lv_imul hx hb dX13_doesHold_20 ?_
  refine lv_iadd hx hb dX13_doesHold_21 ?_
  refine lv_iconst (v := 1) hx hb dX13_doesHold_22 (by decide) ?_
  refine lv_iadd hx hb dX13_doesHold_23 ?_
  refine mld_i hx hb hZ hW tz_67 hf dX13_doesHold_24 (fun hf => ?_)
  refine mcip hf hS (fun r h => va_runV (As := [.int (σ.1 67 (90 + (2 * a1)).toNatClampNeg), .int (σ.1 67 ((90 + (2 * a1)) + 1).toNatClampNeg)]) (rest := []) ⟨hx, hb, hml, hown, hts⟩ (c_X13_doesKnow g l σ (σ.1 67 (90 + (2 * a1)).toNatClampNeg) (σ.1 67 ((90 + (2 * a1)) + 1).toNatClampNeg) r h) (cl_X13_291 hts ⟨Nat.le_of_ble_eq_true rfl, Nat.le_of_ble_eq_true rfl⟩) (mpV_13 hZ hT hS hW tz_64 _) rfl rfl hl.1 rfl (lv_room (Nat.le_of_ble_eq_true rfl)) dX13_doesHold_25 ⟨Nat.zero_le _, Nat.zero_le _⟩) (fun r_1 H locs hf hW hS => ?_)
  subst hQ
  exact mrz hx hb hr hlocks hZ hT hS hW (zrt_s hf).1 ⟨(zrt_s hf).2, rfl⟩ dX13_doesHold_28
def f_X13_holdsNow (σ : Mem)  : Option (Int32) :=
  fx2 FU (fun k_3 (i_1 : Int32) (i_2 : Int32) => ixd 7 (aln 67) ((if (σ.1 67 (7 : Int32).toNatClampNeg) ≤ i_2 then some i_1 else bd1 (f_X13_doesHold σ i_2) (fun (r_4 : Int32) => jn1 (fun (i_5 : Int32) => nm (i_1 ||| i_5) (fun (x_7 : Int32) => nm (i_2 + 1) (fun (x_8 : Int32) => k_3 x_7 x_8))) (fun k_6 => (if r_4 = 0 then k_6 0 else k_6 (1 <<< (i_2 &&& 31)))))))) 0 0
set_option maxHeartbeats 4000000 in
set_option maxRecDepth 100000 in
theorem c_X13_holdsNow (g : XG) (l : Launch) (σ : Mem) (r : Int32) (hf : f_X13_holdsNow σ = some r) : Met l yX13_holdsNow (wx (.code yX13_holdsNow cX13_holdsNow 3 (some .int))) (kr 6 136) (va_Pc [.ref (bs g 64)] (WS g 0 81 σ)) (Qi' g 0 81 r σ) 0 0 (Ag g 0) := by
  refine Met.ofW (cc := cX13_holdsNow) (maxL := 3) (ret := (some .int)) (by decide) rfl ?_
  intro p e s m args below meth c s₁ B hml hv
  obtain ⟨rfl, hZ, hT, hW⟩ := hv
  have hx := B.exec
  have hb := B.bytes
  have hr := B.returns
  have hts : ∀ w ∈ wx (.code yX13_holdsNow cX13_holdsNow 3 (some .int)), w.before _ s = true := atoms_spec B.pre
  have htg : ∀ w ∈ lwg, w.before _ s = true := fun w h => hts w (List.mem_cons_of_mem _ h)
  have hown : s.vm.findClass RX13 = some m.cls := findClass_of_methodNamed B.named
  have hlocks := B.notSynchronized
  change W p l e (kr 6 136) s m (List.toArray [.ref (bs g 64)]) below meth c s.heap [] 0 0 (MQ below (Qi' g 0 81 r σ) (List.toArray [.ref (bs g 64)]) s 0 0 (Ag g 0)) _
  generalize hQ : MQ below (Qi' g 0 81 r σ) (List.toArray [.ref (bs g 64)]) s 0 0 (Ag g 0) = Q
  have hS : va_S (Ag g 0) s.heap s.heap [] := va_S.rf
  have hl := lv_entry ([.ref (bs g 64)]) (n := 3) (Nat.le_of_ble_eq_true rfl)
  rw [lg_entry_eq]
  generalize (lg_sl ([.ref (bs g 64)]) ++ List.replicate (3 - (lg_sl ([.ref (bs g 64)])).length) Slot.unset).toArray = ls at hl ⊢
  have hl : lv_has ls 3 [(0, .ref (bs g 64))] := hl
  delta f_X13_holdsNow at hf
  obtain ⟨H, hH⟩ : ∃ H, H = s.heap := ⟨_, rfl⟩
  obtain ⟨locs, hLc⟩ : ∃ z : List Loc, z = [] := ⟨_, rfl⟩
  have hS : va_S (Ag g 0) s.heap H locs := by rw [hH, hLc]; exact hS
  have hW : Wd g 0 81 σ H := by rw [hH]; exact hW
  suffices hG : W p l e (kr 6 136) s m (List.toArray [.ref (bs g 64)]) below meth c H locs 0 0 Q (F0 m 0 ls []) by rw [hH, hLc] at hG; exact hG
  clear hH hLc
  refine lv_iconst (v := 0) hx hb dX13_holdsNow_0 (by decide) ?_
  refine lv_istore_n (lv' := [(1, .int 0), (0, .ref (bs g 64))]) hx hb dX13_holdsNow_1 rfl hl (by decide) rfl (fun ls hl => ?_)
  refine lv_iconst (v := 0) hx hb dX13_holdsNow_2 (by decide) ?_
  refine lv_istore_n (lv' := [(2, .int 0), (1, .int 0), (0, .ref (bs g 64))]) hx hb dX13_holdsNow_3 rfl hl (by decide) rfl (fun ls hl => ?_)
  refine fx2_W (fun (i_1 : Int32) (i_2 : Int32) => ∀ (H : Heap) (locs : List Loc) (ls : Array Slot), Wd g 0 81 σ H → va_S (Ag g 0) s.heap H locs → lv_has ls 3 [(0, .ref (bs g 64)), (1, .int i_1), (2, .int i_2)] → W p l e (kr 6 136) s m (List.toArray [.ref (bs g 64)]) below meth c H locs 0 0 Q (F0 m 4 ls [])) (fun k_3 hk_3 i_1 i_2 hf => ?_) FU 0 0 hf H locs ls hW hS (lv_sub hl [2, 1, 0] rfl)
  intro H locs ls hW hS hl
  refine lv_iload_n hx hb dX13_holdsNow_4 rfl (lv_at hl 2 rfl) ?_
  refine lv_aload_n hx hb dX13_holdsNow_5 rfl (lv_at hl 0 rfl) ?_
  refine gf_13_15 hx hb htg (htg _ lf_X13_20) hown hZ hW tz_64 dX13_holdsNow_6 ?_
  refine lv_bipush (v := 7) hx hb dX13_holdsNow_9 (by decide) ?_
  refine mld_i hx hb hZ hW tz_67 hf dX13_holdsNow_11 (fun hf => ?_)
  refine lv_icmp_ge (tgt := 39) hx hb dX13_holdsNow_12 (by decide) (fun hc => ?_) (fun hc => ?_)
  · have hf := ift hc hf
    refine lv_iload_n hx hb dX13_holdsNow_39 rfl (lv_at hl 1 rfl) ?_
    subst hQ
    exact mri hx hb hr hlocks hZ hT hS hW ⟨Option.some.inj hf, rfl⟩ dX13_holdsNow_40
  · have hf := iff_ hc hf
    refine lv_iload_n hx hb dX13_holdsNow_15 rfl (lv_at hl 1 rfl) ?_
    refine lv_aload_n hx hb dX13_holdsNow_16 rfl (lv_at hl 0 rfl) ?_
    refine lv_iload_n hx hb dX13_holdsNow_17 rfl (lv_at hl 2 rfl) ?_
    refine mcip hf hS (fun r h => va_runV (As := [.int i_2]) (rest := [.int i_1]) ⟨hx, hb, hml, hown, hts⟩ (c_X13_doesHold g l σ i_2 r h) (cl_X13_301 hts ⟨Nat.le_of_ble_eq_true rfl, Nat.le_of_ble_eq_true rfl⟩) (mpV_13 hZ hT hS hW tz_64 _) rfl rfl hl.1 rfl (lv_room (Nat.le_of_ble_eq_true rfl)) dX13_holdsNow_18 ⟨Nat.zero_le _, Nat.zero_le _⟩) (fun r_4 H locs hf hW hS => ?_)
    refine jn1_W (fun (i_5 : Int32) => ∀ (H : Heap) (locs : List Loc) (ls : Array Slot), Wd g 0 81 σ H → va_S (Ag g 0) s.heap H locs → lv_has ls 3 [(0, .ref (bs g 64)), (2, .int i_2)] → W p l e (kr 6 136) s m (List.toArray [.ref (bs g 64)]) below meth c H locs 0 0 Q (F0 m 31 ls [.int i_5, .int i_1])) hf (fun i_5 hf => ?_) (fun k_6 hk_6 hf => ?_)
    · intro H locs ls hW hS hl
      refine lv_ior hx hb dX13_holdsNow_31 ?_
      refine mnmi hf (fun (x_7 : Int32) hf => ?_)
      refine lv_istore_n (lv' := [(1, .int x_7), (0, .ref (bs g 64)), (2, .int i_2)]) hx hb dX13_holdsNow_32 rfl hl (by decide) rfl (fun ls hl => ?_)
      obtain ⟨x_8, e_9, hf⟩ := nm_s hf
      refine lv_iinc (v := x_8) (lv' := [(2, .int x_8), (1, .int x_7), (0, .ref (bs g 64))]) hx hb dX13_holdsNow_33 hl (k := 2) rfl (by rw [e_9]; rfl) (by decide) rfl (fun ls hl => ?_)
      refine lv_goto (tgt := 4) hx hb dX13_holdsNow_36 (by decide) ?_
      exact hk_3 x_7 x_8 hf H locs ls hW hS (lv_sub hl [2, 1, 0] rfl)
    · refine lv_if_eq (tgt := 30) hx hb dX13_holdsNow_21 (by decide) (fun hc => ?_) (fun hc => ?_)
      · have hf := ift hc hf
        refine lv_iconst (v := 0) hx hb dX13_holdsNow_30 (by decide) ?_
        exact hk_6 0 hf H locs ls hW hS (lv_sub hl [0, 2] rfl)
      · have hf := iff_ hc hf
        refine lv_iconst (v := 1) hx hb dX13_holdsNow_24 (by decide) ?_
        refine lv_iload_n hx hb dX13_holdsNow_25 rfl (lv_at hl 2 rfl) ?_
        refine lv_ishl hx hb dX13_holdsNow_26 ?_
        refine lv_goto (tgt := 31) hx hb dX13_holdsNow_27 (by decide) ?_
        exact hk_6 (1 <<< (i_2 &&& 31)) hf H locs ls hW hS (lv_sub hl [0, 2] rfl)
def f_X13_holds (σ : Mem)  : Option (Int32 × Mem) :=
  bd1 (f_X13_good σ) (fun (σ_1 : Mem) => (if (σ_1.1 64 14) = 0 then bd2 (f_X13_no σ_1 1) (fun (r_2 : Int32) (σ_3 : Mem) => some (r_2, σ_3)) else bd1 (f_X13_holdsNow σ_1) (fun (r_4 : Int32) => some (r_4, σ_1))))
set_option maxHeartbeats 4000000 in
set_option maxRecDepth 100000 in
theorem c_X13_holds (g : XG) (l : Launch) (σ : Mem) (r : Int32) (τ : Mem) (hf : f_X13_holds σ = some (r, τ)) : Met l yX13_holds (wx (.code yX13_holds cX13_holds 1 (some .int))) (kr 7 158) (va_Pc [.ref (bs g 64)] (WS g 0 81 σ)) (Qi' g 0 81 r τ) 0 0 (Ag g 0) := by
  refine Met.ofW (cc := cX13_holds) (maxL := 1) (ret := (some .int)) (by decide) rfl ?_
  intro p e s m args below meth c s₁ B hml hv
  obtain ⟨rfl, hZ, hT, hW⟩ := hv
  have hx := B.exec
  have hb := B.bytes
  have hr := B.returns
  have hts : ∀ w ∈ wx (.code yX13_holds cX13_holds 1 (some .int)), w.before _ s = true := atoms_spec B.pre
  have htg : ∀ w ∈ lwg, w.before _ s = true := fun w h => hts w (List.mem_cons_of_mem _ h)
  have hown : s.vm.findClass RX13 = some m.cls := findClass_of_methodNamed B.named
  have hlocks := B.notSynchronized
  change W p l e (kr 7 158) s m (List.toArray [.ref (bs g 64)]) below meth c s.heap [] 0 0 (MQ below (Qi' g 0 81 r τ) (List.toArray [.ref (bs g 64)]) s 0 0 (Ag g 0)) _
  generalize hQ : MQ below (Qi' g 0 81 r τ) (List.toArray [.ref (bs g 64)]) s 0 0 (Ag g 0) = Q
  have hS : va_S (Ag g 0) s.heap s.heap [] := va_S.rf
  have hl := lv_entry ([.ref (bs g 64)]) (n := 1) (Nat.le_of_ble_eq_true rfl)
  rw [lg_entry_eq]
  generalize (lg_sl ([.ref (bs g 64)]) ++ List.replicate (1 - (lg_sl ([.ref (bs g 64)])).length) Slot.unset).toArray = ls at hl ⊢
  have hl : lv_has ls 1 [(0, .ref (bs g 64))] := hl
  delta f_X13_holds at hf
  obtain ⟨H, hH⟩ : ∃ H, H = s.heap := ⟨_, rfl⟩
  obtain ⟨locs, hLc⟩ : ∃ z : List Loc, z = [] := ⟨_, rfl⟩
  have hS : va_S (Ag g 0) s.heap H locs := by rw [hH, hLc]; exact hS
  have hW : Wd g 0 81 σ H := by rw [hH]; exact hW
  suffices hG : W p l e (kr 7 158) s m (List.toArray [.ref (bs g 64)]) below meth c H locs 0 0 Q (F0 m 0 ls []) by rw [hH, hLc] at hG; exact hG
  clear hH hLc
  refine lv_aload_n hx hb dX13_holds_0 rfl (lv_at hl 0 rfl) ?_
  refine mcv hf hS (fun τ h => va_runV (As := []) (rest := []) ⟨hx, hb, hml, hown, hts⟩ (c_X13_good g l σ τ h) (cl_X13_166 hts ⟨Nat.le_of_ble_eq_true rfl, Nat.le_of_ble_eq_true rfl⟩) (mpV_13 hZ hT hS hW tz_64 _) rfl rfl hl.1 rfl (lv_room (Nat.le_of_ble_eq_true rfl)) dX13_holds_1 ⟨Nat.zero_le _, Nat.zero_le _⟩) (fun σ_1 H locs hf hW hS => ?_)
  refine lv_aload_n hx hb dX13_holds_4 rfl (lv_at hl 0 rfl) ?_
  refine gf_13_14 hx hb htg (htg _ lf_X13_179) hown hZ hW tz_64 dX13_holds_5 ?_
  refine lv_if_eq (tgt := 18) hx hb dX13_holds_8 (by decide) (fun hc => ?_) (fun hc => ?_)
  · have hf := ift hc hf
    refine lv_aload_n hx hb dX13_holds_18 rfl (lv_at hl 0 rfl) ?_
    refine lv_iconst (v := 1) hx hb dX13_holds_19 (by decide) ?_
    refine mci hf hS (fun r τ h => va_runV (As := [.int 1]) (rest := []) ⟨hx, hb, hml, hown, hts⟩ (c_X13_no g l σ_1 1 r τ h) (cl_X13_169 hts ⟨Nat.le_of_ble_eq_true rfl, Nat.le_of_ble_eq_true rfl⟩) (mpV_13 hZ hT hS hW tz_64 _) rfl rfl hl.1 rfl (lv_room (Nat.le_of_ble_eq_true rfl)) dX13_holds_20 ⟨Nat.zero_le _, Nat.zero_le _⟩) (fun r_2 σ_3 H locs hf hW hS => ?_)
    subst hQ
    exact mri hx hb hr hlocks hZ hT hS hW (pr1 hf) dX13_holds_23
  · have hf := iff_ hc hf
    refine lv_aload_n hx hb dX13_holds_11 rfl (lv_at hl 0 rfl) ?_
    refine mcip hf hS (fun r h => va_runV (As := []) (rest := []) ⟨hx, hb, hml, hown, hts⟩ (c_X13_holdsNow g l σ_1 r h) (cl_X13_304 hts ⟨Nat.le_of_ble_eq_true rfl, Nat.le_of_ble_eq_true rfl⟩) (mpV_13 hZ hT hS hW tz_64 _) rfl rfl hl.1 rfl (lv_room (Nat.le_of_ble_eq_true rfl)) dX13_holds_12 ⟨Nat.zero_le _, Nat.zero_le _⟩) (fun r_4 H locs hf hW hS => ?_)
    refine lv_goto (tgt := 23) hx hb dX13_holds_15 (by decide) ?_
    subst hQ
    exact mri hx hb hr hlocks hZ hT hS hW (pr1 hf) dX13_holds_23
def f_X13_passedBy (σ : Mem) (a1 : Int32) (a2 : Int32) : Option (Int32 × Mem) :=
  bd1 (f_X13_good σ) (fun (σ_1 : Mem) => bd1 (f_X13_isPerson σ_1 a1) (fun (r_2 : Int32) => bd1 (f_X13_why r_2 a2) (fun (r_3 : Int32) => (if r_3 = 0 then fx2 FU (fun k_6 (i_4 : Int32) (i_5 : Int32) => ixd 4 (aln 67) ((if (σ_1.1 67 (4 : Int32).toNatClampNeg) ≤ i_5 then some (i_4, σ_1) else bd1 (f_X13_passesOn σ_1 i_5 a2) (fun (r_7 : Int32) => bd1 (f_X13_hasBit r_7 a1) (fun (r_8 : Int32) => jn1 (fun (i_9 : Int32) => nm (i_4 ||| i_9) (fun (x_11 : Int32) => nm (i_5 + 1) (fun (x_12 : Int32) => k_6 x_11 x_12))) (fun k_10 => (if r_8 = 0 then k_10 0 else k_10 (1 <<< (i_5 &&& 31))))))))) 0 0 else bd2 (f_X13_no σ_1 r_3) (fun (r_14 : Int32) (σ_15 : Mem) => some (r_14, σ_15))))))
set_option maxHeartbeats 4000000 in
set_option maxRecDepth 100000 in
theorem c_X13_passedBy (g : XG) (l : Launch) (σ : Mem) (a1 : Int32) (a2 : Int32) (r : Int32) (τ : Mem) (hf : f_X13_passedBy σ a1 a2 = some (r, τ)) : Met l yX13_passedBy (wx (.code yX13_passedBy cX13_passedBy 6 (some .int))) (kr 5 115) (va_Pc [.ref (bs g 64), .int a1, .int a2] (WS g 0 81 σ)) (Qi' g 0 81 r τ) 0 0 (Ag g 0) := by
  refine Met.ofW (cc := cX13_passedBy) (maxL := 6) (ret := (some .int)) (by decide) rfl ?_
  intro p e s m args below meth c s₁ B hml hv
  obtain ⟨rfl, hZ, hT, hW⟩ := hv
  have hx := B.exec
  have hb := B.bytes
  have hr := B.returns
  have hts : ∀ w ∈ wx (.code yX13_passedBy cX13_passedBy 6 (some .int)), w.before _ s = true := atoms_spec B.pre
  have htg : ∀ w ∈ lwg, w.before _ s = true := fun w h => hts w (List.mem_cons_of_mem _ h)
  have hown : s.vm.findClass RX13 = some m.cls := findClass_of_methodNamed B.named
  have hlocks := B.notSynchronized
  change W p l e (kr 5 115) s m (List.toArray [.ref (bs g 64), .int a1, .int a2]) below meth c s.heap [] 0 0 (MQ below (Qi' g 0 81 r τ) (List.toArray [.ref (bs g 64), .int a1, .int a2]) s 0 0 (Ag g 0)) _
  generalize hQ : MQ below (Qi' g 0 81 r τ) (List.toArray [.ref (bs g 64), .int a1, .int a2]) s 0 0 (Ag g 0) = Q
  have hS : va_S (Ag g 0) s.heap s.heap [] := va_S.rf
  have hl := lv_entry ([.ref (bs g 64), .int a1, .int a2]) (n := 6) (Nat.le_of_ble_eq_true rfl)
  rw [lg_entry_eq]
  generalize (lg_sl ([.ref (bs g 64), .int a1, .int a2]) ++ List.replicate (6 - (lg_sl ([.ref (bs g 64), .int a1, .int a2])).length) Slot.unset).toArray = ls at hl ⊢
  have hl : lv_has ls 6 [(0, .ref (bs g 64)), (1, .int a1), (2, .int a2)] := hl
  delta f_X13_passedBy at hf
  obtain ⟨H, hH⟩ : ∃ H, H = s.heap := ⟨_, rfl⟩
  obtain ⟨locs, hLc⟩ : ∃ z : List Loc, z = [] := ⟨_, rfl⟩
  have hS : va_S (Ag g 0) s.heap H locs := by rw [hH, hLc]; exact hS
  have hW : Wd g 0 81 σ H := by rw [hH]; exact hW
  suffices hG : W p l e (kr 5 115) s m (List.toArray [.ref (bs g 64), .int a1, .int a2]) below meth c H locs 0 0 Q (F0 m 0 ls []) by rw [hH, hLc] at hG; exact hG
  clear hH hLc
  refine lv_aload_n hx hb dX13_passedBy_0 rfl (lv_at hl 0 rfl) ?_
  refine mcv hf hS (fun τ h => va_runV (As := []) (rest := []) ⟨hx, hb, hml, hown, hts⟩ (c_X13_good g l σ τ h) (cl_X13_166 hts ⟨Nat.le_of_ble_eq_true rfl, Nat.le_of_ble_eq_true rfl⟩) (mpV_13 hZ hT hS hW tz_64 _) rfl rfl hl.1 rfl (lv_room (Nat.le_of_ble_eq_true rfl)) dX13_passedBy_1 ⟨Nat.zero_le _, Nat.zero_le _⟩) (fun σ_1 H locs hf hW hS => ?_)
  refine lv_aload_n hx hb dX13_passedBy_4 rfl (lv_at hl 0 rfl) ?_
  refine lv_aload_n hx hb dX13_passedBy_5 rfl (lv_at hl 0 rfl) ?_
  refine lv_iload_n hx hb dX13_passedBy_6 rfl (lv_at hl 1 rfl) ?_
  refine mcip hf hS (fun r h => va_runV (As := [.int a1]) (rest := [.ref (bs g 64)]) ⟨hx, hb, hml, hown, hts⟩ (c_X13_isPerson g l σ_1 a1 r h) (cl_X13_275 hts ⟨Nat.le_of_ble_eq_true rfl, Nat.le_of_ble_eq_true rfl⟩) (mpV_13 hZ hT hS hW tz_64 _) rfl rfl hl.1 rfl (lv_room (Nat.le_of_ble_eq_true rfl)) dX13_passedBy_7 ⟨Nat.zero_le _, Nat.zero_le _⟩) (fun r_2 H locs hf hW hS => ?_)
  refine lv_iload_n hx hb dX13_passedBy_10 rfl (lv_at hl 2 rfl) ?_
  refine mcip hf hS (fun r h => va_runV (As := [.int r_2, .int a2]) (rest := []) ⟨hx, hb, hml, hown, hts⟩ (c_X13_why g l σ_1 r_2 a2 r h) (cl_X13_281 hts ⟨Nat.le_of_ble_eq_true rfl, Nat.le_of_ble_eq_true rfl⟩) (mpV_13 hZ hT hS hW tz_64 _) rfl rfl hl.1 rfl (lv_room (Nat.le_of_ble_eq_true rfl)) dX13_passedBy_11 ⟨Nat.zero_le _, Nat.zero_le _⟩) (fun r_3 H locs hf hW hS => ?_)
  refine lv_istore_n (lv' := [(3, .int r_3), (0, .ref (bs g 64)), (1, .int a1), (2, .int a2)]) hx hb dX13_passedBy_14 rfl hl (by decide) rfl (fun ls hl => ?_)
  refine lv_iload_n hx hb dX13_passedBy_15 rfl (lv_at hl 0 rfl) ?_
  refine lv_if_eq (tgt := 25) hx hb dX13_passedBy_16 (by decide) (fun hc => ?_) (fun hc => ?_)
  · have hf := ift hc hf
    refine lv_iconst (v := 0) hx hb dX13_passedBy_25 (by decide) ?_
    refine lv_istore (lv' := [(4, .int 0), (3, .int r_3), (0, .ref (bs g 64)), (1, .int a1), (2, .int a2)]) hx hb dX13_passedBy_26 hl (by decide) rfl (fun ls hl => ?_)
    refine lv_iconst (v := 0) hx hb dX13_passedBy_28 (by decide) ?_
    refine lv_istore (lv' := [(5, .int 0), (4, .int 0), (3, .int r_3), (0, .ref (bs g 64)), (1, .int a1), (2, .int a2)]) hx hb dX13_passedBy_29 hl (by decide) rfl (fun ls hl => ?_)
    refine fx2_W (fun (i_4 : Int32) (i_5 : Int32) => ∀ (H : Heap) (locs : List Loc) (ls : Array Slot), Wd g 0 81 σ_1 H → va_S (Ag g 0) s.heap H locs → lv_has ls 6 [(0, .ref (bs g 64)), (1, .int a1), (2, .int a2), (4, .int i_4), (5, .int i_5)] → W p l e (kr 5 115) s m (List.toArray [.ref (bs g 64), .int a1, .int a2]) below meth c H locs 0 0 Q (F0 m 31 ls [])) (fun k_6 hk_6 i_4 i_5 hf => ?_) FU 0 0 hf H locs ls hW hS (lv_sub hl [3, 4, 5, 1, 0] rfl)
    intro H locs ls hW hS hl
    refine lv_iload hx hb dX13_passedBy_31 (lv_at hl 4 rfl) ?_
    refine lv_aload_n hx hb dX13_passedBy_33 rfl (lv_at hl 0 rfl) ?_
    refine gf_13_15 hx hb htg (htg _ lf_X13_20) hown hZ hW tz_64 dX13_passedBy_34 ?_
    refine lv_iconst (v := 4) hx hb dX13_passedBy_37 (by decide) ?_
    refine mld_i hx hb hZ hW tz_67 hf dX13_passedBy_38 (fun hf => ?_)
    refine lv_icmp_ge (tgt := 75) hx hb dX13_passedBy_39 (by decide) (fun hc => ?_) (fun hc => ?_)
    · have hf := ift hc hf
      refine lv_iload hx hb dX13_passedBy_75 (lv_at hl 3 rfl) ?_
      subst hQ
      exact mri hx hb hr hlocks hZ hT hS hW (pr1 hf) dX13_passedBy_77
    · have hf := iff_ hc hf
      refine lv_iload hx hb dX13_passedBy_42 (lv_at hl 3 rfl) ?_
      refine lv_aload_n hx hb dX13_passedBy_44 rfl (lv_at hl 0 rfl) ?_
      refine lv_iload hx hb dX13_passedBy_45 (lv_at hl 4 rfl) ?_
      refine lv_iload_n hx hb dX13_passedBy_47 rfl (lv_at hl 2 rfl) ?_
      refine mcip hf hS (fun r h => va_runV (As := [.int i_5, .int a2]) (rest := [.int i_4]) ⟨hx, hb, hml, hown, hts⟩ (c_X13_passesOn g l σ_1 i_5 a2 r h) (cl_X13_295 hts ⟨Nat.le_of_ble_eq_true rfl, Nat.le_of_ble_eq_true rfl⟩) (mpV_13 hZ hT hS hW tz_64 _) rfl rfl hl.1 rfl (lv_room (Nat.le_of_ble_eq_true rfl)) dX13_passedBy_48 ⟨Nat.zero_le _, Nat.zero_le _⟩) (fun r_7 H locs hf hW hS => ?_)
      refine lv_iload_n hx hb dX13_passedBy_51 rfl (lv_at hl 1 rfl) ?_
      refine mcip hf hS (fun r h => va_runS (As := [.int r_7, .int a1]) (rest := [.int i_4]) ⟨hx, hb, hml, hown, hts⟩ (c_X13_hasBit g l 0 81 σ_1 r_7 a1 r h) (cl_X13_307 hts ⟨Nat.le_of_ble_eq_true rfl, Nat.le_of_ble_eq_true rfl⟩) (mpS hZ hT hS hW _) rfl rfl hl.1 rfl (lv_room (Nat.le_of_ble_eq_true rfl)) dX13_passedBy_52 ⟨Nat.zero_le _, Nat.zero_le _⟩) (fun r_8 H locs hf hW hS => ?_)
      refine jn1_W (fun (i_9 : Int32) => ∀ (H : Heap) (locs : List Loc) (ls : Array Slot), Wd g 0 81 σ_1 H → va_S (Ag g 0) s.heap H locs → lv_has ls 6 [(0, .ref (bs g 64)), (1, .int a1), (2, .int a2), (5, .int i_5)] → W p l e (kr 5 115) s m (List.toArray [.ref (bs g 64), .int a1, .int a2]) below meth c H locs 0 0 Q (F0 m 66 ls [.int i_9, .int i_4])) hf (fun i_9 hf => ?_) (fun k_10 hk_10 hf => ?_)
      · intro H locs ls hW hS hl
        refine lv_ior hx hb dX13_passedBy_66 ?_
        refine mnmi hf (fun (x_11 : Int32) hf => ?_)
        refine lv_istore (lv' := [(4, .int x_11), (0, .ref (bs g 64)), (1, .int a1), (2, .int a2), (5, .int i_5)]) hx hb dX13_passedBy_67 hl (by decide) rfl (fun ls hl => ?_)
        obtain ⟨x_12, e_13, hf⟩ := nm_s hf
        refine lv_iinc (v := x_12) (lv' := [(5, .int x_12), (4, .int x_11), (0, .ref (bs g 64)), (1, .int a1), (2, .int a2)]) hx hb dX13_passedBy_69 hl (k := 4) rfl (by rw [e_13]; rfl) (by decide) rfl (fun ls hl => ?_)
        refine lv_goto (tgt := 31) hx hb dX13_passedBy_72 (by decide) ?_
        exact hk_6 x_11 x_12 hf H locs ls hW hS (lv_sub hl [2, 3, 4, 1, 0] rfl)
      · refine lv_if_eq (tgt := 65) hx hb dX13_passedBy_55 (by decide) (fun hc => ?_) (fun hc => ?_)
        · have hf := ift hc hf
          refine lv_iconst (v := 0) hx hb dX13_passedBy_65 (by decide) ?_
          exact hk_10 0 hf H locs ls hW hS (lv_sub hl [0, 1, 2, 4] rfl)
        · have hf := iff_ hc hf
          refine lv_iconst (v := 1) hx hb dX13_passedBy_58 (by decide) ?_
          refine lv_iload hx hb dX13_passedBy_59 (lv_at hl 4 rfl) ?_
          refine lv_ishl hx hb dX13_passedBy_61 ?_
          refine lv_goto (tgt := 66) hx hb dX13_passedBy_62 (by decide) ?_
          exact hk_10 (1 <<< (i_5 &&& 31)) hf H locs ls hW hS (lv_sub hl [0, 1, 2, 4] rfl)
  · have hf := iff_ hc hf
    refine lv_aload_n hx hb dX13_passedBy_19 rfl (lv_at hl 1 rfl) ?_
    refine lv_iload_n hx hb dX13_passedBy_20 rfl (lv_at hl 0 rfl) ?_
    refine mci hf hS (fun r τ h => va_runV (As := [.int r_3]) (rest := []) ⟨hx, hb, hml, hown, hts⟩ (c_X13_no g l σ_1 r_3 r τ h) (cl_X13_169 hts ⟨Nat.le_of_ble_eq_true rfl, Nat.le_of_ble_eq_true rfl⟩) (mpV_13 hZ hT hS hW tz_64 _) rfl rfl hl.1 rfl (lv_room (Nat.le_of_ble_eq_true rfl)) dX13_passedBy_21 ⟨Nat.zero_le _, Nat.zero_le _⟩) (fun r_14 σ_15 H locs hf hW hS => ?_)
    subst hQ
    exact mri hx hb hr hlocks hZ hT hS hW (pr1 hf) dX13_passedBy_24
def f_X13_known (σ : Mem) (a1 : Int32) : Option (Int32 × Mem) :=
  bd1 (f_X13_good σ) (fun (σ_1 : Mem) => bd1 (f_X13_isPerson σ_1 a1) (fun (r_2 : Int32) => (if r_2 = 0 then bd2 (f_X13_no σ_1 1) (fun (r_12 : Int32) (σ_13 : Mem) => some (r_12, σ_13)) else fx2 FU (fun k_5 (i_3 : Int32) (i_4 : Int32) => (if 30 ≤ i_4 then some (i_3, σ_1) else bd1 (f_X13_doesKnow σ_1 a1 i_4) (fun (r_6 : Int32) => jn1 (fun (i_7 : Int32) => nm (i_3 + i_7) (fun (x_9 : Int32) => nm (i_4 + 1) (fun (x_10 : Int32) => k_5 x_9 x_10))) (fun k_8 => (if r_6 = 0 then k_8 0 else k_8 1))))) 0 0)))
set_option maxHeartbeats 4000000 in
set_option maxRecDepth 100000 in
theorem c_X13_known (g : XG) (l : Launch) (σ : Mem) (a1 : Int32) (r : Int32) (τ : Mem) (hf : f_X13_known σ a1 = some (r, τ)) : Met l yX13_known (wx (.code yX13_known cX13_known 4 (some .int))) (kr 5 115) (va_Pc [.ref (bs g 64), .int a1] (WS g 0 81 σ)) (Qi' g 0 81 r τ) 0 0 (Ag g 0) := by
  refine Met.ofW (cc := cX13_known) (maxL := 4) (ret := (some .int)) (by decide) rfl ?_
  intro p e s m args below meth c s₁ B hml hv
  obtain ⟨rfl, hZ, hT, hW⟩ := hv
  have hx := B.exec
  have hb := B.bytes
  have hr := B.returns
  have hts : ∀ w ∈ wx (.code yX13_known cX13_known 4 (some .int)), w.before _ s = true := atoms_spec B.pre
  have htg : ∀ w ∈ lwg, w.before _ s = true := fun w h => hts w (List.mem_cons_of_mem _ h)
  have hown : s.vm.findClass RX13 = some m.cls := findClass_of_methodNamed B.named
  have hlocks := B.notSynchronized
  change W p l e (kr 5 115) s m (List.toArray [.ref (bs g 64), .int a1]) below meth c s.heap [] 0 0 (MQ below (Qi' g 0 81 r τ) (List.toArray [.ref (bs g 64), .int a1]) s 0 0 (Ag g 0)) _
  generalize hQ : MQ below (Qi' g 0 81 r τ) (List.toArray [.ref (bs g 64), .int a1]) s 0 0 (Ag g 0) = Q
  have hS : va_S (Ag g 0) s.heap s.heap [] := va_S.rf
  have hl := lv_entry ([.ref (bs g 64), .int a1]) (n := 4) (Nat.le_of_ble_eq_true rfl)
  rw [lg_entry_eq]
  generalize (lg_sl ([.ref (bs g 64), .int a1]) ++ List.replicate (4 - (lg_sl ([.ref (bs g 64), .int a1])).length) Slot.unset).toArray = ls at hl ⊢
  have hl : lv_has ls 4 [(0, .ref (bs g 64)), (1, .int a1)] := hl
  delta f_X13_known at hf
  obtain ⟨H, hH⟩ : ∃ H, H = s.heap := ⟨_, rfl⟩
  obtain ⟨locs, hLc⟩ : ∃ z : List Loc, z = [] := ⟨_, rfl⟩
  have hS : va_S (Ag g 0) s.heap H locs := by rw [hH, hLc]; exact hS
  have hW : Wd g 0 81 σ H := by rw [hH]; exact hW
  suffices hG : W p l e (kr 5 115) s m (List.toArray [.ref (bs g 64), .int a1]) below meth c H locs 0 0 Q (F0 m 0 ls []) by rw [hH, hLc] at hG; exact hG
  clear hH hLc
  refine lv_aload_n hx hb dX13_known_0 rfl (lv_at hl 0 rfl) ?_
  refine mcv hf hS (fun τ h => va_runV (As := []) (rest := []) ⟨hx, hb, hml, hown, hts⟩ (c_X13_good g l σ τ h) (cl_X13_166 hts ⟨Nat.le_of_ble_eq_true rfl, Nat.le_of_ble_eq_true rfl⟩) (mpV_13 hZ hT hS hW tz_64 _) rfl rfl hl.1 rfl (lv_room (Nat.le_of_ble_eq_true rfl)) dX13_known_1 ⟨Nat.zero_le _, Nat.zero_le _⟩) (fun σ_1 H locs hf hW hS => ?_)
  refine lv_aload_n hx hb dX13_known_4 rfl (lv_at hl 0 rfl) ?_
  refine lv_iload_n hx hb dX13_known_5 rfl (lv_at hl 1 rfl) ?_
  refine mcip hf hS (fun r h => va_runV (As := [.int a1]) (rest := []) ⟨hx, hb, hml, hown, hts⟩ (c_X13_isPerson g l σ_1 a1 r h) (cl_X13_275 hts ⟨Nat.le_of_ble_eq_true rfl, Nat.le_of_ble_eq_true rfl⟩) (mpV_13 hZ hT hS hW tz_64 _) rfl rfl hl.1 rfl (lv_room (Nat.le_of_ble_eq_true rfl)) dX13_known_6 ⟨Nat.zero_le _, Nat.zero_le _⟩) (fun r_2 H locs hf hW hS => ?_)
  refine lv_if_ne (tgt := 18) hx hb dX13_known_9 (by decide) (fun hc => ?_) (fun hc => ?_)
  · have hf := iff_ hc hf
    refine lv_iconst (v := 0) hx hb dX13_known_18 (by decide) ?_
    refine lv_istore_n (lv' := [(2, .int 0), (0, .ref (bs g 64)), (1, .int a1)]) hx hb dX13_known_19 rfl hl (by decide) rfl (fun ls hl => ?_)
    refine lv_iconst (v := 0) hx hb dX13_known_20 (by decide) ?_
    refine lv_istore_n (lv' := [(3, .int 0), (2, .int 0), (0, .ref (bs g 64)), (1, .int a1)]) hx hb dX13_known_21 rfl hl (by decide) rfl (fun ls hl => ?_)
    refine fx2_W (fun (i_3 : Int32) (i_4 : Int32) => ∀ (H : Heap) (locs : List Loc) (ls : Array Slot), Wd g 0 81 σ_1 H → va_S (Ag g 0) s.heap H locs → lv_has ls 4 [(0, .ref (bs g 64)), (1, .int a1), (2, .int i_3), (3, .int i_4)] → W p l e (kr 5 115) s m (List.toArray [.ref (bs g 64), .int a1]) below meth c H locs 0 0 Q (F0 m 22 ls [])) (fun k_5 hk_5 i_3 i_4 hf => ?_) FU 0 0 hf H locs ls hW hS (lv_sub hl [2, 3, 1, 0] rfl)
    intro H locs ls hW hS hl
    refine lv_iload_n hx hb dX13_known_22 rfl (lv_at hl 3 rfl) ?_
    refine lv_bipush (v := 30) hx hb dX13_known_23 (by decide) ?_
    refine lv_icmp_ge (tgt := 51) hx hb dX13_known_25 (by decide) (fun hc => ?_) (fun hc => ?_)
    · have hf := ift hc hf
      refine lv_iload_n hx hb dX13_known_51 rfl (lv_at hl 2 rfl) ?_
      subst hQ
      exact mri hx hb hr hlocks hZ hT hS hW (pr1 hf) dX13_known_52
    · have hf := iff_ hc hf
      refine lv_iload_n hx hb dX13_known_28 rfl (lv_at hl 2 rfl) ?_
      refine lv_aload_n hx hb dX13_known_29 rfl (lv_at hl 0 rfl) ?_
      refine lv_iload_n hx hb dX13_known_30 rfl (lv_at hl 1 rfl) ?_
      refine lv_iload_n hx hb dX13_known_31 rfl (lv_at hl 3 rfl) ?_
      refine mcip hf hS (fun r h => va_runV (As := [.int a1, .int i_4]) (rest := [.int i_3]) ⟨hx, hb, hml, hown, hts⟩ (c_X13_doesKnow g l σ_1 a1 i_4 r h) (cl_X13_291 hts ⟨Nat.le_of_ble_eq_true rfl, Nat.le_of_ble_eq_true rfl⟩) (mpV_13 hZ hT hS hW tz_64 _) rfl rfl hl.1 rfl (lv_room (Nat.le_of_ble_eq_true rfl)) dX13_known_32 ⟨Nat.zero_le _, Nat.zero_le _⟩) (fun r_6 H locs hf hW hS => ?_)
      refine jn1_W (fun (i_7 : Int32) => ∀ (H : Heap) (locs : List Loc) (ls : Array Slot), Wd g 0 81 σ_1 H → va_S (Ag g 0) s.heap H locs → lv_has ls 4 [(0, .ref (bs g 64)), (1, .int a1), (3, .int i_4)] → W p l e (kr 5 115) s m (List.toArray [.ref (bs g 64), .int a1]) below meth c H locs 0 0 Q (F0 m 43 ls [.int i_7, .int i_3])) hf (fun i_7 hf => ?_) (fun k_8 hk_8 hf => ?_)
      · intro H locs ls hW hS hl
        refine lv_iadd hx hb dX13_known_43 ?_
        refine mnmi hf (fun (x_9 : Int32) hf => ?_)
        refine lv_istore_n (lv' := [(2, .int x_9), (0, .ref (bs g 64)), (1, .int a1), (3, .int i_4)]) hx hb dX13_known_44 rfl hl (by decide) rfl (fun ls hl => ?_)
        obtain ⟨x_10, e_11, hf⟩ := nm_s hf
        refine lv_iinc (v := x_10) (lv' := [(3, .int x_10), (2, .int x_9), (0, .ref (bs g 64)), (1, .int a1)]) hx hb dX13_known_45 hl (k := 3) rfl (by rw [e_11]; rfl) (by decide) rfl (fun ls hl => ?_)
        refine lv_goto (tgt := 22) hx hb dX13_known_48 (by decide) ?_
        exact hk_5 x_9 x_10 hf H locs ls hW hS (lv_sub hl [2, 3, 1, 0] rfl)
      · refine lv_if_eq (tgt := 42) hx hb dX13_known_35 (by decide) (fun hc => ?_) (fun hc => ?_)
        · have hf := ift hc hf
          refine lv_iconst (v := 0) hx hb dX13_known_42 (by decide) ?_
          exact hk_8 0 hf H locs ls hW hS (lv_sub hl [0, 1, 3] rfl)
        · have hf := iff_ hc hf
          refine lv_iconst (v := 1) hx hb dX13_known_38 (by decide) ?_
          refine lv_goto (tgt := 43) hx hb dX13_known_39 (by decide) ?_
          exact hk_8 1 hf H locs ls hW hS (lv_sub hl [0, 1, 3] rfl)
  · have hf := ift hc hf
    refine lv_aload_n hx hb dX13_known_12 rfl (lv_at hl 0 rfl) ?_
    refine lv_iconst (v := 1) hx hb dX13_known_13 (by decide) ?_
    refine mci hf hS (fun r τ h => va_runV (As := [.int 1]) (rest := []) ⟨hx, hb, hml, hown, hts⟩ (c_X13_no g l σ_1 1 r τ h) (cl_X13_169 hts ⟨Nat.le_of_ble_eq_true rfl, Nat.le_of_ble_eq_true rfl⟩) (mpV_13 hZ hT hS hW tz_64 _) rfl rfl hl.1 rfl (lv_room (Nat.le_of_ble_eq_true rfl)) dX13_known_14 ⟨Nat.zero_le _, Nat.zero_le _⟩) (fun r_12 σ_13 H locs hf hW hS => ?_)
    subst hQ
    exact mri hx hb hr hlocks hZ hT hS hW (pr1 hf) dX13_known_17
