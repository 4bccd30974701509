def f_X3_search (σ : Mem) (p1 : Nat) : Option (Mem) :=
  fx2 FU (fun k_3 (i_1 : Int32) (σ_2 : Mem) => rfc (σ_2.2.2 p1 0) (fun (T_4 : Nat) => bd1 (f_X11_wishes σ_2 T_4) (fun (r_5 : Int32) => (if r_5 ≤ i_1 then bd2 (f_X3_listCandidates σ_2 p1) (fun (r_6 : Int32) (σ_7 : Mem) => bd1 (f_X9_wishesHeld σ_7 p1) (fun (r_8 : Int32) => nm (r_6 ||| r_8) (fun (x_9 : Int32) => rfc (σ_7.2.2 p1 0) (fun (T_10 : Nat) => bd1 (f_X11_wishes σ_7 T_10) (fun (r_11 : Int32) => jn1 (fun (i_12 : Int32) => fx2 FU (fun k_16 (i_14 : Int32) (σ_15 : Mem) => jn0 (nm (sI σ_15 51 4 (-2)) (fun (σ_18 : Mem) => some σ_18)) (fun k_17 => (if 3 < i_14 then k_17 else (if i_12 = 0 then k_17 else nm (sI σ_15 51 4 i_14) (fun (σ_19 : Mem) => bd2 (f_X3_completes 10 σ_19 p1 0 0) (fun (r_20 : Int32) (σ_21 : Mem) => (if r_20 = 0 then nm (i_14 + 1) (fun (x_22 : Int32) => k_16 x_22 σ_21) else some σ_21))))))) 0 σ_7) (fun k_13 => (if x_9 = ((1 <<< (r_11 &&& 31)) - 1) then k_13 1 else k_13 0))))))) else rfc (σ_2.2.2 p1 0) (fun (T_24 : Nat) => bd1 (f_X12_get σ_2 (T_24 + 8) i_1) (fun (r_25 : Int32) => rfc (σ_2.2.2 p1 0) (fun (T_26 : Nat) => bd1 (f_X12_get σ_2 (T_26 + 9) i_1) (fun (r_27 : Int32) => bd1 (f_X9_latestVisit σ_2 p1 r_25 r_27) (fun (r_28 : Int32) => bd1 (f_X12_set σ_2 (51 + 2) i_1 r_28) (fun (σ_29 : Mem) => nm (i_1 + 1) (fun (x_30 : Int32) => k_3 x_30 σ_29))))))))))) 0 σ
set_option maxHeartbeats 4000000 in
set_option maxRecDepth 100000 in
theorem c_X3_search (g : XG) (l : Launch) (σ : Mem) (p1 : Nat) (t1 : tp 9 0 81 p1) (τ : Mem) (hf : f_X3_search σ p1 = some τ) : Met l yX3_search (wx (.code yX3_search cX3_search 5 none)) (kr 25 646) (va_Pc [.ref (bs g 51), .ref (bs g p1)] (WS g 0 81 σ)) (Qv' g 0 81 τ) 0 0 (Ag g 0) := by
  refine Met.ofW (cc := cX3_search) (maxL := 5) (ret := none) (by decide) rfl ?_
  intro p e s m args below meth c s₁ B hml hv
  obtain ⟨rfl, hZ, hT, hW⟩ := hv
  have hx := B.exec
  have hb := B.bytes
  have hr := B.returns
  have hts : ∀ w ∈ wx (.code yX3_search cX3_search 5 none), w.before _ s = true := atoms_spec B.pre
  have htg : ∀ w ∈ lwg, w.before _ s = true := fun w h => hts w (List.mem_cons_of_mem _ h)
  have hown : s.vm.findClass RX3 = some m.cls := findClass_of_methodNamed B.named
  have hlocks := B.notSynchronized
  change W p l e (kr 25 646) s m (List.toArray [.ref (bs g 51), .ref (bs g p1)]) below meth c s.heap [] 0 0 (MQ below (Qv' g 0 81 τ) (List.toArray [.ref (bs g 51), .ref (bs g p1)]) s 0 0 (Ag g 0)) _
  generalize hQ : MQ below (Qv' g 0 81 τ) (List.toArray [.ref (bs g 51), .ref (bs g p1)]) s 0 0 (Ag g 0) = Q
  have hS : va_S (Ag g 0) s.heap s.heap [] := va_S.rf
  have hl := lv_entry ([.ref (bs g 51), .ref (bs g p1)]) (n := 5) (Nat.le_of_ble_eq_true rfl)
  rw [lg_entry_eq]
  generalize (lg_sl ([.ref (bs g 51), .ref (bs g p1)]) ++ List.replicate (5 - (lg_sl ([.ref (bs g 51), .ref (bs g p1)])).length) Slot.unset).toArray = ls at hl ⊢
  have hl : lv_has ls 5 [(0, .ref (bs g 51)), (1, .ref (bs g p1))] := hl
  delta f_X3_search at hf
  obtain ⟨H, hH⟩ : ∃ H, H = s.heap := ⟨_, rfl⟩
  obtain ⟨locs, hLc⟩ : ∃ z : List Loc, z = [] := ⟨_, rfl⟩
  have hS : va_S (Ag g 0) s.heap H locs := by rw [hH, hLc]; exact hS
  have hW : Wd g 0 81 σ H := by rw [hH]; exact hW
  suffices hG : W p l e (kr 25 646) s m (List.toArray [.ref (bs g 51), .ref (bs g p1)]) below meth c H locs 0 0 Q (F0 m 0 ls []) by rw [hH, hLc] at hG; exact hG
  clear hH hLc
  refine lv_iconst (v := 0) hx hb dX3_search_0 (by decide) ?_
  refine lv_istore_n (lv' := [(2, .int 0), (0, .ref (bs g 51)), (1, .ref (bs g p1))]) hx hb dX3_search_1 rfl hl (by decide) rfl (fun ls hl => ?_)
  refine fx2_W (fun (i_1 : Int32) (σ_2 : Mem) => ∀ (H : Heap) (locs : List Loc) (ls : Array Slot), Wd g 0 81 σ_2 H → va_S (Ag g 0) s.heap H locs → lv_has ls 5 [(0, .ref (bs g 51)), (1, .ref (bs g p1)), (2, .int i_1)] → W p l e (kr 25 646) s m (List.toArray [.ref (bs g 51), .ref (bs g p1)]) below meth c H locs 0 0 Q (F0 m 2 ls [])) (fun k_3 hk_3 i_1 σ_2 hf => ?_) FU 0 σ hf H locs ls hW hS (lv_sub hl [1, 2, 0] rfl)
  intro H locs ls hW hS hl
  refine lv_iload_n hx hb dX3_search_2 rfl (lv_at hl 2 rfl) ?_
  refine lv_aload_n hx hb dX3_search_3 rfl (lv_at hl 1 rfl) ?_
  refine gfN_9_0 hx hb htg ln_X3_21 hown hZ hW t1 dX3_search_4 hf (fun T_4 tT_4 hf => ?_)
  refine mcip hf hS (fun r h => va_runV (As := []) (rest := [.int i_1]) ⟨hx, hb, hml, hown, hts⟩ (c_X11_wishes g l 0 81 σ_2 T_4 tT_4 r h) (cl_X3_27 hts ⟨Nat.le_of_ble_eq_true rfl, Nat.le_of_ble_eq_true rfl⟩) (mpV_11 hZ hT hS hW tT_4 _) rfl rfl hl.1 rfl (lv_room (Nat.le_of_ble_eq_true rfl)) dX3_search_7 ⟨Nat.zero_le _, Nat.zero_le _⟩) (fun r_5 H locs hf hW hS => ?_)
  refine lv_icmp_ge (tgt := 53) hx hb dX3_search_10 (by decide) (fun hc => ?_) (fun hc => ?_)
  · have hf := ift hc hf
    refine lv_aload_n hx hb dX3_search_53 rfl (lv_at hl 0 rfl) ?_
    refine lv_aload_n hx hb dX3_search_54 rfl (lv_at hl 1 rfl) ?_
    refine mci hf hS (fun r τ h => va_runV (As := [.ref (bs g p1)]) (rest := []) ⟨hx, hb, hml, hown, hts⟩ (c_X3_listCandidates g l σ_2 p1 t1 r τ h) (cl_X3_51 hts ⟨Nat.le_of_ble_eq_true rfl, Nat.le_of_ble_eq_true rfl⟩) (mpV_3 hZ hT hS hW tz_51 _) rfl rfl hl.1 rfl (lv_room (Nat.le_of_ble_eq_true rfl)) dX3_search_55 ⟨Nat.zero_le _, Nat.zero_le _⟩) (fun r_6 σ_7 H locs hf hW hS => ?_)
    refine lv_aload_n hx hb dX3_search_58 rfl (lv_at hl 1 rfl) ?_
    refine mcip hf hS (fun r h => va_runV (As := []) (rest := [.int r_6]) ⟨hx, hb, hml, hown, hts⟩ (c_X9_wishesHeld g l 0 81 σ_7 p1 t1 r h) (cl_X3_55 hts ⟨Nat.le_of_ble_eq_true rfl, Nat.le_of_ble_eq_true rfl⟩) (mpV_9 hZ hT hS hW t1 _) rfl rfl hl.1 rfl (lv_room (Nat.le_of_ble_eq_true rfl)) dX3_search_59 ⟨Nat.zero_le _, Nat.zero_le _⟩) (fun r_8 H locs hf hW hS => ?_)
    refine lv_ior hx hb dX3_search_62 ?_
    refine mnmi hf (fun (x_9 : Int32) hf => ?_)
    refine lv_istore_n (lv' := [(2, .int x_9), (0, .ref (bs g 51)), (1, .ref (bs g p1))]) hx hb dX3_search_63 rfl hl (by decide) rfl (fun ls hl => ?_)
    refine lv_iload_n hx hb dX3_search_64 rfl (lv_at hl 0 rfl) ?_
    refine lv_iconst (v := 1) hx hb dX3_search_65 (by decide) ?_
    refine lv_aload_n hx hb dX3_search_66 rfl (lv_at hl 2 rfl) ?_
    refine gfN_9_0 hx hb htg ln_X3_21 hown hZ hW t1 dX3_search_67 hf (fun T_10 tT_10 hf => ?_)
    refine mcip hf hS (fun r h => va_runV (As := []) (rest := [.int 1, .int x_9]) ⟨hx, hb, hml, hown, hts⟩ (c_X11_wishes g l 0 81 σ_7 T_10 tT_10 r h) (cl_X3_27 hts ⟨Nat.le_of_ble_eq_true rfl, Nat.le_of_ble_eq_true rfl⟩) (mpV_11 hZ hT hS hW tT_10 _) rfl rfl hl.1 rfl (lv_room (Nat.le_of_ble_eq_true rfl)) dX3_search_70 ⟨Nat.zero_le _, Nat.zero_le _⟩) (fun r_11 H locs hf hW hS => ?_)
    refine lv_ishl hx hb dX3_search_73 ?_
    refine lv_iconst (v := 1) hx hb dX3_search_74 (by decide) ?_
    refine lv_isub hx hb dX3_search_75 ?_
    refine jn1_W (fun (i_12 : Int32) => ∀ (H : Heap) (locs : List Loc) (ls : Array Slot), Wd g 0 81 σ_7 H → va_S (Ag g 0) s.heap H locs → lv_has ls 5 [(0, .ref (bs g 51)), (1, .ref (bs g p1))] → W p l e (kr 25 646) s m (List.toArray [.ref (bs g 51), .ref (bs g p1)]) below meth c H locs 0 0 Q (F0 m 84 ls [.int i_12])) hf (fun i_12 hf => ?_) (fun k_13 hk_13 hf => ?_)
    · intro H locs ls hW hS hl
      refine lv_istore_n (lv' := [(3, .int i_12), (0, .ref (bs g 51)), (1, .ref (bs g p1))]) hx hb dX3_search_84 rfl hl (by decide) rfl (fun ls hl => ?_)
      refine lv_iconst (v := 0) hx hb dX3_search_85 (by decide) ?_
      refine lv_istore (lv' := [(4, .int 0), (3, .int i_12), (0, .ref (bs g 51)), (1, .ref (bs g p1))]) hx hb dX3_search_86 hl (by decide) rfl (fun ls hl => ?_)
      refine fx2_W (fun (i_14 : Int32) (σ_15 : Mem) => ∀ (H : Heap) (locs : List Loc) (ls : Array Slot), Wd g 0 81 σ_15 H → va_S (Ag g 0) s.heap H locs → lv_has ls 5 [(0, .ref (bs g 51)), (1, .ref (bs g p1)), (3, .int i_12), (4, .int i_14)] → W p l e (kr 25 646) s m (List.toArray [.ref (bs g 51), .ref (bs g p1)]) below meth c H locs 0 0 Q (F0 m 88 ls [])) (fun k_16 hk_16 i_14 σ_15 hf => ?_) FU 0 σ_7 hf H locs ls hW hS (lv_sub hl [2, 3, 1, 0] rfl)
      intro H locs ls hW hS hl
      refine lv_iload hx hb dX3_search_88 (lv_at hl 3 rfl) ?_
      refine lv_iconst (v := 3) hx hb dX3_search_90 (by decide) ?_
      refine jn0_W (∀ (H : Heap) (locs : List Loc) (ls : Array Slot), Wd g 0 81 σ_15 H → va_S (Ag g 0) s.heap H locs → lv_has ls 5 [(0, .ref (bs g 51))] → W p l e (kr 25 646) s m (List.toArray [.ref (bs g 51), .ref (bs g p1)]) below meth c H locs 0 0 Q (F0 m 121 ls [])) hf (fun  hf => ?_) (fun k_17 hk_17 hf => ?_)
      · intro H locs ls hW hS hl
        refine lv_aload_n hx hb dX3_search_121 rfl (lv_at hl 0 rfl) ?_
        refine lv_bipush (v := (-2)) hx hb dX3_search_122 (by decide) ?_
        refine pf_3_4 hx hb htg (htg _ lf_X3_58) hown hZ hW hS tz_51 dX3_search_124 hf (fun σ_18 H locs hf hW hS => ?_)
        subst hQ
        exact mrv hx hb hr hlocks hZ hT hS hW (Option.some.inj hf) dX3_search_127
      · refine lv_icmp_gt (tgt := 121) hx hb dX3_search_91 (by decide) (fun hc => ?_) (fun hc => ?_)
        · have hf := ift hc hf
          exact hk_17  hf H locs ls hW hS (lv_sub hl [0] rfl)
        · have hf := iff_ hc hf
          refine lv_iload_n hx hb dX3_search_94 rfl (lv_at hl 2 rfl) ?_
          refine lv_if_eq (tgt := 121) hx hb dX3_search_95 (by decide) (fun hc => ?_) (fun hc => ?_)
          · have hf := ift hc hf
            exact hk_17  hf H locs ls hW hS (lv_sub hl [0] rfl)
          · have hf := iff_ hc hf
            refine lv_aload_n hx hb dX3_search_98 rfl (lv_at hl 0 rfl) ?_
            refine lv_iload hx hb dX3_search_99 (lv_at hl 3 rfl) ?_
            refine pf_3_4 hx hb htg (htg _ lf_X3_58) hown hZ hW hS tz_51 dX3_search_101 hf (fun σ_19 H locs hf hW hS => ?_)
            refine lv_aload_n hx hb dX3_search_104 rfl (lv_at hl 0 rfl) ?_
            refine lv_aload_n hx hb dX3_search_105 rfl (lv_at hl 1 rfl) ?_
            refine lv_iconst (v := 0) hx hb dX3_search_106 (by decide) ?_
            refine lv_iconst (v := 0) hx hb dX3_search_107 (by decide) ?_
            refine mci hf hS (fun r τ h => va_runV (As := [.ref (bs g p1), .int 0, .int 0]) (rest := []) ⟨hx, hb, hml, hown, hts⟩ (c_X3_completes g l 10 σ_19 p1 0 0 t1 r τ h) (cl_X3_62 hts ⟨Nat.le_of_ble_eq_true rfl, Nat.le_of_ble_eq_true rfl⟩) (mpV_3 hZ hT hS hW tz_51 _) rfl rfl hl.1 rfl (lv_room (Nat.le_of_ble_eq_true rfl)) dX3_search_108 ⟨Nat.zero_le _, Nat.zero_le _⟩) (fun r_20 σ_21 H locs hf hW hS => ?_)
            refine lv_if_eq (tgt := 115) hx hb dX3_search_111 (by decide) (fun hc => ?_) (fun hc => ?_)
            · have hf := ift hc hf
              obtain ⟨x_22, e_23, hf⟩ := nm_s hf
              refine lv_iinc (v := x_22) (lv' := [(4, .int x_22), (0, .ref (bs g 51)), (1, .ref (bs g p1)), (3, .int i_12)]) hx hb dX3_search_115 hl (k := 3) rfl (by rw [e_23]; rfl) (by decide) rfl (fun ls hl => ?_)
              refine lv_goto (tgt := 88) hx hb dX3_search_118 (by decide) ?_
              exact hk_16 x_22 σ_21 hf H locs ls hW hS (lv_sub hl [1, 2, 3, 0] rfl)
            · have hf := iff_ hc hf
              subst hQ
              exact mrv hx hb hr hlocks hZ hT hS hW (Option.some.inj hf) dX3_search_114
    · refine lv_icmp_ne (tgt := 83) hx hb dX3_search_76 (by decide) (fun hc => ?_) (fun hc => ?_)
      · have hf := iff_ hc hf
        refine lv_iconst (v := 0) hx hb dX3_search_83 (by decide) ?_
        exact hk_13 0 hf H locs ls hW hS (lv_sub hl [1, 2] rfl)
      · have hf := ift hc hf
        refine lv_iconst (v := 1) hx hb dX3_search_79 (by decide) ?_
        refine lv_goto (tgt := 84) hx hb dX3_search_80 (by decide) ?_
        exact hk_13 1 hf H locs ls hW hS (lv_sub hl [1, 2] rfl)
  · have hf := iff_ hc hf
    refine lv_aload_n hx hb dX3_search_13 rfl (lv_at hl 0 rfl) ?_
    refine gf_3_1 hx hb htg (htg _ lf_X3_15) hown hZ hW tz_51 dX3_search_14 ?_
    refine lv_iload_n hx hb dX3_search_17 rfl (lv_at hl 2 rfl) ?_
    refine lv_aload_n hx hb dX3_search_18 rfl (lv_at hl 1 rfl) ?_
    refine lv_aload_n hx hb dX3_search_19 rfl (lv_at hl 1 rfl) ?_
    refine gfN_9_0 hx hb htg ln_X3_21 hown hZ hW t1 dX3_search_20 hf (fun T_24 tT_24 hf => ?_)
    refine gfN_11_10 hx hb htg ln_X3_33 hown hZ hW tT_24 dX3_search_23 ?_
    refine lv_iload_n hx hb dX3_search_26 rfl (lv_at hl 2 rfl) ?_
    refine mcip hf hS (fun r h => va_runSN (As := [.ref (bs g (T_24 + 8)), .int i_1]) (rest := [.ref (bs g p1), .int i_1, .ref (bs g (51 + 2))]) ⟨hx, hb, hml, hown, hts⟩ (c_X12_get g l 0 81 σ_2 (T_24 + 8) i_1 (tT_24.sub 20 8 so_11_20_8) r h) (cl_X3_36 hts hZ ⟨Nat.le_of_ble_eq_true rfl, Nat.le_of_ble_eq_true rfl⟩) (mpS hZ hT hS hW _) rfl rfl hl.1 rfl (lv_room (Nat.le_of_ble_eq_true rfl)) dX3_search_27 ⟨Nat.zero_le _, Nat.zero_le _⟩) (fun r_25 H locs hf hW hS => ?_)
    refine lv_aload_n hx hb dX3_search_30 rfl (lv_at hl 1 rfl) ?_
    refine gfN_9_0 hx hb htg ln_X3_21 hown hZ hW t1 dX3_search_31 hf (fun T_26 tT_26 hf => ?_)
    refine gfN_11_11 hx hb htg ln_X3_40 hown hZ hW tT_26 dX3_search_34 ?_
    refine lv_iload_n hx hb dX3_search_37 rfl (lv_at hl 2 rfl) ?_
    refine mcip hf hS (fun r h => va_runSN (As := [.ref (bs g (T_26 + 9)), .int i_1]) (rest := [.int r_25, .ref (bs g p1), .int i_1, .ref (bs g (51 + 2))]) ⟨hx, hb, hml, hown, hts⟩ (c_X12_get g l 0 81 σ_2 (T_26 + 9) i_1 (tT_26.sub 20 9 so_11_20_9) r h) (cl_X3_36 hts hZ ⟨Nat.le_of_ble_eq_true rfl, Nat.le_of_ble_eq_true rfl⟩) (mpS hZ hT hS hW _) rfl rfl hl.1 rfl (lv_room (Nat.le_of_ble_eq_true rfl)) dX3_search_38 ⟨Nat.zero_le _, Nat.zero_le _⟩) (fun r_27 H locs hf hW hS => ?_)
    refine mcip hf hS (fun r h => va_runV (As := [.int r_25, .int r_27]) (rest := [.int i_1, .ref (bs g (51 + 2))]) ⟨hx, hb, hml, hown, hts⟩ (c_X9_latestVisit g l 0 81 σ_2 p1 r_25 r_27 t1 r h) (cl_X3_43 hts ⟨Nat.le_of_ble_eq_true rfl, Nat.le_of_ble_eq_true rfl⟩) (mpV_9 hZ hT hS hW t1 _) rfl rfl hl.1 rfl (lv_room (Nat.le_of_ble_eq_true rfl)) dX3_search_41 ⟨Nat.zero_le _, Nat.zero_le _⟩) (fun r_28 H locs hf hW hS => ?_)
    refine mcv hf hS (fun τ h => va_runSN (As := [.ref (bs g (51 + 2)), .int i_1, .int r_28]) (rest := []) ⟨hx, hb, hml, hown, hts⟩ (c_X12_set g l 0 81 σ_2 (51 + 2) i_1 r_28 (tz_51.sub 20 2 so_3_20_2) τ h) (cl_X3_47 hts hZ ⟨Nat.le_of_ble_eq_true rfl, Nat.le_of_ble_eq_true rfl⟩) (mpS hZ hT hS hW _) rfl rfl hl.1 rfl (lv_room (Nat.le_of_ble_eq_true rfl)) dX3_search_44 ⟨Nat.zero_le _, Nat.zero_le _⟩) (fun σ_29 H locs hf hW hS => ?_)
    obtain ⟨x_30, e_31, hf⟩ := nm_s hf
    refine lv_iinc (v := x_30) (lv' := [(2, .int x_30), (0, .ref (bs g 51)), (1, .ref (bs g p1))]) hx hb dX3_search_47 hl (k := 2) rfl (by rw [e_31]; rfl) (by decide) rfl (fun ls hl => ?_)
    refine lv_goto (tgt := 2) hx hb dX3_search_50 (by decide) ?_
    exact hk_3 x_30 σ_29 hf H locs ls hW hS (lv_sub hl [1, 2, 0] rfl)
def f_X5_begin (σ : Mem) (p0 : Nat) (a1 : Int32) (a2 : Int32) : Option (Mem) :=
  fx2 FU (fun k_3 (i_1 : Int32) (σ_2 : Mem) => (if 30 ≤ i_1 then some σ_2 else bd1 (f_X12_inside a1 5) (fun (r_4 : Int32) => (if r_4 = 0 then some σ_2 else bd1 (f_X12_set σ_2 (p0 + 1) ((a1 * 30) + i_1) a2) (fun (σ_5 : Mem) => nm (i_1 + 1) (fun (x_6 : Int32) => k_3 x_6 σ_5)))))) 0 σ
set_option maxHeartbeats 4000000 in
set_option maxRecDepth 100000 in
theorem c_X5_begin (g : XG) (l : Launch) (lo n : Nat) (σ : Mem) (p0 : Nat) (a1 : Int32) (a2 : Int32) (t0 : tp 5 lo n p0) (τ : Mem) (hf : f_X5_begin σ p0 a1 a2 = some τ) : Met l yX5_begin (wx (.code yX5_begin cX5_begin 4 none)) (kr 1 22) (va_Pc [.ref (bs g p0), .int a1, .int a2] (WS g lo n σ)) (Qv' g lo n τ) 0 0 (Ag g lo) := by
  refine Met.ofW (cc := cX5_begin) (maxL := 4) (ret := none) (by decide) rfl ?_
  intro p e s m args below meth c s₁ B hml hv
  obtain ⟨rfl, hZ, hT, hW⟩ := hv
  have hx := B.exec
  have hb := B.bytes
  have hr := B.returns
  have hts : ∀ w ∈ wx (.code yX5_begin cX5_begin 4 none), w.before _ s = true := atoms_spec B.pre
  have htg : ∀ w ∈ lwg, w.before _ s = true := fun w h => hts w (List.mem_cons_of_mem _ h)
  have hown : s.vm.findClass RX5 = some m.cls := findClass_of_methodNamed B.named
  have hlocks := B.notSynchronized
  change W p l e (kr 1 22) s m (List.toArray [.ref (bs g p0), .int a1, .int a2]) below meth c s.heap [] 0 0 (MQ below (Qv' g lo n τ) (List.toArray [.ref (bs g p0), .int a1, .int a2]) s 0 0 (Ag g lo)) _
  generalize hQ : MQ below (Qv' g lo n τ) (List.toArray [.ref (bs g p0), .int a1, .int a2]) s 0 0 (Ag g lo) = Q
  have hS : va_S (Ag g lo) s.heap s.heap [] := va_S.rf
  have hl := lv_entry ([.ref (bs g p0), .int a1, .int a2]) (n := 4) (Nat.le_of_ble_eq_true rfl)
  rw [lg_entry_eq]
  generalize (lg_sl ([.ref (bs g p0), .int a1, .int a2]) ++ List.replicate (4 - (lg_sl ([.ref (bs g p0), .int a1, .int a2])).length) Slot.unset).toArray = ls at hl ⊢
  have hl : lv_has ls 4 [(0, .ref (bs g p0)), (1, .int a1), (2, .int a2)] := hl
  delta f_X5_begin at hf
  obtain ⟨H, hH⟩ : ∃ H, H = s.heap := ⟨_, rfl⟩
  obtain ⟨locs, hLc⟩ : ∃ z : List Loc, z = [] := ⟨_, rfl⟩
  have hS : va_S (Ag g lo) s.heap H locs := by rw [hH, hLc]; exact hS
  have hW : Wd g lo n σ H := by rw [hH]; exact hW
  suffices hG : W p l e (kr 1 22) s m (List.toArray [.ref (bs g p0), .int a1, .int a2]) below meth c H locs 0 0 Q (F0 m 0 ls []) by rw [hH, hLc] at hG; exact hG
  clear hH hLc
  refine lv_iconst (v := 0) hx hb dX5_begin_0 (by decide) ?_
  refine lv_istore_n (lv' := [(3, .int 0), (0, .ref (bs g p0)), (1, .int a1), (2, .int a2)]) hx hb dX5_begin_1 rfl hl (by decide) rfl (fun ls hl => ?_)
  refine fx2_W (fun (i_1 : Int32) (σ_2 : Mem) => ∀ (H : Heap) (locs : List Loc) (ls : Array Slot), Wd g lo n σ_2 H → va_S (Ag g lo) s.heap H locs → lv_has ls 4 [(0, .ref (bs g p0)), (1, .int a1), (2, .int a2), (3, .int i_1)] → W p l e (kr 1 22) s m (List.toArray [.ref (bs g p0), .int a1, .int a2]) below meth c H locs 0 0 Q (F0 m 2 ls [])) (fun k_3 hk_3 i_1 σ_2 hf => ?_) FU 0 σ hf H locs ls hW hS (lv_sub hl [1, 2, 3, 0] rfl)
  intro H locs ls hW hS hl
  refine lv_iload_n hx hb dX5_begin_2 rfl (lv_at hl 3 rfl) ?_
  refine lv_bipush (v := 30) hx hb dX5_begin_3 (by decide) ?_
  refine lv_icmp_ge (tgt := 36) hx hb dX5_begin_5 (by decide) (fun hc => ?_) (fun hc => ?_)
  · have hf := ift hc hf
    subst hQ
    exact mrv hx hb hr hlocks hZ hT hS hW (Option.some.inj hf) dX5_begin_36
  · have hf := iff_ hc hf
    refine lv_iload_n hx hb dX5_begin_8 rfl (lv_at hl 1 rfl) ?_
    refine lv_iconst (v := 5) hx hb dX5_begin_9 (by decide) ?_
    refine mcip hf hS (fun r h => va_runSN (As := [.int a1, .int 5]) (rest := []) ⟨hx, hb, hml, hown, hts⟩ (c_X12_inside g l lo n σ_2 a1 5 r h) (cl_X5_15 hts hZ ⟨Nat.le_of_ble_eq_true rfl, Nat.le_of_ble_eq_true rfl⟩) (mpS hZ hT hS hW _) rfl rfl hl.1 rfl (lv_room (Nat.le_of_ble_eq_true rfl)) dX5_begin_10 ⟨Nat.zero_le _, Nat.zero_le _⟩) (fun r_4 H locs hf hW hS => ?_)
    refine lv_if_eq (tgt := 36) hx hb dX5_begin_13 (by decide) (fun hc => ?_) (fun hc => ?_)
    · have hf := ift hc hf
      subst hQ
      exact mrv hx hb hr hlocks hZ hT hS hW (Option.some.inj hf) dX5_begin_36
    · have hf := iff_ hc hf
      refine lv_aload_n hx hb dX5_begin_16 rfl (lv_at hl 0 rfl) ?_
      refine gf_5_0 hx hb htg (htg _ lf_X5_9) hown hZ hW t0 dX5_begin_17 ?_
      refine lv_iload_n hx hb dX5_begin_20 rfl (lv_at hl 1 rfl) ?_
      refine lv_bipush (v := 30) hx hb dX5_begin_21 (by decide) ?_
      refine lv_imul hx hb dX5_begin_23 ?_
      refine lv_iload_n hx hb dX5_begin_24 rfl (lv_at hl 3 rfl) ?_
      refine lv_iadd hx hb dX5_begin_25 ?_
      refine lv_iload_n hx hb dX5_begin_26 rfl (lv_at hl 2 rfl) ?_
      refine mcv hf hS (fun τ h => va_runSN (As := [.ref (bs g (p0 + 1)), .int ((a1 * 30) + i_1), .int a2]) (rest := []) ⟨hx, hb, hml, hown, hts⟩ (c_X12_set g l lo n σ_2 (p0 + 1) ((a1 * 30) + i_1) a2 (t0.sub 20 1 so_5_20_1) τ h) (cl_X5_19 hts hZ ⟨Nat.le_of_ble_eq_true rfl, Nat.le_of_ble_eq_true rfl⟩) (mpS hZ hT hS hW _) rfl rfl hl.1 rfl (lv_room (Nat.le_of_ble_eq_true rfl)) dX5_begin_27 ⟨Nat.zero_le _, Nat.zero_le _⟩) (fun σ_5 H locs hf hW hS => ?_)
      obtain ⟨x_6, e_7, hf⟩ := nm_s hf
      refine lv_iinc (v := x_6) (lv' := [(3, .int x_6), (0, .ref (bs g p0)), (1, .int a1), (2, .int a2)]) hx hb dX5_begin_30 hl (k := 3) rfl (by rw [e_7]; rfl) (by decide) rfl (fun ls hl => ?_)
      refine lv_goto (tgt := 2) hx hb dX5_begin_33 (by decide) ?_
      exact hk_3 x_6 σ_5 hf H locs ls hW hS (lv_sub hl [1, 2, 3, 0] rfl)
def f_X12_copyRow (σ : Mem) (p0 : Nat) (p1 : Nat) : Option (Mem) :=
  nm (if (nI (aln p1)) < (nI (aln p0)) then (nI (aln p1)) else (nI (aln p0))) (fun (x_1 : Int32) => cpd 0 0 x_1 (aln p0) (aln p1) (nm (sA σ p1 (va_cpy (σ.1 p0) (σ.1 p1) (0 : Int32).toNatClampNeg (0 : Int32).toNatClampNeg x_1.toNatClampNeg)) (fun (σ_2 : Mem) => some σ_2)))
set_option maxHeartbeats 4000000 in
set_option maxRecDepth 100000 in
theorem c_X12_copyRow (g : XG) (l : Launch) (lo n : Nat) (σ : Mem) (p0 : Nat) (p1 : Nat) (t0 : tp 20 lo n p0) (t1 : tp 20 lo n p1) (τ : Mem) (hf : f_X12_copyRow σ p0 p1 = some τ) : Met l yX12_copyRow (wx (.code yX12_copyRow cX12_copyRow 2 none)) (kr 1 60) (va_Pc [.ref (bs g p0), .ref (bs g p1)] (WS g lo n σ)) (Qv' g lo n τ) 0 0 (Ag g lo) := by
  refine Met.ofW (cc := cX12_copyRow) (maxL := 2) (ret := none) (by decide) rfl ?_
  intro p e s m args below meth c s₁ B hml hv
  obtain ⟨rfl, hZ, hT, hW⟩ := hv
  have hx := B.exec
  have hb := B.bytes
  have hr := B.returns
  have hts : ∀ w ∈ wx (.code yX12_copyRow cX12_copyRow 2 none), w.before _ s = true := atoms_spec B.pre
  have htg : ∀ w ∈ lwg, w.before _ s = true := fun w h => hts w (List.mem_cons_of_mem _ h)
  have hown : s.vm.findClass RX12 = some m.cls := findClass_of_methodNamed B.named
  have hlocks := B.notSynchronized
  change W p l e (kr 1 60) s m (List.toArray [.ref (bs g p0), .ref (bs g p1)]) below meth c s.heap [] 0 0 (MQ below (Qv' g lo n τ) (List.toArray [.ref (bs g p0), .ref (bs g p1)]) s 0 0 (Ag g lo)) _
  generalize hQ : MQ below (Qv' g lo n τ) (List.toArray [.ref (bs g p0), .ref (bs g p1)]) s 0 0 (Ag g lo) = Q
  have hS : va_S (Ag g lo) s.heap s.heap [] := va_S.rf
  have hl := lv_entry ([.ref (bs g p0), .ref (bs g p1)]) (n := 2) (Nat.le_of_ble_eq_true rfl)
  rw [lg_entry_eq]
  generalize (lg_sl ([.ref (bs g p0), .ref (bs g p1)]) ++ List.replicate (2 - (lg_sl ([.ref (bs g p0), .ref (bs g p1)])).length) Slot.unset).toArray = ls at hl ⊢
  have hl : lv_has ls 2 [(0, .ref (bs g p0)), (1, .ref (bs g p1))] := hl
  delta f_X12_copyRow at hf
  obtain ⟨H, hH⟩ : ∃ H, H = s.heap := ⟨_, rfl⟩
  obtain ⟨locs, hLc⟩ : ∃ z : List Loc, z = [] := ⟨_, rfl⟩
  have hS : va_S (Ag g lo) s.heap H locs := by rw [hH, hLc]; exact hS
  have hW : Wd g lo n σ H := by rw [hH]; exact hW
  suffices hG : W p l e (kr 1 60) s m (List.toArray [.ref (bs g p0), .ref (bs g p1)]) below meth c H locs 0 0 Q (F0 m 0 ls []) by rw [hH, hLc] at hG; exact hG
  clear hH hLc
  refine lv_aload_n hx hb dX12_copyRow_0 rfl (lv_at hl 0 rfl) ?_
  refine lv_iconst (v := 0) hx hb dX12_copyRow_1 (by decide) ?_
  refine lv_aload_n hx hb dX12_copyRow_2 rfl (lv_at hl 1 rfl) ?_
  refine lv_iconst (v := 0) hx hb dX12_copyRow_3 (by decide) ?_
  refine lv_aload_n hx hb dX12_copyRow_4 rfl (lv_at hl 0 rfl) ?_
  refine mln_i hx hb hZ hW t0 dX12_copyRow_5 ?_
  refine lv_aload_n hx hb dX12_copyRow_6 rfl (lv_at hl 1 rfl) ?_
  refine mln_i hx hb hZ hW t1 dX12_copyRow_7 ?_
  refine va_mmin hx hb (hml.trans hl.1.symm) hown (htg _ lm_X12_368) (htg _ lst_Math_min) (htg _ ini_Math) (htg _ lc_Math_min) (Nat.le_of_ble_eq_true rfl) (Nat.le_of_ble_eq_true rfl) (Nat.zero_le _) (Nat.zero_le _) dX12_copyRow_8 ?_
  refine mnmi hf (fun (x_1 : Int32) hf => ?_)
  refine mcpy hx hb (hml.trans hl.1.symm) htg hown lm_X12_371 hZ hW hS t0 t1 hf (Nat.le_of_ble_eq_true rfl) (Nat.le_of_ble_eq_true rfl) dX12_copyRow_11 (fun σ_2 H locs hf hW hS => ?_)
  subst hQ
  exact mrv hx hb hr hlocks hZ hT hS hW (Option.some.inj hf) dX12_copyRow_14
def f_X5_copy (σ : Mem) (p0 : Nat) (p1 : Nat) : Option (Mem) :=
  bd1 (f_X12_copyRow σ (p1 + 1) (p0 + 1)) (fun (σ_1 : Mem) => some σ_1)
set_option maxHeartbeats 4000000 in
set_option maxRecDepth 100000 in
theorem c_X5_copy (g : XG) (l : Launch) (lo n : Nat) (σ : Mem) (p0 : Nat) (p1 : Nat) (t0 : tp 5 lo n p0) (t1 : tp 5 lo n p1) (τ : Mem) (hf : f_X5_copy σ p0 p1 = some τ) : Met l yX5_copy (wx (.code yX5_copy cX5_copy 2 none)) (kr 2 81) (va_Pc [.ref (bs g p0), .ref (bs g p1)] (WS g lo n σ)) (Qv' g lo n τ) 0 0 (Ag g lo) := by
  refine Met.ofW (cc := cX5_copy) (maxL := 2) (ret := none) (by decide) rfl ?_
  intro p e s m args below meth c s₁ B hml hv
  obtain ⟨rfl, hZ, hT, hW⟩ := hv
  have hx := B.exec
  have hb := B.bytes
  have hr := B.returns
  have hts : ∀ w ∈ wx (.code yX5_copy cX5_copy 2 none), w.before _ s = true := atoms_spec B.pre
  have htg : ∀ w ∈ lwg, w.before _ s = true := fun w h => hts w (List.mem_cons_of_mem _ h)
  have hown : s.vm.findClass RX5 = some m.cls := findClass_of_methodNamed B.named
  have hlocks := B.notSynchronized
  change W p l e (kr 2 81) s m (List.toArray [.ref (bs g p0), .ref (bs g p1)]) below meth c s.heap [] 0 0 (MQ below (Qv' g lo n τ) (List.toArray [.ref (bs g p0), .ref (bs g p1)]) s 0 0 (Ag g lo)) _
  generalize hQ : MQ below (Qv' g lo n τ) (List.toArray [.ref (bs g p0), .ref (bs g p1)]) s 0 0 (Ag g lo) = Q
  have hS : va_S (Ag g lo) s.heap s.heap [] := va_S.rf
  have hl := lv_entry ([.ref (bs g p0), .ref (bs g p1)]) (n := 2) (Nat.le_of_ble_eq_true rfl)
  rw [lg_entry_eq]
  generalize (lg_sl ([.ref (bs g p0), .ref (bs g p1)]) ++ List.replicate (2 - (lg_sl ([.ref (bs g p0), .ref (bs g p1)])).length) Slot.unset).toArray = ls at hl ⊢
  have hl : lv_has ls 2 [(0, .ref (bs g p0)), (1, .ref (bs g p1))] := hl
  delta f_X5_copy at hf
  obtain ⟨H, hH⟩ : ∃ H, H = s.heap := ⟨_, rfl⟩
  obtain ⟨locs, hLc⟩ : ∃ z : List Loc, z = [] := ⟨_, rfl⟩
  have hS : va_S (Ag g lo) s.heap H locs := by rw [hH, hLc]; exact hS
  have hW : Wd g lo n σ H := by rw [hH]; exact hW
  suffices hG : W p l e (kr 2 81) s m (List.toArray [.ref (bs g p0), .ref (bs g p1)]) below meth c H locs 0 0 Q (F0 m 0 ls []) by rw [hH, hLc] at hG; exact hG
  clear hH hLc
  refine lv_aload_n hx hb dX5_copy_0 rfl (lv_at hl 1 rfl) ?_
  refine gf_5_0 hx hb htg (htg _ lf_X5_9) hown hZ hW t1 dX5_copy_1 ?_
  refine lv_aload_n hx hb dX5_copy_4 rfl (lv_at hl 0 rfl) ?_
  refine gf_5_0 hx hb htg (htg _ lf_X5_9) hown hZ hW t0 dX5_copy_5 ?_
  refine mcv hf hS (fun τ h => va_runSN (As := [.ref (bs g (p1 + 1)), .ref (bs g (p0 + 1))]) (rest := []) ⟨hx, hb, hml, hown, hts⟩ (c_X12_copyRow g l lo n σ (p1 + 1) (p0 + 1) (t1.sub 20 1 so_5_20_1) (t0.sub 20 1 so_5_20_1) τ h) (cl_X5_36 hts hZ ⟨Nat.le_of_ble_eq_true rfl, Nat.le_of_ble_eq_true rfl⟩) (mpS hZ hT hS hW _) rfl rfl hl.1 rfl (lv_room (Nat.le_of_ble_eq_true rfl)) dX5_copy_8 ⟨Nat.zero_le _, Nat.zero_le _⟩) (fun σ_1 H locs hf hW hS => ?_)
  subst hQ
  exact mrv hx hb hr hlocks hZ hT hS hW (Option.some.inj hf) dX5_copy_11
def f_X5_letter (a0 : Int32) (a1 : Int32) : Option (Int32) :=
  some ((a0 >>> ((2 * (5 - a1)) &&& 31)) &&& 3)
set_option maxHeartbeats 4000000 in
set_option maxRecDepth 100000 in
theorem c_X5_letter (g : XG) (l : Launch) (lo n : Nat) (σ : Mem) (a0 : Int32) (a1 : Int32) (r : Int32) (hf : f_X5_letter a0 a1 = some r) : Met l yX5_letter (wx (.code yX5_letter cX5_letter 2 (some .int))) (kr 0 0) (va_Pc [.int a0, .int a1] (WS g lo n σ)) (Qi' g lo n r σ) 0 0 (Ag g lo) := by
  refine Met.ofW (cc := cX5_letter) (maxL := 2) (ret := (some .int)) (by decide) rfl ?_
  intro p e s m args below meth c s₁ B hml hv
  obtain ⟨rfl, hZ, hT, hW⟩ := hv
  have hx := B.exec
  have hb := B.bytes
  have hr := B.returns
  have hts : ∀ w ∈ wx (.code yX5_letter cX5_letter 2 (some .int)), w.before _ s = true := atoms_spec B.pre
  have htg : ∀ w ∈ lwg, w.before _ s = true := fun w h => hts w (List.mem_cons_of_mem _ h)
  have hown : s.vm.findClass RX5 = some m.cls := findClass_of_methodNamed B.named
  have hlocks := B.notSynchronized
  change W p l e (kr 0 0) s m (List.toArray [.int a0, .int a1]) below meth c s.heap [] 0 0 (MQ below (Qi' g lo n r σ) (List.toArray [.int a0, .int a1]) s 0 0 (Ag g lo)) _
  generalize hQ : MQ below (Qi' g lo n r σ) (List.toArray [.int a0, .int a1]) s 0 0 (Ag g lo) = Q
  have hS : va_S (Ag g lo) s.heap s.heap [] := va_S.rf
  have hl := lv_entry ([.int a0, .int a1]) (n := 2) (Nat.le_of_ble_eq_true rfl)
  rw [lg_entry_eq]
  generalize (lg_sl ([.int a0, .int a1]) ++ List.replicate (2 - (lg_sl ([.int a0, .int a1])).length) Slot.unset).toArray = ls at hl ⊢
  have hl : lv_has ls 2 [(0, .int a0), (1, .int a1)] := hl
  delta f_X5_letter at hf
  obtain ⟨H, hH⟩ : ∃ H, H = s.heap := ⟨_, rfl⟩
  obtain ⟨locs, hLc⟩ : ∃ z : List Loc, z = [] := ⟨_, rfl⟩
  have hS : va_S (Ag g lo) s.heap H locs := by rw [hH, hLc]; exact hS
  have hW : Wd g lo n σ H := by rw [hH]; exact hW
  suffices hG : W p l e (kr 0 0) s m (List.toArray [.int a0, .int a1]) below meth c H locs 0 0 Q (F0 m 0 ls []) by rw [hH, hLc] at hG; exact hG
  clear hH hLc
  refine lv_iload_n hx hb dX5_letter_0 rfl (lv_at hl 0 rfl) ?_
  refine lv_iconst (v := 2) hx hb dX5_letter_1 (by decide) ?_
  refine lv_iconst (v := 5) hx hb dX5_letter_2 (by decide) ?_
  refine lv_iload_n hx hb dX5_letter_3 rfl (lv_at hl 1 rfl) ?_
  refine lv_isub hx hb dX5_letter_4 ?_
  refine lv_imul hx hb dX5_letter_5 ?_
  refine lv_ishr hx hb dX5_letter_6 ?_
  refine lv_iconst (v := 3) hx hb dX5_letter_7 (by decide) ?_
  refine lv_iand hx hb dX5_letter_8 ?_
  subst hQ
  exact mri hx hb hr hlocks hZ hT hS hW ⟨Option.some.inj hf, rfl⟩ dX5_letter_9
def f_X5_unlikeMarks (a0 : Int32) (a1 : Int32) : Option (Int32) :=
  fx2 FU (fun k_3 (i_1 : Int32) (i_2 : Int32) => (if 6 ≤ i_2 then some i_1 else bd1 (f_X5_letter a0 i_2) (fun (r_4 : Int32) => bd1 (f_X5_letter a1 i_2) (fun (r_5 : Int32) => jn1 (fun (i_6 : Int32) => nm (i_1 ||| i_6) (fun (x_8 : Int32) => nm (i_2 + 1) (fun (x_9 : Int32) => k_3 x_8 x_9))) (fun k_7 => (if r_4 = r_5 then k_7 0 else k_7 (1 <<< (i_2 &&& 31)))))))) 0 0
set_option maxHeartbeats 4000000 in
set_option maxRecDepth 100000 in
theorem c_X5_unlikeMarks (g : XG) (l : Launch) (lo n : Nat) (σ : Mem) (a0 : Int32) (a1 : Int32) (r : Int32) (hf : f_X5_unlikeMarks a0 a1 = some r) : Met l yX5_unlikeMarks (wx (.code yX5_unlikeMarks cX5_unlikeMarks 4 (some .int))) (kr 1 21) (va_Pc [.int a0, .int a1] (WS g lo n σ)) (Qi' g lo n r σ) 0 0 (Ag g lo) := by
  refine Met.ofW (cc := cX5_unlikeMarks) (maxL := 4) (ret := (some .int)) (by decide) rfl ?_
  intro p e s m args below meth c s₁ B hml hv
  obtain ⟨rfl, hZ, hT, hW⟩ := hv
  have hx := B.exec
  have hb := B.bytes
  have hr := B.returns
  have hts : ∀ w ∈ wx (.code yX5_unlikeMarks cX5_unlikeMarks 4 (some .int)), w.before _ s = true := atoms_spec B.pre
  have htg : ∀ w ∈ lwg, w.before _ s = true := fun w h => hts w (List.mem_cons_of_mem _ h)
  have hown : s.vm.findClass RX5 = some m.cls := findClass_of_methodNamed B.named
  have hlocks := B.notSynchronized
  change W p l e (kr 1 21) s m (List.toArray [.int a0, .int a1]) below meth c s.heap [] 0 0 (MQ below (Qi' g lo n r σ) (List.toArray [.int a0, .int a1]) s 0 0 (Ag g lo)) _
  generalize hQ : MQ below (Qi' g lo n r σ) (List.toArray [.int a0, .int a1]) s 0 0 (Ag g lo) = Q
  have hS : va_S (Ag g lo) s.heap s.heap [] := va_S.rf
  have hl := lv_entry ([.int a0, .int a1]) (n := 4) (Nat.le_of_ble_eq_true rfl)
  rw [lg_entry_eq]
  generalize (lg_sl ([.int a0, .int a1]) ++ List.replicate (4 - (lg_sl ([.int a0, .int a1])).length) Slot.unset).toArray = ls at hl ⊢
  have hl : lv_has ls 4 [(0, .int a0), (1, .int a1)] := hl
  delta f_X5_unlikeMarks at hf
  obtain ⟨H, hH⟩ : ∃ H, H = s.heap := ⟨_, rfl⟩
  obtain ⟨locs, hLc⟩ : ∃ z : List Loc, z = [] := ⟨_, rfl⟩
  have hS : va_S (Ag g lo) s.heap H locs := by rw [hH, hLc]; exact hS
  have hW : Wd g lo n σ H := by rw [hH]; exact hW
  suffices hG : W p l e (kr 1 21) s m (List.toArray [.int a0, .int a1]) below meth c H locs 0 0 Q (F0 m 0 ls []) by rw [hH, hLc] at hG; exact hG
  clear hH hLc
  refine lv_iconst (v := 0) hx hb dX5_unlikeMarks_0 (by decide) ?_
  refine lv_istore_n (lv' := [(2, .int 0), (0, .int a0), (1, .int a1)]) hx hb dX5_unlikeMarks_1 rfl hl (by decide) rfl (fun ls hl => ?_)
  refine lv_iconst (v := 0) hx hb dX5_unlikeMarks_2 (by decide) ?_
  refine lv_istore_n (lv' := [(3, .int 0), (2, .int 0), (0, .int a0), (1, .int a1)]) hx hb dX5_unlikeMarks_3 rfl hl (by decide) rfl (fun ls hl => ?_)
  refine fx2_W (fun (i_1 : Int32) (i_2 : Int32) => ∀ (H : Heap) (locs : List Loc) (ls : Array Slot), Wd g lo n σ H → va_S (Ag g lo) s.heap H locs → lv_has ls 4 [(0, .int a0), (1, .int a1), (2, .int i_1), (3, .int i_2)] → W p l e (kr 1 21) s m (List.toArray [.int a0, .int a1]) below meth c H locs 0 0 Q (F0 m 4 ls [])) (fun k_3 hk_3 i_1 i_2 hf => ?_) FU 0 0 hf H locs ls hW hS (lv_sub hl [2, 3, 1, 0] rfl)
  intro H locs ls hW hS hl
  refine lv_iload_n hx hb dX5_unlikeMarks_4 rfl (lv_at hl 3 rfl) ?_
  refine lv_bipush (v := 6) hx hb dX5_unlikeMarks_5 (by decide) ?_
  refine lv_icmp_ge (tgt := 39) hx hb dX5_unlikeMarks_7 (by decide) (fun hc => ?_) (fun hc => ?_)
  · have hf := ift hc hf
    refine lv_iload_n hx hb dX5_unlikeMarks_39 rfl (lv_at hl 2 rfl) ?_
    subst hQ
    exact mri hx hb hr hlocks hZ hT hS hW ⟨Option.some.inj hf, rfl⟩ dX5_unlikeMarks_40
  · have hf := iff_ hc hf
    refine lv_iload_n hx hb dX5_unlikeMarks_10 rfl (lv_at hl 2 rfl) ?_
    refine lv_iload_n hx hb dX5_unlikeMarks_11 rfl (lv_at hl 0 rfl) ?_
    refine lv_iload_n hx hb dX5_unlikeMarks_12 rfl (lv_at hl 3 rfl) ?_
    refine mcip hf hS (fun r h => va_runS (As := [.int a0, .int i_2]) (rest := [.int i_1]) ⟨hx, hb, hml, hown, hts⟩ (c_X5_letter g l lo n σ a0 i_2 r h) (cl_X5_46 hts ⟨Nat.le_of_ble_eq_true rfl, Nat.le_of_ble_eq_true rfl⟩) (mpS hZ hT hS hW _) rfl rfl hl.1 rfl (lv_room (Nat.le_of_ble_eq_true rfl)) dX5_unlikeMarks_13 ⟨Nat.zero_le _, Nat.zero_le _⟩) (fun r_4 H locs hf hW hS => ?_)
    refine lv_iload_n hx hb dX5_unlikeMarks_16 rfl (lv_at hl 1 rfl) ?_
    refine lv_iload_n hx hb dX5_unlikeMarks_17 rfl (lv_at hl 3 rfl) ?_
    refine mcip hf hS (fun r h => va_runS (As := [.int a1, .int i_2]) (rest := [.int r_4, .int i_1]) ⟨hx, hb, hml, hown, hts⟩ (c_X5_letter g l lo n σ a1 i_2 r h) (cl_X5_46 hts ⟨Nat.le_of_ble_eq_true rfl, Nat.le_of_ble_eq_true rfl⟩) (mpS hZ hT hS hW _) rfl rfl hl.1 rfl (lv_room (Nat.le_of_ble_eq_true rfl)) dX5_unlikeMarks_18 ⟨Nat.zero_le _, Nat.zero_le _⟩) (fun r_5 H locs hf hW hS => ?_)
    refine jn1_W (fun (i_6 : Int32) => ∀ (H : Heap) (locs : List Loc) (ls : Array Slot), Wd g lo n σ H → va_S (Ag g lo) s.heap H locs → lv_has ls 4 [(0, .int a0), (1, .int a1), (3, .int i_2)] → W p l e (kr 1 21) s m (List.toArray [.int a0, .int a1]) below meth c H locs 0 0 Q (F0 m 31 ls [.int i_6, .int i_1])) hf (fun i_6 hf => ?_) (fun k_7 hk_7 hf => ?_)
    · intro H locs ls hW hS hl
      refine lv_ior hx hb dX5_unlikeMarks_31 ?_
      refine mnmi hf (fun (x_8 : Int32) hf => ?_)
      refine lv_istore_n (lv' := [(2, .int x_8), (0, .int a0), (1, .int a1), (3, .int i_2)]) hx hb dX5_unlikeMarks_32 rfl hl (by decide) rfl (fun ls hl => ?_)
      obtain ⟨x_9, e_10, hf⟩ := nm_s hf
      refine lv_iinc (v := x_9) (lv' := [(3, .int x_9), (2, .int x_8), (0, .int a0), (1, .int a1)]) hx hb dX5_unlikeMarks_33 hl (k := 3) rfl (by rw [e_10]; rfl) (by decide) rfl (fun ls hl => ?_)
      refine lv_goto (tgt := 4) hx hb dX5_unlikeMarks_36 (by decide) ?_
      exact hk_3 x_8 x_9 hf H locs ls hW hS (lv_sub hl [2, 3, 1, 0] rfl)
    · refine lv_icmp_eq (tgt := 30) hx hb dX5_unlikeMarks_21 (by decide) (fun hc => ?_) (fun hc => ?_)
      · have hf := ift hc hf
        refine lv_iconst (v := 0) hx hb dX5_unlikeMarks_30 (by decide) ?_
        exact hk_7 0 hf H locs ls hW hS (lv_sub hl [0, 1, 3] rfl)
      · have hf := iff_ hc hf
        refine lv_iconst (v := 1) hx hb dX5_unlikeMarks_24 (by decide) ?_
        refine lv_iload_n hx hb dX5_unlikeMarks_25 rfl (lv_at hl 3 rfl) ?_
        refine lv_ishl hx hb dX5_unlikeMarks_26 ?_
        refine lv_goto (tgt := 31) hx hb dX5_unlikeMarks_27 (by decide) ?_
        exact hk_7 (1 <<< (i_2 &&& 31)) hf H locs ls hW hS (lv_sub hl [0, 1, 3] rfl)
def f_X5_digits (a0 : Int32) (a1 : Int32) : Option (Int32) :=
  fx2 FU (fun k_3 (i_1 : Int32) (i_2 : Int32) => (if a1 ≤ i_2 then some i_1 else bd1 (f_X5_letter a0 i_2) (fun (r_4 : Int32) => nm (((10 * i_1) + r_4) + 1) (fun (x_5 : Int32) => nm (i_2 + 1) (fun (x_6 : Int32) => k_3 x_5 x_6))))) 0 0
set_option maxHeartbeats 4000000 in
set_option maxRecDepth 100000 in
theorem c_X5_digits (g : XG) (l : Launch) (lo n : Nat) (σ : Mem) (a0 : Int32) (a1 : Int32) (r : Int32) (hf : f_X5_digits a0 a1 = some r) : Met l yX5_digits (wx (.code yX5_digits cX5_digits 4 (some .int))) (kr 1 21) (va_Pc [.int a0, .int a1] (WS g lo n σ)) (Qi' g lo n r σ) 0 0 (Ag g lo) := by
  refine Met.ofW (cc := cX5_digits) (maxL := 4) (ret := (some .int)) (by decide) rfl ?_
  intro p e s m args below meth c s₁ B hml hv
  obtain ⟨rfl, hZ, hT, hW⟩ := hv
  have hx := B.exec
  have hb := B.bytes
  have hr := B.returns
  have hts : ∀ w ∈ wx (.code yX5_digits cX5_digits 4 (some .int)), w.before _ s = true := atoms_spec B.pre
  have htg : ∀ w ∈ lwg, w.before _ s = true := fun w h => hts w (List.mem_cons_of_mem _ h)
  have hown : s.vm.findClass RX5 = some m.cls := findClass_of_methodNamed B.named
  have hlocks := B.notSynchronized
  change W p l e (kr 1 21) s m (List.toArray [.int a0, .int a1]) below meth c s.heap [] 0 0 (MQ below (Qi' g lo n r σ) (List.toArray [.int a0, .int a1]) s 0 0 (Ag g lo)) _
  generalize hQ : MQ below (Qi' g lo n r σ) (List.toArray [.int a0, .int a1]) s 0 0 (Ag g lo) = Q
  have hS : va_S (Ag g lo) s.heap s.heap [] := va_S.rf
  have hl := lv_entry ([.int a0, .int a1]) (n := 4) (Nat.le_of_ble_eq_true rfl)
  rw [lg_entry_eq]
  generalize (lg_sl ([.int a0, .int a1]) ++ List.replicate (4 - (lg_sl ([.int a0, .int a1])).length) Slot.unset).toArray = ls at hl ⊢
  have hl : lv_has ls 4 [(0, .int a0), (1, .int a1)] := hl
  delta f_X5_digits at hf
  obtain ⟨H, hH⟩ : ∃ H, H = s.heap := ⟨_, rfl⟩
  obtain ⟨locs, hLc⟩ : ∃ z : List Loc, z = [] := ⟨_, rfl⟩
  have hS : va_S (Ag g lo) s.heap H locs := by rw [hH, hLc]; exact hS
  have hW : Wd g lo n σ H := by rw [hH]; exact hW
  suffices hG : W p l e (kr 1 21) s m (List.toArray [.int a0, .int a1]) below meth c H locs 0 0 Q (F0 m 0 ls []) by rw [hH, hLc] at hG; exact hG
  clear hH hLc
  refine lv_iconst (v := 0) hx hb dX5_digits_0 (by decide) ?_
  refine lv_istore_n (lv' := [(2, .int 0), (0, .int a0), (1, .int a1)]) hx hb dX5_digits_1 rfl hl (by decide) rfl (fun ls hl => ?_)
  refine lv_iconst (v := 0) hx hb dX5_digits_2 (by decide) ?_
  refine lv_istore_n (lv' := [(3, .int 0), (2, .int 0), (0, .int a0), (1, .int a1)]) hx hb dX5_digits_3 rfl hl (by decide) rfl (fun ls hl => ?_)
  refine fx2_W (fun (i_1 : Int32) (i_2 : Int32) => ∀ (H : Heap) (locs : List Loc) (ls : Array Slot), Wd g lo n σ H → va_S (Ag g lo) s.heap H locs → lv_has ls 4 [(0, .int a0), (1, .int a1), (2, .int i_1), (3, .int i_2)] → W p l e (kr 1 21) s m (List.toArray [.int a0, .int a1]) below meth c H locs 0 0 Q (F0 m 4 ls [])) (fun k_3 hk_3 i_1 i_2 hf => ?_) FU 0 0 hf H locs ls hW hS (lv_sub hl [2, 3, 1, 0] rfl)
  intro H locs ls hW hS hl
  refine lv_iload_n hx hb dX5_digits_4 rfl (lv_at hl 3 rfl) ?_
  refine lv_iload_n hx hb dX5_digits_5 rfl (lv_at hl 1 rfl) ?_
  refine lv_icmp_ge (tgt := 28) hx hb dX5_digits_6 (by decide) (fun hc => ?_) (fun hc => ?_)
  · have hf := ift hc hf
    refine lv_iload_n hx hb dX5_digits_28 rfl (lv_at hl 2 rfl) ?_
    subst hQ
    exact mri hx hb hr hlocks hZ hT hS hW ⟨Option.some.inj hf, rfl⟩ dX5_digits_29
  · have hf := iff_ hc hf
    refine lv_bipush (v := 10) hx hb dX5_digits_9 (by decide) ?_
    refine lv_iload_n hx hb dX5_digits_11 rfl (lv_at hl 2 rfl) ?_
    refine lv_imul hx hb dX5_digits_12 ?_
    refine lv_iload_n hx hb dX5_digits_13 rfl (lv_at hl 0 rfl) ?_
    refine lv_iload_n hx hb dX5_digits_14 rfl (lv_at hl 3 rfl) ?_
    refine mcip hf hS (fun r h => va_runS (As := [.int a0, .int i_2]) (rest := [.int (10 * i_1)]) ⟨hx, hb, hml, hown, hts⟩ (c_X5_letter g l lo n σ a0 i_2 r h) (cl_X5_46 hts ⟨Nat.le_of_ble_eq_true rfl, Nat.le_of_ble_eq_true rfl⟩) (mpS hZ hT hS hW _) rfl rfl hl.1 rfl (lv_room (Nat.le_of_ble_eq_true rfl)) dX5_digits_15 ⟨Nat.zero_le _, Nat.zero_le _⟩) (fun r_4 H locs hf hW hS => ?_)
    refine lv_iadd hx hb dX5_digits_18 ?_
    refine lv_iconst (v := 1) hx hb dX5_digits_19 (by decide) ?_
    refine lv_iadd hx hb dX5_digits_20 ?_
    refine mnmi hf (fun (x_5 : Int32) hf => ?_)
    refine lv_istore_n (lv' := [(2, .int x_5), (0, .int a0), (1, .int a1), (3, .int i_2)]) hx hb dX5_digits_21 rfl hl (by decide) rfl (fun ls hl => ?_)
    obtain ⟨x_6, e_7, hf⟩ := nm_s hf
    refine lv_iinc (v := x_6) (lv' := [(3, .int x_6), (2, .int x_5), (0, .int a0), (1, .int a1)]) hx hb dX5_digits_22 hl (k := 3) rfl (by rw [e_7]; rfl) (by decide) rfl (fun ls hl => ?_)
    refine lv_goto (tgt := 4) hx hb dX5_digits_25 (by decide) ?_
    exact hk_3 x_5 x_6 hf H locs ls hW hS (lv_sub hl [2, 3, 1, 0] rfl)
def f_X12_fill (σ : Mem) (p0 : Nat) (a1 : Int32) : Option (Mem) :=
  fx2 FU (fun k_3 (i_1 : Int32) (σ_2 : Mem) => (if (nI (aln p0)) ≤ i_1 then some σ_2 else ixd i_1 (aln p0) (nm (sI σ_2 p0 i_1.toNatClampNeg a1) (fun (σ_4 : Mem) => nm (i_1 + 1) (fun (x_5 : Int32) => k_3 x_5 σ_4))))) 0 σ
set_option maxHeartbeats 4000000 in
set_option maxRecDepth 100000 in
theorem c_X12_fill (g : XG) (l : Launch) (lo n : Nat) (σ : Mem) (p0 : Nat) (a1 : Int32) (t0 : tp 20 lo n p0) (τ : Mem) (hf : f_X12_fill σ p0 a1 = some τ) : Met l yX12_fill (wx (.code yX12_fill cX12_fill 3 none)) (kr 0 0) (va_Pc [.ref (bs g p0), .int a1] (WS g lo n σ)) (Qv' g lo n τ) 0 0 (Ag g lo) := by
  refine Met.ofW (cc := cX12_fill) (maxL := 3) (ret := none) (by decide) rfl ?_
  intro p e s m args below meth c s₁ B hml hv
  obtain ⟨rfl, hZ, hT, hW⟩ := hv
  have hx := B.exec
  have hb := B.bytes
  have hr := B.returns
  have hts : ∀ w ∈ wx (.code yX12_fill cX12_fill 3 none), w.before _ s = true := atoms_spec B.pre
  have htg : ∀ w ∈ lwg, w.before _ s = true := fun w h => hts w (List.mem_cons_of_mem _ h)
  have hown : s.vm.findClass RX12 = some m.cls := findClass_of_methodNamed B.named
  have hlocks := B.notSynchronized
  change W p l e (kr 0 0) s m (List.toArray [.ref (bs g p0), .int a1]) below meth c s.heap [] 0 0 (MQ below (Qv' g lo n τ) (List.toArray [.ref (bs g p0), .int a1]) s 0 0 (Ag g lo)) _
  generalize hQ : MQ below (Qv' g lo n τ) (List.toArray [.ref (bs g p0), .int a1]) s 0 0 (Ag g lo) = Q
  have hS : va_S (Ag g lo) s.heap s.heap [] := va_S.rf
  have hl := lv_entry ([.ref (bs g p0), .int a1]) (n := 3) (Nat.le_of_ble_eq_true rfl)
  rw [lg_entry_eq]
  generalize (lg_sl ([.ref (bs g p0), .int a1]) ++ List.replicate (3 - (lg_sl ([.ref (bs g p0), .int a1])).length) Slot.unset).toArray = ls at hl ⊢
  have hl : lv_has ls 3 [(0, .ref (bs g p0)), (1, .int a1)] := hl
  delta f_X12_fill at hf
  obtain ⟨H, hH⟩ : ∃ H, H = s.heap := ⟨_, rfl⟩
  obtain ⟨locs, hLc⟩ : ∃ z : List Loc, z = [] := ⟨_, rfl⟩
  have hS : va_S (Ag g lo) s.heap H locs := by rw [hH, hLc]; exact hS
  have hW : Wd g lo n σ H := by rw [hH]; exact hW
  suffices hG : W p l e (kr 0 0) s m (List.toArray [.ref (bs g p0), .int a1]) below meth c H locs 0 0 Q (F0 m 0 ls []) by rw [hH, hLc] at hG; exact hG
  clear hH hLc
  refine lv_iconst (v := 0) hx hb dX12_fill_0 (by decide) ?_
  refine lv_istore_n (lv' := [(2, .int 0), (0, .ref (bs g p0)), (1, .int a1)]) hx hb dX12_fill_1 rfl hl (by decide) rfl (fun ls hl => ?_)
  refine fx2_W (fun (i_1 : Int32) (σ_2 : Mem) => ∀ (H : Heap) (locs : List Loc) (ls : Array Slot), Wd g lo n σ_2 H → va_S (Ag g lo) s.heap H locs → lv_has ls 3 [(0, .ref (bs g p0)), (1, .int a1), (2, .int i_1)] → W p l e (kr 0 0) s m (List.toArray [.ref (bs g p0), .int a1]) below meth c H locs 0 0 Q (F0 m 2 ls [])) (fun k_3 hk_3 i_1 σ_2 hf => ?_) FU 0 σ hf H locs ls hW hS (lv_sub hl [1, 2, 0] rfl)
  intro H locs ls hW hS hl
  refine lv_iload_n hx hb dX12_fill_2 rfl (lv_at hl 2 rfl) ?_
  refine lv_aload_n hx hb dX12_fill_3 rfl (lv_at hl 0 rfl) ?_
  refine mln_i hx hb hZ hW t0 dX12_fill_4 ?_
  refine lv_icmp_ge (tgt := 18) hx hb dX12_fill_5 (by decide) (fun hc => ?_) (fun hc => ?_)
  · have hf := ift hc hf
    subst hQ
    exact mrv hx hb hr hlocks hZ hT hS hW (Option.some.inj hf) dX12_fill_18
  · have hf := iff_ hc hf
    refine lv_aload_n hx hb dX12_fill_8 rfl (lv_at hl 0 rfl) ?_
    refine lv_iload_n hx hb dX12_fill_9 rfl (lv_at hl 2 rfl) ?_
    refine lv_iload_n hx hb dX12_fill_10 rfl (lv_at hl 1 rfl) ?_
    refine mst_i hx hb hZ hW hS t0 hf dX12_fill_11 (fun σ_4 H locs hf hW hS => ?_)
    obtain ⟨x_5, e_6, hf⟩ := nm_s hf
    refine lv_iinc (v := x_5) (lv' := [(2, .int x_5), (0, .ref (bs g p0)), (1, .int a1)]) hx hb dX12_fill_12 hl (k := 2) rfl (by rw [e_6]; rfl) (by decide) rfl (fun ls hl => ?_)
    refine lv_goto (tgt := 2) hx hb dX12_fill_15 (by decide) ?_
    exact hk_3 x_5 σ_4 hf H locs ls hW hS (lv_sub hl [1, 2, 0] rfl)
def f_X11_forget (σ : Mem) (p0 : Nat) : Option (Mem) :=
  nm (sI σ p0 0 0) (fun (σ_1 : Mem) => nm (sI σ_1 p0 1 0) (fun (σ_2 : Mem) => nm (sI σ_2 p0 2 0) (fun (σ_3 : Mem) => nm (sI σ_3 p0 3 0) (fun (σ_4 : Mem) => bd1 (f_X12_fill σ_4 (p0 + 1) 0) (fun (σ_5 : Mem) => bd1 (f_X12_fill σ_5 (p0 + 7) (-2)) (fun (σ_6 : Mem) => bd1 (f_X12_fill σ_6 (p0 + 10) (-2)) (fun (σ_7 : Mem) => bd1 (f_X12_fill σ_7 (p0 + 11) (-2)) (fun (σ_8 : Mem) => some σ_8))))))))
set_option maxHeartbeats 4000000 in
set_option maxRecDepth 100000 in
theorem c_X11_forget (g : XG) (l : Launch) (lo n : Nat) (σ : Mem) (p0 : Nat) (t0 : tp 11 lo n p0) (τ : Mem) (hf : f_X11_forget σ p0 = some τ) : Met l yX11_forget (wx (.code yX11_forget cX11_forget 1 none)) (kr 1 22) (va_Pc [.ref (bs g p0)] (WS g lo n σ)) (Qv' g lo n τ) 0 0 (Ag g lo) := by
  refine Met.ofW (cc := cX11_forget) (maxL := 1) (ret := none) (by decide) rfl ?_
  intro p e s m args below meth c s₁ B hml hv
  obtain ⟨rfl, hZ, hT, hW⟩ := hv
  have hx := B.exec
  have hb := B.bytes
  have hr := B.returns
  have hts : ∀ w ∈ wx (.code yX11_forget cX11_forget 1 none), w.before _ s = true := atoms_spec B.pre
  have htg : ∀ w ∈ lwg, w.before _ s = true := fun w h => hts w (List.mem_cons_of_mem _ h)
  have hown : s.vm.findClass RX11 = some m.cls := findClass_of_methodNamed B.named
  have hlocks := B.notSynchronized
  change W p l e (kr 1 22) s m (List.toArray [.ref (bs g p0)]) below meth c s.heap [] 0 0 (MQ below (Qv' g lo n τ) (List.toArray [.ref (bs g p0)]) s 0 0 (Ag g lo)) _
  generalize hQ : MQ below (Qv' g lo n τ) (List.toArray [.ref (bs g p0)]) s 0 0 (Ag g lo) = Q
  have hS : va_S (Ag g lo) s.heap s.heap [] := va_S.rf
  have hl := lv_entry ([.ref (bs g p0)]) (n := 1) (Nat.le_of_ble_eq_true rfl)
  rw [lg_entry_eq]
  generalize (lg_sl ([.ref (bs g p0)]) ++ List.replicate (1 - (lg_sl ([.ref (bs g p0)])).length) Slot.unset).toArray = ls at hl ⊢
  have hl : lv_has ls 1 [(0, .ref (bs g p0))] := hl
  delta f_X11_forget at hf
  obtain ⟨H, hH⟩ : ∃ H, H = s.heap := ⟨_, rfl⟩
  obtain ⟨locs, hLc⟩ : ∃ z : List Loc, z = [] := ⟨_, rfl⟩
  have hS : va_S (Ag g lo) s.heap H locs := by rw [hH, hLc]; exact hS
  have hW : Wd g lo n σ H := by rw [hH]; exact hW
  suffices hG : W p l e (kr 1 22) s m (List.toArray [.ref (bs g p0)]) below meth c H locs 0 0 Q (F0 m 0 ls []) by rw [hH, hLc] at hG; exact hG
  clear hH hLc
  refine lv_aload_n hx hb dX11_forget_0 rfl (lv_at hl 0 rfl) ?_
  refine lv_iconst (v := 0) hx hb dX11_forget_1 (by decide) ?_
  refine pf_11_0 hx hb htg (htg _ lf_X11_54) hown hZ hW hS t0 dX11_forget_2 hf (fun σ_1 H locs hf hW hS => ?_)
  refine lv_aload_n hx hb dX11_forget_5 rfl (lv_at hl 0 rfl) ?_
  refine lv_iconst (v := 0) hx hb dX11_forget_6 (by decide) ?_
  refine pf_11_1 hx hb htg (htg _ lf_X11_58) hown hZ hW hS t0 dX11_forget_7 hf (fun σ_2 H locs hf hW hS => ?_)
  refine lv_aload_n hx hb dX11_forget_10 rfl (lv_at hl 0 rfl) ?_
  refine lv_iconst (v := 0) hx hb dX11_forget_11 (by decide) ?_
  refine pf_11_2 hx hb htg (htg _ lf_X11_61) hown hZ hW hS t0 dX11_forget_12 hf (fun σ_3 H locs hf hW hS => ?_)
  refine lv_aload_n hx hb dX11_forget_15 rfl (lv_at hl 0 rfl) ?_
  refine lv_iconst (v := 0) hx hb dX11_forget_16 (by decide) ?_
  refine pf_11_3 hx hb htg (htg _ lf_X11_64) hown hZ hW hS t0 dX11_forget_17 hf (fun σ_4 H locs hf hW hS => ?_)
  refine lv_aload_n hx hb dX11_forget_20 rfl (lv_at hl 0 rfl) ?_
  refine gf_11_4 hx hb htg (htg _ lf_X11_13) hown hZ hW t0 dX11_forget_21 ?_
  refine lv_iconst (v := 0) hx hb dX11_forget_24 (by decide) ?_
  refine mcv hf hS (fun τ h => va_runSN (As := [.ref (bs g (p0 + 1)), .int 0]) (rest := []) ⟨hx, hb, hml, hown, hts⟩ (c_X12_fill g l lo n σ_4 (p0 + 1) 0 (t0.sub 20 1 so_11_20_1) τ h) (cl_X11_67 hts hZ ⟨Nat.le_of_ble_eq_true rfl, Nat.le_of_ble_eq_true rfl⟩) (mpS hZ hT hS hW _) rfl rfl hl.1 rfl (lv_room (Nat.le_of_ble_eq_true rfl)) dX11_forget_25 ⟨Nat.zero_le _, Nat.zero_le _⟩) (fun σ_5 H locs hf hW hS => ?_)
  refine lv_aload_n hx hb dX11_forget_28 rfl (lv_at hl 0 rfl) ?_
  refine gf_11_9 hx hb htg (htg _ lf_X11_36) hown hZ hW t0 dX11_forget_29 ?_
  refine lv_bipush (v := (-2)) hx hb dX11_forget_32 (by decide) ?_
  refine mcv hf hS (fun τ h => va_runSN (As := [.ref (bs g (p0 + 7)), .int (-2)]) (rest := []) ⟨hx, hb, hml, hown, hts⟩ (c_X12_fill g l lo n σ_5 (p0 + 7) (-2) (t0.sub 20 7 so_11_20_7) τ h) (cl_X11_67 hts hZ ⟨Nat.le_of_ble_eq_true rfl, Nat.le_of_ble_eq_true rfl⟩) (mpS hZ hT hS hW _) rfl rfl hl.1 rfl (lv_room (Nat.le_of_ble_eq_true rfl)) dX11_forget_34 ⟨Nat.zero_le _, Nat.zero_le _⟩) (fun σ_6 H locs hf hW hS => ?_)
  refine lv_aload_n hx hb dX11_forget_37 rfl (lv_at hl 0 rfl) ?_
  refine gf_11_12 hx hb htg (htg _ lf_X11_45) hown hZ hW t0 dX11_forget_38 ?_
  refine lv_bipush (v := (-2)) hx hb dX11_forget_41 (by decide) ?_
  refine mcv hf hS (fun τ h => va_runSN (As := [.ref (bs g (p0 + 10)), .int (-2)]) (rest := []) ⟨hx, hb, hml, hown, hts⟩ (c_X12_fill g l lo n σ_6 (p0 + 10) (-2) (t0.sub 20 10 so_11_20_10) τ h) (cl_X11_67 hts hZ ⟨Nat.le_of_ble_eq_true rfl, Nat.le_of_ble_eq_true rfl⟩) (mpS hZ hT hS hW _) rfl rfl hl.1 rfl (lv_room (Nat.le_of_ble_eq_true rfl)) dX11_forget_43 ⟨Nat.zero_le _, Nat.zero_le _⟩) (fun σ_7 H locs hf hW hS => ?_)
  refine lv_aload_n hx hb dX11_forget_46 rfl (lv_at hl 0 rfl) ?_
  refine gf_11_13 hx hb htg (htg _ lf_X11_48) hown hZ hW t0 dX11_forget_47 ?_
  refine lv_bipush (v := (-2)) hx hb dX11_forget_50 (by decide) ?_
  refine mcv hf hS (fun τ h => va_runSN (As := [.ref (bs g (p0 + 11)), .int (-2)]) (rest := []) ⟨hx, hb, hml, hown, hts⟩ (c_X12_fill g l lo n σ_7 (p0 + 11) (-2) (t0.sub 20 11 so_11_20_11) τ h) (cl_X11_67 hts hZ ⟨Nat.le_of_ble_eq_true rfl, Nat.le_of_ble_eq_true rfl⟩) (mpS hZ hT hS hW _) rfl rfl hl.1 rfl (lv_room (Nat.le_of_ble_eq_true rfl)) dX11_forget_52 ⟨Nat.zero_le _, Nat.zero_le _⟩) (fun σ_8 H locs hf hW hS => ?_)
  subst hQ
  exact mrv hx hb hr hlocks hZ hT hS hW (Option.some.inj hf) dX11_forget_55
def f_X10_sortAt (σ : Mem) (a1 : Int32) : Option (Int32) :=
  (if a1 < 0 then some 0 else (if (σ.1 1 2) ≤ a1 then some 0 else (if a1 < (nI (aln (1 + 1))) then ixd a1 (aln (1 + 1)) (nm (σ.1 (1 + 1) a1.toNatClampNeg) (fun (x_1 : Int32) => jn0 (jn0 ((if x_1 = 32 then some 1 else (if x_1 = 59 then some 4 else some 5))) (fun k_3 => (if x_1 < 48 then k_3 else (if 57 < x_1 then k_3 else some 3)))) (fun k_2 => (if x_1 < 97 then k_2 else (if 122 < x_1 then k_2 else some 2))))) else some 0)))
set_option maxHeartbeats 4000000 in
set_option maxRecDepth 100000 in
theorem c_X10_sortAt (g : XG) (l : Launch) (σ : Mem) (a1 : Int32) (r : Int32) (hf : f_X10_sortAt σ a1 = some r) : Met l yX10_sortAt (wx (.code yX10_sortAt cX10_sortAt 3 (some .int))) (kr 0 0) (va_Pc [.ref (bs g 1), .int a1] (WS g 0 81 σ)) (Qi' g 0 81 r σ) 0 0 (Ag g 0) := by
  refine Met.ofW (cc := cX10_sortAt) (maxL := 3) (ret := (some .int)) (by decide) rfl ?_
  intro p e s m args below meth c s₁ B hml hv
  obtain ⟨rfl, hZ, hT, hW⟩ := hv
  have hx := B.exec
  have hb := B.bytes
  have hr := B.returns
  have hts : ∀ w ∈ wx (.code yX10_sortAt cX10_sortAt 3 (some .int)), w.before _ s = true := atoms_spec B.pre
  have htg : ∀ w ∈ lwg, w.before _ s = true := fun w h => hts w (List.mem_cons_of_mem _ h)
  have hown : s.vm.findClass RX10 = some m.cls := findClass_of_methodNamed B.named
  have hlocks := B.notSynchronized
  change W p l e (kr 0 0) s m (List.toArray [.ref (bs g 1), .int a1]) below meth c s.heap [] 0 0 (MQ below (Qi' g 0 81 r σ) (List.toArray [.ref (bs g 1), .int a1]) s 0 0 (Ag g 0)) _
  generalize hQ : MQ below (Qi' g 0 81 r σ) (List.toArray [.ref (bs g 1), .int a1]) s 0 0 (Ag g 0) = Q
  have hS : va_S (Ag g 0) s.heap s.heap [] := va_S.rf
  have hl := lv_entry ([.ref (bs g 1), .int a1]) (n := 3) (Nat.le_of_ble_eq_true rfl)
  rw [lg_entry_eq]
  generalize (lg_sl ([.ref (bs g 1), .int a1]) ++ List.replicate (3 - (lg_sl ([.ref (bs g 1), .int a1])).length) Slot.unset).toArray = ls at hl ⊢
  have hl : lv_has ls 3 [(0, .ref (bs g 1)), (1, .int a1)] := hl
  delta f_X10_sortAt at hf
  obtain ⟨H, hH⟩ : ∃ H, H = s.heap := ⟨_, rfl⟩
  obtain ⟨locs, hLc⟩ : ∃ z : List Loc, z = [] := ⟨_, rfl⟩
  have hS : va_S (Ag g 0) s.heap H locs := by rw [hH, hLc]; exact hS
  have hW : Wd g 0 81 σ H := by rw [hH]; exact hW
  suffices hG : W p l e (kr 0 0) s m (List.toArray [.ref (bs g 1), .int a1]) below meth c H locs 0 0 Q (F0 m 0 ls []) by rw [hH, hLc] at hG; exact hG
  clear hH hLc
  refine lv_iload_n hx hb dX10_sortAt_0 rfl (lv_at hl 1 rfl) ?_
  refine lv_if_lt (tgt := 21) hx hb dX10_sortAt_1 (by decide) (fun hc => ?_) (fun hc => ?_)
  · have hf := ift hc hf
    refine lv_iconst (v := 0) hx hb dX10_sortAt_21 (by decide) ?_
    subst hQ
    exact mri hx hb hr hlocks hZ hT hS hW ⟨Option.some.inj hf, rfl⟩ dX10_sortAt_22
  · have hf := iff_ hc hf
    refine lv_iload_n hx hb dX10_sortAt_4 rfl (lv_at hl 1 rfl) ?_
    refine lv_aload_n hx hb dX10_sortAt_5 rfl (lv_at hl 0 rfl) ?_
    refine gf_10_2 hx hb htg (htg _ lf_X10_23) hown hZ hW tz_1 dX10_sortAt_6 ?_
    refine lv_icmp_ge (tgt := 21) hx hb dX10_sortAt_9 (by decide) (fun hc => ?_) (fun hc => ?_)
    · have hf := ift hc hf
      refine lv_iconst (v := 0) hx hb dX10_sortAt_21 (by decide) ?_
      subst hQ
      exact mri hx hb hr hlocks hZ hT hS hW ⟨Option.some.inj hf, rfl⟩ dX10_sortAt_22
    · have hf := iff_ hc hf
      refine lv_iload_n hx hb dX10_sortAt_12 rfl (lv_at hl 1 rfl) ?_
      refine lv_aload_n hx hb dX10_sortAt_13 rfl (lv_at hl 0 rfl) ?_
      refine gf_10_0 hx hb htg (htg _ lf_X10_11) hown hZ hW tz_1 dX10_sortAt_14 ?_
      refine mln_b hx hb hZ hW (tz_1.sub 21 1 so_10_21_1) dX10_sortAt_17 ?_
      refine lv_icmp_lt (tgt := 23) hx hb dX10_sortAt_18 (by decide) (fun hc => ?_) (fun hc => ?_)
      · have hf := ift hc hf
        refine lv_aload_n hx hb dX10_sortAt_23 rfl (lv_at hl 0 rfl) ?_
        refine gf_10_0 hx hb htg (htg _ lf_X10_11) hown hZ hW tz_1 dX10_sortAt_24 ?_
        refine lv_iload_n hx hb dX10_sortAt_27 rfl (lv_at hl 1 rfl) ?_
        refine mld_b hx hb hZ hW (tz_1.sub 21 1 so_10_21_1) hf dX10_sortAt_28 (fun hf => ?_)
        refine mnmi hf (fun (x_1 : Int32) hf => ?_)
        refine lv_istore_n (lv' := [(2, .int x_1), (0, .ref (bs g 1)), (1, .int a1)]) hx hb dX10_sortAt_29 rfl hl (by decide) rfl (fun ls hl => ?_)
        refine lv_iload_n hx hb dX10_sortAt_30 rfl (lv_at hl 0 rfl) ?_
        refine lv_bipush (v := 97) hx hb dX10_sortAt_31 (by decide) ?_
        refine jn0_W (∀ (H : Heap) (locs : List Loc) (ls : Array Slot), Wd g 0 81 σ H → va_S (Ag g 0) s.heap H locs → lv_has ls 3 [(2, .int x_1)] → W p l e (kr 0 0) s m (List.toArray [.ref (bs g 1), .int a1]) below meth c H locs 0 0 Q (F0 m 44 ls [])) hf (fun  hf => ?_) (fun k_2 hk_2 hf => ?_)
        · intro H locs ls hW hS hl
          refine lv_iload_n hx hb dX10_sortAt_44 rfl (lv_at hl 0 rfl) ?_
          refine lv_bipush (v := 48) hx hb dX10_sortAt_45 (by decide) ?_
          refine jn0_W (∀ (H : Heap) (locs : List Loc) (ls : Array Slot), Wd g 0 81 σ H → va_S (Ag g 0) s.heap H locs → lv_has ls 3 [(2, .int x_1)] → W p l e (kr 0 0) s m (List.toArray [.ref (bs g 1), .int a1]) below meth c H locs 0 0 Q (F0 m 58 ls [])) hf (fun  hf => ?_) (fun k_3 hk_3 hf => ?_)
          · intro H locs ls hW hS hl
            refine lv_iload_n hx hb dX10_sortAt_58 rfl (lv_at hl 0 rfl) ?_
            refine lv_bipush (v := 32) hx hb dX10_sortAt_59 (by decide) ?_
            refine lv_icmp_ne (tgt := 68) hx hb dX10_sortAt_61 (by decide) (fun hc => ?_) (fun hc => ?_)
            · have hf := iff_ hc hf
              refine lv_iload_n hx hb dX10_sortAt_68 rfl (lv_at hl 0 rfl) ?_
              refine lv_bipush (v := 59) hx hb dX10_sortAt_69 (by decide) ?_
              refine lv_icmp_ne (tgt := 78) hx hb dX10_sortAt_71 (by decide) (fun hc => ?_) (fun hc => ?_)
              · have hf := iff_ hc hf
                refine lv_iconst (v := 5) hx hb dX10_sortAt_78 (by decide) ?_
                subst hQ
                exact mri hx hb hr hlocks hZ hT hS hW ⟨Option.some.inj hf, rfl⟩ dX10_sortAt_79
              · have hf := ift hc hf
                refine lv_iconst (v := 4) hx hb dX10_sortAt_74 (by decide) ?_
                refine lv_goto (tgt := 79) hx hb dX10_sortAt_75 (by decide) ?_
                subst hQ
                exact mri hx hb hr hlocks hZ hT hS hW ⟨Option.some.inj hf, rfl⟩ dX10_sortAt_79
            · have hf := ift hc hf
              refine lv_iconst (v := 1) hx hb dX10_sortAt_64 (by decide) ?_
              refine lv_goto (tgt := 79) hx hb dX10_sortAt_65 (by decide) ?_
              subst hQ
              exact mri hx hb hr hlocks hZ hT hS hW ⟨Option.some.inj hf, rfl⟩ dX10_sortAt_79
          · refine lv_icmp_lt (tgt := 58) hx hb dX10_sortAt_47 (by decide) (fun hc => ?_) (fun hc => ?_)
            · have hf := ift hc hf
              exact hk_3  hf H locs ls hW hS (lv_sub hl [0] rfl)
            · have hf := iff_ hc hf
              refine lv_iload_n hx hb dX10_sortAt_50 rfl (lv_at hl 0 rfl) ?_
              refine lv_bipush (v := 57) hx hb dX10_sortAt_51 (by decide) ?_
              refine lv_icmp_gt (tgt := 58) hx hb dX10_sortAt_53 (by decide) (fun hc => ?_) (fun hc => ?_)
              · have hf := ift hc hf
                exact hk_3  hf H locs ls hW hS (lv_sub hl [0] rfl)
              · have hf := iff_ hc hf
                refine lv_iconst (v := 3) hx hb dX10_sortAt_56 (by decide) ?_
                subst hQ
                exact mri hx hb hr hlocks hZ hT hS hW ⟨Option.some.inj hf, rfl⟩ dX10_sortAt_57
        · refine lv_icmp_lt (tgt := 44) hx hb dX10_sortAt_33 (by decide) (fun hc => ?_) (fun hc => ?_)
          · have hf := ift hc hf
            exact hk_2  hf H locs ls hW hS (lv_sub hl [0] rfl)
          · have hf := iff_ hc hf
            refine lv_iload_n hx hb dX10_sortAt_36 rfl (lv_at hl 0 rfl) ?_
            refine lv_bipush (v := 122) hx hb dX10_sortAt_37 (by decide) ?_
            refine lv_icmp_gt (tgt := 44) hx hb dX10_sortAt_39 (by decide) (fun hc => ?_) (fun hc => ?_)
            · have hf := ift hc hf
              exact hk_2  hf H locs ls hW hS (lv_sub hl [0] rfl)
            · have hf := iff_ hc hf
              refine lv_iconst (v := 2) hx hb dX10_sortAt_42 (by decide) ?_
              subst hQ
              exact mri hx hb hr hlocks hZ hT hS hW ⟨Option.some.inj hf, rfl⟩ dX10_sortAt_43
      · have hf := iff_ hc hf
        refine lv_iconst (v := 0) hx hb dX10_sortAt_21 (by decide) ?_
        subst hQ
        exact mri hx hb hr hlocks hZ hT hS hW ⟨Option.some.inj hf, rfl⟩ dX10_sortAt_22
def f_X10_step (σ : Mem)  : Option (Mem) :=
  fx1 FU (fun k_2 (σ_1 : Mem) => jn0 (nm (sI σ_1 1 4 (σ_1.1 1 3)) (fun (σ_4 : Mem) => bd1 (f_X10_sortAt σ_4 (σ_4.1 1 4)) (fun (r_5 : Int32) => nm (sI σ_4 1 5 r_5) (fun (σ_6 : Mem) => jn1 (fun (i_7 : Int32) => nm (if (σ_6.1 1 2) < ((σ_6.1 1 4) + 1) then (σ_6.1 1 2) else ((σ_6.1 1 4) + 1)) (fun (x_9 : Int32) => nm (sI σ_6 1 3 x_9) (fun (σ_10 : Mem) => fx1 FU (fun k_12 (σ_11 : Mem) => jn0 ((if ((σ_11.1 1 3) - (σ_11.1 1 4)) ≤ i_7 then some σ_11 else nm (sI σ_11 1 5 5) (fun (σ_14 : Mem) => some σ_14))) (fun k_13 => (if (σ_11.1 1 2) ≤ (σ_11.1 1 3) then k_13 else (if i_7 ≤ 1 then k_13 else bd1 (f_X10_sortAt σ_11 (σ_11.1 1 3)) (fun (r_15 : Int32) => (if r_15 = (σ_11.1 1 5) then nm (sI σ_11 1 3 ((σ_11.1 1 3) + 1)) (fun (σ_16 : Mem) => k_12 σ_16) else k_13)))))) σ_10))) (fun k_8 => (if (σ_6.1 1 5) = 2 then k_8 8 else (if (σ_6.1 1 5) = 3 then k_8 3 else k_8 1))))))) (fun k_3 => (if (σ_1.1 1 2) ≤ (σ_1.1 1 3) then k_3 else bd1 (f_X10_sortAt σ_1 (σ_1.1 1 3)) (fun (r_17 : Int32) => (if r_17 = 1 then nm (sI σ_1 1 3 ((σ_1.1 1 3) + 1)) (fun (σ_18 : Mem) => k_2 σ_18) else k_3))))) σ
set_option maxHeartbeats 4000000 in
set_option maxRecDepth 100000 in
theorem c_X10_step (g : XG) (l : Launch) (σ : Mem) (τ : Mem) (hf : f_X10_step σ = some τ) : Met l yX10_step (wx (.code yX10_step cX10_step 2 none)) (kr 1 60) (va_Pc [.ref (bs g 1)] (WS g 0 81 σ)) (Qv' g 0 81 τ) 0 0 (Ag g 0) := by
  refine Met.ofW (cc := cX10_step) (maxL := 2) (ret := none) (by decide) rfl ?_
  intro p e s m args below meth c s₁ B hml hv
  obtain ⟨rfl, hZ, hT, hW⟩ := hv
  have hx := B.exec
  have hb := B.bytes
  have hr := B.returns
  have hts : ∀ w ∈ wx (.code yX10_step cX10_step 2 none), w.before _ s = true := atoms_spec B.pre
  have htg : ∀ w ∈ lwg, w.before _ s = true := fun w h => hts w (List.mem_cons_of_mem _ h)
  have hown : s.vm.findClass RX10 = some m.cls := findClass_of_methodNamed B.named
  have hlocks := B.notSynchronized
  change W p l e (kr 1 60) s m (List.toArray [.ref (bs g 1)]) below meth c s.heap [] 0 0 (MQ below (Qv' g 0 81 τ) (List.toArray [.ref (bs g 1)]) s 0 0 (Ag g 0)) _
  generalize hQ : MQ below (Qv' g 0 81 τ) (List.toArray [.ref (bs g 1)]) s 0 0 (Ag g 0) = Q
  have hS : va_S (Ag g 0) s.heap s.heap [] := va_S.rf
  have hl := lv_entry ([.ref (bs g 1)]) (n := 2) (Nat.le_of_ble_eq_true rfl)
  rw [lg_entry_eq]
  generalize (lg_sl ([.ref (bs g 1)]) ++ List.replicate (2 - (lg_sl ([.ref (bs g 1)])).length) Slot.unset).toArray = ls at hl ⊢
  have hl : lv_has ls 2 [(0, .ref (bs g 1))] := hl
  delta f_X10_step at hf
  obtain ⟨H, hH⟩ : ∃ H, H = s.heap := ⟨_, rfl⟩
  obtain ⟨locs, hLc⟩ : ∃ z : List Loc, z = [] := ⟨_, rfl⟩
  have hS : va_S (Ag g 0) s.heap H locs := by rw [hH, hLc]; exact hS
  have hW : Wd g 0 81 σ H := by rw [hH]; exact hW
  suffices hG : W p l e (kr 1 60) s m (List.toArray [.ref (bs g 1)]) below meth c H locs 0 0 Q (F0 m 0 ls []) by rw [hH, hLc] at hG; exact hG
  clear hH hLc
  refine fx1_W (fun (σ_1 : Mem) => ∀ (H : Heap) (locs : List Loc) (ls : Array Slot), Wd g 0 81 σ_1 H → va_S (Ag g 0) s.heap H locs → lv_has ls 2 [(0, .ref (bs g 1))] → W p l e (kr 1 60) s m (List.toArray [.ref (bs g 1)]) below meth c H locs 0 0 Q (F0 m 0 ls [])) (fun k_2 hk_2 σ_1 hf => ?_) FU σ hf H locs ls hW hS (lv_sub hl [0] rfl)
  intro H locs ls hW hS hl
  refine lv_aload_n hx hb dX10_step_0 rfl (lv_at hl 0 rfl) ?_
  refine gf_10_3 hx hb htg (htg _ lf_X10_26) hown hZ hW tz_1 dX10_step_1 ?_
  refine lv_aload_n hx hb dX10_step_4 rfl (lv_at hl 0 rfl) ?_
  refine gf_10_2 hx hb htg (htg _ lf_X10_23) hown hZ hW tz_1 dX10_step_5 ?_
  refine jn0_W (∀ (H : Heap) (locs : List Loc) (ls : Array Slot), Wd g 0 81 σ_1 H → va_S (Ag g 0) s.heap H locs → lv_has ls 2 [(0, .ref (bs g 1))] → W p l e (kr 1 60) s m (List.toArray [.ref (bs g 1)]) below meth c H locs 0 0 Q (F0 m 36 ls [])) hf (fun  hf => ?_) (fun k_3 hk_3 hf => ?_)
  · intro H locs ls hW hS hl
    refine lv_aload_n hx hb dX10_step_36 rfl (lv_at hl 0 rfl) ?_
    refine lv_aload_n hx hb dX10_step_37 rfl (lv_at hl 0 rfl) ?_
    refine gf_10_3 hx hb htg (htg _ lf_X10_26) hown hZ hW tz_1 dX10_step_38 ?_
    refine pf_10_4 hx hb htg (htg _ lf_X10_36) hown hZ hW hS tz_1 dX10_step_41 hf (fun σ_4 H locs hf hW hS => ?_)
    refine lv_aload_n hx hb dX10_step_44 rfl (lv_at hl 0 rfl) ?_
    refine lv_aload_n hx hb dX10_step_45 rfl (lv_at hl 0 rfl) ?_
    refine lv_aload_n hx hb dX10_step_46 rfl (lv_at hl 0 rfl) ?_
    refine gf_10_4 hx hb htg (htg _ lf_X10_36) hown hZ hW tz_1 dX10_step_47 ?_
    refine mcip hf hS (fun r h => va_runV (As := [.int (σ_4.1 1 4)]) (rest := [.ref (bs g 1)]) ⟨hx, hb, hml, hown, hts⟩ (c_X10_sortAt g l σ_4 (σ_4.1 1 4) r h) (cl_X10_32 hts ⟨Nat.le_of_ble_eq_true rfl, Nat.le_of_ble_eq_true rfl⟩) (mpV_10 hZ hT hS hW tz_1 _) rfl rfl hl.1 rfl (lv_room (Nat.le_of_ble_eq_true rfl)) dX10_step_50 ⟨Nat.zero_le _, Nat.zero_le _⟩) (fun r_5 H locs hf hW hS => ?_)
    refine pf_10_5 hx hb htg (htg _ lf_X10_39) hown hZ hW hS tz_1 dX10_step_53 hf (fun σ_6 H locs hf hW hS => ?_)
    refine lv_aload_n hx hb dX10_step_56 rfl (lv_at hl 0 rfl) ?_
    refine gf_10_5 hx hb htg (htg _ lf_X10_39) hown hZ hW tz_1 dX10_step_57 ?_
    refine lv_iconst (v := 2) hx hb dX10_step_60 (by decide) ?_
    refine jn1_W (fun (i_7 : Int32) => ∀ (H : Heap) (locs : List Loc) (ls : Array Slot), Wd g 0 81 σ_6 H → va_S (Ag g 0) s.heap H locs → lv_has ls 2 [(0, .ref (bs g 1))] → W p l e (kr 1 60) s m (List.toArray [.ref (bs g 1)]) below meth c H locs 0 0 Q (F0 m 82 ls [.int i_7])) hf (fun i_7 hf => ?_) (fun k_8 hk_8 hf => ?_)
    · intro H locs ls hW hS hl
      refine lv_istore_n (lv' := [(1, .int i_7), (0, .ref (bs g 1))]) hx hb dX10_step_82 rfl hl (by decide) rfl (fun ls hl => ?_)
      refine lv_aload_n hx hb dX10_step_83 rfl (lv_at hl 1 rfl) ?_
      refine lv_aload_n hx hb dX10_step_84 rfl (lv_at hl 1 rfl) ?_
      refine gf_10_4 hx hb htg (htg _ lf_X10_36) hown hZ hW tz_1 dX10_step_85 ?_
      refine lv_iconst (v := 1) hx hb dX10_step_88 (by decide) ?_
      refine lv_iadd hx hb dX10_step_89 ?_
      refine lv_aload_n hx hb dX10_step_90 rfl (lv_at hl 1 rfl) ?_
      refine gf_10_2 hx hb htg (htg _ lf_X10_23) hown hZ hW tz_1 dX10_step_91 ?_
      refine va_mmin hx hb (hml.trans hl.1.symm) hown (htg _ lm_X10_42) (htg _ lst_Math_min) (htg _ ini_Math) (htg _ lc_Math_min) (Nat.le_of_ble_eq_true rfl) (Nat.le_of_ble_eq_true rfl) (Nat.zero_le _) (Nat.zero_le _) dX10_step_94 ?_
      refine mnmi hf (fun (x_9 : Int32) hf => ?_)
      refine pf_10_3 hx hb htg (htg _ lf_X10_26) hown hZ hW hS tz_1 dX10_step_97 hf (fun σ_10 H locs hf hW hS => ?_)
      refine fx1_W (fun (σ_11 : Mem) => ∀ (H : Heap) (locs : List Loc) (ls : Array Slot), Wd g 0 81 σ_11 H → va_S (Ag g 0) s.heap H locs → lv_has ls 2 [(0, .ref (bs g 1)), (1, .int i_7)] → W p l e (kr 1 60) s m (List.toArray [.ref (bs g 1)]) below meth c H locs 0 0 Q (F0 m 100 ls [])) (fun k_12 hk_12 σ_11 hf => ?_) FU σ_10 hf H locs ls hW hS (lv_sub hl [1, 0] rfl)
      intro H locs ls hW hS hl
      refine lv_aload_n hx hb dX10_step_100 rfl (lv_at hl 0 rfl) ?_
      refine gf_10_3 hx hb htg (htg _ lf_X10_26) hown hZ hW tz_1 dX10_step_101 ?_
      refine lv_aload_n hx hb dX10_step_104 rfl (lv_at hl 0 rfl) ?_
      refine gf_10_2 hx hb htg (htg _ lf_X10_23) hown hZ hW tz_1 dX10_step_105 ?_
      refine jn0_W (∀ (H : Heap) (locs : List Loc) (ls : Array Slot), Wd g 0 81 σ_11 H → va_S (Ag g 0) s.heap H locs → lv_has ls 2 [(0, .ref (bs g 1)), (1, .int i_7)] → W p l e (kr 1 60) s m (List.toArray [.ref (bs g 1)]) below meth c H locs 0 0 Q (F0 m 144 ls [])) hf (fun  hf => ?_) (fun k_13 hk_13 hf => ?_)
      · intro H locs ls hW hS hl
        refine lv_aload_n hx hb dX10_step_144 rfl (lv_at hl 0 rfl) ?_
        refine gf_10_3 hx hb htg (htg _ lf_X10_26) hown hZ hW tz_1 dX10_step_145 ?_
        refine lv_aload_n hx hb dX10_step_148 rfl (lv_at hl 0 rfl) ?_
        refine gf_10_4 hx hb htg (htg _ lf_X10_36) hown hZ hW tz_1 dX10_step_149 ?_
        refine lv_isub hx hb dX10_step_152 ?_
        refine lv_iload_n hx hb dX10_step_153 rfl (lv_at hl 1 rfl) ?_
        refine lv_icmp_le (tgt := 162) hx hb dX10_step_154 (by decide) (fun hc => ?_) (fun hc => ?_)
        · have hf := ift hc hf
          subst hQ
          exact mrv hx hb hr hlocks hZ hT hS hW (Option.some.inj hf) dX10_step_162
        · have hf := iff_ hc hf
          refine lv_aload_n hx hb dX10_step_157 rfl (lv_at hl 0 rfl) ?_
          refine lv_iconst (v := 5) hx hb dX10_step_158 (by decide) ?_
          refine pf_10_5 hx hb htg (htg _ lf_X10_39) hown hZ hW hS tz_1 dX10_step_159 hf (fun σ_14 H locs hf hW hS => ?_)
          subst hQ
          exact mrv hx hb hr hlocks hZ hT hS hW (Option.some.inj hf) dX10_step_162
      · refine lv_icmp_ge (tgt := 144) hx hb dX10_step_108 (by decide) (fun hc => ?_) (fun hc => ?_)
        · have hf := ift hc hf
          exact hk_13  hf H locs ls hW hS (lv_sub hl [0, 1] rfl)
        · have hf := iff_ hc hf
          refine lv_iload_n hx hb dX10_step_111 rfl (lv_at hl 1 rfl) ?_
          refine lv_iconst (v := 1) hx hb dX10_step_112 (by decide) ?_
          refine lv_icmp_le (tgt := 144) hx hb dX10_step_113 (by decide) (fun hc => ?_) (fun hc => ?_)
          · have hf := ift hc hf
            exact hk_13  hf H locs ls hW hS (lv_sub hl [0, 1] rfl)
          · have hf := iff_ hc hf
            refine lv_aload_n hx hb dX10_step_116 rfl (lv_at hl 0 rfl) ?_
            refine lv_aload_n hx hb dX10_step_117 rfl (lv_at hl 0 rfl) ?_
            refine gf_10_3 hx hb htg (htg _ lf_X10_26) hown hZ hW tz_1 dX10_step_118 ?_
            refine mcip hf hS (fun r h => va_runV (As := [.int (σ_11.1 1 3)]) (rest := []) ⟨hx, hb, hml, hown, hts⟩ (c_X10_sortAt g l σ_11 (σ_11.1 1 3) r h) (cl_X10_32 hts ⟨Nat.le_of_ble_eq_true rfl, Nat.le_of_ble_eq_true rfl⟩) (mpV_10 hZ hT hS hW tz_1 _) rfl rfl hl.1 rfl (lv_room (Nat.le_of_ble_eq_true rfl)) dX10_step_121 ⟨Nat.zero_le _, Nat.zero_le _⟩) (fun r_15 H locs hf hW hS => ?_)
            refine lv_aload_n hx hb dX10_step_124 rfl (lv_at hl 0 rfl) ?_
            refine gf_10_5 hx hb htg (htg _ lf_X10_39) hown hZ hW tz_1 dX10_step_125 ?_
            refine lv_icmp_ne (tgt := 144) hx hb dX10_step_128 (by decide) (fun hc => ?_) (fun hc => ?_)
            · have hf := iff_ hc hf
              exact hk_13  hf H locs ls hW hS (lv_sub hl [0, 1] rfl)
            · have hf := ift hc hf
              refine lv_aload_n hx hb dX10_step_131 rfl (lv_at hl 0 rfl) ?_
              refine lv_dup hx hb dX10_step_132 rfl ?_
              refine gf_10_3 hx hb htg (htg _ lf_X10_26) hown hZ hW tz_1 dX10_step_133 ?_
              refine lv_iconst (v := 1) hx hb dX10_step_136 (by decide) ?_
              refine lv_iadd hx hb dX10_step_137 ?_
              refine pf_10_3 hx hb htg (htg _ lf_X10_26) hown hZ hW hS tz_1 dX10_step_138 hf (fun σ_16 H locs hf hW hS => ?_)
              refine lv_goto (tgt := 100) hx hb dX10_step_141 (by decide) ?_
              exact hk_12 σ_16 hf H locs ls hW hS (lv_sub hl [0, 1] rfl)
    · refine lv_icmp_ne (tgt := 69) hx hb dX10_step_61 (by decide) (fun hc => ?_) (fun hc => ?_)
      · have hf := iff_ hc hf
        refine lv_aload_n hx hb dX10_step_69 rfl (lv_at hl 0 rfl) ?_
        refine gf_10_5 hx hb htg (htg _ lf_X10_39) hown hZ hW tz_1 dX10_step_70 ?_
        refine lv_iconst (v := 3) hx hb dX10_step_73 (by decide) ?_
        refine lv_icmp_ne (tgt := 81) hx hb dX10_step_74 (by decide) (fun hc => ?_) (fun hc => ?_)
        · have hf := iff_ hc hf
          refine lv_iconst (v := 1) hx hb dX10_step_81 (by decide) ?_
          exact hk_8 1 hf H locs ls hW hS (lv_sub hl [0] rfl)
        · have hf := ift hc hf
          refine lv_iconst (v := 3) hx hb dX10_step_77 (by decide) ?_
          refine lv_goto (tgt := 82) hx hb dX10_step_78 (by decide) ?_
          exact hk_8 3 hf H locs ls hW hS (lv_sub hl [0] rfl)
      · have hf := ift hc hf
        refine lv_bipush (v := 8) hx hb dX10_step_64 (by decide) ?_
        refine lv_goto (tgt := 82) hx hb dX10_step_66 (by decide) ?_
        exact hk_8 8 hf H locs ls hW hS (lv_sub hl [0] rfl)
  · refine lv_icmp_ge (tgt := 36) hx hb dX10_step_8 (by decide) (fun hc => ?_) (fun hc => ?_)
    · have hf := ift hc hf
      exact hk_3  hf H locs ls hW hS (lv_sub hl [0] rfl)
    · have hf := iff_ hc hf
      refine lv_aload_n hx hb dX10_step_11 rfl (lv_at hl 0 rfl) ?_
      refine lv_aload_n hx hb dX10_step_12 rfl (lv_at hl 0 rfl) ?_
      refine gf_10_3 hx hb htg (htg _ lf_X10_26) hown hZ hW tz_1 dX10_step_13 ?_
      refine mcip hf hS (fun r h => va_runV (As := [.int (σ_1.1 1 3)]) (rest := []) ⟨hx, hb, hml, hown, hts⟩ (c_X10_sortAt g l σ_1 (σ_1.1 1 3) r h) (cl_X10_32 hts ⟨Nat.le_of_ble_eq_true rfl, Nat.le_of_ble_eq_true rfl⟩) (mpV_10 hZ hT hS hW tz_1 _) rfl rfl hl.1 rfl (lv_room (Nat.le_of_ble_eq_true rfl)) dX10_step_16 ⟨Nat.zero_le _, Nat.zero_le _⟩) (fun r_17 H locs hf hW hS => ?_)
      refine lv_iconst (v := 1) hx hb dX10_step_19 (by decide) ?_
      refine lv_icmp_ne (tgt := 36) hx hb dX10_step_20 (by decide) (fun hc => ?_) (fun hc => ?_)
      · have hf := iff_ hc hf
        exact hk_3  hf H locs ls hW hS (lv_sub hl [0] rfl)
      · have hf := ift hc hf
        refine lv_aload_n hx hb dX10_step_23 rfl (lv_at hl 0 rfl) ?_
        refine lv_dup hx hb dX10_step_24 rfl ?_
        refine gf_10_3 hx hb htg (htg _ lf_X10_26) hown hZ hW tz_1 dX10_step_25 ?_
        refine lv_iconst (v := 1) hx hb dX10_step_28 (by decide) ?_
        refine lv_iadd hx hb dX10_step_29 ?_
        refine pf_10_3 hx hb htg (htg _ lf_X10_26) hown hZ hW hS tz_1 dX10_step_30 hf (fun σ_18 H locs hf hW hS => ?_)
        refine lv_goto (tgt := 0) hx hb dX10_step_33 (by decide) ?_
        exact hk_2 σ_18 hf H locs ls hW hS (lv_sub hl [0] rfl)
def f_X10_begin (σ : Mem) (a1 : Int32) : Option (Mem) :=
  nm (sI σ 1 2 a1) (fun (σ_1 : Mem) => nm (sI σ_1 1 3 0) (fun (σ_2 : Mem) => bd1 (f_X10_step σ_2) (fun (σ_3 : Mem) => some σ_3)))
set_option maxHeartbeats 4000000 in
set_option maxRecDepth 100000 in
theorem c_X10_begin (g : XG) (l : Launch) (σ : Mem) (a1 : Int32) (τ : Mem) (hf : f_X10_begin σ a1 = some τ) : Met l yX10_begin (wx (.code yX10_begin cX10_begin 2 none)) (kr 2 81) (va_Pc [.ref (bs g 1), .int a1] (WS g 0 81 σ)) (Qv' g 0 81 τ) 0 0 (Ag g 0) := by
  refine Met.ofW (cc := cX10_begin) (maxL := 2) (ret := none) (by decide) rfl ?_
  intro p e s m args below meth c s₁ B hml hv
  obtain ⟨rfl, hZ, hT, hW⟩ := hv
  have hx := B.exec
  have hb := B.bytes
  have hr := B.returns
  have hts : ∀ w ∈ wx (.code yX10_begin cX10_begin 2 none), w.before _ s = true := atoms_spec B.pre
  have htg : ∀ w ∈ lwg, w.before _ s = true := fun w h => hts w (List.mem_cons_of_mem _ h)
  have hown : s.vm.findClass RX10 = some m.cls := findClass_of_methodNamed B.named
  have hlocks := B.notSynchronized
  change W p l e (kr 2 81) s m (List.toArray [.ref (bs g 1), .int a1]) below meth c s.heap [] 0 0 (MQ below (Qv' g 0 81 τ) (List.toArray [.ref (bs g 1), .int a1]) s 0 0 (Ag g 0)) _
  generalize hQ : MQ below (Qv' g 0 81 τ) (List.toArray [.ref (bs g 1), .int a1]) s 0 0 (Ag g 0) = Q
  have hS : va_S (Ag g 0) s.heap s.heap [] := va_S.rf
  have hl := lv_entry ([.ref (bs g 1), .int a1]) (n := 2) (Nat.le_of_ble_eq_true rfl)
  rw [lg_entry_eq]
  generalize (lg_sl ([.ref (bs g 1), .int a1]) ++ List.replicate (2 - (lg_sl ([.ref (bs g 1), .int a1])).length) Slot.unset).toArray = ls at hl ⊢
  have hl : lv_has ls 2 [(0, .ref (bs g 1)), (1, .int a1)] := hl
  delta f_X10_begin at hf
  obtain ⟨H, hH⟩ : ∃ H, H = s.heap := ⟨_, rfl⟩
  obtain ⟨locs, hLc⟩ : ∃ z : List Loc, z = [] := ⟨_, rfl⟩
  have hS : va_S (Ag g 0) s.heap H locs := by rw [hH, hLc]; exact hS
  have hW : Wd g 0 81 σ H := by rw [hH]; exact hW
  suffices hG : W p l e (kr 2 81) s m (List.toArray [.ref (bs g 1), .int a1]) below meth c H locs 0 0 Q (F0 m 0 ls []) by rw [hH, hLc] at hG; exact hG
  clear hH hLc
  refine lv_aload_n hx hb dX10_begin_0 rfl (lv_at hl 0 rfl) ?_
  refine lv_iload_n hx hb dX10_begin_1 rfl (lv_at hl 1 rfl) ?_
  refine pf_10_2 hx hb htg (htg _ lf_X10_23) hown hZ hW hS tz_1 dX10_begin_2 hf (fun σ_1 H locs hf hW hS => ?_)
  refine lv_aload_n hx hb dX10_begin_5 rfl (lv_at hl 0 rfl) ?_
  refine lv_iconst (v := 0) hx hb dX10_begin_6 (by decide) ?_
  refine pf_10_3 hx hb htg (htg _ lf_X10_26) hown hZ hW hS tz_1 dX10_begin_7 hf (fun σ_2 H locs hf hW hS => ?_)
  refine lv_aload_n hx hb dX10_begin_10 rfl (lv_at hl 0 rfl) ?_
  refine mcv hf hS (fun τ h => va_runV (As := []) (rest := []) ⟨hx, hb, hml, hown, hts⟩ (c_X10_step g l σ_2 τ h) (cl_X10_29 hts ⟨Nat.le_of_ble_eq_true rfl, Nat.le_of_ble_eq_true rfl⟩) (mpV_10 hZ hT hS hW tz_1 _) rfl rfl hl.1 rfl (lv_room (Nat.le_of_ble_eq_true rfl)) dX10_begin_11 ⟨Nat.zero_le _, Nat.zero_le _⟩) (fun σ_3 H locs hf hW hS => ?_)
  subst hQ
  exact mrv hx hb hr hlocks hZ hT hS hW (Option.some.inj hf) dX10_begin_14
def f_J0_coder_7d493 (s0 : Nat) : Option (Int32) :=
  some 0
set_option maxHeartbeats 4000000 in
set_option maxRecDepth 100000 in
theorem c_J0_coder_7d493 (g : XG) (l : Launch) (lo n : Nat) (σ : Mem) (s0 : Nat) (hs0 : s0 < 19) (r : Int32) (hf : f_J0_coder_7d493 s0 = some r) : Met l yJ0_coder_7d493 (wx (.code yJ0_coder_7d493 cJ0_coder_7d493 1 (some .byte))) (kr 0 0) (va_Pc [.ref (adS g s0)] (WS g lo n σ)) (Qi' g lo n r σ) 0 0 (Ag g lo) := by
  refine Met.ofW (cc := cJ0_coder_7d493) (maxL := 1) (ret := (some .byte)) (by decide) rfl ?_
  intro p e s m args below meth c s₁ B hml hv
  obtain ⟨rfl, hZ, hT, hW⟩ := hv
  have hx := B.exec
  have hb := B.bytes
  have hr := B.returns
  have hts : ∀ w ∈ wx (.code yJ0_coder_7d493 cJ0_coder_7d493 1 (some .byte)), w.before _ s = true := atoms_spec B.pre
  have htg : ∀ w ∈ lwg, w.before _ s = true := fun w h => hts w (List.mem_cons_of_mem _ h)
  have hown : s.vm.findClass RJ0 = some m.cls := findClass_of_methodNamed B.named
  have hlocks := B.notSynchronized
  change W p l e (kr 0 0) s m (List.toArray [.ref (adS g s0)]) below meth c s.heap [] 0 0 (MQ below (Qi' g lo n r σ) (List.toArray [.ref (adS g s0)]) s 0 0 (Ag g lo)) _
  generalize hQ : MQ below (Qi' g lo n r σ) (List.toArray [.ref (adS g s0)]) s 0 0 (Ag g lo) = Q
  have hS : va_S (Ag g lo) s.heap s.heap [] := va_S.rf
  have hl := lv_entry ([.ref (adS g s0)]) (n := 1) (Nat.le_of_ble_eq_true rfl)
  rw [lg_entry_eq]
  generalize (lg_sl ([.ref (adS g s0)]) ++ List.replicate (1 - (lg_sl ([.ref (adS g s0)])).length) Slot.unset).toArray = ls at hl ⊢
  have hl : lv_has ls 1 [(0, .ref (adS g s0))] := hl
  delta f_J0_coder_7d493 at hf
  obtain ⟨H, hH⟩ : ∃ H, H = s.heap := ⟨_, rfl⟩
  obtain ⟨locs, hLc⟩ : ∃ z : List Loc, z = [] := ⟨_, rfl⟩
  have hS : va_S (Ag g lo) s.heap H locs := by rw [hH, hLc]; exact hS
  have hW : Wd g lo n σ H := by rw [hH]; exact hW
  suffices hG : W p l e (kr 0 0) s m (List.toArray [.ref (adS g s0)]) below meth c H locs 0 0 Q (F0 m 0 ls []) by rw [hH, hLc] at hG; exact hG
  clear hH hLc
  refine va_gets hx hb (hT.2.2.2.2.1.narrow (fun q h => ag_a0 g lo q h)) hS hown (htg _ lf_J0_38) (fun _ h => h) dJ0_coder_7d493_0 ?_
  refine lv_if_eq (tgt := 13) hx hb dJ0_coder_7d493_3 (by decide) (fun hc => absurd hc (by decide)) (fun hc => ?_)
  refine lv_aload_n hx hb dJ0_coder_7d493_6 rfl (lv_at hl 0 rfl) ?_
  refine gSC hx hb (htg _ lf_J0_15) hown hT hS hs0 dJ0_coder_7d493_7 ?_
  refine lv_goto (tgt := 14) hx hb dJ0_coder_7d493_10 (by decide) ?_
  subst hQ
  exact mrz hx hb hr hlocks hZ hT hS hW (by decide) ⟨Option.some.inj hf, rfl⟩ dJ0_coder_7d493_14
def f_J0_length_8abf5 (s0 : Nat) : Option (Int32) :=
  bd1 (f_J0_coder_7d493 s0) (fun (r_1 : Int32) => some ((nI (strLen.getD s0 0)) >>> (r_1 &&& 31)))
set_option maxHeartbeats 4000000 in
set_option maxRecDepth 100000 in
theorem c_J0_length_8abf5 (g : XG) (l : Launch) (lo n : Nat) (σ : Mem) (s0 : Nat) (hs0 : s0 < 19) (r : Int32) (hf : f_J0_length_8abf5 s0 = some r) : Met l yJ0_length_8abf5 (wx (.code yJ0_length_8abf5 cJ0_length_8abf5 1 (some .int))) (kr 1 20) (va_Pc [.ref (adS g s0)] (WS g lo n σ)) (Qi' g lo n r σ) 0 0 (Ag g lo) := by
  refine Met.ofW (cc := cJ0_length_8abf5) (maxL := 1) (ret := (some .int)) (by decide) rfl ?_
  intro p e s m args below meth c s₁ B hml hv
  obtain ⟨rfl, hZ, hT, hW⟩ := hv
  have hx := B.exec
  have hb := B.bytes
  have hr := B.returns
  have hts : ∀ w ∈ wx (.code yJ0_length_8abf5 cJ0_length_8abf5 1 (some .int)), w.before _ s = true := atoms_spec B.pre
  have htg : ∀ w ∈ lwg, w.before _ s = true := fun w h => hts w (List.mem_cons_of_mem _ h)
  have hown : s.vm.findClass RJ0 = some m.cls := findClass_of_methodNamed B.named
  have hlocks := B.notSynchronized
  change W p l e (kr 1 20) s m (List.toArray [.ref (adS g s0)]) below meth c s.heap [] 0 0 (MQ below (Qi' g lo n r σ) (List.toArray [.ref (adS g s0)]) s 0 0 (Ag g lo)) _
  generalize hQ : MQ below (Qi' g lo n r σ) (List.toArray [.ref (adS g s0)]) s 0 0 (Ag g lo) = Q
  have hS : va_S (Ag g lo) s.heap s.heap [] := va_S.rf
  have hl := lv_entry ([.ref (adS g s0)]) (n := 1) (Nat.le_of_ble_eq_true rfl)
  rw [lg_entry_eq]
  generalize (lg_sl ([.ref (adS g s0)]) ++ List.replicate (1 - (lg_sl ([.ref (adS g s0)])).length) Slot.unset).toArray = ls at hl ⊢
  have hl : lv_has ls 1 [(0, .ref (adS g s0))] := hl
  delta f_J0_length_8abf5 at hf
  obtain ⟨H, hH⟩ : ∃ H, H = s.heap := ⟨_, rfl⟩
  obtain ⟨locs, hLc⟩ : ∃ z : List Loc, z = [] := ⟨_, rfl⟩
  have hS : va_S (Ag g lo) s.heap H locs := by rw [hH, hLc]; exact hS
  have hW : Wd g lo n σ H := by rw [hH]; exact hW
  suffices hG : W p l e (kr 1 20) s m (List.toArray [.ref (adS g s0)]) below meth c H locs 0 0 Q (F0 m 0 ls []) by rw [hH, hLc] at hG; exact hG
  clear hH hLc
  refine lv_aload_n hx hb dJ0_length_8abf5_0 rfl (lv_at hl 0 rfl) ?_
  refine gSV hx hb (htg _ lf_J0_9) hown hT hS hs0 dJ0_length_8abf5_1 ?_
  refine gSL hx hb hT hS hs0 dJ0_length_8abf5_4 ?_
  refine lv_aload_n hx hb dJ0_length_8abf5_5 rfl (lv_at hl 0 rfl) ?_
  refine mcip hf hS (fun r h => va_runV (As := []) (rest := [.int (nI (strLen.getD s0 0))]) ⟨hx, hb, hml, hown, hts⟩ (c_J0_coder_7d493 g l lo n σ s0 hs0 r h) (cl_J0_335 hts ⟨Nat.le_of_ble_eq_true rfl, Nat.le_of_ble_eq_true rfl⟩) (mpV_S hZ hT hS hW hs0 _) rfl rfl hl.1 rfl (lv_room (Nat.le_of_ble_eq_true rfl)) dJ0_length_8abf5_6 ⟨Nat.zero_le _, Nat.zero_le _⟩) (fun r_1 H locs hf hW hS => ?_)
  refine lv_ishr hx hb dJ0_length_8abf5_9 ?_
  subst hQ
  exact mri hx hb hr hlocks hZ hT hS hW ⟨Option.some.inj hf, rfl⟩ dJ0_length_8abf5_10
def f_X10_byteAt (σ : Mem) (a1 : Int32) : Option (Int32) :=
  jn0 (some 0) (fun k_1 => (if a1 < 0 then k_1 else (if (σ.1 1 2) ≤ a1 then k_1 else (if (nI (aln (1 + 1))) ≤ a1 then k_1 else ixd a1 (aln (1 + 1)) (some (σ.1 (1 + 1) a1.toNatClampNeg))))))
set_option maxHeartbeats 4000000 in
set_option maxRecDepth 100000 in
theorem c_X10_byteAt (g : XG) (l : Launch) (σ : Mem) (a1 : Int32) (r : Int32) (hf : f_X10_byteAt σ a1 = some r) : Met l yX10_byteAt (wx (.code yX10_byteAt cX10_byteAt 2 (some .int))) (kr 0 0) (va_Pc [.ref (bs g 1), .int a1] (WS g 0 81 σ)) (Qi' g 0 81 r σ) 0 0 (Ag g 0) := by
  refine Met.ofW (cc := cX10_byteAt) (maxL := 2) (ret := (some .int)) (by decide) rfl ?_
  intro p e s m args below meth c s₁ B hml hv
  obtain ⟨rfl, hZ, hT, hW⟩ := hv
  have hx := B.exec
  have hb := B.bytes
  have hr := B.returns
  have hts : ∀ w ∈ wx (.code yX10_byteAt cX10_byteAt 2 (some .int)), w.before _ s = true := atoms_spec B.pre
  have htg : ∀ w ∈ lwg, w.before _ s = true := fun w h => hts w (List.mem_cons_of_mem _ h)
  have hown : s.vm.findClass RX10 = some m.cls := findClass_of_methodNamed B.named
  have hlocks := B.notSynchronized
  change W p l e (kr 0 0) s m (List.toArray [.ref (bs g 1), .int a1]) below meth c s.heap [] 0 0 (MQ below (Qi' g 0 81 r σ) (List.toArray [.ref (bs g 1), .int a1]) s 0 0 (Ag g 0)) _
  generalize hQ : MQ below (Qi' g 0 81 r σ) (List.toArray [.ref (bs g 1), .int a1]) s 0 0 (Ag g 0) = Q
  have hS : va_S (Ag g 0) s.heap s.heap [] := va_S.rf
  have hl := lv_entry ([.ref (bs g 1), .int a1]) (n := 2) (Nat.le_of_ble_eq_true rfl)
  rw [lg_entry_eq]
  generalize (lg_sl ([.ref (bs g 1), .int a1]) ++ List.replicate (2 - (lg_sl ([.ref (bs g 1), .int a1])).length) Slot.unset).toArray = ls at hl ⊢
  have hl : lv_has ls 2 [(0, .ref (bs g 1)), (1, .int a1)] := hl
  delta f_X10_byteAt at hf
  obtain ⟨H, hH⟩ : ∃ H, H = s.heap := ⟨_, rfl⟩
  obtain ⟨locs, hLc⟩ : ∃ z : List Loc, z = [] := ⟨_, rfl⟩
  have hS : va_S (Ag g 0) s.heap H locs := by rw [hH, hLc]; exact hS
  have hW : Wd g 0 81 σ H := by rw [hH]; exact hW
  suffices hG : W p l e (kr 0 0) s m (List.toArray [.ref (bs g 1), .int a1]) below meth c H locs 0 0 Q (F0 m 0 ls []) by rw [hH, hLc] at hG; exact hG
  clear hH hLc
  refine lv_iload_n hx hb dX10_byteAt_0 rfl (lv_at hl 1 rfl) ?_
  refine jn0_W (∀ (H : Heap) (locs : List Loc) (ls : Array Slot), Wd g 0 81 σ H → va_S (Ag g 0) s.heap H locs → lv_has ls 2 [] → W p l e (kr 0 0) s m (List.toArray [.ref (bs g 1), .int a1]) below meth c H locs 0 0 Q (F0 m 30 ls [])) hf (fun  hf => ?_) (fun k_1 hk_1 hf => ?_)
  · intro H locs ls hW hS hl
    refine lv_iconst (v := 0) hx hb dX10_byteAt_30 (by decide) ?_
    subst hQ
    exact mri hx hb hr hlocks hZ hT hS hW ⟨Option.some.inj hf, rfl⟩ dX10_byteAt_31
  · refine lv_if_lt (tgt := 30) hx hb dX10_byteAt_1 (by decide) (fun hc => ?_) (fun hc => ?_)
    · have hf := ift hc hf
      exact hk_1  hf H locs ls hW hS (lv_sub hl [] rfl)
    · have hf := iff_ hc hf
      refine lv_iload_n hx hb dX10_byteAt_4 rfl (lv_at hl 1 rfl) ?_
      refine lv_aload_n hx hb dX10_byteAt_5 rfl (lv_at hl 0 rfl) ?_
      refine gf_10_2 hx hb htg (htg _ lf_X10_23) hown hZ hW tz_1 dX10_byteAt_6 ?_
      refine lv_icmp_ge (tgt := 30) hx hb dX10_byteAt_9 (by decide) (fun hc => ?_) (fun hc => ?_)
      · have hf := ift hc hf
        exact hk_1  hf H locs ls hW hS (lv_sub hl [] rfl)
      · have hf := iff_ hc hf
        refine lv_iload_n hx hb dX10_byteAt_12 rfl (lv_at hl 1 rfl) ?_
        refine lv_aload_n hx hb dX10_byteAt_13 rfl (lv_at hl 0 rfl) ?_
        refine gf_10_0 hx hb htg (htg _ lf_X10_11) hown hZ hW tz_1 dX10_byteAt_14 ?_
        refine mln_b hx hb hZ hW (tz_1.sub 21 1 so_10_21_1) dX10_byteAt_17 ?_
        refine lv_icmp_ge (tgt := 30) hx hb dX10_byteAt_18 (by decide) (fun hc => ?_) (fun hc => ?_)
        · have hf := ift hc hf
          exact hk_1  hf H locs ls hW hS (lv_sub hl [] rfl)
        · have hf := iff_ hc hf
          refine lv_aload_n hx hb dX10_byteAt_21 rfl (lv_at hl 0 rfl) ?_
          refine gf_10_0 hx hb htg (htg _ lf_X10_11) hown hZ hW tz_1 dX10_byteAt_22 ?_
          refine lv_iload_n hx hb dX10_byteAt_25 rfl (lv_at hl 1 rfl) ?_
          refine mld_b hx hb hZ hW (tz_1.sub 21 1 so_10_21_1) hf dX10_byteAt_26 (fun hf => ?_)
          refine lv_goto (tgt := 31) hx hb dX10_byteAt_27 (by decide) ?_
          subst hQ
          exact mri hx hb hr hlocks hZ hT hS hW ⟨Option.some.inj hf, rfl⟩ dX10_byteAt_31
def f_J0_isLatin1_aae02 (s0 : Nat) : Option (Int32) :=
  some 1
set_option maxHeartbeats 4000000 in
set_option maxRecDepth 100000 in
theorem c_J0_isLatin1_aae02 (g : XG) (l : Launch) (lo n : Nat) (σ : Mem) (s0 : Nat) (hs0 : s0 < 19) (r : Int32) (hf : f_J0_isLatin1_aae02 s0 = some r) : Met l yJ0_isLatin1_aae02 (wx (.code yJ0_isLatin1_aae02 cJ0_isLatin1_aae02 1 (some .boolean))) (kr 0 0) (va_Pc [.ref (adS g s0)] (WS g lo n σ)) (Qi' g lo n r σ) 0 0 (Ag g lo) := by
  refine Met.ofW (cc := cJ0_isLatin1_aae02) (maxL := 1) (ret := (some .boolean)) (by decide) rfl ?_
  intro p e s m args below meth c s₁ B hml hv
  obtain ⟨rfl, hZ, hT, hW⟩ := hv
  have hx := B.exec
  have hb := B.bytes
  have hr := B.returns
  have hts : ∀ w ∈ wx (.code yJ0_isLatin1_aae02 cJ0_isLatin1_aae02 1 (some .boolean)), w.before _ s = true := atoms_spec B.pre
  have htg : ∀ w ∈ lwg, w.before _ s = true := fun w h => hts w (List.mem_cons_of_mem _ h)
  have hown : s.vm.findClass RJ0 = some m.cls := findClass_of_methodNamed B.named
  have hlocks := B.notSynchronized
  change W p l e (kr 0 0) s m (List.toArray [.ref (adS g s0)]) below meth c s.heap [] 0 0 (MQ below (Qi' g lo n r σ) (List.toArray [.ref (adS g s0)]) s 0 0 (Ag g lo)) _
  generalize hQ : MQ below (Qi' g lo n r σ) (List.toArray [.ref (adS g s0)]) s 0 0 (Ag g lo) = Q
  have hS : va_S (Ag g lo) s.heap s.heap [] := va_S.rf
  have hl := lv_entry ([.ref (adS g s0)]) (n := 1) (Nat.le_of_ble_eq_true rfl)
  rw [lg_entry_eq]
  generalize (lg_sl ([.ref (adS g s0)]) ++ List.replicate (1 - (lg_sl ([.ref (adS g s0)])).length) Slot.unset).toArray = ls at hl ⊢
  have hl : lv_has ls 1 [(0, .ref (adS g s0))] := hl
  delta f_J0_isLatin1_aae02 at hf
  obtain ⟨H, hH⟩ : ∃ H, H = s.heap := ⟨_, rfl⟩
  obtain ⟨locs, hLc⟩ : ∃ z : List Loc, z = [] := ⟨_, rfl⟩
  have hS : va_S (Ag g lo) s.heap H locs := by rw [hH, hLc]; exact hS
  have hW : Wd g lo n σ H := by rw [hH]; exact hW
  suffices hG : W p l e (kr 0 0) s m (List.toArray [.ref (adS g s0)]) below meth c H locs 0 0 Q (F0 m 0 ls []) by rw [hH, hLc] at hG; exact hG
  clear hH hLc
  refine va_gets hx hb (hT.2.2.2.2.1.narrow (fun q h => ag_a0 g lo q h)) hS hown (htg _ lf_J0_38) (fun _ h => h) dJ0_isLatin1_aae02_0 ?_
  refine lv_if_eq (tgt := 17) hx hb dJ0_isLatin1_aae02_3 (by decide) (fun hc => absurd hc (by decide)) (fun hc => ?_)
  refine lv_aload_n hx hb dJ0_isLatin1_aae02_6 rfl (lv_at hl 0 rfl) ?_
  refine gSC hx hb (htg _ lf_J0_15) hown hT hS hs0 dJ0_isLatin1_aae02_7 ?_
  refine lv_if_ne (tgt := 17) hx hb dJ0_isLatin1_aae02_10 (by decide) (fun hc => absurd hc (by decide)) (fun hc => ?_)
  refine lv_iconst (v := 1) hx hb dJ0_isLatin1_aae02_13 (by decide) ?_
  refine lv_goto (tgt := 18) hx hb dJ0_isLatin1_aae02_14 (by decide) ?_
  subst hQ
  exact mrz hx hb hr hlocks hZ hT hS hW (by decide) ⟨Option.some.inj hf, rfl⟩ dJ0_isLatin1_aae02_18
def f_J3_checkIndex_8e157 (a0 : Int32) (a1 : Int32) : Option (Int32) :=
  (if a0 < 0 then none else (if a0 < a1 then some a0 else none))
set_option maxHeartbeats 4000000 in
set_option maxRecDepth 100000 in
theorem c_J3_checkIndex_8e157 (g : XG) (l : Launch) (lo n : Nat) (σ : Mem) (a0 : Int32) (a1 : Int32) (v2 : Value) (hv2 : v2 = .null ∨ ∃ t, v2 = .ref t) (r : Int32) (hf : f_J3_checkIndex_8e157 a0 a1 = some r) : Met l yJ3_checkIndex_8e157 (wx (.code yJ3_checkIndex_8e157 cJ3_checkIndex_8e157 3 (some .int))) (kr 0 0) (va_Pc [.int a0, .int a1, v2] (WS g lo n σ)) (Qi' g lo n r σ) 0 0 (Ag g lo) := by
  rcases hv2 with rfl | ⟨t2, rfl⟩
  · refine Met.ofW (cc := cJ3_checkIndex_8e157) (maxL := 3) (ret := (some .int)) (by decide) rfl ?_
    intro p e s m args below meth c s₁ B hml hv
    obtain ⟨rfl, hZ, hT, hW⟩ := hv
    have hx := B.exec
    have hb := B.bytes
    have hr := B.returns
    have hts : ∀ w ∈ wx (.code yJ3_checkIndex_8e157 cJ3_checkIndex_8e157 3 (some .int)), w.before _ s = true := atoms_spec B.pre
    have htg : ∀ w ∈ lwg, w.before _ s = true := fun w h => hts w (List.mem_cons_of_mem _ h)
    have hown : s.vm.findClass RJ3 = some m.cls := findClass_of_methodNamed B.named
    have hlocks := B.notSynchronized
    change W p l e (kr 0 0) s m (List.toArray [.int a0, .int a1, .null]) below meth c s.heap [] 0 0 (MQ below (Qi' g lo n r σ) (List.toArray [.int a0, .int a1, .null]) s 0 0 (Ag g lo)) _
    generalize hQ : MQ below (Qi' g lo n r σ) (List.toArray [.int a0, .int a1, .null]) s 0 0 (Ag g lo) = Q
    have hS : va_S (Ag g lo) s.heap s.heap [] := va_S.rf
    have hl := lv_entry ([.int a0, .int a1, .null]) (n := 3) (Nat.le_of_ble_eq_true rfl)
    rw [lg_entry_eq]
    generalize (lg_sl ([.int a0, .int a1, .null]) ++ List.replicate (3 - (lg_sl ([.int a0, .int a1, .null])).length) Slot.unset).toArray = ls at hl ⊢
    have hl : lv_has ls 3 [(0, .int a0), (1, .int a1), (2, .null)] := hl
    delta f_J3_checkIndex_8e157 at hf
    obtain ⟨H, hH⟩ : ∃ H, H = s.heap := ⟨_, rfl⟩
    obtain ⟨locs, hLc⟩ : ∃ z : List Loc, z = [] := ⟨_, rfl⟩
    have hS : va_S (Ag g lo) s.heap H locs := by rw [hH, hLc]; exact hS
    have hW : Wd g lo n σ H := by rw [hH]; exact hW
    suffices hG : W p l e (kr 0 0) s m (List.toArray [.int a0, .int a1, .null]) below meth c H locs 0 0 Q (F0 m 0 ls []) by rw [hH, hLc] at hG; exact hG
    clear hH hLc
    refine lv_iload_n hx hb dJ3_checkIndex_8e157_0 rfl (lv_at hl 0 rfl) ?_
    refine lv_if_lt (tgt := 9) hx hb dJ3_checkIndex_8e157_1 (by decide) (fun hc => ?_) (fun hc => ?_)
    · have hf := ift hc hf
      cases hf
    · have hf := iff_ hc hf
      refine lv_iload_n hx hb dJ3_checkIndex_8e157_4 rfl (lv_at hl 0 rfl) ?_
      refine lv_iload_n hx hb dJ3_checkIndex_8e157_5 rfl (lv_at hl 1 rfl) ?_
      refine lv_icmp_lt (tgt := 16) hx hb dJ3_checkIndex_8e157_6 (by decide) (fun hc => ?_) (fun hc => ?_)
      · have hf := ift hc hf
        refine lv_iload_n hx hb dJ3_checkIndex_8e157_16 rfl (lv_at hl 0 rfl) ?_
        subst hQ
        exact mri hx hb hr hlocks hZ hT hS hW ⟨Option.some.inj hf, rfl⟩ dJ3_checkIndex_8e157_17
      · have hf := iff_ hc hf
        cases hf
  · refine Met.ofW (cc := cJ3_checkIndex_8e157) (maxL := 3) (ret := (some .int)) (by decide) rfl ?_
    intro p e s m args below meth c s₁ B hml hv
    obtain ⟨rfl, hZ, hT, hW⟩ := hv
    have hx := B.exec
    have hb := B.bytes
    have hr := B.returns
    have hts : ∀ w ∈ wx (.code yJ3_checkIndex_8e157 cJ3_checkIndex_8e157 3 (some .int)), w.before _ s = true := atoms_spec B.pre
    have htg : ∀ w ∈ lwg, w.before _ s = true := fun w h => hts w (List.mem_cons_of_mem _ h)
    have hown : s.vm.findClass RJ3 = some m.cls := findClass_of_methodNamed B.named
    have hlocks := B.notSynchronized
    change W p l e (kr 0 0) s m (List.toArray [.int a0, .int a1, .ref t2]) below meth c s.heap [] 0 0 (MQ below (Qi' g lo n r σ) (List.toArray [.int a0, .int a1, .ref t2]) s 0 0 (Ag g lo)) _
    generalize hQ : MQ below (Qi' g lo n r σ) (List.toArray [.int a0, .int a1, .ref t2]) s 0 0 (Ag g lo) = Q
    have hS : va_S (Ag g lo) s.heap s.heap [] := va_S.rf
    have hl := lv_entry ([.int a0, .int a1, .ref t2]) (n := 3) (Nat.le_of_ble_eq_true rfl)
    rw [lg_entry_eq]
    generalize (lg_sl ([.int a0, .int a1, .ref t2]) ++ List.replicate (3 - (lg_sl ([.int a0, .int a1, .ref t2])).length) Slot.unset).toArray = ls at hl ⊢
    have hl : lv_has ls 3 [(0, .int a0), (1, .int a1), (2, .ref t2)] := hl
    delta f_J3_checkIndex_8e157 at hf
    obtain ⟨H, hH⟩ : ∃ H, H = s.heap := ⟨_, rfl⟩
    obtain ⟨locs, hLc⟩ : ∃ z : List Loc, z = [] := ⟨_, rfl⟩
    have hS : va_S (Ag g lo) s.heap H locs := by rw [hH, hLc]; exact hS
    have hW : Wd g lo n σ H := by rw [hH]; exact hW
    suffices hG : W p l e (kr 0 0) s m (List.toArray [.int a0, .int a1, .ref t2]) below meth c H locs 0 0 Q (F0 m 0 ls []) by rw [hH, hLc] at hG; exact hG
    clear hH hLc
    refine lv_iload_n hx hb dJ3_checkIndex_8e157_0 rfl (lv_at hl 0 rfl) ?_
    refine lv_if_lt (tgt := 9) hx hb dJ3_checkIndex_8e157_1 (by decide) (fun hc => ?_) (fun hc => ?_)
    · have hf := ift hc hf
      cases hf
    · have hf := iff_ hc hf
      refine lv_iload_n hx hb dJ3_checkIndex_8e157_4 rfl (lv_at hl 0 rfl) ?_
      refine lv_iload_n hx hb dJ3_checkIndex_8e157_5 rfl (lv_at hl 1 rfl) ?_
      refine lv_icmp_lt (tgt := 16) hx hb dJ3_checkIndex_8e157_6 (by decide) (fun hc => ?_) (fun hc => ?_)
      · have hf := ift hc hf
        refine lv_iload_n hx hb dJ3_checkIndex_8e157_16 rfl (lv_at hl 0 rfl) ?_
        subst hQ
        exact mri hx hb hr hlocks hZ hT hS hW ⟨Option.some.inj hf, rfl⟩ dJ3_checkIndex_8e157_17
      · have hf := iff_ hc hf
        cases hf
def f_J0_checkIndex_df160 (a0 : Int32) (a1 : Int32) : Option (Unit) :=
  bd1 (f_J3_checkIndex_8e157 a0 a1) (fun (r_2 : Int32) => some ())
set_option maxHeartbeats 4000000 in
set_option maxRecDepth 100000 in
theorem c_J0_checkIndex_df160 (g : XG) (l : Launch) (lo n : Nat) (σ : Mem) (a0 : Int32) (a1 : Int32) (hf : f_J0_checkIndex_df160 a0 a1 = some ()) : Met l yJ0_checkIndex_df160 (wx (.code yJ0_checkIndex_df160 cJ0_checkIndex_df160 2 none)) (kr 1 22) (va_Pc [.int a0, .int a1] (WS g lo n σ)) (Qv' g lo n σ) 0 0 (Ag g lo) := by
  refine Met.ofW (cc := cJ0_checkIndex_df160) (maxL := 2) (ret := none) (by decide) rfl ?_
  intro p e s m args below meth c s₁ B hml hv
  obtain ⟨rfl, hZ, hT, hW⟩ := hv
  have hx := B.exec
  have hb := B.bytes
  have hr := B.returns
  have hts : ∀ w ∈ wx (.code yJ0_checkIndex_df160 cJ0_checkIndex_df160 2 none), w.before _ s = true := atoms_spec B.pre
  have htg : ∀ w ∈ lwg, w.before _ s = true := fun w h => hts w (List.mem_cons_of_mem _ h)
  have hown : s.vm.findClass RJ0 = some m.cls := findClass_of_methodNamed B.named
  have hlocks := B.notSynchronized
  change W p l e (kr 1 22) s m (List.toArray [.int a0, .int a1]) below meth c s.heap [] 0 0 (MQ below (Qv' g lo n σ) (List.toArray [.int a0, .int a1]) s 0 0 (Ag g lo)) _
  generalize hQ : MQ below (Qv' g lo n σ) (List.toArray [.int a0, .int a1]) s 0 0 (Ag g lo) = Q
  have hS : va_S (Ag g lo) s.heap s.heap [] := va_S.rf
  have hl := lv_entry ([.int a0, .int a1]) (n := 2) (Nat.le_of_ble_eq_true rfl)
  rw [lg_entry_eq]
  generalize (lg_sl ([.int a0, .int a1]) ++ List.replicate (2 - (lg_sl ([.int a0, .int a1])).length) Slot.unset).toArray = ls at hl ⊢
  have hl : lv_has ls 2 [(0, .int a0), (1, .int a1)] := hl
  delta f_J0_checkIndex_df160 at hf
  obtain ⟨H, hH⟩ : ∃ H, H = s.heap := ⟨_, rfl⟩
  obtain ⟨locs, hLc⟩ : ∃ z : List Loc, z = [] := ⟨_, rfl⟩
  have hS : va_S (Ag g lo) s.heap H locs := by rw [hH, hLc]; exact hS
  have hW : Wd g lo n σ H := by rw [hH]; exact hW
  suffices hG : W p l e (kr 1 22) s m (List.toArray [.int a0, .int a1]) below meth c H locs 0 0 Q (F0 m 0 ls []) by rw [hH, hLc] at hG; exact hG
  clear hH hLc
  refine lv_iload_n hx hb dJ0_checkIndex_df160_0 rfl (lv_at hl 0 rfl) ?_
  refine lv_iload_n hx hb dJ0_checkIndex_df160_1 rfl (lv_at hl 1 rfl) ?_
  refine gSF hx hb (htg _ lf_J0_1053) hown hT hS dJ0_checkIndex_df160_2 (fun v_1 hv_1 => ?_)
  refine mcip hf hS (fun r h => va_runS (As := [.int a0, .int a1, v_1]) (rest := []) ⟨hx, hb, hml, hown, hts⟩ (c_J3_checkIndex_8e157 g l lo n σ a0 a1 v_1 hv_1 r h) (cl_J0_1059 hts ⟨Nat.le_of_ble_eq_true rfl, Nat.le_of_ble_eq_true rfl⟩) (mpS hZ hT hS hW _) rfl rfl hl.1 rfl (lv_room (Nat.le_of_ble_eq_true rfl)) dJ0_checkIndex_df160_5 ⟨Nat.zero_le _, Nat.zero_le _⟩) (fun r_2 H locs hf hW hS => ?_)
  refine lv_pop hx hb dJ0_checkIndex_df160_8 rfl ?_
  subst hQ
  exact mrv hx hb hr hlocks hZ hT hS hW rfl dJ0_checkIndex_df160_9
def f_J1_charAt_3b067 (s0 : Nat) (a1 : Int32) : Option (Int32) :=
  bd1 (f_J0_checkIndex_df160 a1 (nI (strLen.getD s0 0))) (fun (_ : Unit) => ixd a1 (strLen.getD s0 0) (some (((((strB.getD s0 []).getD a1.toNatClampNeg 0) &&& 255).toUInt32 % 65536).toInt32)))
set_option maxHeartbeats 4000000 in
set_option maxRecDepth 100000 in
theorem c_J1_charAt_3b067 (g : XG) (l : Launch) (lo n : Nat) (σ : Mem) (s0 : Nat) (a1 : Int32) (hs0 : s0 < 19) (r : Int32) (hf : f_J1_charAt_3b067 s0 a1 = some r) : Met l yJ1_charAt_3b067 (wx (.code yJ1_charAt_3b067 cJ1_charAt_3b067 2 (some .char))) (kr 2 43) (va_Pc [.ref (adV g s0), .int a1] (WS g lo n σ)) (Qi' g lo n r σ) 0 0 (Ag g lo) := by
  refine Met.ofW (cc := cJ1_charAt_3b067) (maxL := 2) (ret := (some .char)) (by decide) rfl ?_
  intro p e s m args below meth c s₁ B hml hv
  obtain ⟨rfl, hZ, hT, hW⟩ := hv
  have hx := B.exec
  have hb := B.bytes
  have hr := B.returns
  have hts : ∀ w ∈ wx (.code yJ1_charAt_3b067 cJ1_charAt_3b067 2 (some .char)), w.before _ s = true := atoms_spec B.pre
  have htg : ∀ w ∈ lwg, w.before _ s = true := fun w h => hts w (List.mem_cons_of_mem _ h)
  have hown : s.vm.findClass RJ1 = some m.cls := findClass_of_methodNamed B.named
  have hlocks := B.notSynchronized
  change W p l e (kr 2 43) s m (List.toArray [.ref (adV g s0), .int a1]) below meth c s.heap [] 0 0 (MQ below (Qi' g lo n r σ) (List.toArray [.ref (adV g s0), .int a1]) s 0 0 (Ag g lo)) _
  generalize hQ : MQ below (Qi' g lo n r σ) (List.toArray [.ref (adV g s0), .int a1]) s 0 0 (Ag g lo) = Q
  have hS : va_S (Ag g lo) s.heap s.heap [] := va_S.rf
  have hl := lv_entry ([.ref (adV g s0), .int a1]) (n := 2) (Nat.le_of_ble_eq_true rfl)
  rw [lg_entry_eq]
  generalize (lg_sl ([.ref (adV g s0), .int a1]) ++ List.replicate (2 - (lg_sl ([.ref (adV g s0), .int a1])).length) Slot.unset).toArray = ls at hl ⊢
  have hl : lv_has ls 2 [(0, .ref (adV g s0)), (1, .int a1)] := hl
  delta f_J1_charAt_3b067 at hf
  obtain ⟨H, hH⟩ : ∃ H, H = s.heap := ⟨_, rfl⟩
  obtain ⟨locs, hLc⟩ : ∃ z : List Loc, z = [] := ⟨_, rfl⟩
  have hS : va_S (Ag g lo) s.heap H locs := by rw [hH, hLc]; exact hS
  have hW : Wd g lo n σ H := by rw [hH]; exact hW
  suffices hG : W p l e (kr 2 43) s m (List.toArray [.ref (adV g s0), .int a1]) below meth c H locs 0 0 Q (F0 m 0 ls []) by rw [hH, hLc] at hG; exact hG
  clear hH hLc
  refine lv_iload_n hx hb dJ1_charAt_3b067_0 rfl (lv_at hl 1 rfl) ?_
  refine lv_aload_n hx hb dJ1_charAt_3b067_1 rfl (lv_at hl 0 rfl) ?_
  refine gSL hx hb hT hS hs0 dJ1_charAt_3b067_2 ?_
  refine mcvp hf hS (fun h => va_runS (As := [.int a1, .int (nI (strLen.getD s0 0))]) (rest := []) ⟨hx, hb, hml, hown, hts⟩ (c_J0_checkIndex_df160 g l lo n σ a1 (nI (strLen.getD s0 0)) h) (cl_J1_9 hts ⟨Nat.le_of_ble_eq_true rfl, Nat.le_of_ble_eq_true rfl⟩) (mpS hZ hT hS hW _) rfl rfl hl.1 rfl (lv_room (Nat.le_of_ble_eq_true rfl)) dJ1_charAt_3b067_3 ⟨Nat.zero_le _, Nat.zero_le _⟩) (fun H locs hf hW hS => ?_)
  refine lv_aload_n hx hb dJ1_charAt_3b067_6 rfl (lv_at hl 0 rfl) ?_
  refine lv_iload_n hx hb dJ1_charAt_3b067_7 rfl (lv_at hl 1 rfl) ?_
  refine gSB hx hb hT hS hs0 hf dJ1_charAt_3b067_8 (fun hf => ?_)
  refine lv_sipush (v := 255) hx hb dJ1_charAt_3b067_9 (by decide) ?_
  refine lv_iand hx hb dJ1_charAt_3b067_12 ?_
  refine lv_i2c (v := ((((strB.getD s0 []).getD a1.toNatClampNeg 0) &&& 255).toUInt32 % 65536).toInt32) hx hb dJ1_charAt_3b067_13 rfl ?_
  subst hQ
  exact mrz hx hb hr hlocks hZ hT hS hW (pk_nc _) ⟨Option.some.inj hf, rfl⟩ dJ1_charAt_3b067_14
def f_J0_charAt_5068e (s0 : Nat) (a1 : Int32) : Option (Int32) :=
  bd1 (f_J0_isLatin1_aae02 s0) (fun (r_1 : Int32) => (if r_1 = 0 then none else bd1 (f_J1_charAt_3b067 s0 a1) (fun (r_2 : Int32) => zrc r_2)))
set_option maxHeartbeats 4000000 in
set_option maxRecDepth 100000 in
theorem c_J0_charAt_5068e (g : XG) (l : Launch) (lo n : Nat) (σ : Mem) (s0 : Nat) (a1 : Int32) (hs0 : s0 < 19) (r : Int32) (hf : f_J0_charAt_5068e s0 a1 = some r) : Met l yJ0_charAt_5068e (wx (.code yJ0_charAt_5068e cJ0_charAt_5068e 2 (some .char))) (kr 3 64) (va_Pc [.ref (adS g s0), .int a1] (WS g lo n σ)) (Qi' g lo n r σ) 0 0 (Ag g lo) := by
  refine Met.ofW (cc := cJ0_charAt_5068e) (maxL := 2) (ret := (some .char)) (by decide) rfl ?_
  intro p e s m args below meth c s₁ B hml hv
  obtain ⟨rfl, hZ, hT, hW⟩ := hv
  have hx := B.exec
  have hb := B.bytes
  have hr := B.returns
  have hts : ∀ w ∈ wx (.code yJ0_charAt_5068e cJ0_charAt_5068e 2 (some .char)), w.before _ s = true := atoms_spec B.pre
  have htg : ∀ w ∈ lwg, w.before _ s = true := fun w h => hts w (List.mem_cons_of_mem _ h)
  have hown : s.vm.findClass RJ0 = some m.cls := findClass_of_methodNamed B.named
  have hlocks := B.notSynchronized
  change W p l e (kr 3 64) s m (List.toArray [.ref (adS g s0), .int a1]) below meth c s.heap [] 0 0 (MQ below (Qi' g lo n r σ) (List.toArray [.ref (adS g s0), .int a1]) s 0 0 (Ag g lo)) _
  generalize hQ : MQ below (Qi' g lo n r σ) (List.toArray [.ref (adS g s0), .int a1]) s 0 0 (Ag g lo) = Q
  have hS : va_S (Ag g lo) s.heap s.heap [] := va_S.rf
  have hl := lv_entry ([.ref (adS g s0), .int a1]) (n := 2) (Nat.le_of_ble_eq_true rfl)
  rw [lg_entry_eq]
  generalize (lg_sl ([.ref (adS g s0), .int a1]) ++ List.replicate (2 - (lg_sl ([.ref (adS g s0), .int a1])).length) Slot.unset).toArray = ls at hl ⊢
  have hl : lv_has ls 2 [(0, .ref (adS g s0)), (1, .int a1)] := hl
  delta f_J0_charAt_5068e at hf
  obtain ⟨H, hH⟩ : ∃ H, H = s.heap := ⟨_, rfl⟩
  obtain ⟨locs, hLc⟩ : ∃ z : List Loc, z = [] := ⟨_, rfl⟩
  have hS : va_S (Ag g lo) s.heap H locs := by rw [hH, hLc]; exact hS
  have hW : Wd g lo n σ H := by rw [hH]; exact hW
  suffices hG : W p l e (kr 3 64) s m (List.toArray [.ref (adS g s0), .int a1]) below meth c H locs 0 0 Q (F0 m 0 ls []) by rw [hH, hLc] at hG; exact hG
  clear hH hLc
  refine lv_aload_n hx hb dJ0_charAt_5068e_0 rfl (lv_at hl 0 rfl) ?_
  refine mcip hf hS (fun r h => va_runV (As := []) (rest := []) ⟨hx, hb, hml, hown, hts⟩ (c_J0_isLatin1_aae02 g l lo n σ s0 hs0 r h) (cl_J0_492 hts ⟨Nat.le_of_ble_eq_true rfl, Nat.le_of_ble_eq_true rfl⟩) (mpV_S hZ hT hS hW hs0 _) rfl rfl hl.1 rfl (lv_room (Nat.le_of_ble_eq_true rfl)) dJ0_charAt_5068e_1 ⟨Nat.zero_le _, Nat.zero_le _⟩) (fun r_1 H locs hf hW hS => ?_)
  refine lv_if_eq (tgt := 16) hx hb dJ0_charAt_5068e_4 (by decide) (fun hc => ?_) (fun hc => ?_)
  · have hf := ift hc hf
    cases hf
  · have hf := iff_ hc hf
    refine lv_aload_n hx hb dJ0_charAt_5068e_7 rfl (lv_at hl 0 rfl) ?_
    refine gSV hx hb (htg _ lf_J0_9) hown hT hS hs0 dJ0_charAt_5068e_8 ?_
    refine lv_iload_n hx hb dJ0_charAt_5068e_11 rfl (lv_at hl 1 rfl) ?_
    refine mcip hf hS (fun r h => va_runS (As := [.ref (adV g s0), .int a1]) (rest := []) ⟨hx, hb, hml, hown, hts⟩ (c_J1_charAt_3b067 g l lo n σ s0 a1 hs0 r h) (cl_J0_495 hts ⟨Nat.le_of_ble_eq_true rfl, Nat.le_of_ble_eq_true rfl⟩) (mpS hZ hT hS hW _) rfl rfl hl.1 rfl (lv_room (Nat.le_of_ble_eq_true rfl)) dJ0_charAt_5068e_12 ⟨Nat.zero_le _, Nat.zero_le _⟩) (fun r_2 H locs hf hW hS => ?_)
    subst hQ
    exact mrz hx hb hr hlocks hZ hT hS hW (zrc_s hf).1 ⟨(zrc_s hf).2, rfl⟩ dJ0_charAt_5068e_15
def f_X10_is (σ : Mem) (s1 : Nat) : Option (Int32) :=
  (if (σ.1 1 5) = 2 then bd1 (f_J0_length_8abf5 s1) (fun (r_1 : Int32) => (if ((σ.1 1 3) - (σ.1 1 4)) = r_1 then fx1 FU (fun k_3 (i_2 : Int32) => bd1 (f_J0_length_8abf5 s1) (fun (r_4 : Int32) => (if r_4 ≤ i_2 then some 1 else bd1 (f_X10_byteAt σ ((σ.1 1 4) + i_2)) (fun (r_5 : Int32) => bd1 (f_J0_charAt_5068e s1 i_2) (fun (r_6 : Int32) => (if r_5 = r_6 then nm (i_2 + 1) (fun (x_7 : Int32) => k_3 x_7) else some 0)))))) 0 else some 0)) else some 0)
set_option maxHeartbeats 4000000 in
set_option maxRecDepth 100000 in
theorem c_X10_is (g : XG) (l : Launch) (σ : Mem) (s1 : Nat) (hs1 : s1 < 19) (r : Int32) (hf : f_X10_is σ s1 = some r) : Met l yX10_is (wx (.code yX10_is cX10_is 3 (some .boolean))) (kr 4 85) (va_Pc [.ref (bs g 1), .ref (adS g s1)] (WS g 0 81 σ)) (Qi' g 0 81 r σ) 0 0 (Ag g 0) := by
  refine Met.ofW (cc := cX10_is) (maxL := 3) (ret := (some .boolean)) (by decide) rfl ?_
  intro p e s m args below meth c s₁ B hml hv
  obtain ⟨rfl, hZ, hT, hW⟩ := hv
  have hx := B.exec
  have hb := B.bytes
  have hr := B.returns
  have hts : ∀ w ∈ wx (.code yX10_is cX10_is 3 (some .boolean)), w.before _ s = true := atoms_spec B.pre
  have htg : ∀ w ∈ lwg, w.before _ s = true := fun w h => hts w (List.mem_cons_of_mem _ h)
  have hown : s.vm.findClass RX10 = some m.cls := findClass_of_methodNamed B.named
  have hlocks := B.notSynchronized
  change W p l e (kr 4 85) s m (List.toArray [.ref (bs g 1), .ref (adS g s1)]) below meth c s.heap [] 0 0 (MQ below (Qi' g 0 81 r σ) (List.toArray [.ref (bs g 1), .ref (adS g s1)]) s 0 0 (Ag g 0)) _
  generalize hQ : MQ below (Qi' g 0 81 r σ) (List.toArray [.ref (bs g 1), .ref (adS g s1)]) s 0 0 (Ag g 0) = Q
  have hS : va_S (Ag g 0) s.heap s.heap [] := va_S.rf
  have hl := lv_entry ([.ref (bs g 1), .ref (adS g s1)]) (n := 3) (Nat.le_of_ble_eq_true rfl)
  rw [lg_entry_eq]
  generalize (lg_sl ([.ref (bs g 1), .ref (adS g s1)]) ++ List.replicate (3 - (lg_sl ([.ref (bs g 1), .ref (adS g s1)])).length) Slot.unset).toArray = ls at hl ⊢
  have hl : lv_has ls 3 [(0, .ref (bs g 1)), (1, .ref (adS g s1))] := hl
  delta f_X10_is at hf
  obtain ⟨H, hH⟩ : ∃ H, H = s.heap := ⟨_, rfl⟩
  obtain ⟨locs, hLc⟩ : ∃ z : List Loc, z = [] := ⟨_, rfl⟩
  have hS : va_S (Ag g 0) s.heap H locs := by rw [hH, hLc]; exact hS
  have hW : Wd g 0 81 σ H := by rw [hH]; exact hW
  suffices hG : W p l e (kr 4 85) s m (List.toArray [.ref (bs g 1), .ref (adS g s1)]) below meth c H locs 0 0 Q (F0 m 0 ls []) by rw [hH, hLc] at hG; exact hG
  clear hH hLc
  refine lv_aload_n hx hb dX10_is_0 rfl (lv_at hl 0 rfl) ?_
  refine gf_10_5 hx hb htg (htg _ lf_X10_39) hown hZ hW tz_1 dX10_is_1 ?_
  refine lv_iconst (v := 2) hx hb dX10_is_4 (by decide) ?_
  refine lv_icmp_ne (tgt := 24) hx hb dX10_is_5 (by decide) (fun hc => ?_) (fun hc => ?_)
  · have hf := iff_ hc hf
    refine lv_iconst (v := 0) hx hb dX10_is_24 (by decide) ?_
    subst hQ
    exact mrz hx hb hr hlocks hZ hT hS hW (by decide) ⟨Option.some.inj hf, rfl⟩ dX10_is_25
  · have hf := ift hc hf
    refine lv_aload_n hx hb dX10_is_8 rfl (lv_at hl 0 rfl) ?_
    refine gf_10_3 hx hb htg (htg _ lf_X10_26) hown hZ hW tz_1 dX10_is_9 ?_
    refine lv_aload_n hx hb dX10_is_12 rfl (lv_at hl 0 rfl) ?_
    refine gf_10_4 hx hb htg (htg _ lf_X10_36) hown hZ hW tz_1 dX10_is_13 ?_
    refine lv_isub hx hb dX10_is_16 ?_
    refine lv_aload_n hx hb dX10_is_17 rfl (lv_at hl 1 rfl) ?_
    refine mcip hf hS (fun r h => va_runV (As := []) (rest := [.int ((σ.1 1 3) - (σ.1 1 4))]) ⟨hx, hb, hml, hown, hts⟩ (c_J0_length_8abf5 g l 0 81 σ s1 hs1 r h) (cl_X10_48 hts ⟨Nat.le_of_ble_eq_true rfl, Nat.le_of_ble_eq_true rfl⟩) (mpV_S hZ hT hS hW hs1 _) rfl rfl hl.1 rfl (lv_room (Nat.le_of_ble_eq_true rfl)) dX10_is_18 ⟨Nat.zero_le _, Nat.zero_le _⟩) (fun r_1 H locs hf hW hS => ?_)
    refine lv_icmp_eq (tgt := 26) hx hb dX10_is_21 (by decide) (fun hc => ?_) (fun hc => ?_)
    · have hf := ift hc hf
      refine lv_iconst (v := 0) hx hb dX10_is_26 (by decide) ?_
      refine lv_istore_n (lv' := [(2, .int 0), (0, .ref (bs g 1)), (1, .ref (adS g s1))]) hx hb dX10_is_27 rfl hl (by decide) rfl (fun ls hl => ?_)
      refine fx1_W (fun (i_2 : Int32) => ∀ (H : Heap) (locs : List Loc) (ls : Array Slot), Wd g 0 81 σ H → va_S (Ag g 0) s.heap H locs → lv_has ls 3 [(0, .ref (bs g 1)), (1, .ref (adS g s1)), (2, .int i_2)] → W p l e (kr 4 85) s m (List.toArray [.ref (bs g 1), .ref (adS g s1)]) below meth c H locs 0 0 Q (F0 m 28 ls [])) (fun k_3 hk_3 i_2 hf => ?_) FU 0 hf H locs ls hW hS (lv_sub hl [1, 2, 0] rfl)
      intro H locs ls hW hS hl
      refine lv_iload_n hx hb dX10_is_28 rfl (lv_at hl 2 rfl) ?_
      refine lv_aload_n hx hb dX10_is_29 rfl (lv_at hl 1 rfl) ?_
      refine mcip hf hS (fun r h => va_runV (As := []) (rest := [.int i_2]) ⟨hx, hb, hml, hown, hts⟩ (c_J0_length_8abf5 g l 0 81 σ s1 hs1 r h) (cl_X10_48 hts ⟨Nat.le_of_ble_eq_true rfl, Nat.le_of_ble_eq_true rfl⟩) (mpV_S hZ hT hS hW hs1 _) rfl rfl hl.1 rfl (lv_room (Nat.le_of_ble_eq_true rfl)) dX10_is_30 ⟨Nat.zero_le _, Nat.zero_le _⟩) (fun r_4 H locs hf hW hS => ?_)
      refine lv_icmp_ge (tgt := 62) hx hb dX10_is_33 (by decide) (fun hc => ?_) (fun hc => ?_)
      · have hf := ift hc hf
        refine lv_iconst (v := 1) hx hb dX10_is_62 (by decide) ?_
        subst hQ
        exact mrz hx hb hr hlocks hZ hT hS hW (by decide) ⟨Option.some.inj hf, rfl⟩ dX10_is_63
      · have hf := iff_ hc hf
        refine lv_aload_n hx hb dX10_is_36 rfl (lv_at hl 0 rfl) ?_
        refine lv_aload_n hx hb dX10_is_37 rfl (lv_at hl 0 rfl) ?_
        refine gf_10_4 hx hb htg (htg _ lf_X10_36) hown hZ hW tz_1 dX10_is_38 ?_
        refine lv_iload_n hx hb dX10_is_41 rfl (lv_at hl 2 rfl) ?_
        refine lv_iadd hx hb dX10_is_42 ?_
        refine mcip hf hS (fun r h => va_runV (As := [.int ((σ.1 1 4) + i_2)]) (rest := []) ⟨hx, hb, hml, hown, hts⟩ (c_X10_byteAt g l σ ((σ.1 1 4) + i_2) r h) (cl_X10_54 hts ⟨Nat.le_of_ble_eq_true rfl, Nat.le_of_ble_eq_true rfl⟩) (mpV_10 hZ hT hS hW tz_1 _) rfl rfl hl.1 rfl (lv_room (Nat.le_of_ble_eq_true rfl)) dX10_is_43 ⟨Nat.zero_le _, Nat.zero_le _⟩) (fun r_5 H locs hf hW hS => ?_)
        refine lv_aload_n hx hb dX10_is_46 rfl (lv_at hl 1 rfl) ?_
        refine lv_iload_n hx hb dX10_is_47 rfl (lv_at hl 2 rfl) ?_
        refine mcip hf hS (fun r h => va_runV (As := [.int i_2]) (rest := [.int r_5]) ⟨hx, hb, hml, hown, hts⟩ (c_J0_charAt_5068e g l 0 81 σ s1 i_2 hs1 r h) (cl_X10_57 hts ⟨Nat.le_of_ble_eq_true rfl, Nat.le_of_ble_eq_true rfl⟩) (mpV_S hZ hT hS hW hs1 _) rfl rfl hl.1 rfl (lv_room (Nat.le_of_ble_eq_true rfl)) dX10_is_48 ⟨Nat.zero_le _, Nat.zero_le _⟩) (fun r_6 H locs hf hW hS => ?_)
        refine lv_icmp_eq (tgt := 56) hx hb dX10_is_51 (by decide) (fun hc => ?_) (fun hc => ?_)
        · have hf := ift hc hf
          obtain ⟨x_7, e_8, hf⟩ := nm_s hf
          refine lv_iinc (v := x_7) (lv' := [(2, .int x_7), (0, .ref (bs g 1)), (1, .ref (adS g s1))]) hx hb dX10_is_56 hl (k := 2) rfl (by rw [e_8]; rfl) (by decide) rfl (fun ls hl => ?_)
          refine lv_goto (tgt := 28) hx hb dX10_is_59 (by decide) ?_
          exact hk_3 x_7 hf H locs ls hW hS (lv_sub hl [1, 2, 0] rfl)
        · have hf := iff_ hc hf
          refine lv_iconst (v := 0) hx hb dX10_is_54 (by decide) ?_
          subst hQ
          exact mrz hx hb hr hlocks hZ hT hS hW (by decide) ⟨Option.some.inj hf, rfl⟩ dX10_is_55
    · have hf := iff_ hc hf
      refine lv_iconst (v := 0) hx hb dX10_is_24 (by decide) ?_
      subst hQ
      exact mrz hx hb hr hlocks hZ hT hS hW (by decide) ⟨Option.some.inj hf, rfl⟩ dX10_is_25
def f_X6_lineNamed (σ : Mem)  : Option (Option Nat) :=
  fx1 FU (fun k_2 (i_1 : Int32) => (if 7 ≤ i_1 then some none else ixd i_1 7 (nm i_1.toNatClampNeg (fun (L_3 : Nat) => bd1 (f_X10_is σ L_3) (fun (r_4 : Int32) => (if r_4 = 0 then nm (i_1 + 1) (fun (x_5 : Int32) => k_2 x_5) else some (some L_3))))))) 0
set_option maxHeartbeats 4000000 in
set_option maxRecDepth 100000 in
theorem c_X6_lineNamed (g : XG) (l : Launch) (σ : Mem) (r : Option Nat) (hf : f_X6_lineNamed σ = some r) : Met l yX6_lineNamed (wx (.code yX6_lineNamed cX6_lineNamed 5 (some (.object "MirrorHour$Line")))) (kr 5 107) (va_Pc [.ref (bs g 27)] (WS g 0 81 σ)) (Qe' g 0 81 r σ) 0 0 (Ag g 0) := by
  refine Met.ofW (cc := cX6_lineNamed) (maxL := 5) (ret := (some (.object "MirrorHour$Line"))) (by decide) rfl ?_
  intro p e s m args below meth c s₁ B hml hv
  obtain ⟨rfl, hZ, hT, hW⟩ := hv
  have hx := B.exec
  have hb := B.bytes
  have hr := B.returns
  have hts : ∀ w ∈ wx (.code yX6_lineNamed cX6_lineNamed 5 (some (.object "MirrorHour$Line"))), w.before _ s = true := atoms_spec B.pre
  have htg : ∀ w ∈ lwg, w.before _ s = true := fun w h => hts w (List.mem_cons_of_mem _ h)
  have hown : s.vm.findClass RX6 = some m.cls := findClass_of_methodNamed B.named
  have hlocks := B.notSynchronized
  change W p l e (kr 5 107) s m (List.toArray [.ref (bs g 27)]) below meth c s.heap [] 0 0 (MQ below (Qe' g 0 81 r σ) (List.toArray [.ref (bs g 27)]) s 0 0 (Ag g 0)) _
  generalize hQ : MQ below (Qe' g 0 81 r σ) (List.toArray [.ref (bs g 27)]) s 0 0 (Ag g 0) = Q
  have hS : va_S (Ag g 0) s.heap s.heap [] := va_S.rf
  have hl := lv_entry ([.ref (bs g 27)]) (n := 5) (Nat.le_of_ble_eq_true rfl)
  rw [lg_entry_eq]
  generalize (lg_sl ([.ref (bs g 27)]) ++ List.replicate (5 - (lg_sl ([.ref (bs g 27)])).length) Slot.unset).toArray = ls at hl ⊢
  have hl : lv_has ls 5 [(0, .ref (bs g 27))] := hl
  delta f_X6_lineNamed at hf
  obtain ⟨H, hH⟩ : ∃ H, H = s.heap := ⟨_, rfl⟩
  obtain ⟨locs, hLc⟩ : ∃ z : List Loc, z = [] := ⟨_, rfl⟩
  have hS : va_S (Ag g 0) s.heap H locs := by rw [hH, hLc]; exact hS
  have hW : Wd g 0 81 σ H := by rw [hH]; exact hW
  suffices hG : W p l e (kr 5 107) s m (List.toArray [.ref (bs g 27)]) below meth c H locs 0 0 Q (F0 m 0 ls []) by rw [hH, hLc] at hG; exact hG
  clear hH hLc
  refine va_getsN hx hb (hT.1.2.1.narrow (fun q h => ag_a0 g 0 q h)) hS hown (nuF hZ ln_X6_109) (fun _ h => h) dX6_lineNamed_0 ?_
  refine lv_astore_n (lv' := [(1, .ref (tLn g)), (0, .ref (bs g 27))]) hx hb dX6_lineNamed_3 rfl hl (by decide) rfl (fun ls hl => ?_)
  refine lv_aload_n hx hb dX6_lineNamed_4 rfl (lv_at hl 0 rfl) ?_
  refine va_tlen hx hb (hT.1.2.2.narrow (fun q h => ag_a0 g 0 q h)) hS (v := 7) (by decide) dX6_lineNamed_5 ?_
  refine lv_istore_n (lv' := [(2, .int 7), (1, .ref (tLn g)), (0, .ref (bs g 27))]) hx hb dX6_lineNamed_6 rfl hl (by decide) rfl (fun ls hl => ?_)
  refine lv_iconst (v := 0) hx hb dX6_lineNamed_7 (by decide) ?_
  refine lv_istore_n (lv' := [(3, .int 0), (2, .int 7), (1, .ref (tLn g)), (0, .ref (bs g 27))]) hx hb dX6_lineNamed_8 rfl hl (by decide) rfl (fun ls hl => ?_)
  refine fx1_W (fun (i_1 : Int32) => ∀ (H : Heap) (locs : List Loc) (ls : Array Slot), Wd g 0 81 σ H → va_S (Ag g 0) s.heap H locs → lv_has ls 5 [(0, .ref (bs g 27)), (1, .ref (tLn g)), (2, .int 7), (3, .int i_1)] → W p l e (kr 5 107) s m (List.toArray [.ref (bs g 27)]) below meth c H locs 0 0 Q (F0 m 9 ls [])) (fun k_2 hk_2 i_1 hf => ?_) FU 0 hf H locs ls hW hS (lv_sub hl [3, 2, 1, 0] rfl)
  intro H locs ls hW hS hl
  refine lv_iload_n hx hb dX6_lineNamed_9 rfl (lv_at hl 3 rfl) ?_
  refine lv_iload_n hx hb dX6_lineNamed_10 rfl (lv_at hl 2 rfl) ?_
  refine lv_icmp_ge (tgt := 43) hx hb dX6_lineNamed_11 (by decide) (fun hc => ?_) (fun hc => ?_)
  · have hf := ift hc hf
    refine lv_null hx hb dX6_lineNamed_43 ?_
    subst hQ
    exact mre hx hb hr hlocks hZ hT hS hW (x := none) rfl ⟨Option.some.inj hf, rfl⟩ dX6_lineNamed_44
  · have hf := iff_ hc hf
    refine lv_aload_n hx hb dX6_lineNamed_14 rfl (lv_at hl 1 rfl) ?_
    refine lv_iload_n hx hb dX6_lineNamed_15 rfl (lv_at hl 3 rfl) ?_
    refine gLN hx hb hT hS hf dX6_lineNamed_16 (fun L_3 hL_3 hf => ?_)
    refine lv_astore (lv' := [(4, .ref (adE g L_3)), (0, .ref (bs g 27)), (1, .ref (tLn g)), (2, .int 7), (3, .int i_1)]) hx hb dX6_lineNamed_17 hl (by decide) rfl (fun ls hl => ?_)
    refine lv_aload_n hx hb dX6_lineNamed_19 rfl (lv_at hl 1 rfl) ?_
    refine gf_6_0 hx hb htg (htg _ lf_X6_9) hown hZ hW tz_27 dX6_lineNamed_20 ?_
    refine lv_aload hx hb dX6_lineNamed_23 (lv_at hl 0 rfl) ?_
    refine gEN_word hx hb ln_X6_113 hown hZ hT hS hL_3 dX6_lineNamed_25 ?_
    refine mcip hf hS (fun r h => va_runV (As := [.ref (adS g L_3)]) (rest := []) ⟨hx, hb, hml, hown, hts⟩ (c_X10_is g l σ L_3 (Nat.lt_of_lt_of_le hL_3 (by decide)) r h) (cl_X6_117 hts ⟨Nat.le_of_ble_eq_true rfl, Nat.le_of_ble_eq_true rfl⟩) (mpV_10 hZ hT hS hW tz_1 _) rfl rfl hl.1 rfl (lv_room (Nat.le_of_ble_eq_true rfl)) dX6_lineNamed_28 ⟨Nat.zero_le _, Nat.zero_le _⟩) (fun r_4 H locs hf hW hS => ?_)
    refine lv_if_eq (tgt := 37) hx hb dX6_lineNamed_31 (by decide) (fun hc => ?_) (fun hc => ?_)
    · have hf := ift hc hf
      obtain ⟨x_5, e_6, hf⟩ := nm_s hf
      refine lv_iinc (v := x_5) (lv' := [(3, .int x_5), (4, .ref (adE g L_3)), (0, .ref (bs g 27)), (1, .ref (tLn g)), (2, .int 7)]) hx hb dX6_lineNamed_37 hl (k := 4) rfl (by rw [e_6]; rfl) (by decide) rfl (fun ls hl => ?_)
      refine lv_goto (tgt := 9) hx hb dX6_lineNamed_40 (by decide) ?_
      exact hk_2 x_5 hf H locs ls hW hS (lv_sub hl [2, 3, 4, 0] rfl)
    · have hf := iff_ hc hf
      refine lv_aload hx hb dX6_lineNamed_34 (lv_at hl 0 rfl) ?_
      subst hQ
      exact mre hx hb hr hlocks hZ hT hS hW (x := (some L_3)) rfl ⟨Option.some.inj hf, rfl⟩ dX6_lineNamed_36
theorem bn_X6_lineNamed : ∀ (σ : Mem) {L : Nat}, f_X6_lineNamed σ = some (some L) → L < 7 := by
  intro σ L h
  delta f_X6_lineNamed at h
  refine fx1_W (out := some L) (fun _ => L < 7) (fun rec hr v hv => ?_) FU 0 h
  by_cases c : 7 ≤ v
  · rw [if_pos c] at hv; cases hv
  · rw [if_neg c] at hv
    obtain ⟨h1, h2⟩ := ixd_s hv
    obtain ⟨r, -, h3⟩ := bd1_s h2
    by_cases c2 : r = 0
    · rw [if_pos c2] at h3
      exact hr _ h3
    · rw [if_neg c2] at h3
      have h4 : v.toNatClampNeg = L := Option.some.inj (Option.some.inj h3)
      rw [← h4]
      exact Nat.not_le.mp fun q => h1 (Or.inr q)

def f_X6_fail (σ : Mem) (a1 : Int32) : Option (Int32 × Mem) :=
  nm (sI σ 27 4 a1) (fun (σ_1 : Mem) => some (0, σ_1))
set_option maxHeartbeats 4000000 in
set_option maxRecDepth 100000 in
theorem c_X6_fail (g : XG) (l : Launch) (σ : Mem) (a1 : Int32) (r : Int32) (τ : Mem) (hf : f_X6_fail σ a1 = some (r, τ)) : Met l yX6_fail (wx (.code yX6_fail cX6_fail 2 (some .boolean))) (kr 0 0) (va_Pc [.ref (bs g 27), .int a1] (WS g 0 81 σ)) (Qi' g 0 81 r τ) 0 0 (Ag g 0) := by
  refine Met.ofW (cc := cX6_fail) (maxL := 2) (ret := (some .boolean)) (by decide) rfl ?_
  intro p e s m args below meth c s₁ B hml hv
  obtain ⟨rfl, hZ, hT, hW⟩ := hv
  have hx := B.exec
  have hb := B.bytes
  have hr := B.returns
  have hts : ∀ w ∈ wx (.code yX6_fail cX6_fail 2 (some .boolean)), w.before _ s = true := atoms_spec B.pre
  have htg : ∀ w ∈ lwg, w.before _ s = true := fun w h => hts w (List.mem_cons_of_mem _ h)
  have hown : s.vm.findClass RX6 = some m.cls := findClass_of_methodNamed B.named
  have hlocks := B.notSynchronized
  change W p l e (kr 0 0) s m (List.toArray [.ref (bs g 27), .int a1]) below meth c s.heap [] 0 0 (MQ below (Qi' g 0 81 r τ) (List.toArray [.ref (bs g 27), .int a1]) s 0 0 (Ag g 0)) _
  generalize hQ : MQ below (Qi' g 0 81 r τ) (List.toArray [.ref (bs g 27), .int a1]) s 0 0 (Ag g 0) = Q
  have hS : va_S (Ag g 0) s.heap s.heap [] := va_S.rf
  have hl := lv_entry ([.ref (bs g 27), .int a1]) (n := 2) (Nat.le_of_ble_eq_true rfl)
  rw [lg_entry_eq]
  generalize (lg_sl ([.ref (bs g 27), .int a1]) ++ List.replicate (2 - (lg_sl ([.ref (bs g 27), .int a1])).length) Slot.unset).toArray = ls at hl ⊢
  have hl : lv_has ls 2 [(0, .ref (bs g 27)), (1, .int a1)] := hl
  delta f_X6_fail at hf
  obtain ⟨H, hH⟩ : ∃ H, H = s.heap := ⟨_, rfl⟩
  obtain ⟨locs, hLc⟩ : ∃ z : List Loc, z = [] := ⟨_, rfl⟩
  have hS : va_S (Ag g 0) s.heap H locs := by rw [hH, hLc]; exact hS
  have hW : Wd g 0 81 σ H := by rw [hH]; exact hW
  suffices hG : W p l e (kr 0 0) s m (List.toArray [.ref (bs g 27), .int a1]) below meth c H locs 0 0 Q (F0 m 0 ls []) by rw [hH, hLc] at hG; exact hG
  clear hH hLc
  refine lv_aload_n hx hb dX6_fail_0 rfl (lv_at hl 0 rfl) ?_
  refine lv_iload_n hx hb dX6_fail_1 rfl (lv_at hl 1 rfl) ?_
  refine pf_6_4 hx hb htg (htg _ lf_X6_24) hown hZ hW hS tz_27 dX6_fail_2 hf (fun σ_1 H locs hf hW hS => ?_)
  refine lv_iconst (v := 0) hx hb dX6_fail_5 (by decide) ?_
  subst hQ
  exact mrz hx hb hr hlocks hZ hT hS hW (by decide) (pr1 hf) dX6_fail_6
def f_X11_count (σ : Mem) (p0 : Nat) (e1 : Nat) : Option (Int32) :=
  bd1 (f_X12_get σ (p0 + 1) (lnNum.getD e1 0)) (fun (r_1 : Int32) => some r_1)
set_option maxHeartbeats 4000000 in
set_option maxRecDepth 100000 in
theorem c_X11_count (g : XG) (l : Launch) (lo n : Nat) (σ : Mem) (p0 : Nat) (e1 : Nat) (t0 : tp 11 lo n p0) (he1 : e1 < 7) (r : Int32) (hf : f_X11_count σ p0 e1 = some r) : Met l yX11_count (wx (.code yX11_count cX11_count 2 (some .int))) (kr 1 21) (va_Pc [.ref (bs g p0), .ref (adE g e1)] (WS g lo n σ)) (Qi' g lo n r σ) 0 0 (Ag g lo) := by
  refine Met.ofW (cc := cX11_count) (maxL := 2) (ret := (some .int)) (by decide) rfl ?_
  intro p e s m args below meth c s₁ B hml hv
  obtain ⟨rfl, hZ, hT, hW⟩ := hv
  have hx := B.exec
  have hb := B.bytes
  have hr := B.returns
  have hts : ∀ w ∈ wx (.code yX11_count cX11_count 2 (some .int)), w.before _ s = true := atoms_spec B.pre
  have htg : ∀ w ∈ lwg, w.before _ s = true := fun w h => hts w (List.mem_cons_of_mem _ h)
  have hown : s.vm.findClass RX11 = some m.cls := findClass_of_methodNamed B.named
  have hlocks := B.notSynchronized
  change W p l e (kr 1 21) s m (List.toArray [.ref (bs g p0), .ref (adE g e1)]) below meth c s.heap [] 0 0 (MQ below (Qi' g lo n r σ) (List.toArray [.ref (bs g p0), .ref (adE g e1)]) s 0 0 (Ag g lo)) _
  generalize hQ : MQ below (Qi' g lo n r σ) (List.toArray [.ref (bs g p0), .ref (adE g e1)]) s 0 0 (Ag g lo) = Q
  have hS : va_S (Ag g lo) s.heap s.heap [] := va_S.rf
  have hl := lv_entry ([.ref (bs g p0), .ref (adE g e1)]) (n := 2) (Nat.le_of_ble_eq_true rfl)
  rw [lg_entry_eq]
  generalize (lg_sl ([.ref (bs g p0), .ref (adE g e1)]) ++ List.replicate (2 - (lg_sl ([.ref (bs g p0), .ref (adE g e1)])).length) Slot.unset).toArray = ls at hl ⊢
  have hl : lv_has ls 2 [(0, .ref (bs g p0)), (1, .ref (adE g e1))] := hl
  delta f_X11_count at hf
  obtain ⟨H, hH⟩ : ∃ H, H = s.heap := ⟨_, rfl⟩
  obtain ⟨locs, hLc⟩ : ∃ z : List Loc, z = [] := ⟨_, rfl⟩
  have hS : va_S (Ag g lo) s.heap H locs := by rw [hH, hLc]; exact hS
  have hW : Wd g lo n σ H := by rw [hH]; exact hW
  suffices hG : W p l e (kr 1 21) s m (List.toArray [.ref (bs g p0), .ref (adE g e1)]) below meth c H locs 0 0 Q (F0 m 0 ls []) by rw [hH, hLc] at hG; exact hG
  clear hH hLc
  refine lv_aload_n hx hb dX11_count_0 rfl (lv_at hl 0 rfl) ?_
  refine gf_11_4 hx hb htg (htg _ lf_X11_13) hown hZ hW t0 dX11_count_1 ?_
  refine lv_aload_n hx hb dX11_count_4 rfl (lv_at hl 1 rfl) ?_
  refine gEN_number hx hb ln_X11_71 hown hZ hT hS he1 dX11_count_5 ?_
  refine mcip hf hS (fun r h => va_runSN (As := [.ref (bs g (p0 + 1)), .int (lnNum.getD e1 0)]) (rest := []) ⟨hx, hb, hml, hown, hts⟩ (c_X12_get g l lo n σ (p0 + 1) (lnNum.getD e1 0) (t0.sub 20 1 so_11_20_1) r h) (cl_X11_76 hts hZ ⟨Nat.le_of_ble_eq_true rfl, Nat.le_of_ble_eq_true rfl⟩) (mpS hZ hT hS hW _) rfl rfl hl.1 rfl (lv_room (Nat.le_of_ble_eq_true rfl)) dX11_count_8 ⟨Nat.zero_le _, Nat.zero_le _⟩) (fun r_1 H locs hf hW hS => ?_)
  subst hQ
  exact mri hx hb hr hlocks hZ hT hS hW ⟨Option.some.inj hf, rfl⟩ dX11_count_11
def f_X10_whole (σ : Mem)  : Option (Int32) :=
  nm (σ.1 1 4) (fun (x_1 : Int32) => fx2 FU (fun k_4 (i_2 : Int32) (i_3 : Int32) => (if (σ.1 1 3) ≤ i_3 then some i_2 else bd1 (f_X10_byteAt σ i_3) (fun (r_5 : Int32) => nm ((10 * i_2) + (r_5 - 48)) (fun (x_6 : Int32) => nm (i_3 + 1) (fun (x_7 : Int32) => k_4 x_6 x_7))))) 0 x_1)
set_option maxHeartbeats 4000000 in
set_option maxRecDepth 100000 in
theorem c_X10_whole (g : XG) (l : Launch) (σ : Mem) (r : Int32) (hf : f_X10_whole σ = some r) : Met l yX10_whole (wx (.code yX10_whole cX10_whole 3 (some .int))) (kr 1 21) (va_Pc [.ref (bs g 1)] (WS g 0 81 σ)) (Qi' g 0 81 r σ) 0 0 (Ag g 0) := by
  refine Met.ofW (cc := cX10_whole) (maxL := 3) (ret := (some .int)) (by decide) rfl ?_
  intro p e s m args below meth c s₁ B hml hv
  obtain ⟨rfl, hZ, hT, hW⟩ := hv
  have hx := B.exec
  have hb := B.bytes
  have hr := B.returns
  have hts : ∀ w ∈ wx (.code yX10_whole cX10_whole 3 (some .int)), w.before _ s = true := atoms_spec B.pre
  have htg : ∀ w ∈ lwg, w.before _ s = true := fun w h => hts w (List.mem_cons_of_mem _ h)
  have hown : s.vm.findClass RX10 = some m.cls := findClass_of_methodNamed B.named
  have hlocks := B.notSynchronized
  change W p l e (kr 1 21) s m (List.toArray [.ref (bs g 1)]) below meth c s.heap [] 0 0 (MQ below (Qi' g 0 81 r σ) (List.toArray [.ref (bs g 1)]) s 0 0 (Ag g 0)) _
  generalize hQ : MQ below (Qi' g 0 81 r σ) (List.toArray [.ref (bs g 1)]) s 0 0 (Ag g 0) = Q
  have hS : va_S (Ag g 0) s.heap s.heap [] := va_S.rf
  have hl := lv_entry ([.ref (bs g 1)]) (n := 3) (Nat.le_of_ble_eq_true rfl)
  rw [lg_entry_eq]
  generalize (lg_sl ([.ref (bs g 1)]) ++ List.replicate (3 - (lg_sl ([.ref (bs g 1)])).length) Slot.unset).toArray = ls at hl ⊢
  have hl : lv_has ls 3 [(0, .ref (bs g 1))] := hl
  delta f_X10_whole at hf
  obtain ⟨H, hH⟩ : ∃ H, H = s.heap := ⟨_, rfl⟩
  obtain ⟨locs, hLc⟩ : ∃ z : List Loc, z = [] := ⟨_, rfl⟩
  have hS : va_S (Ag g 0) s.heap H locs := by rw [hH, hLc]; exact hS
  have hW : Wd g 0 81 σ H := by rw [hH]; exact hW
  suffices hG : W p l e (kr 1 21) s m (List.toArray [.ref (bs g 1)]) below meth c H locs 0 0 Q (F0 m 0 ls []) by rw [hH, hLc] at hG; exact hG
  clear hH hLc
  refine lv_iconst (v := 0) hx hb dX10_whole_0 (by decide) ?_
  refine lv_istore_n (lv' := [(1, .int 0), (0, .ref (bs g 1))]) hx hb dX10_whole_1 rfl hl (by decide) rfl (fun ls hl => ?_)
  refine lv_aload_n hx hb dX10_whole_2 rfl (lv_at hl 1 rfl) ?_
  refine gf_10_4 hx hb htg (htg _ lf_X10_36) hown hZ hW tz_1 dX10_whole_3 ?_
  refine mnmi hf (fun (x_1 : Int32) hf => ?_)
  refine lv_istore_n (lv' := [(2, .int x_1), (1, .int 0), (0, .ref (bs g 1))]) hx hb dX10_whole_6 rfl hl (by decide) rfl (fun ls hl => ?_)
  refine fx2_W (fun (i_2 : Int32) (i_3 : Int32) => ∀ (H : Heap) (locs : List Loc) (ls : Array Slot), Wd g 0 81 σ H → va_S (Ag g 0) s.heap H locs → lv_has ls 3 [(0, .ref (bs g 1)), (1, .int i_2), (2, .int i_3)] → W p l e (kr 1 21) s m (List.toArray [.ref (bs g 1)]) below meth c H locs 0 0 Q (F0 m 7 ls [])) (fun k_4 hk_4 i_2 i_3 hf => ?_) FU 0 x_1 hf H locs ls hW hS (lv_sub hl [2, 1, 0] rfl)
  intro H locs ls hW hS hl
  refine lv_iload_n hx hb dX10_whole_7 rfl (lv_at hl 2 rfl) ?_
  refine lv_aload_n hx hb dX10_whole_8 rfl (lv_at hl 0 rfl) ?_
  refine gf_10_3 hx hb htg (htg _ lf_X10_26) hown hZ hW tz_1 dX10_whole_9 ?_
  refine lv_icmp_ge (tgt := 35) hx hb dX10_whole_12 (by decide) (fun hc => ?_) (fun hc => ?_)
  · have hf := ift hc hf
    refine lv_iload_n hx hb dX10_whole_35 rfl (lv_at hl 1 rfl) ?_
    subst hQ
    exact mri hx hb hr hlocks hZ hT hS hW ⟨Option.some.inj hf, rfl⟩ dX10_whole_36
  · have hf := iff_ hc hf
    refine lv_bipush (v := 10) hx hb dX10_whole_15 (by decide) ?_
    refine lv_iload_n hx hb dX10_whole_17 rfl (lv_at hl 1 rfl) ?_
    refine lv_imul hx hb dX10_whole_18 ?_
    refine lv_aload_n hx hb dX10_whole_19 rfl (lv_at hl 0 rfl) ?_
    refine lv_iload_n hx hb dX10_whole_20 rfl (lv_at hl 2 rfl) ?_
    refine mcip hf hS (fun r h => va_runV (As := [.int i_3]) (rest := [.int (10 * i_2)]) ⟨hx, hb, hml, hown, hts⟩ (c_X10_byteAt g l σ i_3 r h) (cl_X10_54 hts ⟨Nat.le_of_ble_eq_true rfl, Nat.le_of_ble_eq_true rfl⟩) (mpV_10 hZ hT hS hW tz_1 _) rfl rfl hl.1 rfl (lv_room (Nat.le_of_ble_eq_true rfl)) dX10_whole_21 ⟨Nat.zero_le _, Nat.zero_le _⟩) (fun r_5 H locs hf hW hS => ?_)
    refine lv_bipush (v := 48) hx hb dX10_whole_24 (by decide) ?_
    refine lv_isub hx hb dX10_whole_26 ?_
    refine lv_iadd hx hb dX10_whole_27 ?_
    refine mnmi hf (fun (x_6 : Int32) hf => ?_)
    refine lv_istore_n (lv' := [(1, .int x_6), (0, .ref (bs g 1)), (2, .int i_3)]) hx hb dX10_whole_28 rfl hl (by decide) rfl (fun ls hl => ?_)
    obtain ⟨x_7, e_8, hf⟩ := nm_s hf
    refine lv_iinc (v := x_7) (lv' := [(2, .int x_7), (1, .int x_6), (0, .ref (bs g 1))]) hx hb dX10_whole_29 hl (k := 2) rfl (by rw [e_8]; rfl) (by decide) rfl (fun ls hl => ?_)
    refine lv_goto (tgt := 7) hx hb dX10_whole_32 (by decide) ?_
    exact hk_4 x_6 x_7 hf H locs ls hW hS (lv_sub hl [2, 1, 0] rfl)
def f_X6_whole (σ : Mem) (a1 : Int32) (a2 : Int32) : Option (Int32 × Mem) :=
  nm (sI σ 27 3 (σ.1 1 4)) (fun (σ_1 : Mem) => (if (σ_1.1 1 5) = 3 then bd1 (f_X10_whole σ_1) (fun (r_2 : Int32) => nm (sI σ_1 27 2 r_2) (fun (σ_3 : Mem) => jn0 (bd2 (f_X6_fail σ_3 4) (fun (r_5 : Int32) (σ_6 : Mem) => zrm r_5 σ_6)) (fun k_4 => (if (σ_3.1 27 2) < a1 then k_4 else (if (σ_3.1 27 2) ≤ a2 then bd1 (f_X10_step σ_3) (fun (σ_7 : Mem) => some (1, σ_7)) else k_4))))) else bd2 (f_X6_fail σ_1 1) (fun (r_8 : Int32) (σ_9 : Mem) => zrm r_8 σ_9)))
set_option maxHeartbeats 4000000 in
set_option maxRecDepth 100000 in
theorem c_X6_whole (g : XG) (l : Launch) (σ : Mem) (a1 : Int32) (a2 : Int32) (r : Int32) (τ : Mem) (hf : f_X6_whole σ a1 a2 = some (r, τ)) : Met l yX6_whole (wx (.code yX6_whole cX6_whole 3 (some .boolean))) (kr 2 81) (va_Pc [.ref (bs g 27), .int a1, .int a2] (WS g 0 81 σ)) (Qi' g 0 81 r τ) 0 0 (Ag g 0) := by
  refine Met.ofW (cc := cX6_whole) (maxL := 3) (ret := (some .boolean)) (by decide) rfl ?_
  intro p e s m args below meth c s₁ B hml hv
  obtain ⟨rfl, hZ, hT, hW⟩ := hv
  have hx := B.exec
  have hb := B.bytes
  have hr := B.returns
  have hts : ∀ w ∈ wx (.code yX6_whole cX6_whole 3 (some .boolean)), w.before _ s = true := atoms_spec B.pre
  have htg : ∀ w ∈ lwg, w.before _ s = true := fun w h => hts w (List.mem_cons_of_mem _ h)
  have hown : s.vm.findClass RX6 = some m.cls := findClass_of_methodNamed B.named
  have hlocks := B.notSynchronized
  change W p l e (kr 2 81) s m (List.toArray [.ref (bs g 27), .int a1, .int a2]) below meth c s.heap [] 0 0 (MQ below (Qi' g 0 81 r τ) (List.toArray [.ref (bs g 27), .int a1, .int a2]) s 0 0 (Ag g 0)) _
  generalize hQ : MQ below (Qi' g 0 81 r τ) (List.toArray [.ref (bs g 27), .int a1, .int a2]) s 0 0 (Ag g 0) = Q
  have hS : va_S (Ag g 0) s.heap s.heap [] := va_S.rf
  have hl := lv_entry ([.ref (bs g 27), .int a1, .int a2]) (n := 3) (Nat.le_of_ble_eq_true rfl)
  rw [lg_entry_eq]
  generalize (lg_sl ([.ref (bs g 27), .int a1, .int a2]) ++ List.replicate (3 - (lg_sl ([.ref (bs g 27), .int a1, .int a2])).length) Slot.unset).toArray = ls at hl ⊢
  have hl : lv_has ls 3 [(0, .ref (bs g 27)), (1, .int a1), (2, .int a2)] := hl
  delta f_X6_whole at hf
  obtain ⟨H, hH⟩ : ∃ H, H = s.heap := ⟨_, rfl⟩
  obtain ⟨locs, hLc⟩ : ∃ z : List Loc, z = [] := ⟨_, rfl⟩
  have hS : va_S (Ag g 0) s.heap H locs := by rw [hH, hLc]; exact hS
  have hW : Wd g 0 81 σ H := by rw [hH]; exact hW
  suffices hG : W p l e (kr 2 81) s m (List.toArray [.ref (bs g 27), .int a1, .int a2]) below meth c H locs 0 0 Q (F0 m 0 ls []) by rw [hH, hLc] at hG; exact hG
  clear hH hLc
  refine lv_aload_n hx hb dX6_whole_0 rfl (lv_at hl 0 rfl) ?_
  refine lv_aload_n hx hb dX6_whole_1 rfl (lv_at hl 0 rfl) ?_
  refine gf_6_0 hx hb htg (htg _ lf_X6_9) hown hZ hW tz_27 dX6_whole_2 ?_
  refine gfN_10_4 hx hb htg ln_X6_44 hown hZ hW tz_1 dX6_whole_5 ?_
  refine pf_6_3 hx hb htg (htg _ lf_X6_47) hown hZ hW hS tz_27 dX6_whole_8 hf (fun σ_1 H locs hf hW hS => ?_)
  refine lv_aload_n hx hb dX6_whole_11 rfl (lv_at hl 0 rfl) ?_
  refine gf_6_0 hx hb htg (htg _ lf_X6_9) hown hZ hW tz_27 dX6_whole_12 ?_
  refine gfN_10_5 hx hb htg ln_X6_38 hown hZ hW tz_1 dX6_whole_15 ?_
  refine lv_iconst (v := 3) hx hb dX6_whole_18 (by decide) ?_
  refine lv_icmp_eq (tgt := 28) hx hb dX6_whole_19 (by decide) (fun hc => ?_) (fun hc => ?_)
  · have hf := ift hc hf
    refine lv_aload_n hx hb dX6_whole_28 rfl (lv_at hl 0 rfl) ?_
    refine lv_aload_n hx hb dX6_whole_29 rfl (lv_at hl 0 rfl) ?_
    refine gf_6_0 hx hb htg (htg _ lf_X6_9) hown hZ hW tz_27 dX6_whole_30 ?_
    refine mcip hf hS (fun r h => va_runV (As := []) (rest := [.ref (bs g 27)]) ⟨hx, hb, hml, hown, hts⟩ (c_X10_whole g l σ_1 r h) (cl_X6_224 hts ⟨Nat.le_of_ble_eq_true rfl, Nat.le_of_ble_eq_true rfl⟩) (mpV_10 hZ hT hS hW tz_1 _) rfl rfl hl.1 rfl (lv_room (Nat.le_of_ble_eq_true rfl)) dX6_whole_33 ⟨Nat.zero_le _, Nat.zero_le _⟩) (fun r_2 H locs hf hW hS => ?_)
    refine pf_6_2 hx hb htg (htg _ lf_X6_127) hown hZ hW hS tz_27 dX6_whole_36 hf (fun σ_3 H locs hf hW hS => ?_)
    refine lv_aload_n hx hb dX6_whole_39 rfl (lv_at hl 0 rfl) ?_
    refine gf_6_2 hx hb htg (htg _ lf_X6_127) hown hZ hW tz_27 dX6_whole_40 ?_
    refine lv_iload_n hx hb dX6_whole_43 rfl (lv_at hl 1 rfl) ?_
    refine jn0_W (∀ (H : Heap) (locs : List Loc) (ls : Array Slot), Wd g 0 81 σ_3 H → va_S (Ag g 0) s.heap H locs → lv_has ls 3 [(0, .ref (bs g 27))] → W p l e (kr 2 81) s m (List.toArray [.ref (bs g 27), .int a1, .int a2]) below meth c H locs 0 0 Q (F0 m 55 ls [])) hf (fun  hf => ?_) (fun k_4 hk_4 hf => ?_)
    · intro H locs ls hW hS hl
      refine lv_aload_n hx hb dX6_whole_55 rfl (lv_at hl 0 rfl) ?_
      refine lv_iconst (v := 4) hx hb dX6_whole_56 (by decide) ?_
      refine mci hf hS (fun r τ h => va_runV (As := [.int 4]) (rest := []) ⟨hx, hb, hml, hown, hts⟩ (c_X6_fail g l σ_3 4 r τ h) (cl_X6_58 hts ⟨Nat.le_of_ble_eq_true rfl, Nat.le_of_ble_eq_true rfl⟩) (mpV_6 hZ hT hS hW tz_27 _) rfl rfl hl.1 rfl (lv_room (Nat.le_of_ble_eq_true rfl)) dX6_whole_57 ⟨Nat.zero_le _, Nat.zero_le _⟩) (fun r_5 σ_6 H locs hf hW hS => ?_)
      subst hQ
      exact mrz hx hb hr hlocks hZ hT hS hW (zrm_s hf).1 (zrm_s hf).2 dX6_whole_60
    · refine lv_icmp_lt (tgt := 55) hx hb dX6_whole_44 (by decide) (fun hc => ?_) (fun hc => ?_)
      · have hf := ift hc hf
        exact hk_4  hf H locs ls hW hS (lv_sub hl [0] rfl)
      · have hf := iff_ hc hf
        refine lv_aload_n hx hb dX6_whole_47 rfl (lv_at hl 0 rfl) ?_
        refine gf_6_2 hx hb htg (htg _ lf_X6_127) hown hZ hW tz_27 dX6_whole_48 ?_
        refine lv_iload_n hx hb dX6_whole_51 rfl (lv_at hl 2 rfl) ?_
        refine lv_icmp_le (tgt := 61) hx hb dX6_whole_52 (by decide) (fun hc => ?_) (fun hc => ?_)
        · have hf := ift hc hf
          refine lv_aload_n hx hb dX6_whole_61 rfl (lv_at hl 0 rfl) ?_
          refine gf_6_0 hx hb htg (htg _ lf_X6_9) hown hZ hW tz_27 dX6_whole_62 ?_
          refine mcv hf hS (fun τ h => va_runV (As := []) (rest := []) ⟨hx, hb, hml, hown, hts⟩ (c_X10_step g l σ_3 τ h) (cl_X6_41 hts ⟨Nat.le_of_ble_eq_true rfl, Nat.le_of_ble_eq_true rfl⟩) (mpV_10 hZ hT hS hW tz_1 _) rfl rfl hl.1 rfl (lv_room (Nat.le_of_ble_eq_true rfl)) dX6_whole_65 ⟨Nat.zero_le _, Nat.zero_le _⟩) (fun σ_7 H locs hf hW hS => ?_)
          refine lv_iconst (v := 1) hx hb dX6_whole_68 (by decide) ?_
          subst hQ
          exact mrz hx hb hr hlocks hZ hT hS hW (by decide) (pr1 hf) dX6_whole_69
        · have hf := iff_ hc hf
          exact hk_4  hf H locs ls hW hS (lv_sub hl [0] rfl)
  · have hf := iff_ hc hf
    refine lv_aload_n hx hb dX6_whole_22 rfl (lv_at hl 0 rfl) ?_
    refine lv_iconst (v := 1) hx hb dX6_whole_23 (by decide) ?_
    refine mci hf hS (fun r τ h => va_runV (As := [.int 1]) (rest := []) ⟨hx, hb, hml, hown, hts⟩ (c_X6_fail g l σ_1 1 r τ h) (cl_X6_58 hts ⟨Nat.le_of_ble_eq_true rfl, Nat.le_of_ble_eq_true rfl⟩) (mpV_6 hZ hT hS hW tz_27 _) rfl rfl hl.1 rfl (lv_room (Nat.le_of_ble_eq_true rfl)) dX6_whole_24 ⟨Nat.zero_le _, Nat.zero_le _⟩) (fun r_8 σ_9 H locs hf hW hS => ?_)
    subst hQ
    exact mrz hx hb hr hlocks hZ hT hS hW (zrm_s hf).1 (zrm_s hf).2 dX6_whole_27
def f_X6_wholeBehind (σ : Mem) (s1 : Nat) (a2 : Int32) (a3 : Int32) : Option (Int32 × Mem) :=
  nm (sI σ 27 3 (σ.1 1 4)) (fun (σ_1 : Mem) => bd1 (f_X10_is σ_1 s1) (fun (r_2 : Int32) => (if r_2 = 0 then bd2 (f_X6_fail σ_1 1) (fun (r_6 : Int32) (σ_7 : Mem) => zrm r_6 σ_7) else bd1 (f_X10_step σ_1) (fun (σ_3 : Mem) => bd2 (f_X6_whole σ_3 a2 a3) (fun (r_4 : Int32) (σ_5 : Mem) => zrm r_4 σ_5)))))
set_option maxHeartbeats 4000000 in
set_option maxRecDepth 100000 in
theorem c_X6_wholeBehind (g : XG) (l : Launch) (σ : Mem) (s1 : Nat) (a2 : Int32) (a3 : Int32) (hs1 : s1 < 19) (r : Int32) (τ : Mem) (hf : f_X6_wholeBehind σ s1 a2 a3 = some (r, τ)) : Met l yX6_wholeBehind (wx (.code yX6_wholeBehind cX6_wholeBehind 4 (some .boolean))) (kr 5 107) (va_Pc [.ref (bs g 27), .ref (adS g s1), .int a2, .int a3] (WS g 0 81 σ)) (Qi' g 0 81 r τ) 0 0 (Ag g 0) := by
  refine Met.ofW (cc := cX6_wholeBehind) (maxL := 4) (ret := (some .boolean)) (by decide) rfl ?_
  intro p e s m args below meth c s₁ B hml hv
  obtain ⟨rfl, hZ, hT, hW⟩ := hv
  have hx := B.exec
  have hb := B.bytes
  have hr := B.returns
  have hts : ∀ w ∈ wx (.code yX6_wholeBehind cX6_wholeBehind 4 (some .boolean)), w.before _ s = true := atoms_spec B.pre
  have htg : ∀ w ∈ lwg, w.before _ s = true := fun w h => hts w (List.mem_cons_of_mem _ h)
  have hown : s.vm.findClass RX6 = some m.cls := findClass_of_methodNamed B.named
  have hlocks := B.notSynchronized
  change W p l e (kr 5 107) s m (List.toArray [.ref (bs g 27), .ref (adS g s1), .int a2, .int a3]) below meth c s.heap [] 0 0 (MQ below (Qi' g 0 81 r τ) (List.toArray [.ref (bs g 27), .ref (adS g s1), .int a2, .int a3]) s 0 0 (Ag g 0)) _
  generalize hQ : MQ below (Qi' g 0 81 r τ) (List.toArray [.ref (bs g 27), .ref (adS g s1), .int a2, .int a3]) s 0 0 (Ag g 0) = Q
  have hS : va_S (Ag g 0) s.heap s.heap [] := va_S.rf
  have hl := lv_entry ([.ref (bs g 27), .ref (adS g s1), .int a2, .int a3]) (n := 4) (Nat.le_of_ble_eq_true rfl)
  rw [lg_entry_eq]
  generalize (lg_sl ([.ref (bs g 27), .ref (adS g s1), .int a2, .int a3]) ++ List.replicate (4 - (lg_sl ([.ref (bs g 27), .ref (adS g s1), .int a2, .int a3])).length) Slot.unset).toArray = ls at hl ⊢
  have hl : lv_has ls 4 [(0, .ref (bs g 27)), (1, .ref (adS g s1)), (2, .int a2), (3, .int a3)] := hl
  delta f_X6_wholeBehind at hf
  obtain ⟨H, hH⟩ : ∃ H, H = s.heap := ⟨_, rfl⟩
  obtain ⟨locs, hLc⟩ : ∃ z : List Loc, z = [] := ⟨_, rfl⟩
  have hS : va_S (Ag g 0) s.heap H locs := by rw [hH, hLc]; exact hS
  have hW : Wd g 0 81 σ H := by rw [hH]; exact hW
  suffices hG : W p l e (kr 5 107) s m (List.toArray [.ref (bs g 27), .ref (adS g s1), .int a2, .int a3]) below meth c H locs 0 0 Q (F0 m 0 ls []) by rw [hH, hLc] at hG; exact hG
  clear hH hLc
  refine lv_aload_n hx hb dX6_wholeBehind_0 rfl (lv_at hl 0 rfl) ?_
  refine lv_aload_n hx hb dX6_wholeBehind_1 rfl (lv_at hl 0 rfl) ?_
  refine gf_6_0 hx hb htg (htg _ lf_X6_9) hown hZ hW tz_27 dX6_wholeBehind_2 ?_
  refine gfN_10_4 hx hb htg ln_X6_44 hown hZ hW tz_1 dX6_wholeBehind_5 ?_
  refine pf_6_3 hx hb htg (htg _ lf_X6_47) hown hZ hW hS tz_27 dX6_wholeBehind_8 hf (fun σ_1 H locs hf hW hS => ?_)
  refine lv_aload_n hx hb dX6_wholeBehind_11 rfl (lv_at hl 0 rfl) ?_
  refine gf_6_0 hx hb htg (htg _ lf_X6_9) hown hZ hW tz_27 dX6_wholeBehind_12 ?_
  refine lv_aload_n hx hb dX6_wholeBehind_15 rfl (lv_at hl 1 rfl) ?_
  refine mcip hf hS (fun r h => va_runV (As := [.ref (adS g s1)]) (rest := []) ⟨hx, hb, hml, hown, hts⟩ (c_X10_is g l σ_1 s1 hs1 r h) (cl_X6_117 hts ⟨Nat.le_of_ble_eq_true rfl, Nat.le_of_ble_eq_true rfl⟩) (mpV_10 hZ hT hS hW tz_1 _) rfl rfl hl.1 rfl (lv_room (Nat.le_of_ble_eq_true rfl)) dX6_wholeBehind_16 ⟨Nat.zero_le _, Nat.zero_le _⟩) (fun r_2 H locs hf hW hS => ?_)
  refine lv_if_ne (tgt := 28) hx hb dX6_wholeBehind_19 (by decide) (fun hc => ?_) (fun hc => ?_)
  · have hf := iff_ hc hf
    refine lv_aload_n hx hb dX6_wholeBehind_28 rfl (lv_at hl 0 rfl) ?_
    refine gf_6_0 hx hb htg (htg _ lf_X6_9) hown hZ hW tz_27 dX6_wholeBehind_29 ?_
    refine mcv hf hS (fun τ h => va_runV (As := []) (rest := []) ⟨hx, hb, hml, hown, hts⟩ (c_X10_step g l σ_1 τ h) (cl_X6_41 hts ⟨Nat.le_of_ble_eq_true rfl, Nat.le_of_ble_eq_true rfl⟩) (mpV_10 hZ hT hS hW tz_1 _) rfl rfl hl.1 rfl (lv_room (Nat.le_of_ble_eq_true rfl)) dX6_wholeBehind_32 ⟨Nat.zero_le _, Nat.zero_le _⟩) (fun σ_3 H locs hf hW hS => ?_)
    refine lv_aload_n hx hb dX6_wholeBehind_35 rfl (lv_at hl 0 rfl) ?_
    refine lv_iload_n hx hb dX6_wholeBehind_36 rfl (lv_at hl 2 rfl) ?_
    refine lv_iload_n hx hb dX6_wholeBehind_37 rfl (lv_at hl 3 rfl) ?_
    refine mci hf hS (fun r τ h => va_runV (As := [.int a2, .int a3]) (rest := []) ⟨hx, hb, hml, hown, hts⟩ (c_X6_whole g l σ_3 a2 a3 r τ h) (cl_X6_218 hts ⟨Nat.le_of_ble_eq_true rfl, Nat.le_of_ble_eq_true rfl⟩) (mpV_6 hZ hT hS hW tz_27 _) rfl rfl hl.1 rfl (lv_room (Nat.le_of_ble_eq_true rfl)) dX6_wholeBehind_38 ⟨Nat.zero_le _, Nat.zero_le _⟩) (fun r_4 σ_5 H locs hf hW hS => ?_)
    subst hQ
    exact mrz hx hb hr hlocks hZ hT hS hW (zrm_s hf).1 (zrm_s hf).2 dX6_wholeBehind_41
  · have hf := ift hc hf
    refine lv_aload_n hx hb dX6_wholeBehind_22 rfl (lv_at hl 0 rfl) ?_
    refine lv_iconst (v := 1) hx hb dX6_wholeBehind_23 (by decide) ?_
    refine mci hf hS (fun r τ h => va_runV (As := [.int 1]) (rest := []) ⟨hx, hb, hml, hown, hts⟩ (c_X6_fail g l σ_1 1 r τ h) (cl_X6_58 hts ⟨Nat.le_of_ble_eq_true rfl, Nat.le_of_ble_eq_true rfl⟩) (mpV_6 hZ hT hS hW tz_27 _) rfl rfl hl.1 rfl (lv_room (Nat.le_of_ble_eq_true rfl)) dX6_wholeBehind_24 ⟨Nat.zero_le _, Nat.zero_le _⟩) (fun r_6 σ_7 H locs hf hW hS => ?_)
    subst hQ
    exact mrz hx hb hr hlocks hZ hT hS hW (zrm_s hf).1 (zrm_s hf).2 dX6_wholeBehind_27
def f_X6_townLine (σ : Mem)  : Option (Int32 × Mem) :=
  bd2 (f_X6_wholeBehind σ 7 3 6) (fun (r_1 : Int32) (σ_2 : Mem) => (if r_1 = 0 then some (0, σ_2) else rfc (σ_2.2.2 27 1) (fun (T_3 : Nat) => nm (sI σ_2 T_3 0 (σ_2.1 27 2)) (fun (σ_4 : Mem) => bd2 (f_X6_wholeBehind σ_4 8 0 2) (fun (r_5 : Int32) (σ_6 : Mem) => (if r_5 = 0 then some (0, σ_6) else rfc (σ_6.2.2 27 1) (fun (T_7 : Nat) => nm (sI σ_6 T_7 1 (σ_6.1 27 2)) (fun (σ_8 : Mem) => bd2 (f_X6_wholeBehind σ_8 9 0 3) (fun (r_9 : Int32) (σ_10 : Mem) => (if r_9 = 0 then some (0, σ_10) else rfc (σ_10.2.2 27 1) (fun (T_11 : Nat) => nm (sI σ_10 T_11 2 (σ_10.1 27 2)) (fun (σ_12 : Mem) => bd2 (f_X6_wholeBehind σ_12 10 0 6) (fun (r_13 : Int32) (σ_14 : Mem) => (if r_13 = 0 then some (0, σ_14) else rfc (σ_14.2.2 27 1) (fun (T_15 : Nat) => nm (sI σ_14 T_15 3 (σ_14.1 27 2)) (fun (σ_16 : Mem) => some (1, σ_16)))))))))))))))))
set_option maxHeartbeats 4000000 in
set_option maxRecDepth 100000 in
theorem c_X6_townLine (g : XG) (l : Launch) (σ : Mem) (r : Int32) (τ : Mem) (hf : f_X6_townLine σ = some (r, τ)) : Met l yX6_townLine (wx (.code yX6_townLine cX6_townLine 1 (some .boolean))) (kr 6 130) (va_Pc [.ref (bs g 27)] (WS g 0 81 σ)) (Qi' g 0 81 r τ) 0 0 (Ag g 0) := by
  refine Met.ofW (cc := cX6_townLine) (maxL := 1) (ret := (some .boolean)) (by decide) rfl ?_
  intro p e s m args below meth c s₁ B hml hv
  obtain ⟨rfl, hZ, hT, hW⟩ := hv
  have hx := B.exec
  have hb := B.bytes
  have hr := B.returns
  have hts : ∀ w ∈ wx (.code yX6_townLine cX6_townLine 1 (some .boolean)), w.before _ s = true := atoms_spec B.pre
  have htg : ∀ w ∈ lwg, w.before _ s = true := fun w h => hts w (List.mem_cons_of_mem _ h)
  have hown : s.vm.findClass RX6 = some m.cls := findClass_of_methodNamed B.named
  have hlocks := B.notSynchronized
  change W p l e (kr 6 130) s m (List.toArray [.ref (bs g 27)]) below meth c s.heap [] 0 0 (MQ below (Qi' g 0 81 r τ) (List.toArray [.ref (bs g 27)]) s 0 0 (Ag g 0)) _
  generalize hQ : MQ below (Qi' g 0 81 r τ) (List.toArray [.ref (bs g 27)]) s 0 0 (Ag g 0) = Q
  have hS : va_S (Ag g 0) s.heap s.heap [] := va_S.rf
  have hl := lv_entry ([.ref (bs g 27)]) (n := 1) (Nat.le_of_ble_eq_true rfl)
  rw [lg_entry_eq]
  generalize (lg_sl ([.ref (bs g 27)]) ++ List.replicate (1 - (lg_sl ([.ref (bs g 27)])).length) Slot.unset).toArray = ls at hl ⊢
  have hl : lv_has ls 1 [(0, .ref (bs g 27))] := hl
  delta f_X6_townLine at hf
  obtain ⟨H, hH⟩ : ∃ H, H = s.heap := ⟨_, rfl⟩
  obtain ⟨locs, hLc⟩ : ∃ z : List Loc, z = [] := ⟨_, rfl⟩
  have hS : va_S (Ag g 0) s.heap H locs := by rw [hH, hLc]; exact hS
  have hW : Wd g 0 81 σ H := by rw [hH]; exact hW
  suffices hG : W p l e (kr 6 130) s m (List.toArray [.ref (bs g 27)]) below meth c H locs 0 0 Q (F0 m 0 ls []) by rw [hH, hLc] at hG; exact hG
  clear hH hLc
  refine lv_aload_n hx hb dX6_townLine_0 rfl (lv_at hl 0 rfl) ?_
  refine va_ldcS (q := adS g 7) hx hb hown (lr_X6_121 hZ) dX6_townLine_1 ?_
  refine lv_iconst (v := 3) hx hb dX6_townLine_3 (by decide) ?_
  refine lv_bipush (v := 6) hx hb dX6_townLine_4 (by decide) ?_
  refine mci hf hS (fun r τ h => va_runV (As := [.ref (adS g 7), .int 3, .int 6]) (rest := []) ⟨hx, hb, hml, hown, hts⟩ (c_X6_wholeBehind g l σ 7 3 6 (show 7 < 19 by decide) r τ h) (cl_X6_123 hts ⟨Nat.le_of_ble_eq_true rfl, Nat.le_of_ble_eq_true rfl⟩) (mpV_6 hZ hT hS hW tz_27 _) rfl rfl hl.1 rfl (lv_room (Nat.le_of_ble_eq_true rfl)) dX6_townLine_6 ⟨Nat.zero_le _, Nat.zero_le _⟩) (fun r_1 σ_2 H locs hf hW hS => ?_)
  refine lv_if_ne (tgt := 14) hx hb dX6_townLine_9 (by decide) (fun hc => ?_) (fun hc => ?_)
  · have hf := iff_ hc hf
    refine lv_aload_n hx hb dX6_townLine_14 rfl (lv_at hl 0 rfl) ?_
    refine gf_6_1 hx hb htg (htg _ lf_X6_15) hown hZ hW tz_27 dX6_townLine_15 hf (fun T_3 tT_3 hf => ?_)
    refine lv_aload_n hx hb dX6_townLine_18 rfl (lv_at hl 0 rfl) ?_
    refine gf_6_2 hx hb htg (htg _ lf_X6_127) hown hZ hW tz_27 dX6_townLine_19 ?_
    refine pfN_11_0 hx hb htg ln_X6_130 hown hZ hW hS tT_3 dX6_townLine_22 hf (fun σ_4 H locs hf hW hS => ?_)
    refine lv_aload_n hx hb dX6_townLine_25 rfl (lv_at hl 0 rfl) ?_
    refine va_ldcS (q := adS g 8) hx hb hown (lr_X6_132 hZ) dX6_townLine_26 ?_
    refine lv_iconst (v := 0) hx hb dX6_townLine_28 (by decide) ?_
    refine lv_iconst (v := 2) hx hb dX6_townLine_29 (by decide) ?_
    refine mci hf hS (fun r τ h => va_runV (As := [.ref (adS g 8), .int 0, .int 2]) (rest := []) ⟨hx, hb, hml, hown, hts⟩ (c_X6_wholeBehind g l σ_4 8 0 2 (show 8 < 19 by decide) r τ h) (cl_X6_123 hts ⟨Nat.le_of_ble_eq_true rfl, Nat.le_of_ble_eq_true rfl⟩) (mpV_6 hZ hT hS hW tz_27 _) rfl rfl hl.1 rfl (lv_room (Nat.le_of_ble_eq_true rfl)) dX6_townLine_30 ⟨Nat.zero_le _, Nat.zero_le _⟩) (fun r_5 σ_6 H locs hf hW hS => ?_)
    refine lv_if_ne (tgt := 38) hx hb dX6_townLine_33 (by decide) (fun hc => ?_) (fun hc => ?_)
    · have hf := iff_ hc hf
      refine lv_aload_n hx hb dX6_townLine_38 rfl (lv_at hl 0 rfl) ?_
      refine gf_6_1 hx hb htg (htg _ lf_X6_15) hown hZ hW tz_27 dX6_townLine_39 hf (fun T_7 tT_7 hf => ?_)
      refine lv_aload_n hx hb dX6_townLine_42 rfl (lv_at hl 0 rfl) ?_
      refine gf_6_2 hx hb htg (htg _ lf_X6_127) hown hZ hW tz_27 dX6_townLine_43 ?_
      refine pfN_11_1 hx hb htg ln_X6_134 hown hZ hW hS tT_7 dX6_townLine_46 hf (fun σ_8 H locs hf hW hS => ?_)
      refine lv_aload_n hx hb dX6_townLine_49 rfl (lv_at hl 0 rfl) ?_
      refine va_ldcS (q := adS g 9) hx hb hown (lr_X6_136 hZ) dX6_townLine_50 ?_
      refine lv_iconst (v := 0) hx hb dX6_townLine_52 (by decide) ?_
      refine lv_iconst (v := 3) hx hb dX6_townLine_53 (by decide) ?_
      refine mci hf hS (fun r τ h => va_runV (As := [.ref (adS g 9), .int 0, .int 3]) (rest := []) ⟨hx, hb, hml, hown, hts⟩ (c_X6_wholeBehind g l σ_8 9 0 3 (show 9 < 19 by decide) r τ h) (cl_X6_123 hts ⟨Nat.le_of_ble_eq_true rfl, Nat.le_of_ble_eq_true rfl⟩) (mpV_6 hZ hT hS hW tz_27 _) rfl rfl hl.1 rfl (lv_room (Nat.le_of_ble_eq_true rfl)) dX6_townLine_54 ⟨Nat.zero_le _, Nat.zero_le _⟩) (fun r_9 σ_10 H locs hf hW hS => ?_)
      refine lv_if_ne (tgt := 62) hx hb dX6_townLine_57 (by decide) (fun hc => ?_) (fun hc => ?_)
      · have hf := iff_ hc hf
        refine lv_aload_n hx hb dX6_townLine_62 rfl (lv_at hl 0 rfl) ?_
        refine gf_6_1 hx hb htg (htg _ lf_X6_15) hown hZ hW tz_27 dX6_townLine_63 hf (fun T_11 tT_11 hf => ?_)
        refine lv_aload_n hx hb dX6_townLine_66 rfl (lv_at hl 0 rfl) ?_
        refine gf_6_2 hx hb htg (htg _ lf_X6_127) hown hZ hW tz_27 dX6_townLine_67 ?_
        refine pfN_11_2 hx hb htg ln_X6_138 hown hZ hW hS tT_11 dX6_townLine_70 hf (fun σ_12 H locs hf hW hS => ?_)
        refine lv_aload_n hx hb dX6_townLine_73 rfl (lv_at hl 0 rfl) ?_
        refine va_ldcS (q := adS g 10) hx hb hown (lr_X6_140 hZ) dX6_townLine_74 ?_
        refine lv_iconst (v := 0) hx hb dX6_townLine_76 (by decide) ?_
        refine lv_bipush (v := 6) hx hb dX6_townLine_77 (by decide) ?_
        refine mci hf hS (fun r τ h => va_runV (As := [.ref (adS g 10), .int 0, .int 6]) (rest := []) ⟨hx, hb, hml, hown, hts⟩ (c_X6_wholeBehind g l σ_12 10 0 6 (show 10 < 19 by decide) r τ h) (cl_X6_123 hts ⟨Nat.le_of_ble_eq_true rfl, Nat.le_of_ble_eq_true rfl⟩) (mpV_6 hZ hT hS hW tz_27 _) rfl rfl hl.1 rfl (lv_room (Nat.le_of_ble_eq_true rfl)) dX6_townLine_79 ⟨Nat.zero_le _, Nat.zero_le _⟩) (fun r_13 σ_14 H locs hf hW hS => ?_)
        refine lv_if_ne (tgt := 87) hx hb dX6_townLine_82 (by decide) (fun hc => ?_) (fun hc => ?_)
        · have hf := iff_ hc hf
          refine lv_aload_n hx hb dX6_townLine_87 rfl (lv_at hl 0 rfl) ?_
          refine gf_6_1 hx hb htg (htg _ lf_X6_15) hown hZ hW tz_27 dX6_townLine_88 hf (fun T_15 tT_15 hf => ?_)
          refine lv_aload_n hx hb dX6_townLine_91 rfl (lv_at hl 0 rfl) ?_
          refine gf_6_2 hx hb htg (htg _ lf_X6_127) hown hZ hW tz_27 dX6_townLine_92 ?_
          refine pfN_11_3 hx hb htg ln_X6_142 hown hZ hW hS tT_15 dX6_townLine_95 hf (fun σ_16 H locs hf hW hS => ?_)
          refine lv_iconst (v := 1) hx hb dX6_townLine_98 (by decide) ?_
          subst hQ
          exact mrz hx hb hr hlocks hZ hT hS hW (by decide) (pr1 hf) dX6_townLine_99
        · have hf := ift hc hf
          refine lv_iconst (v := 0) hx hb dX6_townLine_85 (by decide) ?_
          subst hQ
          exact mrz hx hb hr hlocks hZ hT hS hW (by decide) (pr1 hf) dX6_townLine_86
      · have hf := ift hc hf
        refine lv_iconst (v := 0) hx hb dX6_townLine_60 (by decide) ?_
        subst hQ
        exact mrz hx hb hr hlocks hZ hT hS hW (by decide) (pr1 hf) dX6_townLine_61
    · have hf := ift hc hf
      refine lv_iconst (v := 0) hx hb dX6_townLine_36 (by decide) ?_
      subst hQ
      exact mrz hx hb hr hlocks hZ hT hS hW (by decide) (pr1 hf) dX6_townLine_37
  · have hf := ift hc hf
    refine lv_iconst (v := 0) hx hb dX6_townLine_12 (by decide) ?_
    subst hQ
    exact mrz hx hb hr hlocks hZ hT hS hW (by decide) (pr1 hf) dX6_townLine_13
def f_X10_name (σ : Mem)  : Option (Int64) :=
  nm (σ.1 1 4) (fun (x_1 : Int32) => fx2 FU (fun k_4 (j_2 : Int64) (i_3 : Int32) => (if (σ.1 1 3) ≤ i_3 then some j_2 else bd1 (f_X10_byteAt σ i_3) (fun (r_5 : Int32) => nm ((27 * j_2) + (((r_5 - 97) + 1).toInt64)) (fun (x_6 : Int64) => nm (i_3 + 1) (fun (x_7 : Int32) => k_4 x_6 x_7))))) 0 x_1)
set_option maxHeartbeats 4000000 in
set_option maxRecDepth 100000 in
theorem c_X10_name (g : XG) (l : Launch) (σ : Mem) (r : Int64) (hf : f_X10_name σ = some r) : Met l yX10_name (wx (.code yX10_name cX10_name 4 (some .long))) (kr 1 21) (va_Pc [.ref (bs g 1)] (WS g 0 81 σ)) (Ql' g 0 81 r σ) 0 0 (Ag g 0) := by
  refine Met.ofW (cc := cX10_name) (maxL := 4) (ret := (some .long)) (by decide) rfl ?_
  intro p e s m args below meth c s₁ B hml hv
  obtain ⟨rfl, hZ, hT, hW⟩ := hv
  have hx := B.exec
  have hb := B.bytes
  have hr := B.returns
  have hts : ∀ w ∈ wx (.code yX10_name cX10_name 4 (some .long)), w.before _ s = true := atoms_spec B.pre
  have htg : ∀ w ∈ lwg, w.before _ s = true := fun w h => hts w (List.mem_cons_of_mem _ h)
  have hown : s.vm.findClass RX10 = some m.cls := findClass_of_methodNamed B.named
  have hlocks := B.notSynchronized
  change W p l e (kr 1 21) s m (List.toArray [.ref (bs g 1)]) below meth c s.heap [] 0 0 (MQ below (Ql' g 0 81 r σ) (List.toArray [.ref (bs g 1)]) s 0 0 (Ag g 0)) _
  generalize hQ : MQ below (Ql' g 0 81 r σ) (List.toArray [.ref (bs g 1)]) s 0 0 (Ag g 0) = Q
  have hS : va_S (Ag g 0) s.heap s.heap [] := va_S.rf
  have hl := lv_entry ([.ref (bs g 1)]) (n := 4) (Nat.le_of_ble_eq_true rfl)
  rw [lg_entry_eq]
  generalize (lg_sl ([.ref (bs g 1)]) ++ List.replicate (4 - (lg_sl ([.ref (bs g 1)])).length) Slot.unset).toArray = ls at hl ⊢
  have hl : lv_has ls 4 [(0, .ref (bs g 1))] := hl
  delta f_X10_name at hf
  obtain ⟨H, hH⟩ : ∃ H, H = s.heap := ⟨_, rfl⟩
  obtain ⟨locs, hLc⟩ : ∃ z : List Loc, z = [] := ⟨_, rfl⟩
  have hS : va_S (Ag g 0) s.heap H locs := by rw [hH, hLc]; exact hS
  have hW : Wd g 0 81 σ H := by rw [hH]; exact hW
  suffices hG : W p l e (kr 1 21) s m (List.toArray [.ref (bs g 1)]) below meth c H locs 0 0 Q (F0 m 0 ls []) by rw [hH, hLc] at hG; exact hG
  clear hH hLc
  refine lv_lconst (v := 0) hx hb dX10_name_0 (by decide) ?_
  refine lv_lstore_n (lv' := [(1, .long 0), (0, .ref (bs g 1))]) hx hb dX10_name_1 rfl hl (by decide) rfl (fun ls hl => ?_)
  refine lv_aload_n hx hb dX10_name_2 rfl (lv_at hl 1 rfl) ?_
  refine gf_10_4 hx hb htg (htg _ lf_X10_36) hown hZ hW tz_1 dX10_name_3 ?_
  refine mnmi hf (fun (x_1 : Int32) hf => ?_)
  refine lv_istore_n (lv' := [(3, .int x_1), (1, .long 0), (0, .ref (bs g 1))]) hx hb dX10_name_6 rfl hl (by decide) rfl (fun ls hl => ?_)
  refine fx2_W (fun (j_2 : Int64) (i_3 : Int32) => ∀ (H : Heap) (locs : List Loc) (ls : Array Slot), Wd g 0 81 σ H → va_S (Ag g 0) s.heap H locs → lv_has ls 4 [(0, .ref (bs g 1)), (1, .long j_2), (3, .int i_3)] → W p l e (kr 1 21) s m (List.toArray [.ref (bs g 1)]) below meth c H locs 0 0 Q (F0 m 7 ls [])) (fun k_4 hk_4 j_2 i_3 hf => ?_) FU 0 x_1 hf H locs ls hW hS (lv_sub hl [2, 1, 0] rfl)
  intro H locs ls hW hS hl
  refine lv_iload_n hx hb dX10_name_7 rfl (lv_at hl 2 rfl) ?_
  refine lv_aload_n hx hb dX10_name_8 rfl (lv_at hl 0 rfl) ?_
  refine gf_10_3 hx hb htg (htg _ lf_X10_26) hown hZ hW tz_1 dX10_name_9 ?_
  refine lv_icmp_ge (tgt := 39) hx hb dX10_name_12 (by decide) (fun hc => ?_) (fun hc => ?_)
  · have hf := ift hc hf
    refine lv_lload_n hx hb dX10_name_39 rfl (lv_at hl 1 rfl) ?_
    subst hQ
    exact mrl hx hb hr hlocks hZ hT hS hW ⟨Option.some.inj hf, rfl⟩ dX10_name_40
  · have hf := iff_ hc hf
    refine lv_ldc2 (v := 27) hx hb hown (htg _ lk_X10_61) dX10_name_15 ?_
    refine lv_lload_n hx hb dX10_name_18 rfl (lv_at hl 1 rfl) ?_
    refine lv_lmul hx hb dX10_name_19 ?_
    refine lv_aload_n hx hb dX10_name_20 rfl (lv_at hl 0 rfl) ?_
    refine lv_iload_n hx hb dX10_name_21 rfl (lv_at hl 2 rfl) ?_
    refine mcip hf hS (fun r h => va_runV (As := [.int i_3]) (rest := [.long (27 * j_2)]) ⟨hx, hb, hml, hown, hts⟩ (c_X10_byteAt g l σ i_3 r h) (cl_X10_54 hts ⟨Nat.le_of_ble_eq_true rfl, Nat.le_of_ble_eq_true rfl⟩) (mpV_10 hZ hT hS hW tz_1 _) rfl rfl hl.1 rfl (lv_room (Nat.le_of_ble_eq_true rfl)) dX10_name_22 ⟨Nat.zero_le _, Nat.zero_le _⟩) (fun r_5 H locs hf hW hS => ?_)
    refine lv_bipush (v := 97) hx hb dX10_name_25 (by decide) ?_
    refine lv_isub hx hb dX10_name_27 ?_
    refine lv_iconst (v := 1) hx hb dX10_name_28 (by decide) ?_
    refine lv_iadd hx hb dX10_name_29 ?_
    refine lv_i2l (v := ((r_5 - 97) + 1).toInt64) hx hb dX10_name_30 rfl ?_
    refine lv_ladd hx hb dX10_name_31 ?_
    refine mnml hf (fun (x_6 : Int64) hf => ?_)
    refine lv_lstore_n (lv' := [(1, .long x_6), (0, .ref (bs g 1)), (3, .int i_3)]) hx hb dX10_name_32 rfl hl (by decide) rfl (fun ls hl => ?_)
    obtain ⟨x_7, e_8, hf⟩ := nm_s hf
    refine lv_iinc (v := x_7) (lv' := [(3, .int x_7), (1, .long x_6), (0, .ref (bs g 1))]) hx hb dX10_name_33 hl (k := 2) rfl (by rw [e_8]; rfl) (by decide) rfl (fun ls hl => ?_)
    refine lv_goto (tgt := 7) hx hb dX10_name_36 (by decide) ?_
    exact hk_4 x_6 x_7 hf H locs ls hW hS (lv_sub hl [2, 1, 0] rfl)
def f_X11_personNamed (σ : Mem) (p0 : Nat) (a1 : Int64) : Option (Int32) :=
  fx1 FU (fun k_2 (i_1 : Int32) => bd1 (f_X11_people σ p0) (fun (r_3 : Int32) => (if r_3 ≤ i_1 then some (-2) else (if (nI (aln (p0 + 2))) ≤ i_1 then some (-2) else ixd i_1 (aln (p0 + 2)) ((if (lg_cmp (σ.2.1 (p0 + 2) i_1.toNatClampNeg) a1) = 0 then some i_1 else nm (i_1 + 1) (fun (x_4 : Int32) => k_2 x_4))))))) 0
set_option maxHeartbeats 4000000 in
set_option maxRecDepth 100000 in
theorem c_X11_personNamed (g : XG) (l : Launch) (lo n : Nat) (σ : Mem) (p0 : Nat) (a1 : Int64) (t0 : tp 11 lo n p0) (r : Int32) (hf : f_X11_personNamed σ p0 a1 = some r) : Met l yX11_personNamed (wx (.code yX11_personNamed cX11_personNamed 4 (some .int))) (kr 2 41) (va_Pc [.ref (bs g p0), .long a1] (WS g lo n σ)) (Qi' g lo n r σ) 0 0 (Ag g lo) := by
  refine Met.ofW (cc := cX11_personNamed) (maxL := 4) (ret := (some .int)) (by decide) rfl ?_
  intro p e s m args below meth c s₁ B hml hv
  obtain ⟨rfl, hZ, hT, hW⟩ := hv
  have hx := B.exec
  have hb := B.bytes
  have hr := B.returns
  have hts : ∀ w ∈ wx (.code yX11_personNamed cX11_personNamed 4 (some .int)), w.before _ s = true := atoms_spec B.pre
  have htg : ∀ w ∈ lwg, w.before _ s = true := fun w h => hts w (List.mem_cons_of_mem _ h)
  have hown : s.vm.findClass RX11 = some m.cls := findClass_of_methodNamed B.named
  have hlocks := B.notSynchronized
  change W p l e (kr 2 41) s m (List.toArray [.ref (bs g p0), .long a1]) below meth c s.heap [] 0 0 (MQ below (Qi' g lo n r σ) (List.toArray [.ref (bs g p0), .long a1]) s 0 0 (Ag g lo)) _
  generalize hQ : MQ below (Qi' g lo n r σ) (List.toArray [.ref (bs g p0), .long a1]) s 0 0 (Ag g lo) = Q
  have hS : va_S (Ag g lo) s.heap s.heap [] := va_S.rf
  have hl := lv_entry ([.ref (bs g p0), .long a1]) (n := 4) (Nat.le_of_ble_eq_true rfl)
  rw [lg_entry_eq]
  generalize (lg_sl ([.ref (bs g p0), .long a1]) ++ List.replicate (4 - (lg_sl ([.ref (bs g p0), .long a1])).length) Slot.unset).toArray = ls at hl ⊢
  have hl : lv_has ls 4 [(0, .ref (bs g p0)), (1, .long a1)] := hl
  delta f_X11_personNamed at hf
  obtain ⟨H, hH⟩ : ∃ H, H = s.heap := ⟨_, rfl⟩
  obtain ⟨locs, hLc⟩ : ∃ z : List Loc, z = [] := ⟨_, rfl⟩
  have hS : va_S (Ag g lo) s.heap H locs := by rw [hH, hLc]; exact hS
  have hW : Wd g lo n σ H := by rw [hH]; exact hW
  suffices hG : W p l e (kr 2 41) s m (List.toArray [.ref (bs g p0), .long a1]) below meth c H locs 0 0 Q (F0 m 0 ls []) by rw [hH, hLc] at hG; exact hG
  clear hH hLc
  refine lv_iconst (v := 0) hx hb dX11_personNamed_0 (by decide) ?_
  refine lv_istore_n (lv' := [(3, .int 0), (0, .ref (bs g p0)), (1, .long a1)]) hx hb dX11_personNamed_1 rfl hl (by decide) rfl (fun ls hl => ?_)
  refine fx1_W (fun (i_1 : Int32) => ∀ (H : Heap) (locs : List Loc) (ls : Array Slot), Wd g lo n σ H → va_S (Ag g lo) s.heap H locs → lv_has ls 4 [(0, .ref (bs g p0)), (1, .long a1), (3, .int i_1)] → W p l e (kr 2 41) s m (List.toArray [.ref (bs g p0), .long a1]) below meth c H locs 0 0 Q (F0 m 2 ls [])) (fun k_2 hk_2 i_1 hf => ?_) FU 0 hf H locs ls hW hS (lv_sub hl [1, 2, 0] rfl)
  intro H locs ls hW hS hl
  refine lv_iload_n hx hb dX11_personNamed_2 rfl (lv_at hl 2 rfl) ?_
  refine lv_aload_n hx hb dX11_personNamed_3 rfl (lv_at hl 0 rfl) ?_
  refine mcip hf hS (fun r h => va_runV (As := []) (rest := [.int i_1]) ⟨hx, hb, hml, hown, hts⟩ (c_X11_people g l lo n σ p0 t0 r h) (cl_X11_95 hts ⟨Nat.le_of_ble_eq_true rfl, Nat.le_of_ble_eq_true rfl⟩) (mpV_11 hZ hT hS hW t0 _) rfl rfl hl.1 rfl (lv_room (Nat.le_of_ble_eq_true rfl)) dX11_personNamed_4 ⟨Nat.zero_le _, Nat.zero_le _⟩) (fun r_3 H locs hf hW hS => ?_)
  refine lv_icmp_ge (tgt := 38) hx hb dX11_personNamed_7 (by decide) (fun hc => ?_) (fun hc => ?_)
  · have hf := ift hc hf
    refine lv_bipush (v := (-2)) hx hb dX11_personNamed_38 (by decide) ?_
    subst hQ
    exact mri hx hb hr hlocks hZ hT hS hW ⟨Option.some.inj hf, rfl⟩ dX11_personNamed_40
  · have hf := iff_ hc hf
    refine lv_iload_n hx hb dX11_personNamed_10 rfl (lv_at hl 2 rfl) ?_
    refine lv_aload_n hx hb dX11_personNamed_11 rfl (lv_at hl 0 rfl) ?_
    refine gf_11_5 hx hb htg (htg _ lf_X11_19) hown hZ hW t0 dX11_personNamed_12 ?_
    refine mln_l hx hb hZ hW (t0.sub 22 2 so_11_22_2) dX11_personNamed_15 ?_
    refine lv_icmp_ge (tgt := 38) hx hb dX11_personNamed_16 (by decide) (fun hc => ?_) (fun hc => ?_)
    · have hf := ift hc hf
      refine lv_bipush (v := (-2)) hx hb dX11_personNamed_38 (by decide) ?_
      subst hQ
      exact mri hx hb hr hlocks hZ hT hS hW ⟨Option.some.inj hf, rfl⟩ dX11_personNamed_40
    · have hf := iff_ hc hf
      refine lv_aload_n hx hb dX11_personNamed_19 rfl (lv_at hl 0 rfl) ?_
      refine gf_11_5 hx hb htg (htg _ lf_X11_19) hown hZ hW t0 dX11_personNamed_20 ?_
      refine lv_iload_n hx hb dX11_personNamed_23 rfl (lv_at hl 2 rfl) ?_
      refine mld_l hx hb hZ hW (t0.sub 22 2 so_11_22_2) hf dX11_personNamed_24 (fun hf => ?_)
      refine lv_lload_n hx hb dX11_personNamed_25 rfl (lv_at hl 1 rfl) ?_
      refine W.lcmp hx hb dX11_personNamed_26 ?_
      refine lv_if_ne (tgt := 32) hx hb dX11_personNamed_27 (by decide) (fun hc => ?_) (fun hc => ?_)
      · have hf := iff_ hc hf
        obtain ⟨x_4, e_5, hf⟩ := nm_s hf
        refine lv_iinc (v := x_4) (lv' := [(3, .int x_4), (0, .ref (bs g p0)), (1, .long a1)]) hx hb dX11_personNamed_32 hl (k := 2) rfl (by rw [e_5]; rfl) (by decide) rfl (fun ls hl => ?_)
        refine lv_goto (tgt := 2) hx hb dX11_personNamed_35 (by decide) ?_
        exact hk_2 x_4 hf H locs ls hW hS (lv_sub hl [1, 2, 0] rfl)
      · have hf := ift hc hf
        refine lv_iload_n hx hb dX11_personNamed_30 rfl (lv_at hl 2 rfl) ?_
        subst hQ
        exact mri hx hb hr hlocks hZ hT hS hW ⟨Option.some.inj hf, rfl⟩ dX11_personNamed_31
def f_X6_kindWord (σ : Mem)  : Option (Int32 × Mem) :=
  nm (sI σ 27 3 (σ.1 1 4)) (fun (σ_1 : Mem) => bd1 (f_X10_is σ_1 15) (fun (r_2 : Int32) => jn1 (fun (i_3 : Int32) => nm (sI σ_1 27 2 i_3) (fun (σ_5 : Mem) => (if 0 ≤ (σ_5.1 27 2) then bd1 (f_X10_step σ_5) (fun (σ_6 : Mem) => some (1, σ_6)) else bd2 (f_X6_fail σ_5 1) (fun (r_7 : Int32) (σ_8 : Mem) => zrm r_7 σ_8)))) (fun k_4 => (if r_2 = 0 then bd1 (f_X10_is σ_1 16) (fun (r_9 : Int32) => (if r_9 = 0 then bd1 (f_X10_is σ_1 17) (fun (r_10 : Int32) => (if r_10 = 0 then bd1 (f_X10_is σ_1 18) (fun (r_11 : Int32) => (if r_11 = 0 then k_4 (-2) else k_4 3)) else k_4 2)) else k_4 1)) else k_4 0))))
set_option maxHeartbeats 4000000 in
set_option maxRecDepth 100000 in
theorem c_X6_kindWord (g : XG) (l : Launch) (σ : Mem) (r : Int32) (τ : Mem) (hf : f_X6_kindWord σ = some (r, τ)) : Met l yX6_kindWord (wx (.code yX6_kindWord cX6_kindWord 1 (some .boolean))) (kr 5 107) (va_Pc [.ref (bs g 27)] (WS g 0 81 σ)) (Qi' g 0 81 r τ) 0 0 (Ag g 0) := by
  refine Met.ofW (cc := cX6_kindWord) (maxL := 1) (ret := (some .boolean)) (by decide) rfl ?_
  intro p e s m args below meth c s₁ B hml hv
  obtain ⟨rfl, hZ, hT, hW⟩ := hv
  have hx := B.exec
  have hb := B.bytes
  have hr := B.returns
  have hts : ∀ w ∈ wx (.code yX6_kindWord cX6_kindWord 1 (some .boolean)), w.before _ s = true := atoms_spec B.pre
  have htg : ∀ w ∈ lwg, w.before _ s = true := fun w h => hts w (List.mem_cons_of_mem _ h)
  have hown : s.vm.findClass RX6 = some m.cls := findClass_of_methodNamed B.named
  have hlocks := B.notSynchronized
  change W p l e (kr 5 107) s m (List.toArray [.ref (bs g 27)]) below meth c s.heap [] 0 0 (MQ below (Qi' g 0 81 r τ) (List.toArray [.ref (bs g 27)]) s 0 0 (Ag g 0)) _
  generalize hQ : MQ below (Qi' g 0 81 r τ) (List.toArray [.ref (bs g 27)]) s 0 0 (Ag g 0) = Q
  have hS : va_S (Ag g 0) s.heap s.heap [] := va_S.rf
  have hl := lv_entry ([.ref (bs g 27)]) (n := 1) (Nat.le_of_ble_eq_true rfl)
  rw [lg_entry_eq]
  generalize (lg_sl ([.ref (bs g 27)]) ++ List.replicate (1 - (lg_sl ([.ref (bs g 27)])).length) Slot.unset).toArray = ls at hl ⊢
  have hl : lv_has ls 1 [(0, .ref (bs g 27))] := hl
  delta f_X6_kindWord at hf
  obtain ⟨H, hH⟩ : ∃ H, H = s.heap := ⟨_, rfl⟩
  obtain ⟨locs, hLc⟩ : ∃ z : List Loc, z = [] := ⟨_, rfl⟩
  have hS : va_S (Ag g 0) s.heap H locs := by rw [hH, hLc]; exact hS
  have hW : Wd g 0 81 σ H := by rw [hH]; exact hW
  suffices hG : W p l e (kr 5 107) s m (List.toArray [.ref (bs g 27)]) below meth c H locs 0 0 Q (F0 m 0 ls []) by rw [hH, hLc] at hG; exact hG
  clear hH hLc
  refine lv_aload_n hx hb dX6_kindWord_0 rfl (lv_at hl 0 rfl) ?_
  refine lv_aload_n hx hb dX6_kindWord_1 rfl (lv_at hl 0 rfl) ?_
  refine gf_6_0 hx hb htg (htg _ lf_X6_9) hown hZ hW tz_27 dX6_kindWord_2 ?_
  refine gfN_10_4 hx hb htg ln_X6_44 hown hZ hW tz_1 dX6_kindWord_5 ?_
  refine pf_6_3 hx hb htg (htg _ lf_X6_47) hown hZ hW hS tz_27 dX6_kindWord_8 hf (fun σ_1 H locs hf hW hS => ?_)
  refine lv_aload_n hx hb dX6_kindWord_11 rfl (lv_at hl 0 rfl) ?_
  refine lv_aload_n hx hb dX6_kindWord_12 rfl (lv_at hl 0 rfl) ?_
  refine gf_6_0 hx hb htg (htg _ lf_X6_9) hown hZ hW tz_27 dX6_kindWord_13 ?_
  refine va_ldcS (q := adS g 15) hx hb hown (lr_X6_226 hZ) dX6_kindWord_16 ?_
  refine mcip hf hS (fun r h => va_runV (As := [.ref (adS g 15)]) (rest := [.ref (bs g 27)]) ⟨hx, hb, hml, hown, hts⟩ (c_X10_is g l σ_1 15 (show 15 < 19 by decide) r h) (cl_X6_117 hts ⟨Nat.le_of_ble_eq_true rfl, Nat.le_of_ble_eq_true rfl⟩) (mpV_10 hZ hT hS hW tz_1 _) rfl rfl hl.1 rfl (lv_room (Nat.le_of_ble_eq_true rfl)) dX6_kindWord_18 ⟨Nat.zero_le _, Nat.zero_le _⟩) (fun r_2 H locs hf hW hS => ?_)
  refine jn1_W (fun (i_3 : Int32) => ∀ (H : Heap) (locs : List Loc) (ls : Array Slot), Wd g 0 81 σ_1 H → va_S (Ag g 0) s.heap H locs → lv_has ls 1 [(0, .ref (bs g 27))] → W p l e (kr 5 107) s m (List.toArray [.ref (bs g 27)]) below meth c H locs 0 0 Q (F0 m 78 ls [.int i_3, .ref (bs g 27)])) hf (fun i_3 hf => ?_) (fun k_4 hk_4 hf => ?_)
  · intro H locs ls hW hS hl
    refine pf_6_2 hx hb htg (htg _ lf_X6_127) hown hZ hW hS tz_27 dX6_kindWord_78 hf (fun σ_5 H locs hf hW hS => ?_)
    refine lv_aload_n hx hb dX6_kindWord_81 rfl (lv_at hl 0 rfl) ?_
    refine gf_6_2 hx hb htg (htg _ lf_X6_127) hown hZ hW tz_27 dX6_kindWord_82 ?_
    refine lv_if_ge (tgt := 94) hx hb dX6_kindWord_85 (by decide) (fun hc => ?_) (fun hc => ?_)
    · have hf := ift hc hf
      refine lv_aload_n hx hb dX6_kindWord_94 rfl (lv_at hl 0 rfl) ?_
      refine gf_6_0 hx hb htg (htg _ lf_X6_9) hown hZ hW tz_27 dX6_kindWord_95 ?_
      refine mcv hf hS (fun τ h => va_runV (As := []) (rest := []) ⟨hx, hb, hml, hown, hts⟩ (c_X10_step g l σ_5 τ h) (cl_X6_41 hts ⟨Nat.le_of_ble_eq_true rfl, Nat.le_of_ble_eq_true rfl⟩) (mpV_10 hZ hT hS hW tz_1 _) rfl rfl hl.1 rfl (lv_room (Nat.le_of_ble_eq_true rfl)) dX6_kindWord_98 ⟨Nat.zero_le _, Nat.zero_le _⟩) (fun σ_6 H locs hf hW hS => ?_)
      refine lv_iconst (v := 1) hx hb dX6_kindWord_101 (by decide) ?_
      subst hQ
      exact mrz hx hb hr hlocks hZ hT hS hW (by decide) (pr1 hf) dX6_kindWord_102
    · have hf := iff_ hc hf
      refine lv_aload_n hx hb dX6_kindWord_88 rfl (lv_at hl 0 rfl) ?_
      refine lv_iconst (v := 1) hx hb dX6_kindWord_89 (by decide) ?_
      refine mci hf hS (fun r τ h => va_runV (As := [.int 1]) (rest := []) ⟨hx, hb, hml, hown, hts⟩ (c_X6_fail g l σ_5 1 r τ h) (cl_X6_58 hts ⟨Nat.le_of_ble_eq_true rfl, Nat.le_of_ble_eq_true rfl⟩) (mpV_6 hZ hT hS hW tz_27 _) rfl rfl hl.1 rfl (lv_room (Nat.le_of_ble_eq_true rfl)) dX6_kindWord_90 ⟨Nat.zero_le _, Nat.zero_le _⟩) (fun r_7 σ_8 H locs hf hW hS => ?_)
      subst hQ
      exact mrz hx hb hr hlocks hZ hT hS hW (zrm_s hf).1 (zrm_s hf).2 dX6_kindWord_93
  · refine lv_if_eq (tgt := 28) hx hb dX6_kindWord_21 (by decide) (fun hc => ?_) (fun hc => ?_)
    · have hf := ift hc hf
      refine lv_aload_n hx hb dX6_kindWord_28 rfl (lv_at hl 0 rfl) ?_
      refine gf_6_0 hx hb htg (htg _ lf_X6_9) hown hZ hW tz_27 dX6_kindWord_29 ?_
      refine va_ldcS (q := adS g 16) hx hb hown (lr_X6_228 hZ) dX6_kindWord_32 ?_
      refine mcip hf hS (fun r h => va_runV (As := [.ref (adS g 16)]) (rest := [.ref (bs g 27)]) ⟨hx, hb, hml, hown, hts⟩ (c_X10_is g l σ_1 16 (show 16 < 19 by decide) r h) (cl_X6_117 hts ⟨Nat.le_of_ble_eq_true rfl, Nat.le_of_ble_eq_true rfl⟩) (mpV_10 hZ hT hS hW tz_1 _) rfl rfl hl.1 rfl (lv_room (Nat.le_of_ble_eq_true rfl)) dX6_kindWord_34 ⟨Nat.zero_le _, Nat.zero_le _⟩) (fun r_9 H locs hf hW hS => ?_)
      refine lv_if_eq (tgt := 44) hx hb dX6_kindWord_37 (by decide) (fun hc => ?_) (fun hc => ?_)
      · have hf := ift hc hf
        refine lv_aload_n hx hb dX6_kindWord_44 rfl (lv_at hl 0 rfl) ?_
        refine gf_6_0 hx hb htg (htg _ lf_X6_9) hown hZ hW tz_27 dX6_kindWord_45 ?_
        refine va_ldcS (q := adS g 17) hx hb hown (lr_X6_230 hZ) dX6_kindWord_48 ?_
        refine mcip hf hS (fun r h => va_runV (As := [.ref (adS g 17)]) (rest := [.ref (bs g 27)]) ⟨hx, hb, hml, hown, hts⟩ (c_X10_is g l σ_1 17 (show 17 < 19 by decide) r h) (cl_X6_117 hts ⟨Nat.le_of_ble_eq_true rfl, Nat.le_of_ble_eq_true rfl⟩) (mpV_10 hZ hT hS hW tz_1 _) rfl rfl hl.1 rfl (lv_room (Nat.le_of_ble_eq_true rfl)) dX6_kindWord_50 ⟨Nat.zero_le _, Nat.zero_le _⟩) (fun r_10 H locs hf hW hS => ?_)
        refine lv_if_eq (tgt := 60) hx hb dX6_kindWord_53 (by decide) (fun hc => ?_) (fun hc => ?_)
        · have hf := ift hc hf
          refine lv_aload_n hx hb dX6_kindWord_60 rfl (lv_at hl 0 rfl) ?_
          refine gf_6_0 hx hb htg (htg _ lf_X6_9) hown hZ hW tz_27 dX6_kindWord_61 ?_
          refine va_ldcS (q := adS g 18) hx hb hown (lr_X6_232 hZ) dX6_kindWord_64 ?_
          refine mcip hf hS (fun r h => va_runV (As := [.ref (adS g 18)]) (rest := [.ref (bs g 27)]) ⟨hx, hb, hml, hown, hts⟩ (c_X10_is g l σ_1 18 (show 18 < 19 by decide) r h) (cl_X6_117 hts ⟨Nat.le_of_ble_eq_true rfl, Nat.le_of_ble_eq_true rfl⟩) (mpV_10 hZ hT hS hW tz_1 _) rfl rfl hl.1 rfl (lv_room (Nat.le_of_ble_eq_true rfl)) dX6_kindWord_66 ⟨Nat.zero_le _, Nat.zero_le _⟩) (fun r_11 H locs hf hW hS => ?_)
          refine lv_if_eq (tgt := 76) hx hb dX6_kindWord_69 (by decide) (fun hc => ?_) (fun hc => ?_)
          · have hf := ift hc hf
            refine lv_bipush (v := (-2)) hx hb dX6_kindWord_76 (by decide) ?_
            exact hk_4 (-2) hf H locs ls hW hS (lv_sub hl [0] rfl)
          · have hf := iff_ hc hf
            refine lv_iconst (v := 3) hx hb dX6_kindWord_72 (by decide) ?_
            refine lv_goto (tgt := 78) hx hb dX6_kindWord_73 (by decide) ?_
            exact hk_4 3 hf H locs ls hW hS (lv_sub hl [0] rfl)
        · have hf := iff_ hc hf
          refine lv_iconst (v := 2) hx hb dX6_kindWord_56 (by decide) ?_
          refine lv_goto (tgt := 78) hx hb dX6_kindWord_57 (by decide) ?_
          exact hk_4 2 hf H locs ls hW hS (lv_sub hl [0] rfl)
      · have hf := iff_ hc hf
        refine lv_iconst (v := 1) hx hb dX6_kindWord_40 (by decide) ?_
        refine lv_goto (tgt := 78) hx hb dX6_kindWord_41 (by decide) ?_
        exact hk_4 1 hf H locs ls hW hS (lv_sub hl [0] rfl)
    · have hf := iff_ hc hf
      refine lv_iconst (v := 0) hx hb dX6_kindWord_24 (by decide) ?_
      refine lv_goto (tgt := 78) hx hb dX6_kindWord_25 (by decide) ?_
      exact hk_4 0 hf H locs ls hW hS (lv_sub hl [0] rfl)
def f_X10_lookOf (σ : Mem) (a1 : Int32) : Option (Int32) :=
  (if (σ.1 1 5) = 2 then (if ((σ.1 1 3) - (σ.1 1 4)) = a1 then fx2 FU (fun k_3 (i_1 : Int32) (i_2 : Int32) => (if a1 ≤ i_2 then some i_1 else bd1 (f_X10_byteAt σ ((σ.1 1 4) + i_2)) (fun (r_4 : Int32) => nm (r_4 - 97) (fun (x_5 : Int32) => (if x_5 < 4 then bd1 (f_X5_goneOn i_1 i_2 x_5) (fun (r_6 : Int32) => nm (i_2 + 1) (fun (x_7 : Int32) => k_3 r_6 x_7)) else some (-2)))))) 0 0 else some (-2)) else some (-2))
set_option maxHeartbeats 4000000 in
set_option maxRecDepth 100000 in
theorem c_X10_lookOf (g : XG) (l : Launch) (σ : Mem) (a1 : Int32) (r : Int32) (hf : f_X10_lookOf σ a1 = some r) : Met l yX10_lookOf (wx (.code yX10_lookOf cX10_lookOf 5 (some .int))) (kr 1 24) (va_Pc [.ref (bs g 1), .int a1] (WS g 0 81 σ)) (Qi' g 0 81 r σ) 0 0 (Ag g 0) := by
  refine Met.ofW (cc := cX10_lookOf) (maxL := 5) (ret := (some .int)) (by decide) rfl ?_
  intro p e s m args below meth c s₁ B hml hv
  obtain ⟨rfl, hZ, hT, hW⟩ := hv
  have hx := B.exec
  have hb := B.bytes
  have hr := B.returns
  have hts : ∀ w ∈ wx (.code yX10_lookOf cX10_lookOf 5 (some .int)), w.before _ s = true := atoms_spec B.pre
  have htg : ∀ w ∈ lwg, w.before _ s = true := fun w h => hts w (List.mem_cons_of_mem _ h)
  have hown : s.vm.findClass RX10 = some m.cls := findClass_of_methodNamed B.named
  have hlocks := B.notSynchronized
  change W p l e (kr 1 24) s m (List.toArray [.ref (bs g 1), .int a1]) below meth c s.heap [] 0 0 (MQ below (Qi' g 0 81 r σ) (List.toArray [.ref (bs g 1), .int a1]) s 0 0 (Ag g 0)) _
  generalize hQ : MQ below (Qi' g 0 81 r σ) (List.toArray [.ref (bs g 1), .int a1]) s 0 0 (Ag g 0) = Q
  have hS : va_S (Ag g 0) s.heap s.heap [] := va_S.rf
  have hl := lv_entry ([.ref (bs g 1), .int a1]) (n := 5) (Nat.le_of_ble_eq_true rfl)
  rw [lg_entry_eq]
  generalize (lg_sl ([.ref (bs g 1), .int a1]) ++ List.replicate (5 - (lg_sl ([.ref (bs g 1), .int a1])).length) Slot.unset).toArray = ls at hl ⊢
  have hl : lv_has ls 5 [(0, .ref (bs g 1)), (1, .int a1)] := hl
  delta f_X10_lookOf at hf
  obtain ⟨H, hH⟩ : ∃ H, H = s.heap := ⟨_, rfl⟩
  obtain ⟨locs, hLc⟩ : ∃ z : List Loc, z = [] := ⟨_, rfl⟩
  have hS : va_S (Ag g 0) s.heap H locs := by rw [hH, hLc]; exact hS
  have hW : Wd g 0 81 σ H := by rw [hH]; exact hW
  suffices hG : W p l e (kr 1 24) s m (List.toArray [.ref (bs g 1), .int a1]) below meth c H locs 0 0 Q (F0 m 0 ls []) by rw [hH, hLc] at hG; exact hG
  clear hH hLc
  refine lv_aload_n hx hb dX10_lookOf_0 rfl (lv_at hl 0 rfl) ?_
  refine gf_10_5 hx hb htg (htg _ lf_X10_39) hown hZ hW tz_1 dX10_lookOf_1 ?_
  refine lv_iconst (v := 2) hx hb dX10_lookOf_4 (by decide) ?_
  refine lv_icmp_ne (tgt := 21) hx hb dX10_lookOf_5 (by decide) (fun hc => ?_) (fun hc => ?_)
  · have hf := iff_ hc hf
    refine lv_bipush (v := (-2)) hx hb dX10_lookOf_21 (by decide) ?_
    subst hQ
    exact mri hx hb hr hlocks hZ hT hS hW ⟨Option.some.inj hf, rfl⟩ dX10_lookOf_23
  · have hf := ift hc hf
    refine lv_aload_n hx hb dX10_lookOf_8 rfl (lv_at hl 0 rfl) ?_
    refine gf_10_3 hx hb htg (htg _ lf_X10_26) hown hZ hW tz_1 dX10_lookOf_9 ?_
    refine lv_aload_n hx hb dX10_lookOf_12 rfl (lv_at hl 0 rfl) ?_
    refine gf_10_4 hx hb htg (htg _ lf_X10_36) hown hZ hW tz_1 dX10_lookOf_13 ?_
    refine lv_isub hx hb dX10_lookOf_16 ?_
    refine lv_iload_n hx hb dX10_lookOf_17 rfl (lv_at hl 1 rfl) ?_
    refine lv_icmp_eq (tgt := 24) hx hb dX10_lookOf_18 (by decide) (fun hc => ?_) (fun hc => ?_)
    · have hf := ift hc hf
      refine lv_iconst (v := 0) hx hb dX10_lookOf_24 (by decide) ?_
      refine lv_istore_n (lv' := [(2, .int 0), (0, .ref (bs g 1)), (1, .int a1)]) hx hb dX10_lookOf_25 rfl hl (by decide) rfl (fun ls hl => ?_)
      refine lv_iconst (v := 0) hx hb dX10_lookOf_26 (by decide) ?_
      refine lv_istore_n (lv' := [(3, .int 0), (2, .int 0), (0, .ref (bs g 1)), (1, .int a1)]) hx hb dX10_lookOf_27 rfl hl (by decide) rfl (fun ls hl => ?_)
      refine fx2_W (fun (i_1 : Int32) (i_2 : Int32) => ∀ (H : Heap) (locs : List Loc) (ls : Array Slot), Wd g 0 81 σ H → va_S (Ag g 0) s.heap H locs → lv_has ls 5 [(0, .ref (bs g 1)), (1, .int a1), (2, .int i_1), (3, .int i_2)] → W p l e (kr 1 24) s m (List.toArray [.ref (bs g 1), .int a1]) below meth c H locs 0 0 Q (F0 m 28 ls [])) (fun k_3 hk_3 i_1 i_2 hf => ?_) FU 0 0 hf H locs ls hW hS (lv_sub hl [2, 3, 1, 0] rfl)
      intro H locs ls hW hS hl
      refine lv_iload_n hx hb dX10_lookOf_28 rfl (lv_at hl 3 rfl) ?_
      refine lv_iload_n hx hb dX10_lookOf_29 rfl (lv_at hl 1 rfl) ?_
      refine lv_icmp_ge (tgt := 71) hx hb dX10_lookOf_30 (by decide) (fun hc => ?_) (fun hc => ?_)
      · have hf := ift hc hf
        refine lv_iload_n hx hb dX10_lookOf_71 rfl (lv_at hl 2 rfl) ?_
        subst hQ
        exact mri hx hb hr hlocks hZ hT hS hW ⟨Option.some.inj hf, rfl⟩ dX10_lookOf_72
      · have hf := iff_ hc hf
        refine lv_aload_n hx hb dX10_lookOf_33 rfl (lv_at hl 0 rfl) ?_
        refine lv_aload_n hx hb dX10_lookOf_34 rfl (lv_at hl 0 rfl) ?_
        refine gf_10_4 hx hb htg (htg _ lf_X10_36) hown hZ hW tz_1 dX10_lookOf_35 ?_
        refine lv_iload_n hx hb dX10_lookOf_38 rfl (lv_at hl 3 rfl) ?_
        refine lv_iadd hx hb dX10_lookOf_39 ?_
        refine mcip hf hS (fun r h => va_runV (As := [.int ((σ.1 1 4) + i_2)]) (rest := []) ⟨hx, hb, hml, hown, hts⟩ (c_X10_byteAt g l σ ((σ.1 1 4) + i_2) r h) (cl_X10_54 hts ⟨Nat.le_of_ble_eq_true rfl, Nat.le_of_ble_eq_true rfl⟩) (mpV_10 hZ hT hS hW tz_1 _) rfl rfl hl.1 rfl (lv_room (Nat.le_of_ble_eq_true rfl)) dX10_lookOf_40 ⟨Nat.zero_le _, Nat.zero_le _⟩) (fun r_4 H locs hf hW hS => ?_)
        refine lv_bipush (v := 97) hx hb dX10_lookOf_43 (by decide) ?_
        refine lv_isub hx hb dX10_lookOf_45 ?_
        refine mnmi hf (fun (x_5 : Int32) hf => ?_)
        refine lv_istore (lv' := [(4, .int x_5), (0, .ref (bs g 1)), (1, .int a1), (2, .int i_1), (3, .int i_2)]) hx hb dX10_lookOf_46 hl (by decide) rfl (fun ls hl => ?_)
        refine lv_iload hx hb dX10_lookOf_48 (lv_at hl 0 rfl) ?_
        refine lv_iconst (v := 4) hx hb dX10_lookOf_50 (by decide) ?_
        refine lv_icmp_lt (tgt := 57) hx hb dX10_lookOf_51 (by decide) (fun hc => ?_) (fun hc => ?_)
        · have hf := ift hc hf
          refine lv_iload_n hx hb dX10_lookOf_57 rfl (lv_at hl 3 rfl) ?_
          refine lv_iload_n hx hb dX10_lookOf_58 rfl (lv_at hl 4 rfl) ?_
          refine lv_iload hx hb dX10_lookOf_59 (lv_at hl 0 rfl) ?_
          refine mcip hf hS (fun r h => va_runS (As := [.int i_1, .int i_2, .int x_5]) (rest := []) ⟨hx, hb, hml, hown, hts⟩ (c_X5_goneOn g l 0 81 σ i_1 i_2 x_5 r h) (cl_X10_63 hts ⟨Nat.le_of_ble_eq_true rfl, Nat.le_of_ble_eq_true rfl⟩) (mpS hZ hT hS hW _) rfl rfl hl.1 rfl (lv_room (Nat.le_of_ble_eq_true rfl)) dX10_lookOf_61 ⟨Nat.zero_le _, Nat.zero_le _⟩) (fun r_6 H locs hf hW hS => ?_)
          refine lv_istore_n (lv' := [(2, .int r_6), (4, .int x_5), (0, .ref (bs g 1)), (1, .int a1), (3, .int i_2)]) hx hb dX10_lookOf_64 rfl hl (by decide) rfl (fun ls hl => ?_)
          obtain ⟨x_7, e_8, hf⟩ := nm_s hf
          refine lv_iinc (v := x_7) (lv' := [(3, .int x_7), (2, .int r_6), (4, .int x_5), (0, .ref (bs g 1)), (1, .int a1)]) hx hb dX10_lookOf_65 hl (k := 4) rfl (by rw [e_8]; rfl) (by decide) rfl (fun ls hl => ?_)
          refine lv_goto (tgt := 28) hx hb dX10_lookOf_68 (by decide) ?_
          exact hk_3 r_6 x_7 hf H locs ls hW hS (lv_sub hl [3, 4, 1, 0] rfl)
        · have hf := iff_ hc hf
          refine lv_bipush (v := (-2)) hx hb dX10_lookOf_54 (by decide) ?_
          subst hQ
          exact mri hx hb hr hlocks hZ hT hS hW ⟨Option.some.inj hf, rfl⟩ dX10_lookOf_56
    · have hf := iff_ hc hf
      refine lv_bipush (v := (-2)) hx hb dX10_lookOf_21 (by decide) ?_
      subst hQ
      exact mri hx hb hr hlocks hZ hT hS hW ⟨Option.some.inj hf, rfl⟩ dX10_lookOf_23
def f_X6_lookWord (σ : Mem)  : Option (Int32 × Mem) :=
  nm (sI σ 27 3 (σ.1 1 4)) (fun (σ_1 : Mem) => (if (σ_1.1 1 5) = 2 then rfc (σ_1.2.2 27 1) (fun (T_2 : Nat) => bd1 (f_X10_lookOf σ_1 (σ_1.1 T_2 0)) (fun (r_3 : Int32) => nm (sI σ_1 27 2 r_3) (fun (σ_4 : Mem) => (if 0 ≤ (σ_4.1 27 2) then bd1 (f_X10_step σ_4) (fun (σ_5 : Mem) => some (1, σ_5)) else bd2 (f_X6_fail σ_4 7) (fun (r_6 : Int32) (σ_7 : Mem) => zrm r_6 σ_7))))) else bd2 (f_X6_fail σ_1 1) (fun (r_8 : Int32) (σ_9 : Mem) => zrm r_8 σ_9)))
set_option maxHeartbeats 4000000 in
set_option maxRecDepth 100000 in
theorem c_X6_lookWord (g : XG) (l : Launch) (σ : Mem) (r : Int32) (τ : Mem) (hf : f_X6_lookWord σ = some (r, τ)) : Met l yX6_lookWord (wx (.code yX6_lookWord cX6_lookWord 1 (some .boolean))) (kr 2 81) (va_Pc [.ref (bs g 27)] (WS g 0 81 σ)) (Qi' g 0 81 r τ) 0 0 (Ag g 0) := by
  refine Met.ofW (cc := cX6_lookWord) (maxL := 1) (ret := (some .boolean)) (by decide) rfl ?_
  intro p e s m args below meth c s₁ B hml hv
  obtain ⟨rfl, hZ, hT, hW⟩ := hv
  have hx := B.exec
  have hb := B.bytes
  have hr := B.returns
  have hts : ∀ w ∈ wx (.code yX6_lookWord cX6_lookWord 1 (some .boolean)), w.before _ s = true := atoms_spec B.pre
  have htg : ∀ w ∈ lwg, w.before _ s = true := fun w h => hts w (List.mem_cons_of_mem _ h)
  have hown : s.vm.findClass RX6 = some m.cls := findClass_of_methodNamed B.named
  have hlocks := B.notSynchronized
  change W p l e (kr 2 81) s m (List.toArray [.ref (bs g 27)]) below meth c s.heap [] 0 0 (MQ below (Qi' g 0 81 r τ) (List.toArray [.ref (bs g 27)]) s 0 0 (Ag g 0)) _
  generalize hQ : MQ below (Qi' g 0 81 r τ) (List.toArray [.ref (bs g 27)]) s 0 0 (Ag g 0) = Q
  have hS : va_S (Ag g 0) s.heap s.heap [] := va_S.rf
  have hl := lv_entry ([.ref (bs g 27)]) (n := 1) (Nat.le_of_ble_eq_true rfl)
  rw [lg_entry_eq]
  generalize (lg_sl ([.ref (bs g 27)]) ++ List.replicate (1 - (lg_sl ([.ref (bs g 27)])).length) Slot.unset).toArray = ls at hl ⊢
  have hl : lv_has ls 1 [(0, .ref (bs g 27))] := hl
  delta f_X6_lookWord at hf
  obtain ⟨H, hH⟩ : ∃ H, H = s.heap := ⟨_, rfl⟩
  obtain ⟨locs, hLc⟩ : ∃ z : List Loc, z = [] := ⟨_, rfl⟩
  have hS : va_S (Ag g 0) s.heap H locs := by rw [hH, hLc]; exact hS
  have hW : Wd g 0 81 σ H := by rw [hH]; exact hW
  suffices hG : W p l e (kr 2 81) s m (List.toArray [.ref (bs g 27)]) below meth c H locs 0 0 Q (F0 m 0 ls []) by rw [hH, hLc] at hG; exact hG
  clear hH hLc
  refine lv_aload_n hx hb dX6_lookWord_0 rfl (lv_at hl 0 rfl) ?_
  refine lv_aload_n hx hb dX6_lookWord_1 rfl (lv_at hl 0 rfl) ?_
  refine gf_6_0 hx hb htg (htg _ lf_X6_9) hown hZ hW tz_27 dX6_lookWord_2 ?_
  refine gfN_10_4 hx hb htg ln_X6_44 hown hZ hW tz_1 dX6_lookWord_5 ?_
  refine pf_6_3 hx hb htg (htg _ lf_X6_47) hown hZ hW hS tz_27 dX6_lookWord_8 hf (fun σ_1 H locs hf hW hS => ?_)
  refine lv_aload_n hx hb dX6_lookWord_11 rfl (lv_at hl 0 rfl) ?_
  refine gf_6_0 hx hb htg (htg _ lf_X6_9) hown hZ hW tz_27 dX6_lookWord_12 ?_
  refine gfN_10_5 hx hb htg ln_X6_38 hown hZ hW tz_1 dX6_lookWord_15 ?_
  refine lv_iconst (v := 2) hx hb dX6_lookWord_18 (by decide) ?_
  refine lv_icmp_eq (tgt := 28) hx hb dX6_lookWord_19 (by decide) (fun hc => ?_) (fun hc => ?_)
  · have hf := ift hc hf
    refine lv_aload_n hx hb dX6_lookWord_28 rfl (lv_at hl 0 rfl) ?_
    refine lv_aload_n hx hb dX6_lookWord_29 rfl (lv_at hl 0 rfl) ?_
    refine gf_6_0 hx hb htg (htg _ lf_X6_9) hown hZ hW tz_27 dX6_lookWord_30 ?_
    refine lv_aload_n hx hb dX6_lookWord_33 rfl (lv_at hl 0 rfl) ?_
    refine gf_6_1 hx hb htg (htg _ lf_X6_15) hown hZ hW tz_27 dX6_lookWord_34 hf (fun T_2 tT_2 hf => ?_)
    refine gfN_11_0 hx hb htg ln_X6_130 hown hZ hW tT_2 dX6_lookWord_37 ?_
    refine mcip hf hS (fun r h => va_runV (As := [.int (σ_1.1 T_2 0)]) (rest := [.ref (bs g 27)]) ⟨hx, hb, hml, hown, hts⟩ (c_X10_lookOf g l σ_1 (σ_1.1 T_2 0) r h) (cl_X6_234 hts ⟨Nat.le_of_ble_eq_true rfl, Nat.le_of_ble_eq_true rfl⟩) (mpV_10 hZ hT hS hW tz_1 _) rfl rfl hl.1 rfl (lv_room (Nat.le_of_ble_eq_true rfl)) dX6_lookWord_40 ⟨Nat.zero_le _, Nat.zero_le _⟩) (fun r_3 H locs hf hW hS => ?_)
    refine pf_6_2 hx hb htg (htg _ lf_X6_127) hown hZ hW hS tz_27 dX6_lookWord_43 hf (fun σ_4 H locs hf hW hS => ?_)
    refine lv_aload_n hx hb dX6_lookWord_46 rfl (lv_at hl 0 rfl) ?_
    refine gf_6_2 hx hb htg (htg _ lf_X6_127) hown hZ hW tz_27 dX6_lookWord_47 ?_
    refine lv_if_ge (tgt := 60) hx hb dX6_lookWord_50 (by decide) (fun hc => ?_) (fun hc => ?_)
    · have hf := ift hc hf
      refine lv_aload_n hx hb dX6_lookWord_60 rfl (lv_at hl 0 rfl) ?_
      refine gf_6_0 hx hb htg (htg _ lf_X6_9) hown hZ hW tz_27 dX6_lookWord_61 ?_
      refine mcv hf hS (fun τ h => va_runV (As := []) (rest := []) ⟨hx, hb, hml, hown, hts⟩ (c_X10_step g l σ_4 τ h) (cl_X6_41 hts ⟨Nat.le_of_ble_eq_true rfl, Nat.le_of_ble_eq_true rfl⟩) (mpV_10 hZ hT hS hW tz_1 _) rfl rfl hl.1 rfl (lv_room (Nat.le_of_ble_eq_true rfl)) dX6_lookWord_64 ⟨Nat.zero_le _, Nat.zero_le _⟩) (fun σ_5 H locs hf hW hS => ?_)
      refine lv_iconst (v := 1) hx hb dX6_lookWord_67 (by decide) ?_
      subst hQ
      exact mrz hx hb hr hlocks hZ hT hS hW (by decide) (pr1 hf) dX6_lookWord_68
    · have hf := iff_ hc hf
      refine lv_aload_n hx hb dX6_lookWord_53 rfl (lv_at hl 0 rfl) ?_
      refine lv_bipush (v := 7) hx hb dX6_lookWord_54 (by decide) ?_
      refine mci hf hS (fun r τ h => va_runV (As := [.int 7]) (rest := []) ⟨hx, hb, hml, hown, hts⟩ (c_X6_fail g l σ_4 7 r τ h) (cl_X6_58 hts ⟨Nat.le_of_ble_eq_true rfl, Nat.le_of_ble_eq_true rfl⟩) (mpV_6 hZ hT hS hW tz_27 _) rfl rfl hl.1 rfl (lv_room (Nat.le_of_ble_eq_true rfl)) dX6_lookWord_56 ⟨Nat.zero_le _, Nat.zero_le _⟩) (fun r_6 σ_7 H locs hf hW hS => ?_)
      subst hQ
      exact mrz hx hb hr hlocks hZ hT hS hW (zrm_s hf).1 (zrm_s hf).2 dX6_lookWord_59
  · have hf := iff_ hc hf
    refine lv_aload_n hx hb dX6_lookWord_22 rfl (lv_at hl 0 rfl) ?_
    refine lv_iconst (v := 1) hx hb dX6_lookWord_23 (by decide) ?_
    refine mci hf hS (fun r τ h => va_runV (As := [.int 1]) (rest := []) ⟨hx, hb, hml, hown, hts⟩ (c_X6_fail g l σ_1 1 r τ h) (cl_X6_58 hts ⟨Nat.le_of_ble_eq_true rfl, Nat.le_of_ble_eq_true rfl⟩) (mpV_6 hZ hT hS hW tz_27 _) rfl rfl hl.1 rfl (lv_room (Nat.le_of_ble_eq_true rfl)) dX6_lookWord_24 ⟨Nat.zero_le _, Nat.zero_le _⟩) (fun r_8 σ_9 H locs hf hW hS => ?_)
    subst hQ
    exact mrz hx hb hr hlocks hZ hT hS hW (zrm_s hf).1 (zrm_s hf).2 dX6_lookWord_27
def f_X11_goOnEach (σ : Mem) (p0 : Nat) (a1 : Int32) (a2 : Int32) (a3 : Int32) : Option (Mem) :=
  fx2 FU (fun k_3 (i_1 : Int32) (σ_2 : Mem) => (if 30 ≤ i_1 then some σ_2 else jn1 (fun (σ_4 : Mem) => nm (i_1 + 1) (fun (x_6 : Int32) => k_3 x_6 σ_4)) (fun k_5 => (if i_1 ≤ 0 then k_5 σ_2 else (if a3 ≤ 0 then k_5 σ_2 else dvd a3 ((if (i_1 - i_1 / a3 * a3) = 0 then bd1 (f_X5_goOn σ_2 (p0 + 5) a1 a2 i_1 1) (fun (σ_8 : Mem) => k_5 σ_8) else k_5 σ_2))))))) 0 σ
set_option maxHeartbeats 4000000 in
set_option maxRecDepth 100000 in
theorem c_X11_goOnEach (g : XG) (l : Launch) (lo n : Nat) (σ : Mem) (p0 : Nat) (a1 : Int32) (a2 : Int32) (a3 : Int32) (t0 : tp 11 lo n p0) (τ : Mem) (hf : f_X11_goOnEach σ p0 a1 a2 a3 = some τ) : Met l yX11_goOnEach (wx (.code yX11_goOnEach cX11_goOnEach 5 none)) (kr 2 85) (va_Pc [.ref (bs g p0), .int a1, .int a2, .int a3] (WS g lo n σ)) (Qv' g lo n τ) 0 0 (Ag g lo) := by
  refine Met.ofW (cc := cX11_goOnEach) (maxL := 5) (ret := none) (by decide) rfl ?_
  intro p e s m args below meth c s₁ B hml hv
  obtain ⟨rfl, hZ, hT, hW⟩ := hv
  have hx := B.exec
  have hb := B.bytes
  have hr := B.returns
  have hts : ∀ w ∈ wx (.code yX11_goOnEach cX11_goOnEach 5 none), w.before _ s = true := atoms_spec B.pre
  have htg : ∀ w ∈ lwg, w.before _ s = true := fun w h => hts w (List.mem_cons_of_mem _ h)
  have hown : s.vm.findClass RX11 = some m.cls := findClass_of_methodNamed B.named
  have hlocks := B.notSynchronized
  change W p l e (kr 2 85) s m (List.toArray [.ref (bs g p0), .int a1, .int a2, .int a3]) below meth c s.heap [] 0 0 (MQ below (Qv' g lo n τ) (List.toArray [.ref (bs g p0), .int a1, .int a2, .int a3]) s 0 0 (Ag g lo)) _
  generalize hQ : MQ below (Qv' g lo n τ) (List.toArray [.ref (bs g p0), .int a1, .int a2, .int a3]) s 0 0 (Ag g lo) = Q
  have hS : va_S (Ag g lo) s.heap s.heap [] := va_S.rf
  have hl := lv_entry ([.ref (bs g p0), .int a1, .int a2, .int a3]) (n := 5) (Nat.le_of_ble_eq_true rfl)
  rw [lg_entry_eq]
  generalize (lg_sl ([.ref (bs g p0), .int a1, .int a2, .int a3]) ++ List.replicate (5 - (lg_sl ([.ref (bs g p0), .int a1, .int a2, .int a3])).length) Slot.unset).toArray = ls at hl ⊢
  have hl : lv_has ls 5 [(0, .ref (bs g p0)), (1, .int a1), (2, .int a2), (3, .int a3)] := hl
  delta f_X11_goOnEach at hf
  obtain ⟨H, hH⟩ : ∃ H, H = s.heap := ⟨_, rfl⟩
  obtain ⟨locs, hLc⟩ : ∃ z : List Loc, z = [] := ⟨_, rfl⟩
  have hS : va_S (Ag g lo) s.heap H locs := by rw [hH, hLc]; exact hS
  have hW : Wd g lo n σ H := by rw [hH]; exact hW
  suffices hG : W p l e (kr 2 85) s m (List.toArray [.ref (bs g p0), .int a1, .int a2, .int a3]) below meth c H locs 0 0 Q (F0 m 0 ls []) by rw [hH, hLc] at hG; exact hG
  clear hH hLc
  refine lv_iconst (v := 0) hx hb dX11_goOnEach_0 (by decide) ?_
  refine lv_istore (lv' := [(4, .int 0), (0, .ref (bs g p0)), (1, .int a1), (2, .int a2), (3, .int a3)]) hx hb dX11_goOnEach_1 hl (by decide) rfl (fun ls hl => ?_)
  refine fx2_W (fun (i_1 : Int32) (σ_2 : Mem) => ∀ (H : Heap) (locs : List Loc) (ls : Array Slot), Wd g lo n σ_2 H → va_S (Ag g lo) s.heap H locs → lv_has ls 5 [(0, .ref (bs g p0)), (1, .int a1), (2, .int a2), (3, .int a3), (4, .int i_1)] → W p l e (kr 2 85) s m (List.toArray [.ref (bs g p0), .int a1, .int a2, .int a3]) below meth c H locs 0 0 Q (F0 m 3 ls [])) (fun k_3 hk_3 i_1 σ_2 hf => ?_) FU 0 σ hf H locs ls hW hS (lv_sub hl [1, 2, 3, 4, 0] rfl)
  intro H locs ls hW hS hl
  refine lv_iload hx hb dX11_goOnEach_3 (lv_at hl 4 rfl) ?_
  refine lv_bipush (v := 30) hx hb dX11_goOnEach_5 (by decide) ?_
  refine lv_icmp_ge (tgt := 44) hx hb dX11_goOnEach_7 (by decide) (fun hc => ?_) (fun hc => ?_)
  · have hf := ift hc hf
    subst hQ
    exact mrv hx hb hr hlocks hZ hT hS hW (Option.some.inj hf) dX11_goOnEach_44
  · have hf := iff_ hc hf
    refine lv_iload hx hb dX11_goOnEach_10 (lv_at hl 4 rfl) ?_
    refine jn1_W (fun (σ_4 : Mem) => ∀ (H : Heap) (locs : List Loc) (ls : Array Slot), Wd g lo n σ_4 H → va_S (Ag g lo) s.heap H locs → lv_has ls 5 [(0, .ref (bs g p0)), (1, .int a1), (2, .int a2), (3, .int a3), (4, .int i_1)] → W p l e (kr 2 85) s m (List.toArray [.ref (bs g p0), .int a1, .int a2, .int a3]) below meth c H locs 0 0 Q (F0 m 38 ls [])) hf (fun σ_4 hf => ?_) (fun k_5 hk_5 hf => ?_)
    · intro H locs ls hW hS hl
      obtain ⟨x_6, e_7, hf⟩ := nm_s hf
      refine lv_iinc (v := x_6) (lv' := [(4, .int x_6), (0, .ref (bs g p0)), (1, .int a1), (2, .int a2), (3, .int a3)]) hx hb dX11_goOnEach_38 hl (k := 4) rfl (by rw [e_7]; rfl) (by decide) rfl (fun ls hl => ?_)
      refine lv_goto (tgt := 3) hx hb dX11_goOnEach_41 (by decide) ?_
      exact hk_3 x_6 σ_4 hf H locs ls hW hS (lv_sub hl [1, 2, 3, 4, 0] rfl)
    · refine lv_if_le (tgt := 38) hx hb dX11_goOnEach_12 (by decide) (fun hc => ?_) (fun hc => ?_)
      · have hf := ift hc hf
        exact hk_5 σ_2 hf H locs ls hW hS (lv_sub hl [0, 1, 2, 3, 4] rfl)
      · have hf := iff_ hc hf
        refine lv_iload_n hx hb dX11_goOnEach_15 rfl (lv_at hl 3 rfl) ?_
        refine lv_if_le (tgt := 38) hx hb dX11_goOnEach_16 (by decide) (fun hc => ?_) (fun hc => ?_)
        · have hf := ift hc hf
          exact hk_5 σ_2 hf H locs ls hW hS (lv_sub hl [0, 1, 2, 3, 4] rfl)
        · have hf := iff_ hc hf
          refine lv_iload hx hb dX11_goOnEach_19 (lv_at hl 4 rfl) ?_
          refine lv_iload_n hx hb dX11_goOnEach_21 rfl (lv_at hl 3 rfl) ?_
          obtain ⟨hd, hf⟩ := dvd_s hf
          refine lv_irem hx hb dX11_goOnEach_22 hd ?_
          refine lv_if_ne (tgt := 38) hx hb dX11_goOnEach_23 (by decide) (fun hc => ?_) (fun hc => ?_)
          · have hf := iff_ hc hf
            exact hk_5 σ_2 hf H locs ls hW hS (lv_sub hl [0, 1, 2, 3, 4] rfl)
          · have hf := ift hc hf
            refine lv_aload_n hx hb dX11_goOnEach_26 rfl (lv_at hl 0 rfl) ?_
            refine gf_11_8 hx hb htg (htg _ lf_X11_32) hown hZ hW t0 dX11_goOnEach_27 ?_
            refine lv_iload_n hx hb dX11_goOnEach_30 rfl (lv_at hl 1 rfl) ?_
            refine lv_iload_n hx hb dX11_goOnEach_31 rfl (lv_at hl 2 rfl) ?_
            refine lv_iload hx hb dX11_goOnEach_32 (lv_at hl 4 rfl) ?_
            refine lv_iconst (v := 1) hx hb dX11_goOnEach_34 (by decide) ?_
            refine mcv hf hS (fun τ h => va_runV (As := [.int a1, .int a2, .int i_1, .int 1]) (rest := []) ⟨hx, hb, hml, hown, hts⟩ (c_X5_goOn g l lo n σ_2 (p0 + 5) a1 a2 i_1 1 (t0.sub 5 5 so_11_5_5) τ h) (cl_X11_111 hts ⟨Nat.le_of_ble_eq_true rfl, Nat.le_of_ble_eq_true rfl⟩) (mpV_5 hZ hT hS hW (t0.sub 5 5 so_11_5_5) _) rfl rfl hl.1 rfl (lv_room (Nat.le_of_ble_eq_true rfl)) dX11_goOnEach_35 ⟨Nat.zero_le _, Nat.zero_le _⟩) (fun σ_8 H locs hf hW hS => ?_)
            exact hk_5 σ_8 hf H locs ls hW hS (lv_sub hl [0, 1, 2, 3, 4] rfl)
def f_X11_addPerson (σ : Mem) (p0 : Nat) (a1 : Int64) (a3 : Int32) (a4 : Int32) : Option (Mem) :=
  bd1 (f_X11_people σ p0) (fun (r_1 : Int32) => bd1 (f_X12_inside r_1 (nI (aln (p0 + 2)))) (fun (r_2 : Int32) => (if r_2 = 0 then some σ else ixd r_1 (aln (p0 + 2)) (nm (sL σ (p0 + 2) r_1.toNatClampNeg a1) (fun (σ_3 : Mem) => bd1 (f_X12_set σ_3 (p0 + 3) r_1 a3) (fun (σ_4 : Mem) => bd1 (f_X12_set σ_4 (p0 + 4) r_1 a4) (fun (σ_5 : Mem) => bd1 (f_X5_begin σ_5 (p0 + 5) r_1 a4) (fun (σ_6 : Mem) => jn1 (fun (σ_7 : Mem) => (if a3 = 2 then bd1 (f_X11_goOnEach σ_7 p0 r_1 1 4) (fun (σ_9 : Mem) => some σ_9) else some σ_7)) (fun k_8 => (if a3 = 1 then bd1 (f_X11_goOnEach σ_6 p0 r_1 0 10) (fun (σ_10 : Mem) => k_8 σ_10) else k_8 σ_6))))))))))
set_option maxHeartbeats 4000000 in
set_option maxRecDepth 100000 in
theorem c_X11_addPerson (g : XG) (l : Launch) (lo n : Nat) (σ : Mem) (p0 : Nat) (a1 : Int64) (a3 : Int32) (a4 : Int32) (t0 : tp 11 lo n p0) (τ : Mem) (hf : f_X11_addPerson σ p0 a1 a3 a4 = some τ) : Met l yX11_addPerson (wx (.code yX11_addPerson cX11_addPerson 6 none)) (kr 3 109) (va_Pc [.ref (bs g p0), .long a1, .int a3, .int a4] (WS g lo n σ)) (Qv' g lo n τ) 0 0 (Ag g lo) := by
  refine Met.ofW (cc := cX11_addPerson) (maxL := 6) (ret := none) (by decide) rfl ?_
  intro p e s m args below meth c s₁ B hml hv
  obtain ⟨rfl, hZ, hT, hW⟩ := hv
  have hx := B.exec
  have hb := B.bytes
  have hr := B.returns
  have hts : ∀ w ∈ wx (.code yX11_addPerson cX11_addPerson 6 none), w.before _ s = true := atoms_spec B.pre
  have htg : ∀ w ∈ lwg, w.before _ s = true := fun w h => hts w (List.mem_cons_of_mem _ h)
  have hown : s.vm.findClass RX11 = some m.cls := findClass_of_methodNamed B.named
  have hlocks := B.notSynchronized
  change W p l e (kr 3 109) s m (List.toArray [.ref (bs g p0), .long a1, .int a3, .int a4]) below meth c s.heap [] 0 0 (MQ below (Qv' g lo n τ) (List.toArray [.ref (bs g p0), .long a1, .int a3, .int a4]) s 0 0 (Ag g lo)) _
  generalize hQ : MQ below (Qv' g lo n τ) (List.toArray [.ref (bs g p0), .long a1, .int a3, .int a4]) s 0 0 (Ag g lo) = Q
  have hS : va_S (Ag g lo) s.heap s.heap [] := va_S.rf
  have hl := lv_entry ([.ref (bs g p0), .long a1, .int a3, .int a4]) (n := 6) (Nat.le_of_ble_eq_true rfl)
  rw [lg_entry_eq]
  generalize (lg_sl ([.ref (bs g p0), .long a1, .int a3, .int a4]) ++ List.replicate (6 - (lg_sl ([.ref (bs g p0), .long a1, .int a3, .int a4])).length) Slot.unset).toArray = ls at hl ⊢
  have hl : lv_has ls 6 [(0, .ref (bs g p0)), (1, .long a1), (3, .int a3), (4, .int a4)] := hl
  delta f_X11_addPerson at hf
  obtain ⟨H, hH⟩ : ∃ H, H = s.heap := ⟨_, rfl⟩
  obtain ⟨locs, hLc⟩ : ∃ z : List Loc, z = [] := ⟨_, rfl⟩
  have hS : va_S (Ag g lo) s.heap H locs := by rw [hH, hLc]; exact hS
  have hW : Wd g lo n σ H := by rw [hH]; exact hW
  suffices hG : W p l e (kr 3 109) s m (List.toArray [.ref (bs g p0), .long a1, .int a3, .int a4]) below meth c H locs 0 0 Q (F0 m 0 ls []) by rw [hH, hLc] at hG; exact hG
  clear hH hLc
  refine lv_aload_n hx hb dX11_addPerson_0 rfl (lv_at hl 0 rfl) ?_
  refine mcip hf hS (fun r h => va_runV (As := []) (rest := []) ⟨hx, hb, hml, hown, hts⟩ (c_X11_people g l lo n σ p0 t0 r h) (cl_X11_95 hts ⟨Nat.le_of_ble_eq_true rfl, Nat.le_of_ble_eq_true rfl⟩) (mpV_11 hZ hT hS hW t0 _) rfl rfl hl.1 rfl (lv_room (Nat.le_of_ble_eq_true rfl)) dX11_addPerson_1 ⟨Nat.zero_le _, Nat.zero_le _⟩) (fun r_1 H locs hf hW hS => ?_)
  refine lv_istore (lv' := [(5, .int r_1), (0, .ref (bs g p0)), (1, .long a1), (3, .int a3), (4, .int a4)]) hx hb dX11_addPerson_4 hl (by decide) rfl (fun ls hl => ?_)
  refine lv_iload hx hb dX11_addPerson_6 (lv_at hl 0 rfl) ?_
  refine lv_aload_n hx hb dX11_addPerson_8 rfl (lv_at hl 1 rfl) ?_
  refine gf_11_5 hx hb htg (htg _ lf_X11_19) hown hZ hW t0 dX11_addPerson_9 ?_
  refine mln_l hx hb hZ hW (t0.sub 22 2 so_11_22_2) dX11_addPerson_12 ?_
  refine mcip hf hS (fun r h => va_runSN (As := [.int r_1, .int (nI (aln (p0 + 2)))]) (rest := []) ⟨hx, hb, hml, hown, hts⟩ (c_X12_inside g l lo n σ r_1 (nI (aln (p0 + 2))) r h) (cl_X11_99 hts hZ ⟨Nat.le_of_ble_eq_true rfl, Nat.le_of_ble_eq_true rfl⟩) (mpS hZ hT hS hW _) rfl rfl hl.1 rfl (lv_room (Nat.le_of_ble_eq_true rfl)) dX11_addPerson_13 ⟨Nat.zero_le _, Nat.zero_le _⟩) (fun r_2 H locs hf hW hS => ?_)
  refine lv_if_ne (tgt := 20) hx hb dX11_addPerson_16 (by decide) (fun hc => ?_) (fun hc => ?_)
  · have hf := iff_ hc hf
    refine lv_aload_n hx hb dX11_addPerson_20 rfl (lv_at hl 1 rfl) ?_
    refine gf_11_5 hx hb htg (htg _ lf_X11_19) hown hZ hW t0 dX11_addPerson_21 ?_
    refine lv_iload hx hb dX11_addPerson_24 (lv_at hl 0 rfl) ?_
    refine lv_lload_n hx hb dX11_addPerson_26 rfl (lv_at hl 2 rfl) ?_
    refine mst_l hx hb hZ hW hS (t0.sub 22 2 so_11_22_2) hf dX11_addPerson_27 (fun σ_3 H locs hf hW hS => ?_)
    refine lv_aload_n hx hb dX11_addPerson_28 rfl (lv_at hl 1 rfl) ?_
    refine gf_11_6 hx hb htg (htg _ lf_X11_23) hown hZ hW t0 dX11_addPerson_29 ?_
    refine lv_iload hx hb dX11_addPerson_32 (lv_at hl 0 rfl) ?_
    refine lv_iload_n hx hb dX11_addPerson_34 rfl (lv_at hl 3 rfl) ?_
    refine mcv hf hS (fun τ h => va_runSN (As := [.ref (bs g (p0 + 3)), .int r_1, .int a3]) (rest := []) ⟨hx, hb, hml, hown, hts⟩ (c_X12_set g l lo n σ_3 (p0 + 3) r_1 a3 (t0.sub 20 3 so_11_20_3) τ h) (cl_X11_84 hts hZ ⟨Nat.le_of_ble_eq_true rfl, Nat.le_of_ble_eq_true rfl⟩) (mpS hZ hT hS hW _) rfl rfl hl.1 rfl (lv_room (Nat.le_of_ble_eq_true rfl)) dX11_addPerson_35 ⟨Nat.zero_le _, Nat.zero_le _⟩) (fun σ_4 H locs hf hW hS => ?_)
    refine lv_aload_n hx hb dX11_addPerson_38 rfl (lv_at hl 1 rfl) ?_
    refine gf_11_7 hx hb htg (htg _ lf_X11_26) hown hZ hW t0 dX11_addPerson_39 ?_
    refine lv_iload hx hb dX11_addPerson_42 (lv_at hl 0 rfl) ?_
    refine lv_iload hx hb dX11_addPerson_44 (lv_at hl 4 rfl) ?_
    refine mcv hf hS (fun τ h => va_runSN (As := [.ref (bs g (p0 + 4)), .int r_1, .int a4]) (rest := []) ⟨hx, hb, hml, hown, hts⟩ (c_X12_set g l lo n σ_4 (p0 + 4) r_1 a4 (t0.sub 20 4 so_11_20_4) τ h) (cl_X11_84 hts hZ ⟨Nat.le_of_ble_eq_true rfl, Nat.le_of_ble_eq_true rfl⟩) (mpS hZ hT hS hW _) rfl rfl hl.1 rfl (lv_room (Nat.le_of_ble_eq_true rfl)) dX11_addPerson_46 ⟨Nat.zero_le _, Nat.zero_le _⟩) (fun σ_5 H locs hf hW hS => ?_)
    refine lv_aload_n hx hb dX11_addPerson_49 rfl (lv_at hl 1 rfl) ?_
    refine gf_11_8 hx hb htg (htg _ lf_X11_32) hown hZ hW t0 dX11_addPerson_50 ?_
    refine lv_iload hx hb dX11_addPerson_53 (lv_at hl 0 rfl) ?_
    refine lv_iload hx hb dX11_addPerson_55 (lv_at hl 4 rfl) ?_
    refine mcv hf hS (fun τ h => va_runV (As := [.int r_1, .int a4]) (rest := []) ⟨hx, hb, hml, hown, hts⟩ (c_X5_begin g l lo n σ_5 (p0 + 5) r_1 a4 (t0.sub 5 5 so_11_5_5) τ h) (cl_X11_103 hts ⟨Nat.le_of_ble_eq_true rfl, Nat.le_of_ble_eq_true rfl⟩) (mpV_5 hZ hT hS hW (t0.sub 5 5 so_11_5_5) _) rfl rfl hl.1 rfl (lv_room (Nat.le_of_ble_eq_true rfl)) dX11_addPerson_57 ⟨Nat.zero_le _, Nat.zero_le _⟩) (fun σ_6 H locs hf hW hS => ?_)
    refine lv_iload_n hx hb dX11_addPerson_60 rfl (lv_at hl 3 rfl) ?_
    refine lv_iconst (v := 1) hx hb dX11_addPerson_61 (by decide) ?_
    refine jn1_W (fun (σ_7 : Mem) => ∀ (H : Heap) (locs : List Loc) (ls : Array Slot), Wd g lo n σ_7 H → va_S (Ag g lo) s.heap H locs → lv_has ls 6 [(0, .ref (bs g p0)), (3, .int a3), (5, .int r_1)] → W p l e (kr 3 109) s m (List.toArray [.ref (bs g p0), .long a1, .int a3, .int a4]) below meth c H locs 0 0 Q (F0 m 74 ls [])) hf (fun σ_7 hf => ?_) (fun k_8 hk_8 hf => ?_)
    · intro H locs ls hW hS hl
      refine lv_iload_n hx hb dX11_addPerson_74 rfl (lv_at hl 1 rfl) ?_
      refine lv_iconst (v := 2) hx hb dX11_addPerson_75 (by decide) ?_
      refine lv_icmp_ne (tgt := 87) hx hb dX11_addPerson_76 (by decide) (fun hc => ?_) (fun hc => ?_)
      · have hf := iff_ hc hf
        subst hQ
        exact mrv hx hb hr hlocks hZ hT hS hW (Option.some.inj hf) dX11_addPerson_87
      · have hf := ift hc hf
        refine lv_aload_n hx hb dX11_addPerson_79 rfl (lv_at hl 0 rfl) ?_
        refine lv_iload hx hb dX11_addPerson_80 (lv_at hl 2 rfl) ?_
        refine lv_iconst (v := 1) hx hb dX11_addPerson_82 (by decide) ?_
        refine lv_iconst (v := 4) hx hb dX11_addPerson_83 (by decide) ?_
        refine mcv hf hS (fun τ h => va_runV (As := [.int r_1, .int 1, .int 4]) (rest := []) ⟨hx, hb, hml, hown, hts⟩ (c_X11_goOnEach g l lo n σ_7 p0 r_1 1 4 t0 τ h) (cl_X11_107 hts ⟨Nat.le_of_ble_eq_true rfl, Nat.le_of_ble_eq_true rfl⟩) (mpV_11 hZ hT hS hW t0 _) rfl rfl hl.1 rfl (lv_room (Nat.le_of_ble_eq_true rfl)) dX11_addPerson_84 ⟨Nat.zero_le _, Nat.zero_le _⟩) (fun σ_9 H locs hf hW hS => ?_)
        subst hQ
        exact mrv hx hb hr hlocks hZ hT hS hW (Option.some.inj hf) dX11_addPerson_87
    · refine lv_icmp_ne (tgt := 74) hx hb dX11_addPerson_62 (by decide) (fun hc => ?_) (fun hc => ?_)
      · have hf := iff_ hc hf
        exact hk_8 σ_6 hf H locs ls hW hS (lv_sub hl [1, 3, 0] rfl)
      · have hf := ift hc hf
        refine lv_aload_n hx hb dX11_addPerson_65 rfl (lv_at hl 1 rfl) ?_
        refine lv_iload hx hb dX11_addPerson_66 (lv_at hl 0 rfl) ?_
        refine lv_iconst (v := 0) hx hb dX11_addPerson_68 (by decide) ?_
        refine lv_bipush (v := 10) hx hb dX11_addPerson_69 (by decide) ?_
        refine mcv hf hS (fun τ h => va_runV (As := [.int r_1, .int 0, .int 10]) (rest := []) ⟨hx, hb, hml, hown, hts⟩ (c_X11_goOnEach g l lo n σ_6 p0 r_1 0 10 t0 τ h) (cl_X11_107 hts ⟨Nat.le_of_ble_eq_true rfl, Nat.le_of_ble_eq_true rfl⟩) (mpV_11 hZ hT hS hW t0 _) rfl rfl hl.1 rfl (lv_room (Nat.le_of_ble_eq_true rfl)) dX11_addPerson_71 ⟨Nat.zero_le _, Nat.zero_le _⟩) (fun σ_10 H locs hf hW hS => ?_)
        exact hk_8 σ_10 hf H locs ls hW hS (lv_sub hl [1, 3, 0] rfl)
  · have hf := ift hc hf
    subst hQ
    exact mrv hx hb hr hlocks hZ hT hS hW (Option.some.inj hf) dX11_addPerson_19
def f_X6_personLine (σ : Mem)  : Option (Int32 × Mem) :=
  nm (sI σ 27 3 (σ.1 1 4)) (fun (σ_1 : Mem) => jn0 (bd2 (f_X6_fail σ_1 1) (fun (r_3 : Int32) (σ_4 : Mem) => zrm r_3 σ_4)) (fun k_2 => (if (σ_1.1 1 5) = 2 then bd1 (f_X6_lineNamed σ_1) (fun (o_5 : Option Nat) => onm o_5 (bd1 (f_X10_name σ_1) (fun (r_7 : Int64) => rfc (σ_1.2.2 27 1) (fun (T_8 : Nat) => bd1 (f_X11_personNamed σ_1 T_8 r_7) (fun (r_9 : Int32) => (if r_9 < 0 then bd1 (f_X10_step σ_1) (fun (σ_10 : Mem) => bd2 (f_X6_kindWord σ_10) (fun (r_11 : Int32) (σ_12 : Mem) => (if r_11 = 0 then some (0, σ_12) else nm (σ_12.1 27 2) (fun (x_13 : Int32) => bd2 (f_X6_lookWord σ_12) (fun (r_14 : Int32) (σ_15 : Mem) => (if r_14 = 0 then some (0, σ_15) else rfc (σ_15.2.2 27 1) (fun (T_16 : Nat) => bd1 (f_X11_addPerson σ_15 T_16 r_7 x_13 (σ_15.1 27 2)) (fun (σ_17 : Mem) => some (1, σ_17))))))))) else bd2 (f_X6_fail σ_1 3) (fun (r_18 : Int32) (σ_19 : Mem) => zrm r_18 σ_19)))))) (fun (T_6 : Nat) => k_2)) else k_2)))
set_option maxHeartbeats 4000000 in
set_option maxRecDepth 100000 in
theorem c_X6_personLine (g : XG) (l : Launch) (σ : Mem) (r : Int32) (τ : Mem) (hf : f_X6_personLine σ = some (r, τ)) : Met l yX6_personLine (wx (.code yX6_personLine cX6_personLine 4 (some .boolean))) (kr 6 134) (va_Pc [.ref (bs g 27)] (WS g 0 81 σ)) (Qi' g 0 81 r τ) 0 0 (Ag g 0) := by
  refine Met.ofW (cc := cX6_personLine) (maxL := 4) (ret := (some .boolean)) (by decide) rfl ?_
  intro p e s m args below meth c s₁ B hml hv
  obtain ⟨rfl, hZ, hT, hW⟩ := hv
  have hx := B.exec
  have hb := B.bytes
  have hr := B.returns
  have hts : ∀ w ∈ wx (.code yX6_personLine cX6_personLine 4 (some .boolean)), w.before _ s = true := atoms_spec B.pre
  have htg : ∀ w ∈ lwg, w.before _ s = true := fun w h => hts w (List.mem_cons_of_mem _ h)
  have hown : s.vm.findClass RX6 = some m.cls := findClass_of_methodNamed B.named
  have hlocks := B.notSynchronized
  change W p l e (kr 6 134) s m (List.toArray [.ref (bs g 27)]) below meth c s.heap [] 0 0 (MQ below (Qi' g 0 81 r τ) (List.toArray [.ref (bs g 27)]) s 0 0 (Ag g 0)) _
  generalize hQ : MQ below (Qi' g 0 81 r τ) (List.toArray [.ref (bs g 27)]) s 0 0 (Ag g 0) = Q
  have hS : va_S (Ag g 0) s.heap s.heap [] := va_S.rf
  have hl := lv_entry ([.ref (bs g 27)]) (n := 4) (Nat.le_of_ble_eq_true rfl)
  rw [lg_entry_eq]
  generalize (lg_sl ([.ref (bs g 27)]) ++ List.replicate (4 - (lg_sl ([.ref (bs g 27)])).length) Slot.unset).toArray = ls at hl ⊢
  have hl : lv_has ls 4 [(0, .ref (bs g 27))] := hl
  delta f_X6_personLine at hf
  obtain ⟨H, hH⟩ : ∃ H, H = s.heap := ⟨_, rfl⟩
  obtain ⟨locs, hLc⟩ : ∃ z : List Loc, z = [] := ⟨_, rfl⟩
  have hS : va_S (Ag g 0) s.heap H locs := by rw [hH, hLc]; exact hS
  have hW : Wd g 0 81 σ H := by rw [hH]; exact hW
  suffices hG : W p l e (kr 6 134) s m (List.toArray [.ref (bs g 27)]) below meth c H locs 0 0 Q (F0 m 0 ls []) by rw [hH, hLc] at hG; exact hG
  clear hH hLc
  refine lv_aload_n hx hb dX6_personLine_0 rfl (lv_at hl 0 rfl) ?_
  refine lv_aload_n hx hb dX6_personLine_1 rfl (lv_at hl 0 rfl) ?_
  refine gf_6_0 hx hb htg (htg _ lf_X6_9) hown hZ hW tz_27 dX6_personLine_2 ?_
  refine gfN_10_4 hx hb htg ln_X6_44 hown hZ hW tz_1 dX6_personLine_5 ?_
  refine pf_6_3 hx hb htg (htg _ lf_X6_47) hown hZ hW hS tz_27 dX6_personLine_8 hf (fun σ_1 H locs hf hW hS => ?_)
  refine lv_aload_n hx hb dX6_personLine_11 rfl (lv_at hl 0 rfl) ?_
  refine gf_6_0 hx hb htg (htg _ lf_X6_9) hown hZ hW tz_27 dX6_personLine_12 ?_
  refine gfN_10_5 hx hb htg ln_X6_38 hown hZ hW tz_1 dX6_personLine_15 ?_
  refine lv_iconst (v := 2) hx hb dX6_personLine_18 (by decide) ?_
  refine jn0_W (∀ (H : Heap) (locs : List Loc) (ls : Array Slot), Wd g 0 81 σ_1 H → va_S (Ag g 0) s.heap H locs → lv_has ls 4 [(0, .ref (bs g 27))] → W p l e (kr 6 134) s m (List.toArray [.ref (bs g 27)]) below meth c H locs 0 0 Q (F0 m 29 ls [])) hf (fun  hf => ?_) (fun k_2 hk_2 hf => ?_)
  · intro H locs ls hW hS hl
    refine lv_aload_n hx hb dX6_personLine_29 rfl (lv_at hl 0 rfl) ?_
    refine lv_iconst (v := 1) hx hb dX6_personLine_30 (by decide) ?_
    refine mci hf hS (fun r τ h => va_runV (As := [.int 1]) (rest := []) ⟨hx, hb, hml, hown, hts⟩ (c_X6_fail g l σ_1 1 r τ h) (cl_X6_58 hts ⟨Nat.le_of_ble_eq_true rfl, Nat.le_of_ble_eq_true rfl⟩) (mpV_6 hZ hT hS hW tz_27 _) rfl rfl hl.1 rfl (lv_room (Nat.le_of_ble_eq_true rfl)) dX6_personLine_31 ⟨Nat.zero_le _, Nat.zero_le _⟩) (fun r_3 σ_4 H locs hf hW hS => ?_)
    subst hQ
    exact mrz hx hb hr hlocks hZ hT hS hW (zrm_s hf).1 (zrm_s hf).2 dX6_personLine_34
  · refine lv_icmp_ne (tgt := 29) hx hb dX6_personLine_19 (by decide) (fun hc => ?_) (fun hc => ?_)
    · have hf := iff_ hc hf
      exact hk_2  hf H locs ls hW hS (lv_sub hl [0] rfl)
    · have hf := ift hc hf
      refine lv_aload_n hx hb dX6_personLine_22 rfl (lv_at hl 0 rfl) ?_
      refine mcep hf hS (fun r h => va_runV (As := []) (rest := []) ⟨hx, hb, hml, hown, hts⟩ (c_X6_lineNamed g l σ_1 r h) (cl_X6_54 hts ⟨Nat.le_of_ble_eq_true rfl, Nat.le_of_ble_eq_true rfl⟩) (mpV_6 hZ hT hS hW tz_27 _) rfl rfl hl.1 rfl (lv_room (Nat.le_of_ble_eq_true rfl)) dX6_personLine_23 ⟨Nat.zero_le _, Nat.zero_le _⟩) (fun o_5 H locs ho hf hW hS => ?_)
      cases o_5 with
      | none =>
        have hf := onm_n hf
        refine lv_ifnullN (tgt := 35) hx hb dX6_personLine_26 (by decide) ?_
        refine lv_aload_n hx hb dX6_personLine_35 rfl (lv_at hl 0 rfl) ?_
        refine gf_6_0 hx hb htg (htg _ lf_X6_9) hown hZ hW tz_27 dX6_personLine_36 ?_
        refine mclp hf hS (fun r h => va_runV (As := []) (rest := []) ⟨hx, hb, hml, hown, hts⟩ (c_X10_name g l σ_1 r h) (cl_X6_144 hts ⟨Nat.le_of_ble_eq_true rfl, Nat.le_of_ble_eq_true rfl⟩) (mpV_10 hZ hT hS hW tz_1 _) rfl rfl hl.1 rfl (lv_room (Nat.le_of_ble_eq_true rfl)) dX6_personLine_39 ⟨Nat.zero_le _, Nat.zero_le _⟩) (fun r_7 H locs hf hW hS => ?_)
        refine lv_lstore_n (lv' := [(1, .long r_7), (0, .ref (bs g 27))]) hx hb dX6_personLine_42 rfl hl (by decide) rfl (fun ls hl => ?_)
        refine lv_aload_n hx hb dX6_personLine_43 rfl (lv_at hl 1 rfl) ?_
        refine gf_6_1 hx hb htg (htg _ lf_X6_15) hown hZ hW tz_27 dX6_personLine_44 hf (fun T_8 tT_8 hf => ?_)
        refine lv_lload_n hx hb dX6_personLine_47 rfl (lv_at hl 0 rfl) ?_
        refine mcip hf hS (fun r h => va_runV (As := [.long r_7]) (rest := []) ⟨hx, hb, hml, hown, hts⟩ (c_X11_personNamed g l 0 81 σ_1 T_8 r_7 tT_8 r h) (cl_X6_148 hts ⟨Nat.le_of_ble_eq_true rfl, Nat.le_of_ble_eq_true rfl⟩) (mpV_11 hZ hT hS hW tT_8 _) rfl rfl hl.1 rfl (lv_room (Nat.le_of_ble_eq_true rfl)) dX6_personLine_48 ⟨Nat.zero_le _, Nat.zero_le _⟩) (fun r_9 H locs hf hW hS => ?_)
        refine lv_if_lt (tgt := 60) hx hb dX6_personLine_51 (by decide) (fun hc => ?_) (fun hc => ?_)
        · have hf := ift hc hf
          refine lv_aload_n hx hb dX6_personLine_60 rfl (lv_at hl 1 rfl) ?_
          refine gf_6_0 hx hb htg (htg _ lf_X6_9) hown hZ hW tz_27 dX6_personLine_61 ?_
          refine mcv hf hS (fun τ h => va_runV (As := []) (rest := []) ⟨hx, hb, hml, hown, hts⟩ (c_X10_step g l σ_1 τ h) (cl_X6_41 hts ⟨Nat.le_of_ble_eq_true rfl, Nat.le_of_ble_eq_true rfl⟩) (mpV_10 hZ hT hS hW tz_1 _) rfl rfl hl.1 rfl (lv_room (Nat.le_of_ble_eq_true rfl)) dX6_personLine_64 ⟨Nat.zero_le _, Nat.zero_le _⟩) (fun σ_10 H locs hf hW hS => ?_)
          refine lv_aload_n hx hb dX6_personLine_67 rfl (lv_at hl 1 rfl) ?_
          refine mci hf hS (fun r τ h => va_runV (As := []) (rest := []) ⟨hx, hb, hml, hown, hts⟩ (c_X6_kindWord g l σ_10 r τ h) (cl_X6_152 hts ⟨Nat.le_of_ble_eq_true rfl, Nat.le_of_ble_eq_true rfl⟩) (mpV_6 hZ hT hS hW tz_27 _) rfl rfl hl.1 rfl (lv_room (Nat.le_of_ble_eq_true rfl)) dX6_personLine_68 ⟨Nat.zero_le _, Nat.zero_le _⟩) (fun r_11 σ_12 H locs hf hW hS => ?_)
          refine lv_if_ne (tgt := 76) hx hb dX6_personLine_71 (by decide) (fun hc => ?_) (fun hc => ?_)
          · have hf := iff_ hc hf
            refine lv_aload_n hx hb dX6_personLine_76 rfl (lv_at hl 1 rfl) ?_
            refine gf_6_2 hx hb htg (htg _ lf_X6_127) hown hZ hW tz_27 dX6_personLine_77 ?_
            refine mnmi hf (fun (x_13 : Int32) hf => ?_)
            refine lv_istore_n (lv' := [(3, .int x_13), (1, .long r_7), (0, .ref (bs g 27))]) hx hb dX6_personLine_80 rfl hl (by decide) rfl (fun ls hl => ?_)
            refine lv_aload_n hx hb dX6_personLine_81 rfl (lv_at hl 2 rfl) ?_
            refine mci hf hS (fun r τ h => va_runV (As := []) (rest := []) ⟨hx, hb, hml, hown, hts⟩ (c_X6_lookWord g l σ_12 r τ h) (cl_X6_155 hts ⟨Nat.le_of_ble_eq_true rfl, Nat.le_of_ble_eq_true rfl⟩) (mpV_6 hZ hT hS hW tz_27 _) rfl rfl hl.1 rfl (lv_room (Nat.le_of_ble_eq_true rfl)) dX6_personLine_82 ⟨Nat.zero_le _, Nat.zero_le _⟩) (fun r_14 σ_15 H locs hf hW hS => ?_)
            refine lv_if_ne (tgt := 90) hx hb dX6_personLine_85 (by decide) (fun hc => ?_) (fun hc => ?_)
            · have hf := iff_ hc hf
              refine lv_aload_n hx hb dX6_personLine_90 rfl (lv_at hl 2 rfl) ?_
              refine gf_6_1 hx hb htg (htg _ lf_X6_15) hown hZ hW tz_27 dX6_personLine_91 hf (fun T_16 tT_16 hf => ?_)
              refine lv_lload_n hx hb dX6_personLine_94 rfl (lv_at hl 1 rfl) ?_
              refine lv_iload_n hx hb dX6_personLine_95 rfl (lv_at hl 0 rfl) ?_
              refine lv_aload_n hx hb dX6_personLine_96 rfl (lv_at hl 2 rfl) ?_
              refine gf_6_2 hx hb htg (htg _ lf_X6_127) hown hZ hW tz_27 dX6_personLine_97 ?_
              refine mcv hf hS (fun τ h => va_runV (As := [.long r_7, .int x_13, .int (σ_15.1 27 2)]) (rest := []) ⟨hx, hb, hml, hown, hts⟩ (c_X11_addPerson g l 0 81 σ_15 T_16 r_7 x_13 (σ_15.1 27 2) tT_16 τ h) (cl_X6_158 hts ⟨Nat.le_of_ble_eq_true rfl, Nat.le_of_ble_eq_true rfl⟩) (mpV_11 hZ hT hS hW tT_16 _) rfl rfl hl.1 rfl (lv_room (Nat.le_of_ble_eq_true rfl)) dX6_personLine_100 ⟨Nat.zero_le _, Nat.zero_le _⟩) (fun σ_17 H locs hf hW hS => ?_)
              refine lv_iconst (v := 1) hx hb dX6_personLine_103 (by decide) ?_
              subst hQ
              exact mrz hx hb hr hlocks hZ hT hS hW (by decide) (pr1 hf) dX6_personLine_104
            · have hf := ift hc hf
              refine lv_iconst (v := 0) hx hb dX6_personLine_88 (by decide) ?_
              subst hQ
              exact mrz hx hb hr hlocks hZ hT hS hW (by decide) (pr1 hf) dX6_personLine_89
          · have hf := ift hc hf
            refine lv_iconst (v := 0) hx hb dX6_personLine_74 (by decide) ?_
            subst hQ
            exact mrz hx hb hr hlocks hZ hT hS hW (by decide) (pr1 hf) dX6_personLine_75
        · have hf := iff_ hc hf
          refine lv_aload_n hx hb dX6_personLine_54 rfl (lv_at hl 1 rfl) ?_
          refine lv_iconst (v := 3) hx hb dX6_personLine_55 (by decide) ?_
          refine mci hf hS (fun r τ h => va_runV (As := [.int 3]) (rest := []) ⟨hx, hb, hml, hown, hts⟩ (c_X6_fail g l σ_1 3 r τ h) (cl_X6_58 hts ⟨Nat.le_of_ble_eq_true rfl, Nat.le_of_ble_eq_true rfl⟩) (mpV_6 hZ hT hS hW tz_27 _) rfl rfl hl.1 rfl (lv_room (Nat.le_of_ble_eq_true rfl)) dX6_personLine_56 ⟨Nat.zero_le _, Nat.zero_le _⟩) (fun r_18 σ_19 H locs hf hW hS => ?_)
          subst hQ
          exact mrz hx hb hr hlocks hZ hT hS hW (zrm_s hf).1 (zrm_s hf).2 dX6_personLine_59
      | some T_6 =>
        have hT_6 := bn_X6_lineNamed σ_1 ho
        have hf := onm_s hf
        refine lv_ifnull hx hb dX6_personLine_26 ?_
        exact hk_2  hf H locs ls hW hS (lv_sub hl [0] rfl)
def f_X6_person (σ : Mem)  : Option (Int32 × Mem) :=
  nm (sI σ 27 3 (σ.1 1 4)) (fun (σ_1 : Mem) => jn0 (bd2 (f_X6_fail σ_1 1) (fun (r_3 : Int32) (σ_4 : Mem) => zrm r_3 σ_4)) (fun k_2 => (if (σ_1.1 1 5) = 2 then bd1 (f_X6_lineNamed σ_1) (fun (o_5 : Option Nat) => onm o_5 (rfc (σ_1.2.2 27 1) (fun (T_7 : Nat) => bd1 (f_X10_name σ_1) (fun (r_8 : Int64) => bd1 (f_X11_personNamed σ_1 T_7 r_8) (fun (r_9 : Int32) => nm (sI σ_1 27 2 r_9) (fun (σ_10 : Mem) => (if 0 ≤ (σ_10.1 27 2) then bd1 (f_X10_step σ_10) (fun (σ_11 : Mem) => some (1, σ_11)) else bd2 (f_X6_fail σ_10 2) (fun (r_12 : Int32) (σ_13 : Mem) => zrm r_12 σ_13))))))) (fun (T_6 : Nat) => k_2)) else k_2)))
set_option maxHeartbeats 4000000 in
set_option maxRecDepth 100000 in
theorem c_X6_person (g : XG) (l : Launch) (σ : Mem) (r : Int32) (τ : Mem) (hf : f_X6_person σ = some (r, τ)) : Met l yX6_person (wx (.code yX6_person cX6_person 1 (some .boolean))) (kr 6 131) (va_Pc [.ref (bs g 27)] (WS g 0 81 σ)) (Qi' g 0 81 r τ) 0 0 (Ag g 0) := by
  refine Met.ofW (cc := cX6_person) (maxL := 1) (ret := (some .boolean)) (by decide) rfl ?_
  intro p e s m args below meth c s₁ B hml hv
  obtain ⟨rfl, hZ, hT, hW⟩ := hv
  have hx := B.exec
  have hb := B.bytes
  have hr := B.returns
  have hts : ∀ w ∈ wx (.code yX6_person cX6_person 1 (some .boolean)), w.before _ s = true := atoms_spec B.pre
  have htg : ∀ w ∈ lwg, w.before _ s = true := fun w h => hts w (List.mem_cons_of_mem _ h)
  have hown : s.vm.findClass RX6 = some m.cls := findClass_of_methodNamed B.named
  have hlocks := B.notSynchronized
  change W p l e (kr 6 131) s m (List.toArray [.ref (bs g 27)]) below meth c s.heap [] 0 0 (MQ below (Qi' g 0 81 r τ) (List.toArray [.ref (bs g 27)]) s 0 0 (Ag g 0)) _
  generalize hQ : MQ below (Qi' g 0 81 r τ) (List.toArray [.ref (bs g 27)]) s 0 0 (Ag g 0) = Q
  have hS : va_S (Ag g 0) s.heap s.heap [] := va_S.rf
  have hl := lv_entry ([.ref (bs g 27)]) (n := 1) (Nat.le_of_ble_eq_true rfl)
  rw [lg_entry_eq]
  generalize (lg_sl ([.ref (bs g 27)]) ++ List.replicate (1 - (lg_sl ([.ref (bs g 27)])).length) Slot.unset).toArray = ls at hl ⊢
  have hl : lv_has ls 1 [(0, .ref (bs g 27))] := hl
  delta f_X6_person at hf
  obtain ⟨H, hH⟩ : ∃ H, H = s.heap := ⟨_, rfl⟩
  obtain ⟨locs, hLc⟩ : ∃ z : List Loc, z = [] := ⟨_, rfl⟩
  have hS : va_S (Ag g 0) s.heap H locs := by rw [hH, hLc]; exact hS
  have hW : Wd g 0 81 σ H := by rw [hH]; exact hW
  suffices hG : W p l e (kr 6 131) s m (List.toArray [.ref (bs g 27)]) below meth c H locs 0 0 Q (F0 m 0 ls []) by rw [hH, hLc] at hG; exact hG
  clear hH hLc
  refine lv_aload_n hx hb dX6_person_0 rfl (lv_at hl 0 rfl) ?_
  refine lv_aload_n hx hb dX6_person_1 rfl (lv_at hl 0 rfl) ?_
  refine gf_6_0 hx hb htg (htg _ lf_X6_9) hown hZ hW tz_27 dX6_person_2 ?_
  refine gfN_10_4 hx hb htg ln_X6_44 hown hZ hW tz_1 dX6_person_5 ?_
  refine pf_6_3 hx hb htg (htg _ lf_X6_47) hown hZ hW hS tz_27 dX6_person_8 hf (fun σ_1 H locs hf hW hS => ?_)
  refine lv_aload_n hx hb dX6_person_11 rfl (lv_at hl 0 rfl) ?_
  refine gf_6_0 hx hb htg (htg _ lf_X6_9) hown hZ hW tz_27 dX6_person_12 ?_
  refine gfN_10_5 hx hb htg ln_X6_38 hown hZ hW tz_1 dX6_person_15 ?_
  refine lv_iconst (v := 2) hx hb dX6_person_18 (by decide) ?_
  refine jn0_W (∀ (H : Heap) (locs : List Loc) (ls : Array Slot), Wd g 0 81 σ_1 H → va_S (Ag g 0) s.heap H locs → lv_has ls 1 [(0, .ref (bs g 27))] → W p l e (kr 6 131) s m (List.toArray [.ref (bs g 27)]) below meth c H locs 0 0 Q (F0 m 29 ls [])) hf (fun  hf => ?_) (fun k_2 hk_2 hf => ?_)
  · intro H locs ls hW hS hl
    refine lv_aload_n hx hb dX6_person_29 rfl (lv_at hl 0 rfl) ?_
    refine lv_iconst (v := 1) hx hb dX6_person_30 (by decide) ?_
    refine mci hf hS (fun r τ h => va_runV (As := [.int 1]) (rest := []) ⟨hx, hb, hml, hown, hts⟩ (c_X6_fail g l σ_1 1 r τ h) (cl_X6_58 hts ⟨Nat.le_of_ble_eq_true rfl, Nat.le_of_ble_eq_true rfl⟩) (mpV_6 hZ hT hS hW tz_27 _) rfl rfl hl.1 rfl (lv_room (Nat.le_of_ble_eq_true rfl)) dX6_person_31 ⟨Nat.zero_le _, Nat.zero_le _⟩) (fun r_3 σ_4 H locs hf hW hS => ?_)
    subst hQ
    exact mrz hx hb hr hlocks hZ hT hS hW (zrm_s hf).1 (zrm_s hf).2 dX6_person_34
  · refine lv_icmp_ne (tgt := 29) hx hb dX6_person_19 (by decide) (fun hc => ?_) (fun hc => ?_)
    · have hf := iff_ hc hf
      exact hk_2  hf H locs ls hW hS (lv_sub hl [0] rfl)
    · have hf := ift hc hf
      refine lv_aload_n hx hb dX6_person_22 rfl (lv_at hl 0 rfl) ?_
      refine mcep hf hS (fun r h => va_runV (As := []) (rest := []) ⟨hx, hb, hml, hown, hts⟩ (c_X6_lineNamed g l σ_1 r h) (cl_X6_54 hts ⟨Nat.le_of_ble_eq_true rfl, Nat.le_of_ble_eq_true rfl⟩) (mpV_6 hZ hT hS hW tz_27 _) rfl rfl hl.1 rfl (lv_room (Nat.le_of_ble_eq_true rfl)) dX6_person_23 ⟨Nat.zero_le _, Nat.zero_le _⟩) (fun o_5 H locs ho hf hW hS => ?_)
      cases o_5 with
      | none =>
        have hf := onm_n hf
        refine lv_ifnullN (tgt := 35) hx hb dX6_person_26 (by decide) ?_
        refine lv_aload_n hx hb dX6_person_35 rfl (lv_at hl 0 rfl) ?_
        refine lv_aload_n hx hb dX6_person_36 rfl (lv_at hl 0 rfl) ?_
        refine gf_6_1 hx hb htg (htg _ lf_X6_15) hown hZ hW tz_27 dX6_person_37 hf (fun T_7 tT_7 hf => ?_)
        refine lv_aload_n hx hb dX6_person_40 rfl (lv_at hl 0 rfl) ?_
        refine gf_6_0 hx hb htg (htg _ lf_X6_9) hown hZ hW tz_27 dX6_person_41 ?_
        refine mclp hf hS (fun r h => va_runV (As := []) (rest := [.ref (bs g T_7), .ref (bs g 27)]) ⟨hx, hb, hml, hown, hts⟩ (c_X10_name g l σ_1 r h) (cl_X6_144 hts ⟨Nat.le_of_ble_eq_true rfl, Nat.le_of_ble_eq_true rfl⟩) (mpV_10 hZ hT hS hW tz_1 _) rfl rfl hl.1 rfl (lv_room (Nat.le_of_ble_eq_true rfl)) dX6_person_44 ⟨Nat.zero_le _, Nat.zero_le _⟩) (fun r_8 H locs hf hW hS => ?_)
        refine mcip hf hS (fun r h => va_runV (As := [.long r_8]) (rest := [.ref (bs g 27)]) ⟨hx, hb, hml, hown, hts⟩ (c_X11_personNamed g l 0 81 σ_1 T_7 r_8 tT_7 r h) (cl_X6_148 hts ⟨Nat.le_of_ble_eq_true rfl, Nat.le_of_ble_eq_true rfl⟩) (mpV_11 hZ hT hS hW tT_7 _) rfl rfl hl.1 rfl (lv_room (Nat.le_of_ble_eq_true rfl)) dX6_person_47 ⟨Nat.zero_le _, Nat.zero_le _⟩) (fun r_9 H locs hf hW hS => ?_)
        refine pf_6_2 hx hb htg (htg _ lf_X6_127) hown hZ hW hS tz_27 dX6_person_50 hf (fun σ_10 H locs hf hW hS => ?_)
        refine lv_aload_n hx hb dX6_person_53 rfl (lv_at hl 0 rfl) ?_
        refine gf_6_2 hx hb htg (htg _ lf_X6_127) hown hZ hW tz_27 dX6_person_54 ?_
        refine lv_if_ge (tgt := 66) hx hb dX6_person_57 (by decide) (fun hc => ?_) (fun hc => ?_)
        · have hf := ift hc hf
          refine lv_aload_n hx hb dX6_person_66 rfl (lv_at hl 0 rfl) ?_
          refine gf_6_0 hx hb htg (htg _ lf_X6_9) hown hZ hW tz_27 dX6_person_67 ?_
          refine mcv hf hS (fun τ h => va_runV (As := []) (rest := []) ⟨hx, hb, hml, hown, hts⟩ (c_X10_step g l σ_10 τ h) (cl_X6_41 hts ⟨Nat.le_of_ble_eq_true rfl, Nat.le_of_ble_eq_true rfl⟩) (mpV_10 hZ hT hS hW tz_1 _) rfl rfl hl.1 rfl (lv_room (Nat.le_of_ble_eq_true rfl)) dX6_person_70 ⟨Nat.zero_le _, Nat.zero_le _⟩) (fun σ_11 H locs hf hW hS => ?_)
          refine lv_iconst (v := 1) hx hb dX6_person_73 (by decide) ?_
          subst hQ
          exact mrz hx hb hr hlocks hZ hT hS hW (by decide) (pr1 hf) dX6_person_74
        · have hf := iff_ hc hf
          refine lv_aload_n hx hb dX6_person_60 rfl (lv_at hl 0 rfl) ?_
          refine lv_iconst (v := 2) hx hb dX6_person_61 (by decide) ?_
          refine mci hf hS (fun r τ h => va_runV (As := [.int 2]) (rest := []) ⟨hx, hb, hml, hown, hts⟩ (c_X6_fail g l σ_10 2 r τ h) (cl_X6_58 hts ⟨Nat.le_of_ble_eq_true rfl, Nat.le_of_ble_eq_true rfl⟩) (mpV_6 hZ hT hS hW tz_27 _) rfl rfl hl.1 rfl (lv_room (Nat.le_of_ble_eq_true rfl)) dX6_person_62 ⟨Nat.zero_le _, Nat.zero_le _⟩) (fun r_12 σ_13 H locs hf hW hS => ?_)
          subst hQ
          exact mrz hx hb hr hlocks hZ hT hS hW (zrm_s hf).1 (zrm_s hf).2 dX6_person_65
      | some T_6 =>
        have hT_6 := bn_X6_lineNamed σ_1 ho
        have hf := onm_s hf
        refine lv_ifnull hx hb dX6_person_26 ?_
        exact hk_2  hf H locs ls hW hS (lv_sub hl [0] rfl)
def f_X6_changeLine (σ : Mem)  : Option (Int32 × Mem) :=
  bd2 (f_X6_person σ) (fun (r_1 : Int32) (σ_2 : Mem) => (if r_1 = 0 then some (0, σ_2) else nm (σ_2.1 27 2) (fun (x_3 : Int32) => bd2 (f_X6_wholeBehind σ_2 11 0 29) (fun (r_4 : Int32) (σ_5 : Mem) => (if r_4 = 0 then some (0, σ_5) else nm (σ_5.1 27 2) (fun (x_6 : Int32) => rfc (σ_5.2.2 27 1) (fun (T_7 : Nat) => bd2 (f_X6_wholeBehind σ_5 12 0 ((σ_5.1 T_7 0) - 1)) (fun (r_8 : Int32) (σ_9 : Mem) => (if r_8 = 0 then some (0, σ_9) else nm (σ_9.1 27 2) (fun (x_10 : Int32) => bd2 (f_X6_wholeBehind σ_9 13 1 3) (fun (r_11 : Int32) (σ_12 : Mem) => (if r_11 = 0 then some (0, σ_12) else rfc (σ_12.2.2 27 1) (fun (T_13 : Nat) => bd1 (f_X5_goOn σ_12 (T_13 + 5) x_3 x_10 x_6 (σ_12.1 27 2)) (fun (σ_14 : Mem) => some (1, σ_14)))))))))))))))
set_option maxHeartbeats 4000000 in
set_option maxRecDepth 100000 in
theorem c_X6_changeLine (g : XG) (l : Launch) (σ : Mem) (r : Int32) (τ : Mem) (hf : f_X6_changeLine σ = some (r, τ)) : Met l yX6_changeLine (wx (.code yX6_changeLine cX6_changeLine 4 (some .boolean))) (kr 7 151) (va_Pc [.ref (bs g 27)] (WS g 0 81 σ)) (Qi' g 0 81 r τ) 0 0 (Ag g 0) := by
  refine Met.ofW (cc := cX6_changeLine) (maxL := 4) (ret := (some .boolean)) (by decide) rfl ?_
  intro p e s m args below meth c s₁ B hml hv
  obtain ⟨rfl, hZ, hT, hW⟩ := hv
  have hx := B.exec
  have hb := B.bytes
  have hr := B.returns
  have hts : ∀ w ∈ wx (.code yX6_changeLine cX6_changeLine 4 (some .boolean)), w.before _ s = true := atoms_spec B.pre
  have htg : ∀ w ∈ lwg, w.before _ s = true := fun w h => hts w (List.mem_cons_of_mem _ h)
  have hown : s.vm.findClass RX6 = some m.cls := findClass_of_methodNamed B.named
  have hlocks := B.notSynchronized
  change W p l e (kr 7 151) s m (List.toArray [.ref (bs g 27)]) below meth c s.heap [] 0 0 (MQ below (Qi' g 0 81 r τ) (List.toArray [.ref (bs g 27)]) s 0 0 (Ag g 0)) _
  generalize hQ : MQ below (Qi' g 0 81 r τ) (List.toArray [.ref (bs g 27)]) s 0 0 (Ag g 0) = Q
  have hS : va_S (Ag g 0) s.heap s.heap [] := va_S.rf
  have hl := lv_entry ([.ref (bs g 27)]) (n := 4) (Nat.le_of_ble_eq_true rfl)
  rw [lg_entry_eq]
  generalize (lg_sl ([.ref (bs g 27)]) ++ List.replicate (4 - (lg_sl ([.ref (bs g 27)])).length) Slot.unset).toArray = ls at hl ⊢
  have hl : lv_has ls 4 [(0, .ref (bs g 27))] := hl
  delta f_X6_changeLine at hf
  obtain ⟨H, hH⟩ : ∃ H, H = s.heap := ⟨_, rfl⟩
  obtain ⟨locs, hLc⟩ : ∃ z : List Loc, z = [] := ⟨_, rfl⟩
  have hS : va_S (Ag g 0) s.heap H locs := by rw [hH, hLc]; exact hS
  have hW : Wd g 0 81 σ H := by rw [hH]; exact hW
  suffices hG : W p l e (kr 7 151) s m (List.toArray [.ref (bs g 27)]) below meth c H locs 0 0 Q (F0 m 0 ls []) by rw [hH, hLc] at hG; exact hG
  clear hH hLc
  refine lv_aload_n hx hb dX6_changeLine_0 rfl (lv_at hl 0 rfl) ?_
  refine mci hf hS (fun r τ h => va_runV (As := []) (rest := []) ⟨hx, hb, hml, hown, hts⟩ (c_X6_person g l σ r τ h) (cl_X6_162 hts ⟨Nat.le_of_ble_eq_true rfl, Nat.le_of_ble_eq_true rfl⟩) (mpV_6 hZ hT hS hW tz_27 _) rfl rfl hl.1 rfl (lv_room (Nat.le_of_ble_eq_true rfl)) dX6_changeLine_1 ⟨Nat.zero_le _, Nat.zero_le _⟩) (fun r_1 σ_2 H locs hf hW hS => ?_)
  refine lv_if_ne (tgt := 9) hx hb dX6_changeLine_4 (by decide) (fun hc => ?_) (fun hc => ?_)
  · have hf := iff_ hc hf
    refine lv_aload_n hx hb dX6_changeLine_9 rfl (lv_at hl 0 rfl) ?_
    refine gf_6_2 hx hb htg (htg _ lf_X6_127) hown hZ hW tz_27 dX6_changeLine_10 ?_
    refine mnmi hf (fun (x_3 : Int32) hf => ?_)
    refine lv_istore_n (lv' := [(1, .int x_3), (0, .ref (bs g 27))]) hx hb dX6_changeLine_13 rfl hl (by decide) rfl (fun ls hl => ?_)
    refine lv_aload_n hx hb dX6_changeLine_14 rfl (lv_at hl 1 rfl) ?_
    refine va_ldcS (q := adS g 11) hx hb hown (lr_X6_165 hZ) dX6_changeLine_15 ?_
    refine lv_iconst (v := 0) hx hb dX6_changeLine_17 (by decide) ?_
    refine lv_bipush (v := 29) hx hb dX6_changeLine_18 (by decide) ?_
    refine mci hf hS (fun r τ h => va_runV (As := [.ref (adS g 11), .int 0, .int 29]) (rest := []) ⟨hx, hb, hml, hown, hts⟩ (c_X6_wholeBehind g l σ_2 11 0 29 (show 11 < 19 by decide) r τ h) (cl_X6_123 hts ⟨Nat.le_of_ble_eq_true rfl, Nat.le_of_ble_eq_true rfl⟩) (mpV_6 hZ hT hS hW tz_27 _) rfl rfl hl.1 rfl (lv_room (Nat.le_of_ble_eq_true rfl)) dX6_changeLine_20 ⟨Nat.zero_le _, Nat.zero_le _⟩) (fun r_4 σ_5 H locs hf hW hS => ?_)
    refine lv_if_ne (tgt := 28) hx hb dX6_changeLine_23 (by decide) (fun hc => ?_) (fun hc => ?_)
    · have hf := iff_ hc hf
      refine lv_aload_n hx hb dX6_changeLine_28 rfl (lv_at hl 1 rfl) ?_
      refine gf_6_2 hx hb htg (htg _ lf_X6_127) hown hZ hW tz_27 dX6_changeLine_29 ?_
      refine mnmi hf (fun (x_6 : Int32) hf => ?_)
      refine lv_istore_n (lv' := [(2, .int x_6), (1, .int x_3), (0, .ref (bs g 27))]) hx hb dX6_changeLine_32 rfl hl (by decide) rfl (fun ls hl => ?_)
      refine lv_aload_n hx hb dX6_changeLine_33 rfl (lv_at hl 2 rfl) ?_
      refine va_ldcS (q := adS g 12) hx hb hown (lr_X6_167 hZ) dX6_changeLine_34 ?_
      refine lv_iconst (v := 0) hx hb dX6_changeLine_36 (by decide) ?_
      refine lv_aload_n hx hb dX6_changeLine_37 rfl (lv_at hl 2 rfl) ?_
      refine gf_6_1 hx hb htg (htg _ lf_X6_15) hown hZ hW tz_27 dX6_changeLine_38 hf (fun T_7 tT_7 hf => ?_)
      refine gfN_11_0 hx hb htg ln_X6_130 hown hZ hW tT_7 dX6_changeLine_41 ?_
      refine lv_iconst (v := 1) hx hb dX6_changeLine_44 (by decide) ?_
      refine lv_isub hx hb dX6_changeLine_45 ?_
      refine mci hf hS (fun r τ h => va_runV (As := [.ref (adS g 12), .int 0, .int ((σ_5.1 T_7 0) - 1)]) (rest := []) ⟨hx, hb, hml, hown, hts⟩ (c_X6_wholeBehind g l σ_5 12 0 ((σ_5.1 T_7 0) - 1) (show 12 < 19 by decide) r τ h) (cl_X6_123 hts ⟨Nat.le_of_ble_eq_true rfl, Nat.le_of_ble_eq_true rfl⟩) (mpV_6 hZ hT hS hW tz_27 _) rfl rfl hl.1 rfl (lv_room (Nat.le_of_ble_eq_true rfl)) dX6_changeLine_46 ⟨Nat.zero_le _, Nat.zero_le _⟩) (fun r_8 σ_9 H locs hf hW hS => ?_)
      refine lv_if_ne (tgt := 54) hx hb dX6_changeLine_49 (by decide) (fun hc => ?_) (fun hc => ?_)
      · have hf := iff_ hc hf
        refine lv_aload_n hx hb dX6_changeLine_54 rfl (lv_at hl 2 rfl) ?_
        refine gf_6_2 hx hb htg (htg _ lf_X6_127) hown hZ hW tz_27 dX6_changeLine_55 ?_
        refine mnmi hf (fun (x_10 : Int32) hf => ?_)
        refine lv_istore_n (lv' := [(3, .int x_10), (2, .int x_6), (1, .int x_3), (0, .ref (bs g 27))]) hx hb dX6_changeLine_58 rfl hl (by decide) rfl (fun ls hl => ?_)
        refine lv_aload_n hx hb dX6_changeLine_59 rfl (lv_at hl 3 rfl) ?_
        refine va_ldcS (q := adS g 13) hx hb hown (lr_X6_169 hZ) dX6_changeLine_60 ?_
        refine lv_iconst (v := 1) hx hb dX6_changeLine_62 (by decide) ?_
        refine lv_iconst (v := 3) hx hb dX6_changeLine_63 (by decide) ?_
        refine mci hf hS (fun r τ h => va_runV (As := [.ref (adS g 13), .int 1, .int 3]) (rest := []) ⟨hx, hb, hml, hown, hts⟩ (c_X6_wholeBehind g l σ_9 13 1 3 (show 13 < 19 by decide) r τ h) (cl_X6_123 hts ⟨Nat.le_of_ble_eq_true rfl, Nat.le_of_ble_eq_true rfl⟩) (mpV_6 hZ hT hS hW tz_27 _) rfl rfl hl.1 rfl (lv_room (Nat.le_of_ble_eq_true rfl)) dX6_changeLine_64 ⟨Nat.zero_le _, Nat.zero_le _⟩) (fun r_11 σ_12 H locs hf hW hS => ?_)
        refine lv_if_ne (tgt := 72) hx hb dX6_changeLine_67 (by decide) (fun hc => ?_) (fun hc => ?_)
        · have hf := iff_ hc hf
          refine lv_aload_n hx hb dX6_changeLine_72 rfl (lv_at hl 3 rfl) ?_
          refine gf_6_1 hx hb htg (htg _ lf_X6_15) hown hZ hW tz_27 dX6_changeLine_73 hf (fun T_13 tT_13 hf => ?_)
          refine gfN_11_8 hx hb htg ln_X6_171 hown hZ hW tT_13 dX6_changeLine_76 ?_
          refine lv_iload_n hx hb dX6_changeLine_79 rfl (lv_at hl 2 rfl) ?_
          refine lv_iload_n hx hb dX6_changeLine_80 rfl (lv_at hl 0 rfl) ?_
          refine lv_iload_n hx hb dX6_changeLine_81 rfl (lv_at hl 1 rfl) ?_
          refine lv_aload_n hx hb dX6_changeLine_82 rfl (lv_at hl 3 rfl) ?_
          refine gf_6_2 hx hb htg (htg _ lf_X6_127) hown hZ hW tz_27 dX6_changeLine_83 ?_
          refine mcv hf hS (fun τ h => va_runV (As := [.int x_3, .int x_10, .int x_6, .int (σ_12.1 27 2)]) (rest := []) ⟨hx, hb, hml, hown, hts⟩ (c_X5_goOn g l 0 81 σ_12 (T_13 + 5) x_3 x_10 x_6 (σ_12.1 27 2) (tT_13.sub 5 5 so_11_5_5) τ h) (cl_X6_175 hts ⟨Nat.le_of_ble_eq_true rfl, Nat.le_of_ble_eq_true rfl⟩) (mpV_5 hZ hT hS hW (tT_13.sub 5 5 so_11_5_5) _) rfl rfl hl.1 rfl (lv_room (Nat.le_of_ble_eq_true rfl)) dX6_changeLine_86 ⟨Nat.zero_le _, Nat.zero_le _⟩) (fun σ_14 H locs hf hW hS => ?_)
          refine lv_iconst (v := 1) hx hb dX6_changeLine_89 (by decide) ?_
          subst hQ
          exact mrz hx hb hr hlocks hZ hT hS hW (by decide) (pr1 hf) dX6_changeLine_90
        · have hf := ift hc hf
          refine lv_iconst (v := 0) hx hb dX6_changeLine_70 (by decide) ?_
          subst hQ
          exact mrz hx hb hr hlocks hZ hT hS hW (by decide) (pr1 hf) dX6_changeLine_71
      · have hf := ift hc hf
        refine lv_iconst (v := 0) hx hb dX6_changeLine_52 (by decide) ?_
        subst hQ
        exact mrz hx hb hr hlocks hZ hT hS hW (by decide) (pr1 hf) dX6_changeLine_53
    · have hf := ift hc hf
      refine lv_iconst (v := 0) hx hb dX6_changeLine_26 (by decide) ?_
      subst hQ
      exact mrz hx hb hr hlocks hZ hT hS hW (by decide) (pr1 hf) dX6_changeLine_27
  · have hf := ift hc hf
    refine lv_iconst (v := 0) hx hb dX6_changeLine_7 (by decide) ?_
    subst hQ
    exact mrz hx hb hr hlocks hZ hT hS hW (by decide) (pr1 hf) dX6_changeLine_8
