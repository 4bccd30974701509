def f_X6_visitLine (σ : Mem)  : Option (Int32 × Mem) :=
  bd2 (f_X6_person σ) (fun (r_1 : Int32) (σ_2 : Mem) => (if r_1 = 0 then some (0, σ_2) else nm (σ_2.1 27 2) (fun (x_3 : Int32) => bd2 (f_X6_wholeBehind σ_2 11 0 29) (fun (r_4 : Int32) (σ_5 : Mem) => (if r_4 = 0 then some (0, σ_5) else rfc (σ_5.2.2 27 1) (fun (T_6 : Nat) => bd1 (f_X12_get σ_5 (T_6 + 7) (σ_5.1 27 2)) (fun (r_7 : Int32) => (if r_7 = (-2) then rfc (σ_5.2.2 27 1) (fun (T_8 : Nat) => bd1 (f_X11_isShut σ_5 T_8 (σ_5.1 27 2)) (fun (r_9 : Int32) => (if r_9 = 0 then rfc (σ_5.2.2 27 1) (fun (T_10 : Nat) => bd1 (f_X12_set σ_5 (T_10 + 7) (σ_5.1 27 2) x_3) (fun (σ_11 : Mem) => some (1, σ_11))) else bd2 (f_X6_fail σ_5 8) (fun (r_12 : Int32) (σ_13 : Mem) => zrm r_12 σ_13)))) else bd2 (f_X6_fail σ_5 3) (fun (r_14 : Int32) (σ_15 : Mem) => zrm r_14 σ_15)))))))))
set_option maxHeartbeats 4000000 in
set_option maxRecDepth 100000 in
theorem c_X6_visitLine (g : XG) (l : Launch) (σ : Mem) (r : Int32) (τ : Mem) (hf : f_X6_visitLine σ = some (r, τ)) : Met l yX6_visitLine (wx (.code yX6_visitLine cX6_visitLine 2 (some .boolean))) (kr 7 151) (va_Pc [.ref (bs g 27)] (WS g 0 81 σ)) (Qi' g 0 81 r τ) 0 0 (Ag g 0) := by
  refine Met.ofW (cc := cX6_visitLine) (maxL := 2) (ret := (some .boolean)) (by decide) rfl ?_
  intro p e s m args below meth c s₁ B hml hv
  obtain ⟨rfl, hZ, hT, hW⟩ := hv
  have hx := B.exec
  have hb := B.bytes
  have hr := B.returns
  have hts : ∀ w ∈ wx (.code yX6_visitLine cX6_visitLine 2 (some .boolean)), w.before _ s = true := atoms_spec B.pre
  have htg : ∀ w ∈ lwg, w.before _ s = true := fun w h => hts w (List.mem_cons_of_mem _ h)
  have hown : s.vm.findClass RX6 = some m.cls := findClass_of_methodNamed B.named
  have hlocks := B.notSynchronized
  change W p l e (kr 7 151) s m (List.toArray [.ref (bs g 27)]) below meth c s.heap [] 0 0 (MQ below (Qi' g 0 81 r τ) (List.toArray [.ref (bs g 27)]) s 0 0 (Ag g 0)) _
  generalize hQ : MQ below (Qi' g 0 81 r τ) (List.toArray [.ref (bs g 27)]) s 0 0 (Ag g 0) = Q
  have hS : va_S (Ag g 0) s.heap s.heap [] := va_S.rf
  have hl := lv_entry ([.ref (bs g 27)]) (n := 2) (Nat.le_of_ble_eq_true rfl)
  rw [lg_entry_eq]
  generalize (lg_sl ([.ref (bs g 27)]) ++ List.replicate (2 - (lg_sl ([.ref (bs g 27)])).length) Slot.unset).toArray = ls at hl ⊢
  have hl : lv_has ls 2 [(0, .ref (bs g 27))] := hl
  delta f_X6_visitLine at hf
  obtain ⟨H, hH⟩ : ∃ H, H = s.heap := ⟨_, rfl⟩
  obtain ⟨locs, hLc⟩ : ∃ z : List Loc, z = [] := ⟨_, rfl⟩
  have hS : va_S (Ag g 0) s.heap H locs := by rw [hH, hLc]; exact hS
  have hW : Wd g 0 81 σ H := by rw [hH]; exact hW
  suffices hG : W p l e (kr 7 151) s m (List.toArray [.ref (bs g 27)]) below meth c H locs 0 0 Q (F0 m 0 ls []) by rw [hH, hLc] at hG; exact hG
  clear hH hLc
  refine lv_aload_n hx hb dX6_visitLine_0 rfl (lv_at hl 0 rfl) ?_
  refine mci hf hS (fun r τ h => va_runV (As := []) (rest := []) ⟨hx, hb, hml, hown, hts⟩ (c_X6_person g l σ r τ h) (cl_X6_162 hts ⟨Nat.le_of_ble_eq_true rfl, Nat.le_of_ble_eq_true rfl⟩) (mpV_6 hZ hT hS hW tz_27 _) rfl rfl hl.1 rfl (lv_room (Nat.le_of_ble_eq_true rfl)) dX6_visitLine_1 ⟨Nat.zero_le _, Nat.zero_le _⟩) (fun r_1 σ_2 H locs hf hW hS => ?_)
  refine lv_if_ne (tgt := 9) hx hb dX6_visitLine_4 (by decide) (fun hc => ?_) (fun hc => ?_)
  · have hf := iff_ hc hf
    refine lv_aload_n hx hb dX6_visitLine_9 rfl (lv_at hl 0 rfl) ?_
    refine gf_6_2 hx hb htg (htg _ lf_X6_127) hown hZ hW tz_27 dX6_visitLine_10 ?_
    refine mnmi hf (fun (x_3 : Int32) hf => ?_)
    refine lv_istore_n (lv' := [(1, .int x_3), (0, .ref (bs g 27))]) hx hb dX6_visitLine_13 rfl hl (by decide) rfl (fun ls hl => ?_)
    refine lv_aload_n hx hb dX6_visitLine_14 rfl (lv_at hl 1 rfl) ?_
    refine va_ldcS (q := adS g 11) hx hb hown (lr_X6_165 hZ) dX6_visitLine_15 ?_
    refine lv_iconst (v := 0) hx hb dX6_visitLine_17 (by decide) ?_
    refine lv_bipush (v := 29) hx hb dX6_visitLine_18 (by decide) ?_
    refine mci hf hS (fun r τ h => va_runV (As := [.ref (adS g 11), .int 0, .int 29]) (rest := []) ⟨hx, hb, hml, hown, hts⟩ (c_X6_wholeBehind g l σ_2 11 0 29 (show 11 < 19 by decide) r τ h) (cl_X6_123 hts ⟨Nat.le_of_ble_eq_true rfl, Nat.le_of_ble_eq_true rfl⟩) (mpV_6 hZ hT hS hW tz_27 _) rfl rfl hl.1 rfl (lv_room (Nat.le_of_ble_eq_true rfl)) dX6_visitLine_20 ⟨Nat.zero_le _, Nat.zero_le _⟩) (fun r_4 σ_5 H locs hf hW hS => ?_)
    refine lv_if_ne (tgt := 28) hx hb dX6_visitLine_23 (by decide) (fun hc => ?_) (fun hc => ?_)
    · have hf := iff_ hc hf
      refine lv_aload_n hx hb dX6_visitLine_28 rfl (lv_at hl 1 rfl) ?_
      refine gf_6_1 hx hb htg (htg _ lf_X6_15) hown hZ hW tz_27 dX6_visitLine_29 hf (fun T_6 tT_6 hf => ?_)
      refine gfN_11_9 hx hb htg ln_X6_181 hown hZ hW tT_6 dX6_visitLine_32 ?_
      refine lv_aload_n hx hb dX6_visitLine_35 rfl (lv_at hl 1 rfl) ?_
      refine gf_6_2 hx hb htg (htg _ lf_X6_127) hown hZ hW tz_27 dX6_visitLine_36 ?_
      refine mcip hf hS (fun r h => va_runSN (As := [.ref (bs g (T_6 + 7)), .int (σ_5.1 27 2)]) (rest := []) ⟨hx, hb, hml, hown, hts⟩ (c_X12_get g l 0 81 σ_5 (T_6 + 7) (σ_5.1 27 2) (tT_6.sub 20 7 so_11_20_7) r h) (cl_X6_184 hts hZ ⟨Nat.le_of_ble_eq_true rfl, Nat.le_of_ble_eq_true rfl⟩) (mpS hZ hT hS hW _) rfl rfl hl.1 rfl (lv_room (Nat.le_of_ble_eq_true rfl)) dX6_visitLine_39 ⟨Nat.zero_le _, Nat.zero_le _⟩) (fun r_7 H locs hf hW hS => ?_)
      refine lv_bipush (v := (-2)) hx hb dX6_visitLine_42 (by decide) ?_
      refine lv_icmp_eq (tgt := 53) hx hb dX6_visitLine_44 (by decide) (fun hc => ?_) (fun hc => ?_)
      · have hf := ift hc hf
        refine lv_aload_n hx hb dX6_visitLine_53 rfl (lv_at hl 1 rfl) ?_
        refine gf_6_1 hx hb htg (htg _ lf_X6_15) hown hZ hW tz_27 dX6_visitLine_54 hf (fun T_8 tT_8 hf => ?_)
        refine lv_aload_n hx hb dX6_visitLine_57 rfl (lv_at hl 1 rfl) ?_
        refine gf_6_2 hx hb htg (htg _ lf_X6_127) hown hZ hW tz_27 dX6_visitLine_58 ?_
        refine mcip hf hS (fun r h => va_runV (As := [.int (σ_5.1 27 2)]) (rest := []) ⟨hx, hb, hml, hown, hts⟩ (c_X11_isShut g l 0 81 σ_5 T_8 (σ_5.1 27 2) tT_8 r h) (cl_X6_188 hts ⟨Nat.le_of_ble_eq_true rfl, Nat.le_of_ble_eq_true rfl⟩) (mpV_11 hZ hT hS hW tT_8 _) rfl rfl hl.1 rfl (lv_room (Nat.le_of_ble_eq_true rfl)) dX6_visitLine_61 ⟨Nat.zero_le _, Nat.zero_le _⟩) (fun r_9 H locs hf hW hS => ?_)
        refine lv_if_eq (tgt := 74) hx hb dX6_visitLine_64 (by decide) (fun hc => ?_) (fun hc => ?_)
        · have hf := ift hc hf
          refine lv_aload_n hx hb dX6_visitLine_74 rfl (lv_at hl 1 rfl) ?_
          refine gf_6_1 hx hb htg (htg _ lf_X6_15) hown hZ hW tz_27 dX6_visitLine_75 hf (fun T_10 tT_10 hf => ?_)
          refine gfN_11_9 hx hb htg ln_X6_181 hown hZ hW tT_10 dX6_visitLine_78 ?_
          refine lv_aload_n hx hb dX6_visitLine_81 rfl (lv_at hl 1 rfl) ?_
          refine gf_6_2 hx hb htg (htg _ lf_X6_127) hown hZ hW tz_27 dX6_visitLine_82 ?_
          refine lv_iload_n hx hb dX6_visitLine_85 rfl (lv_at hl 0 rfl) ?_
          refine mcv hf hS (fun τ h => va_runSN (As := [.ref (bs g (T_10 + 7)), .int (σ_5.1 27 2), .int x_3]) (rest := []) ⟨hx, hb, hml, hown, hts⟩ (c_X12_set g l 0 81 σ_5 (T_10 + 7) (σ_5.1 27 2) x_3 (tT_10.sub 20 7 so_11_20_7) τ h) (cl_X6_191 hts hZ ⟨Nat.le_of_ble_eq_true rfl, Nat.le_of_ble_eq_true rfl⟩) (mpS hZ hT hS hW _) rfl rfl hl.1 rfl (lv_room (Nat.le_of_ble_eq_true rfl)) dX6_visitLine_86 ⟨Nat.zero_le _, Nat.zero_le _⟩) (fun σ_11 H locs hf hW hS => ?_)
          refine lv_iconst (v := 1) hx hb dX6_visitLine_89 (by decide) ?_
          subst hQ
          exact mrz hx hb hr hlocks hZ hT hS hW (by decide) (pr1 hf) dX6_visitLine_90
        · have hf := iff_ hc hf
          refine lv_aload_n hx hb dX6_visitLine_67 rfl (lv_at hl 1 rfl) ?_
          refine lv_bipush (v := 8) hx hb dX6_visitLine_68 (by decide) ?_
          refine mci hf hS (fun r τ h => va_runV (As := [.int 8]) (rest := []) ⟨hx, hb, hml, hown, hts⟩ (c_X6_fail g l σ_5 8 r τ h) (cl_X6_58 hts ⟨Nat.le_of_ble_eq_true rfl, Nat.le_of_ble_eq_true rfl⟩) (mpV_6 hZ hT hS hW tz_27 _) rfl rfl hl.1 rfl (lv_room (Nat.le_of_ble_eq_true rfl)) dX6_visitLine_70 ⟨Nat.zero_le _, Nat.zero_le _⟩) (fun r_12 σ_13 H locs hf hW hS => ?_)
          subst hQ
          exact mrz hx hb hr hlocks hZ hT hS hW (zrm_s hf).1 (zrm_s hf).2 dX6_visitLine_73
      · have hf := iff_ hc hf
        refine lv_aload_n hx hb dX6_visitLine_47 rfl (lv_at hl 1 rfl) ?_
        refine lv_iconst (v := 3) hx hb dX6_visitLine_48 (by decide) ?_
        refine mci hf hS (fun r τ h => va_runV (As := [.int 3]) (rest := []) ⟨hx, hb, hml, hown, hts⟩ (c_X6_fail g l σ_5 3 r τ h) (cl_X6_58 hts ⟨Nat.le_of_ble_eq_true rfl, Nat.le_of_ble_eq_true rfl⟩) (mpV_6 hZ hT hS hW tz_27 _) rfl rfl hl.1 rfl (lv_room (Nat.le_of_ble_eq_true rfl)) dX6_visitLine_49 ⟨Nat.zero_le _, Nat.zero_le _⟩) (fun r_14 σ_15 H locs hf hW hS => ?_)
        subst hQ
        exact mrz hx hb hr hlocks hZ hT hS hW (zrm_s hf).1 (zrm_s hf).2 dX6_visitLine_52
    · have hf := ift hc hf
      refine lv_iconst (v := 0) hx hb dX6_visitLine_26 (by decide) ?_
      subst hQ
      exact mrz hx hb hr hlocks hZ hT hS hW (by decide) (pr1 hf) dX6_visitLine_27
  · have hf := ift hc hf
    refine lv_iconst (v := 0) hx hb dX6_visitLine_7 (by decide) ?_
    subst hQ
    exact mrz hx hb hr hlocks hZ hT hS hW (by decide) (pr1 hf) dX6_visitLine_8
def f_X11_isWished (σ : Mem) (p0 : Nat) (a1 : Int32) (a2 : Int32) : Option (Int32) :=
  fx1 FU (fun k_2 (i_1 : Int32) => bd1 (f_X11_wishes σ p0) (fun (r_3 : Int32) => (if r_3 ≤ i_1 then some 0 else bd1 (f_X12_get σ (p0 + 8) i_1) (fun (r_4 : Int32) => jn0 (nm (i_1 + 1) (fun (x_6 : Int32) => k_2 x_6)) (fun k_5 => (if r_4 = a1 then bd1 (f_X12_get σ (p0 + 9) i_1) (fun (r_8 : Int32) => (if r_8 = a2 then some 1 else k_5)) else k_5)))))) 0
set_option maxHeartbeats 4000000 in
set_option maxRecDepth 100000 in
theorem c_X11_isWished (g : XG) (l : Launch) (lo n : Nat) (σ : Mem) (p0 : Nat) (a1 : Int32) (a2 : Int32) (t0 : tp 11 lo n p0) (r : Int32) (hf : f_X11_isWished σ p0 a1 a2 = some r) : Met l yX11_isWished (wx (.code yX11_isWished cX11_isWished 4 (some .boolean))) (kr 2 41) (va_Pc [.ref (bs g p0), .int a1, .int a2] (WS g lo n σ)) (Qi' g lo n r σ) 0 0 (Ag g lo) := by
  refine Met.ofW (cc := cX11_isWished) (maxL := 4) (ret := (some .boolean)) (by decide) rfl ?_
  intro p e s m args below meth c s₁ B hml hv
  obtain ⟨rfl, hZ, hT, hW⟩ := hv
  have hx := B.exec
  have hb := B.bytes
  have hr := B.returns
  have hts : ∀ w ∈ wx (.code yX11_isWished cX11_isWished 4 (some .boolean)), w.before _ s = true := atoms_spec B.pre
  have htg : ∀ w ∈ lwg, w.before _ s = true := fun w h => hts w (List.mem_cons_of_mem _ h)
  have hown : s.vm.findClass RX11 = some m.cls := findClass_of_methodNamed B.named
  have hlocks := B.notSynchronized
  change W p l e (kr 2 41) s m (List.toArray [.ref (bs g p0), .int a1, .int a2]) below meth c s.heap [] 0 0 (MQ below (Qi' g lo n r σ) (List.toArray [.ref (bs g p0), .int a1, .int a2]) s 0 0 (Ag g lo)) _
  generalize hQ : MQ below (Qi' g lo n r σ) (List.toArray [.ref (bs g p0), .int a1, .int a2]) s 0 0 (Ag g lo) = Q
  have hS : va_S (Ag g lo) s.heap s.heap [] := va_S.rf
  have hl := lv_entry ([.ref (bs g p0), .int a1, .int a2]) (n := 4) (Nat.le_of_ble_eq_true rfl)
  rw [lg_entry_eq]
  generalize (lg_sl ([.ref (bs g p0), .int a1, .int a2]) ++ List.replicate (4 - (lg_sl ([.ref (bs g p0), .int a1, .int a2])).length) Slot.unset).toArray = ls at hl ⊢
  have hl : lv_has ls 4 [(0, .ref (bs g p0)), (1, .int a1), (2, .int a2)] := hl
  delta f_X11_isWished at hf
  obtain ⟨H, hH⟩ : ∃ H, H = s.heap := ⟨_, rfl⟩
  obtain ⟨locs, hLc⟩ : ∃ z : List Loc, z = [] := ⟨_, rfl⟩
  have hS : va_S (Ag g lo) s.heap H locs := by rw [hH, hLc]; exact hS
  have hW : Wd g lo n σ H := by rw [hH]; exact hW
  suffices hG : W p l e (kr 2 41) s m (List.toArray [.ref (bs g p0), .int a1, .int a2]) below meth c H locs 0 0 Q (F0 m 0 ls []) by rw [hH, hLc] at hG; exact hG
  clear hH hLc
  refine lv_iconst (v := 0) hx hb dX11_isWished_0 (by decide) ?_
  refine lv_istore_n (lv' := [(3, .int 0), (0, .ref (bs g p0)), (1, .int a1), (2, .int a2)]) hx hb dX11_isWished_1 rfl hl (by decide) rfl (fun ls hl => ?_)
  refine fx1_W (fun (i_1 : Int32) => ∀ (H : Heap) (locs : List Loc) (ls : Array Slot), Wd g lo n σ H → va_S (Ag g lo) s.heap H locs → lv_has ls 4 [(0, .ref (bs g p0)), (1, .int a1), (2, .int a2), (3, .int i_1)] → W p l e (kr 2 41) s m (List.toArray [.ref (bs g p0), .int a1, .int a2]) below meth c H locs 0 0 Q (F0 m 2 ls [])) (fun k_2 hk_2 i_1 hf => ?_) FU 0 hf H locs ls hW hS (lv_sub hl [1, 2, 3, 0] rfl)
  intro H locs ls hW hS hl
  refine lv_iload_n hx hb dX11_isWished_2 rfl (lv_at hl 3 rfl) ?_
  refine lv_aload_n hx hb dX11_isWished_3 rfl (lv_at hl 0 rfl) ?_
  refine mcip hf hS (fun r h => va_runV (As := []) (rest := [.int i_1]) ⟨hx, hb, hml, hown, hts⟩ (c_X11_wishes g l lo n σ p0 t0 r h) (cl_X11_115 hts ⟨Nat.le_of_ble_eq_true rfl, Nat.le_of_ble_eq_true rfl⟩) (mpV_11 hZ hT hS hW t0 _) rfl rfl hl.1 rfl (lv_room (Nat.le_of_ble_eq_true rfl)) dX11_isWished_4 ⟨Nat.zero_le _, Nat.zero_le _⟩) (fun r_3 H locs hf hW hS => ?_)
  refine lv_icmp_ge (tgt := 42) hx hb dX11_isWished_7 (by decide) (fun hc => ?_) (fun hc => ?_)
  · have hf := ift hc hf
    refine lv_iconst (v := 0) hx hb dX11_isWished_42 (by decide) ?_
    subst hQ
    exact mrz hx hb hr hlocks hZ hT hS hW (by decide) ⟨Option.some.inj hf, rfl⟩ dX11_isWished_43
  · have hf := iff_ hc hf
    refine lv_aload_n hx hb dX11_isWished_10 rfl (lv_at hl 0 rfl) ?_
    refine gf_11_10 hx hb htg (htg _ lf_X11_39) hown hZ hW t0 dX11_isWished_11 ?_
    refine lv_iload_n hx hb dX11_isWished_14 rfl (lv_at hl 3 rfl) ?_
    refine mcip hf hS (fun r h => va_runSN (As := [.ref (bs g (p0 + 8)), .int i_1]) (rest := []) ⟨hx, hb, hml, hown, hts⟩ (c_X12_get g l lo n σ (p0 + 8) i_1 (t0.sub 20 8 so_11_20_8) r h) (cl_X11_76 hts hZ ⟨Nat.le_of_ble_eq_true rfl, Nat.le_of_ble_eq_true rfl⟩) (mpS hZ hT hS hW _) rfl rfl hl.1 rfl (lv_room (Nat.le_of_ble_eq_true rfl)) dX11_isWished_15 ⟨Nat.zero_le _, Nat.zero_le _⟩) (fun r_4 H locs hf hW hS => ?_)
    refine lv_iload_n hx hb dX11_isWished_18 rfl (lv_at hl 1 rfl) ?_
    refine jn0_W (∀ (H : Heap) (locs : List Loc) (ls : Array Slot), Wd g lo n σ H → va_S (Ag g lo) s.heap H locs → lv_has ls 4 [(0, .ref (bs g p0)), (1, .int a1), (2, .int a2), (3, .int i_1)] → W p l e (kr 2 41) s m (List.toArray [.ref (bs g p0), .int a1, .int a2]) below meth c H locs 0 0 Q (F0 m 36 ls [])) hf (fun  hf => ?_) (fun k_5 hk_5 hf => ?_)
    · intro H locs ls hW hS hl
      obtain ⟨x_6, e_7, hf⟩ := nm_s hf
      refine lv_iinc (v := x_6) (lv' := [(3, .int x_6), (0, .ref (bs g p0)), (1, .int a1), (2, .int a2)]) hx hb dX11_isWished_36 hl (k := 3) rfl (by rw [e_7]; rfl) (by decide) rfl (fun ls hl => ?_)
      refine lv_goto (tgt := 2) hx hb dX11_isWished_39 (by decide) ?_
      exact hk_2 x_6 hf H locs ls hW hS (lv_sub hl [1, 2, 3, 0] rfl)
    · refine lv_icmp_ne (tgt := 36) hx hb dX11_isWished_19 (by decide) (fun hc => ?_) (fun hc => ?_)
      · have hf := iff_ hc hf
        exact hk_5  hf H locs ls hW hS (lv_sub hl [0, 1, 2, 3] rfl)
      · have hf := ift hc hf
        refine lv_aload_n hx hb dX11_isWished_22 rfl (lv_at hl 0 rfl) ?_
        refine gf_11_11 hx hb htg (htg _ lf_X11_42) hown hZ hW t0 dX11_isWished_23 ?_
        refine lv_iload_n hx hb dX11_isWished_26 rfl (lv_at hl 3 rfl) ?_
        refine mcip hf hS (fun r h => va_runSN (As := [.ref (bs g (p0 + 9)), .int i_1]) (rest := []) ⟨hx, hb, hml, hown, hts⟩ (c_X12_get g l lo n σ (p0 + 9) i_1 (t0.sub 20 9 so_11_20_9) r h) (cl_X11_76 hts hZ ⟨Nat.le_of_ble_eq_true rfl, Nat.le_of_ble_eq_true rfl⟩) (mpS hZ hT hS hW _) rfl rfl hl.1 rfl (lv_room (Nat.le_of_ble_eq_true rfl)) dX11_isWished_27 ⟨Nat.zero_le _, Nat.zero_le _⟩) (fun r_8 H locs hf hW hS => ?_)
        refine lv_iload_n hx hb dX11_isWished_30 rfl (lv_at hl 2 rfl) ?_
        refine lv_icmp_ne (tgt := 36) hx hb dX11_isWished_31 (by decide) (fun hc => ?_) (fun hc => ?_)
        · have hf := iff_ hc hf
          exact hk_5  hf H locs ls hW hS (lv_sub hl [0, 1, 2, 3] rfl)
        · have hf := ift hc hf
          refine lv_iconst (v := 1) hx hb dX11_isWished_34 (by decide) ?_
          subst hQ
          exact mrz hx hb hr hlocks hZ hT hS hW (by decide) ⟨Option.some.inj hf, rfl⟩ dX11_isWished_35
def f_X6_wishLine (σ : Mem)  : Option (Int32 × Mem) :=
  bd2 (f_X6_person σ) (fun (r_1 : Int32) (σ_2 : Mem) => (if r_1 = 0 then some (0, σ_2) else nm (σ_2.1 27 2) (fun (x_3 : Int32) => bd2 (f_X6_wholeBehind σ_2 11 0 29) (fun (r_4 : Int32) (σ_5 : Mem) => (if r_4 = 0 then some (0, σ_5) else rfc (σ_5.2.2 27 1) (fun (T_6 : Nat) => bd1 (f_X11_isWished σ_5 T_6 x_3 (σ_5.1 27 2)) (fun (r_7 : Int32) => (if r_7 = 0 then rfc (σ_5.2.2 27 1) (fun (T_8 : Nat) => bd1 (f_X11_count σ_5 T_8 4) (fun (r_9 : Int32) => rfc (σ_5.2.2 27 1) (fun (T_10 : Nat) => bd1 (f_X12_set σ_5 (T_10 + 8) r_9 x_3) (fun (σ_11 : Mem) => rfc (σ_11.2.2 27 1) (fun (T_12 : Nat) => bd1 (f_X12_set σ_11 (T_12 + 9) r_9 (σ_11.1 27 2)) (fun (σ_13 : Mem) => some (1, σ_13))))))) else bd2 (f_X6_fail σ_5 3) (fun (r_14 : Int32) (σ_15 : Mem) => zrm r_14 σ_15)))))))))
set_option maxHeartbeats 4000000 in
set_option maxRecDepth 100000 in
theorem c_X6_wishLine (g : XG) (l : Launch) (σ : Mem) (r : Int32) (τ : Mem) (hf : f_X6_wishLine σ = some (r, τ)) : Met l yX6_wishLine (wx (.code yX6_wishLine cX6_wishLine 3 (some .boolean))) (kr 7 151) (va_Pc [.ref (bs g 27)] (WS g 0 81 σ)) (Qi' g 0 81 r τ) 0 0 (Ag g 0) := by
  refine Met.ofW (cc := cX6_wishLine) (maxL := 3) (ret := (some .boolean)) (by decide) rfl ?_
  intro p e s m args below meth c s₁ B hml hv
  obtain ⟨rfl, hZ, hT, hW⟩ := hv
  have hx := B.exec
  have hb := B.bytes
  have hr := B.returns
  have hts : ∀ w ∈ wx (.code yX6_wishLine cX6_wishLine 3 (some .boolean)), w.before _ s = true := atoms_spec B.pre
  have htg : ∀ w ∈ lwg, w.before _ s = true := fun w h => hts w (List.mem_cons_of_mem _ h)
  have hown : s.vm.findClass RX6 = some m.cls := findClass_of_methodNamed B.named
  have hlocks := B.notSynchronized
  change W p l e (kr 7 151) s m (List.toArray [.ref (bs g 27)]) below meth c s.heap [] 0 0 (MQ below (Qi' g 0 81 r τ) (List.toArray [.ref (bs g 27)]) s 0 0 (Ag g 0)) _
  generalize hQ : MQ below (Qi' g 0 81 r τ) (List.toArray [.ref (bs g 27)]) s 0 0 (Ag g 0) = Q
  have hS : va_S (Ag g 0) s.heap s.heap [] := va_S.rf
  have hl := lv_entry ([.ref (bs g 27)]) (n := 3) (Nat.le_of_ble_eq_true rfl)
  rw [lg_entry_eq]
  generalize (lg_sl ([.ref (bs g 27)]) ++ List.replicate (3 - (lg_sl ([.ref (bs g 27)])).length) Slot.unset).toArray = ls at hl ⊢
  have hl : lv_has ls 3 [(0, .ref (bs g 27))] := hl
  delta f_X6_wishLine at hf
  obtain ⟨H, hH⟩ : ∃ H, H = s.heap := ⟨_, rfl⟩
  obtain ⟨locs, hLc⟩ : ∃ z : List Loc, z = [] := ⟨_, rfl⟩
  have hS : va_S (Ag g 0) s.heap H locs := by rw [hH, hLc]; exact hS
  have hW : Wd g 0 81 σ H := by rw [hH]; exact hW
  suffices hG : W p l e (kr 7 151) s m (List.toArray [.ref (bs g 27)]) below meth c H locs 0 0 Q (F0 m 0 ls []) by rw [hH, hLc] at hG; exact hG
  clear hH hLc
  refine lv_aload_n hx hb dX6_wishLine_0 rfl (lv_at hl 0 rfl) ?_
  refine mci hf hS (fun r τ h => va_runV (As := []) (rest := []) ⟨hx, hb, hml, hown, hts⟩ (c_X6_person g l σ r τ h) (cl_X6_162 hts ⟨Nat.le_of_ble_eq_true rfl, Nat.le_of_ble_eq_true rfl⟩) (mpV_6 hZ hT hS hW tz_27 _) rfl rfl hl.1 rfl (lv_room (Nat.le_of_ble_eq_true rfl)) dX6_wishLine_1 ⟨Nat.zero_le _, Nat.zero_le _⟩) (fun r_1 σ_2 H locs hf hW hS => ?_)
  refine lv_if_ne (tgt := 9) hx hb dX6_wishLine_4 (by decide) (fun hc => ?_) (fun hc => ?_)
  · have hf := iff_ hc hf
    refine lv_aload_n hx hb dX6_wishLine_9 rfl (lv_at hl 0 rfl) ?_
    refine gf_6_2 hx hb htg (htg _ lf_X6_127) hown hZ hW tz_27 dX6_wishLine_10 ?_
    refine mnmi hf (fun (x_3 : Int32) hf => ?_)
    refine lv_istore_n (lv' := [(1, .int x_3), (0, .ref (bs g 27))]) hx hb dX6_wishLine_13 rfl hl (by decide) rfl (fun ls hl => ?_)
    refine lv_aload_n hx hb dX6_wishLine_14 rfl (lv_at hl 1 rfl) ?_
    refine va_ldcS (q := adS g 11) hx hb hown (lr_X6_165 hZ) dX6_wishLine_15 ?_
    refine lv_iconst (v := 0) hx hb dX6_wishLine_17 (by decide) ?_
    refine lv_bipush (v := 29) hx hb dX6_wishLine_18 (by decide) ?_
    refine mci hf hS (fun r τ h => va_runV (As := [.ref (adS g 11), .int 0, .int 29]) (rest := []) ⟨hx, hb, hml, hown, hts⟩ (c_X6_wholeBehind g l σ_2 11 0 29 (show 11 < 19 by decide) r τ h) (cl_X6_123 hts ⟨Nat.le_of_ble_eq_true rfl, Nat.le_of_ble_eq_true rfl⟩) (mpV_6 hZ hT hS hW tz_27 _) rfl rfl hl.1 rfl (lv_room (Nat.le_of_ble_eq_true rfl)) dX6_wishLine_20 ⟨Nat.zero_le _, Nat.zero_le _⟩) (fun r_4 σ_5 H locs hf hW hS => ?_)
    refine lv_if_ne (tgt := 28) hx hb dX6_wishLine_23 (by decide) (fun hc => ?_) (fun hc => ?_)
    · have hf := iff_ hc hf
      refine lv_aload_n hx hb dX6_wishLine_28 rfl (lv_at hl 1 rfl) ?_
      refine gf_6_1 hx hb htg (htg _ lf_X6_15) hown hZ hW tz_27 dX6_wishLine_29 hf (fun T_6 tT_6 hf => ?_)
      refine lv_iload_n hx hb dX6_wishLine_32 rfl (lv_at hl 0 rfl) ?_
      refine lv_aload_n hx hb dX6_wishLine_33 rfl (lv_at hl 1 rfl) ?_
      refine gf_6_2 hx hb htg (htg _ lf_X6_127) hown hZ hW tz_27 dX6_wishLine_34 ?_
      refine mcip hf hS (fun r h => va_runV (As := [.int x_3, .int (σ_5.1 27 2)]) (rest := []) ⟨hx, hb, hml, hown, hts⟩ (c_X11_isWished g l 0 81 σ_5 T_6 x_3 (σ_5.1 27 2) tT_6 r h) (cl_X6_195 hts ⟨Nat.le_of_ble_eq_true rfl, Nat.le_of_ble_eq_true rfl⟩) (mpV_11 hZ hT hS hW tT_6 _) rfl rfl hl.1 rfl (lv_room (Nat.le_of_ble_eq_true rfl)) dX6_wishLine_37 ⟨Nat.zero_le _, Nat.zero_le _⟩) (fun r_7 H locs hf hW hS => ?_)
      refine lv_if_eq (tgt := 49) hx hb dX6_wishLine_40 (by decide) (fun hc => ?_) (fun hc => ?_)
      · have hf := ift hc hf
        refine lv_aload_n hx hb dX6_wishLine_49 rfl (lv_at hl 1 rfl) ?_
        refine gf_6_1 hx hb htg (htg _ lf_X6_15) hown hZ hW tz_27 dX6_wishLine_50 hf (fun T_8 tT_8 hf => ?_)
        refine va_gets hx hb ((hT.1.1.1 4 (by decide)).1.narrow (fun q h => ag_a0 g 0 q h)) hS hown (htg _ lf_X6_199) (fun _ h => h) dX6_wishLine_53 ?_
        refine mcip hf hS (fun r h => va_runV (As := [.ref (adE g 4)]) (rest := []) ⟨hx, hb, hml, hown, hts⟩ (c_X11_count g l 0 81 σ_5 T_8 4 tT_8 (show 4 < 7 by decide) r h) (cl_X6_68 hts ⟨Nat.le_of_ble_eq_true rfl, Nat.le_of_ble_eq_true rfl⟩) (mpV_11 hZ hT hS hW tT_8 _) rfl rfl hl.1 rfl (lv_room (Nat.le_of_ble_eq_true rfl)) dX6_wishLine_56 ⟨Nat.zero_le _, Nat.zero_le _⟩) (fun r_9 H locs hf hW hS => ?_)
        refine lv_istore_n (lv' := [(2, .int r_9), (1, .int x_3), (0, .ref (bs g 27))]) hx hb dX6_wishLine_59 rfl hl (by decide) rfl (fun ls hl => ?_)
        refine lv_aload_n hx hb dX6_wishLine_60 rfl (lv_at hl 2 rfl) ?_
        refine gf_6_1 hx hb htg (htg _ lf_X6_15) hown hZ hW tz_27 dX6_wishLine_61 hf (fun T_10 tT_10 hf => ?_)
        refine gfN_11_10 hx hb htg ln_X6_202 hown hZ hW tT_10 dX6_wishLine_64 ?_
        refine lv_iload_n hx hb dX6_wishLine_67 rfl (lv_at hl 0 rfl) ?_
        refine lv_iload_n hx hb dX6_wishLine_68 rfl (lv_at hl 1 rfl) ?_
        refine mcv hf hS (fun τ h => va_runSN (As := [.ref (bs g (T_10 + 8)), .int r_9, .int x_3]) (rest := []) ⟨hx, hb, hml, hown, hts⟩ (c_X12_set g l 0 81 σ_5 (T_10 + 8) r_9 x_3 (tT_10.sub 20 8 so_11_20_8) τ h) (cl_X6_191 hts hZ ⟨Nat.le_of_ble_eq_true rfl, Nat.le_of_ble_eq_true rfl⟩) (mpS hZ hT hS hW _) rfl rfl hl.1 rfl (lv_room (Nat.le_of_ble_eq_true rfl)) dX6_wishLine_69 ⟨Nat.zero_le _, Nat.zero_le _⟩) (fun σ_11 H locs hf hW hS => ?_)
        refine lv_aload_n hx hb dX6_wishLine_72 rfl (lv_at hl 2 rfl) ?_
        refine gf_6_1 hx hb htg (htg _ lf_X6_15) hown hZ hW tz_27 dX6_wishLine_73 hf (fun T_12 tT_12 hf => ?_)
        refine gfN_11_11 hx hb htg ln_X6_205 hown hZ hW tT_12 dX6_wishLine_76 ?_
        refine lv_iload_n hx hb dX6_wishLine_79 rfl (lv_at hl 0 rfl) ?_
        refine lv_aload_n hx hb dX6_wishLine_80 rfl (lv_at hl 2 rfl) ?_
        refine gf_6_2 hx hb htg (htg _ lf_X6_127) hown hZ hW tz_27 dX6_wishLine_81 ?_
        refine mcv hf hS (fun τ h => va_runSN (As := [.ref (bs g (T_12 + 9)), .int r_9, .int (σ_11.1 27 2)]) (rest := []) ⟨hx, hb, hml, hown, hts⟩ (c_X12_set g l 0 81 σ_11 (T_12 + 9) r_9 (σ_11.1 27 2) (tT_12.sub 20 9 so_11_20_9) τ h) (cl_X6_191 hts hZ ⟨Nat.le_of_ble_eq_true rfl, Nat.le_of_ble_eq_true rfl⟩) (mpS hZ hT hS hW _) rfl rfl hl.1 rfl (lv_room (Nat.le_of_ble_eq_true rfl)) dX6_wishLine_84 ⟨Nat.zero_le _, Nat.zero_le _⟩) (fun σ_13 H locs hf hW hS => ?_)
        refine lv_iconst (v := 1) hx hb dX6_wishLine_87 (by decide) ?_
        subst hQ
        exact mrz hx hb hr hlocks hZ hT hS hW (by decide) (pr1 hf) dX6_wishLine_88
      · have hf := iff_ hc hf
        refine lv_aload_n hx hb dX6_wishLine_43 rfl (lv_at hl 1 rfl) ?_
        refine lv_iconst (v := 3) hx hb dX6_wishLine_44 (by decide) ?_
        refine mci hf hS (fun r τ h => va_runV (As := [.int 3]) (rest := []) ⟨hx, hb, hml, hown, hts⟩ (c_X6_fail g l σ_5 3 r τ h) (cl_X6_58 hts ⟨Nat.le_of_ble_eq_true rfl, Nat.le_of_ble_eq_true rfl⟩) (mpV_6 hZ hT hS hW tz_27 _) rfl rfl hl.1 rfl (lv_room (Nat.le_of_ble_eq_true rfl)) dX6_wishLine_45 ⟨Nat.zero_le _, Nat.zero_le _⟩) (fun r_14 σ_15 H locs hf hW hS => ?_)
        subst hQ
        exact mrz hx hb hr hlocks hZ hT hS hW (zrm_s hf).1 (zrm_s hf).2 dX6_wishLine_48
    · have hf := ift hc hf
      refine lv_iconst (v := 0) hx hb dX6_wishLine_26 (by decide) ?_
      subst hQ
      exact mrz hx hb hr hlocks hZ hT hS hW (by decide) (pr1 hf) dX6_wishLine_27
  · have hf := ift hc hf
    refine lv_iconst (v := 0) hx hb dX6_wishLine_7 (by decide) ?_
    subst hQ
    exact mrz hx hb hr hlocks hZ hT hS hW (by decide) (pr1 hf) dX6_wishLine_8
def f_X6_asksLine (σ : Mem)  : Option (Int32 × Mem) :=
  bd2 (f_X6_person σ) (fun (r_1 : Int32) (σ_2 : Mem) => (if r_1 = 0 then some (0, σ_2) else nm (σ_2.1 27 2) (fun (x_3 : Int32) => bd2 (f_X6_person σ_2) (fun (r_4 : Int32) (σ_5 : Mem) => (if r_4 = 0 then some (0, σ_5) else nm (σ_5.1 27 2) (fun (x_6 : Int32) => jn0 (bd2 (f_X6_fail σ_5 3) (fun (r_8 : Int32) (σ_9 : Mem) => zrm r_8 σ_9)) (fun k_7 => (if x_6 = x_3 then k_7 else rfc (σ_5.2.2 27 1) (fun (T_10 : Nat) => bd1 (f_X11_asks σ_5 T_10 x_3 x_6) (fun (r_11 : Int32) => (if r_11 = 0 then bd2 (f_X6_wholeBehind σ_5 14 0 100) (fun (r_12 : Int32) (σ_13 : Mem) => (if r_12 = 0 then some (0, σ_13) else rfc (σ_13.2.2 27 1) (fun (T_14 : Nat) => bd1 (f_X12_set σ_13 (T_14 + 10) ((x_3 * 5) + x_6) (σ_13.1 27 2)) (fun (σ_15 : Mem) => some (1, σ_15))))) else k_7)))))))))))
set_option maxHeartbeats 4000000 in
set_option maxRecDepth 100000 in
theorem c_X6_asksLine (g : XG) (l : Launch) (σ : Mem) (r : Int32) (τ : Mem) (hf : f_X6_asksLine σ = some (r, τ)) : Met l yX6_asksLine (wx (.code yX6_asksLine cX6_asksLine 3 (some .boolean))) (kr 7 151) (va_Pc [.ref (bs g 27)] (WS g 0 81 σ)) (Qi' g 0 81 r τ) 0 0 (Ag g 0) := by
  refine Met.ofW (cc := cX6_asksLine) (maxL := 3) (ret := (some .boolean)) (by decide) rfl ?_
  intro p e s m args below meth c s₁ B hml hv
  obtain ⟨rfl, hZ, hT, hW⟩ := hv
  have hx := B.exec
  have hb := B.bytes
  have hr := B.returns
  have hts : ∀ w ∈ wx (.code yX6_asksLine cX6_asksLine 3 (some .boolean)), w.before _ s = true := atoms_spec B.pre
  have htg : ∀ w ∈ lwg, w.before _ s = true := fun w h => hts w (List.mem_cons_of_mem _ h)
  have hown : s.vm.findClass RX6 = some m.cls := findClass_of_methodNamed B.named
  have hlocks := B.notSynchronized
  change W p l e (kr 7 151) s m (List.toArray [.ref (bs g 27)]) below meth c s.heap [] 0 0 (MQ below (Qi' g 0 81 r τ) (List.toArray [.ref (bs g 27)]) s 0 0 (Ag g 0)) _
  generalize hQ : MQ below (Qi' g 0 81 r τ) (List.toArray [.ref (bs g 27)]) s 0 0 (Ag g 0) = Q
  have hS : va_S (Ag g 0) s.heap s.heap [] := va_S.rf
  have hl := lv_entry ([.ref (bs g 27)]) (n := 3) (Nat.le_of_ble_eq_true rfl)
  rw [lg_entry_eq]
  generalize (lg_sl ([.ref (bs g 27)]) ++ List.replicate (3 - (lg_sl ([.ref (bs g 27)])).length) Slot.unset).toArray = ls at hl ⊢
  have hl : lv_has ls 3 [(0, .ref (bs g 27))] := hl
  delta f_X6_asksLine at hf
  obtain ⟨H, hH⟩ : ∃ H, H = s.heap := ⟨_, rfl⟩
  obtain ⟨locs, hLc⟩ : ∃ z : List Loc, z = [] := ⟨_, rfl⟩
  have hS : va_S (Ag g 0) s.heap H locs := by rw [hH, hLc]; exact hS
  have hW : Wd g 0 81 σ H := by rw [hH]; exact hW
  suffices hG : W p l e (kr 7 151) s m (List.toArray [.ref (bs g 27)]) below meth c H locs 0 0 Q (F0 m 0 ls []) by rw [hH, hLc] at hG; exact hG
  clear hH hLc
  refine lv_aload_n hx hb dX6_asksLine_0 rfl (lv_at hl 0 rfl) ?_
  refine mci hf hS (fun r τ h => va_runV (As := []) (rest := []) ⟨hx, hb, hml, hown, hts⟩ (c_X6_person g l σ r τ h) (cl_X6_162 hts ⟨Nat.le_of_ble_eq_true rfl, Nat.le_of_ble_eq_true rfl⟩) (mpV_6 hZ hT hS hW tz_27 _) rfl rfl hl.1 rfl (lv_room (Nat.le_of_ble_eq_true rfl)) dX6_asksLine_1 ⟨Nat.zero_le _, Nat.zero_le _⟩) (fun r_1 σ_2 H locs hf hW hS => ?_)
  refine lv_if_ne (tgt := 9) hx hb dX6_asksLine_4 (by decide) (fun hc => ?_) (fun hc => ?_)
  · have hf := iff_ hc hf
    refine lv_aload_n hx hb dX6_asksLine_9 rfl (lv_at hl 0 rfl) ?_
    refine gf_6_2 hx hb htg (htg _ lf_X6_127) hown hZ hW tz_27 dX6_asksLine_10 ?_
    refine mnmi hf (fun (x_3 : Int32) hf => ?_)
    refine lv_istore_n (lv' := [(1, .int x_3), (0, .ref (bs g 27))]) hx hb dX6_asksLine_13 rfl hl (by decide) rfl (fun ls hl => ?_)
    refine lv_aload_n hx hb dX6_asksLine_14 rfl (lv_at hl 1 rfl) ?_
    refine mci hf hS (fun r τ h => va_runV (As := []) (rest := []) ⟨hx, hb, hml, hown, hts⟩ (c_X6_person g l σ_2 r τ h) (cl_X6_162 hts ⟨Nat.le_of_ble_eq_true rfl, Nat.le_of_ble_eq_true rfl⟩) (mpV_6 hZ hT hS hW tz_27 _) rfl rfl hl.1 rfl (lv_room (Nat.le_of_ble_eq_true rfl)) dX6_asksLine_15 ⟨Nat.zero_le _, Nat.zero_le _⟩) (fun r_4 σ_5 H locs hf hW hS => ?_)
    refine lv_if_ne (tgt := 23) hx hb dX6_asksLine_18 (by decide) (fun hc => ?_) (fun hc => ?_)
    · have hf := iff_ hc hf
      refine lv_aload_n hx hb dX6_asksLine_23 rfl (lv_at hl 1 rfl) ?_
      refine gf_6_2 hx hb htg (htg _ lf_X6_127) hown hZ hW tz_27 dX6_asksLine_24 ?_
      refine mnmi hf (fun (x_6 : Int32) hf => ?_)
      refine lv_istore_n (lv' := [(2, .int x_6), (1, .int x_3), (0, .ref (bs g 27))]) hx hb dX6_asksLine_27 rfl hl (by decide) rfl (fun ls hl => ?_)
      refine lv_iload_n hx hb dX6_asksLine_28 rfl (lv_at hl 0 rfl) ?_
      refine lv_iload_n hx hb dX6_asksLine_29 rfl (lv_at hl 1 rfl) ?_
      refine jn0_W (∀ (H : Heap) (locs : List Loc) (ls : Array Slot), Wd g 0 81 σ_5 H → va_S (Ag g 0) s.heap H locs → lv_has ls 3 [(0, .ref (bs g 27))] → W p l e (kr 7 151) s m (List.toArray [.ref (bs g 27)]) below meth c H locs 0 0 Q (F0 m 45 ls [])) hf (fun  hf => ?_) (fun k_7 hk_7 hf => ?_)
      · intro H locs ls hW hS hl
        refine lv_aload_n hx hb dX6_asksLine_45 rfl (lv_at hl 0 rfl) ?_
        refine lv_iconst (v := 3) hx hb dX6_asksLine_46 (by decide) ?_
        refine mci hf hS (fun r τ h => va_runV (As := [.int 3]) (rest := []) ⟨hx, hb, hml, hown, hts⟩ (c_X6_fail g l σ_5 3 r τ h) (cl_X6_58 hts ⟨Nat.le_of_ble_eq_true rfl, Nat.le_of_ble_eq_true rfl⟩) (mpV_6 hZ hT hS hW tz_27 _) rfl rfl hl.1 rfl (lv_room (Nat.le_of_ble_eq_true rfl)) dX6_asksLine_47 ⟨Nat.zero_le _, Nat.zero_le _⟩) (fun r_8 σ_9 H locs hf hW hS => ?_)
        subst hQ
        exact mrz hx hb hr hlocks hZ hT hS hW (zrm_s hf).1 (zrm_s hf).2 dX6_asksLine_50
      · refine lv_icmp_eq (tgt := 45) hx hb dX6_asksLine_30 (by decide) (fun hc => ?_) (fun hc => ?_)
        · have hf := ift hc hf
          exact hk_7  hf H locs ls hW hS (lv_sub hl [2] rfl)
        · have hf := iff_ hc hf
          refine lv_aload_n hx hb dX6_asksLine_33 rfl (lv_at hl 2 rfl) ?_
          refine gf_6_1 hx hb htg (htg _ lf_X6_15) hown hZ hW tz_27 dX6_asksLine_34 hf (fun T_10 tT_10 hf => ?_)
          refine lv_iload_n hx hb dX6_asksLine_37 rfl (lv_at hl 1 rfl) ?_
          refine lv_iload_n hx hb dX6_asksLine_38 rfl (lv_at hl 0 rfl) ?_
          refine mcip hf hS (fun r h => va_runV (As := [.int x_3, .int x_6]) (rest := []) ⟨hx, hb, hml, hown, hts⟩ (c_X11_asks g l 0 81 σ_5 T_10 x_3 x_6 tT_10 r h) (cl_X6_208 hts ⟨Nat.le_of_ble_eq_true rfl, Nat.le_of_ble_eq_true rfl⟩) (mpV_11 hZ hT hS hW tT_10 _) rfl rfl hl.1 rfl (lv_room (Nat.le_of_ble_eq_true rfl)) dX6_asksLine_39 ⟨Nat.zero_le _, Nat.zero_le _⟩) (fun r_11 H locs hf hW hS => ?_)
          refine lv_if_eq (tgt := 51) hx hb dX6_asksLine_42 (by decide) (fun hc => ?_) (fun hc => ?_)
          · have hf := ift hc hf
            refine lv_aload_n hx hb dX6_asksLine_51 rfl (lv_at hl 2 rfl) ?_
            refine va_ldcS (q := adS g 14) hx hb hown (lr_X6_211 hZ) dX6_asksLine_52 ?_
            refine lv_iconst (v := 0) hx hb dX6_asksLine_54 (by decide) ?_
            refine lv_bipush (v := 100) hx hb dX6_asksLine_55 (by decide) ?_
            refine mci hf hS (fun r τ h => va_runV (As := [.ref (adS g 14), .int 0, .int 100]) (rest := []) ⟨hx, hb, hml, hown, hts⟩ (c_X6_wholeBehind g l σ_5 14 0 100 (show 14 < 19 by decide) r τ h) (cl_X6_123 hts ⟨Nat.le_of_ble_eq_true rfl, Nat.le_of_ble_eq_true rfl⟩) (mpV_6 hZ hT hS hW tz_27 _) rfl rfl hl.1 rfl (lv_room (Nat.le_of_ble_eq_true rfl)) dX6_asksLine_57 ⟨Nat.zero_le _, Nat.zero_le _⟩) (fun r_12 σ_13 H locs hf hW hS => ?_)
            refine lv_if_ne (tgt := 65) hx hb dX6_asksLine_60 (by decide) (fun hc => ?_) (fun hc => ?_)
            · have hf := iff_ hc hf
              refine lv_aload_n hx hb dX6_asksLine_65 rfl (lv_at hl 2 rfl) ?_
              refine gf_6_1 hx hb htg (htg _ lf_X6_15) hown hZ hW tz_27 dX6_asksLine_66 hf (fun T_14 tT_14 hf => ?_)
              refine gfN_11_12 hx hb htg ln_X6_213 hown hZ hW tT_14 dX6_asksLine_69 ?_
              refine lv_iload_n hx hb dX6_asksLine_72 rfl (lv_at hl 1 rfl) ?_
              refine lv_iconst (v := 5) hx hb dX6_asksLine_73 (by decide) ?_
              refine lv_imul hx hb dX6_asksLine_74 ?_
              refine lv_iload_n hx hb dX6_asksLine_75 rfl (lv_at hl 0 rfl) ?_
              refine lv_iadd hx hb dX6_asksLine_76 ?_
              refine lv_aload_n hx hb dX6_asksLine_77 rfl (lv_at hl 2 rfl) ?_
              refine gf_6_2 hx hb htg (htg _ lf_X6_127) hown hZ hW tz_27 dX6_asksLine_78 ?_
              refine mcv hf hS (fun τ h => va_runSN (As := [.ref (bs g (T_14 + 10)), .int ((x_3 * 5) + x_6), .int (σ_13.1 27 2)]) (rest := []) ⟨hx, hb, hml, hown, hts⟩ (c_X12_set g l 0 81 σ_13 (T_14 + 10) ((x_3 * 5) + x_6) (σ_13.1 27 2) (tT_14.sub 20 10 so_11_20_10) τ h) (cl_X6_191 hts hZ ⟨Nat.le_of_ble_eq_true rfl, Nat.le_of_ble_eq_true rfl⟩) (mpS hZ hT hS hW _) rfl rfl hl.1 rfl (lv_room (Nat.le_of_ble_eq_true rfl)) dX6_asksLine_81 ⟨Nat.zero_le _, Nat.zero_le _⟩) (fun σ_15 H locs hf hW hS => ?_)
              refine lv_iconst (v := 1) hx hb dX6_asksLine_84 (by decide) ?_
              subst hQ
              exact mrz hx hb hr hlocks hZ hT hS hW (by decide) (pr1 hf) dX6_asksLine_85
            · have hf := ift hc hf
              refine lv_iconst (v := 0) hx hb dX6_asksLine_63 (by decide) ?_
              subst hQ
              exact mrz hx hb hr hlocks hZ hT hS hW (by decide) (pr1 hf) dX6_asksLine_64
          · have hf := iff_ hc hf
            exact hk_7  hf H locs ls hW hS (lv_sub hl [2] rfl)
    · have hf := ift hc hf
      refine lv_iconst (v := 0) hx hb dX6_asksLine_21 (by decide) ?_
      subst hQ
      exact mrz hx hb hr hlocks hZ hT hS hW (by decide) (pr1 hf) dX6_asksLine_22
  · have hf := ift hc hf
    refine lv_iconst (v := 0) hx hb dX6_asksLine_7 (by decide) ?_
    subst hQ
    exact mrz hx hb hr hlocks hZ hT hS hW (by decide) (pr1 hf) dX6_asksLine_8
def f_X11_isStaredAt (σ : Mem) (p0 : Nat) (a1 : Int32) : Option (Int32) :=
  bd1 (f_X12_get σ (p0 + 11) a1) (fun (r_1 : Int32) => (if r_1 < 0 then some 0 else some 1))
set_option maxHeartbeats 4000000 in
set_option maxRecDepth 100000 in
theorem c_X11_isStaredAt (g : XG) (l : Launch) (lo n : Nat) (σ : Mem) (p0 : Nat) (a1 : Int32) (t0 : tp 11 lo n p0) (r : Int32) (hf : f_X11_isStaredAt σ p0 a1 = some r) : Met l yX11_isStaredAt (wx (.code yX11_isStaredAt cX11_isStaredAt 2 (some .boolean))) (kr 1 21) (va_Pc [.ref (bs g p0), .int a1] (WS g lo n σ)) (Qi' g lo n r σ) 0 0 (Ag g lo) := by
  refine Met.ofW (cc := cX11_isStaredAt) (maxL := 2) (ret := (some .boolean)) (by decide) rfl ?_
  intro p e s m args below meth c s₁ B hml hv
  obtain ⟨rfl, hZ, hT, hW⟩ := hv
  have hx := B.exec
  have hb := B.bytes
  have hr := B.returns
  have hts : ∀ w ∈ wx (.code yX11_isStaredAt cX11_isStaredAt 2 (some .boolean)), w.before _ s = true := atoms_spec B.pre
  have htg : ∀ w ∈ lwg, w.before _ s = true := fun w h => hts w (List.mem_cons_of_mem _ h)
  have hown : s.vm.findClass RX11 = some m.cls := findClass_of_methodNamed B.named
  have hlocks := B.notSynchronized
  change W p l e (kr 1 21) s m (List.toArray [.ref (bs g p0), .int a1]) below meth c s.heap [] 0 0 (MQ below (Qi' g lo n r σ) (List.toArray [.ref (bs g p0), .int a1]) s 0 0 (Ag g lo)) _
  generalize hQ : MQ below (Qi' g lo n r σ) (List.toArray [.ref (bs g p0), .int a1]) s 0 0 (Ag g lo) = Q
  have hS : va_S (Ag g lo) s.heap s.heap [] := va_S.rf
  have hl := lv_entry ([.ref (bs g p0), .int a1]) (n := 2) (Nat.le_of_ble_eq_true rfl)
  rw [lg_entry_eq]
  generalize (lg_sl ([.ref (bs g p0), .int a1]) ++ List.replicate (2 - (lg_sl ([.ref (bs g p0), .int a1])).length) Slot.unset).toArray = ls at hl ⊢
  have hl : lv_has ls 2 [(0, .ref (bs g p0)), (1, .int a1)] := hl
  delta f_X11_isStaredAt at hf
  obtain ⟨H, hH⟩ : ∃ H, H = s.heap := ⟨_, rfl⟩
  obtain ⟨locs, hLc⟩ : ∃ z : List Loc, z = [] := ⟨_, rfl⟩
  have hS : va_S (Ag g lo) s.heap H locs := by rw [hH, hLc]; exact hS
  have hW : Wd g lo n σ H := by rw [hH]; exact hW
  suffices hG : W p l e (kr 1 21) s m (List.toArray [.ref (bs g p0), .int a1]) below meth c H locs 0 0 Q (F0 m 0 ls []) by rw [hH, hLc] at hG; exact hG
  clear hH hLc
  refine lv_aload_n hx hb dX11_isStaredAt_0 rfl (lv_at hl 0 rfl) ?_
  refine gf_11_13 hx hb htg (htg _ lf_X11_48) hown hZ hW t0 dX11_isStaredAt_1 ?_
  refine lv_iload_n hx hb dX11_isStaredAt_4 rfl (lv_at hl 1 rfl) ?_
  refine mcip hf hS (fun r h => va_runSN (As := [.ref (bs g (p0 + 11)), .int a1]) (rest := []) ⟨hx, hb, hml, hown, hts⟩ (c_X12_get g l lo n σ (p0 + 11) a1 (t0.sub 20 11 so_11_20_11) r h) (cl_X11_76 hts hZ ⟨Nat.le_of_ble_eq_true rfl, Nat.le_of_ble_eq_true rfl⟩) (mpS hZ hT hS hW _) rfl rfl hl.1 rfl (lv_room (Nat.le_of_ble_eq_true rfl)) dX11_isStaredAt_5 ⟨Nat.zero_le _, Nat.zero_le _⟩) (fun r_1 H locs hf hW hS => ?_)
  refine lv_if_lt (tgt := 15) hx hb dX11_isStaredAt_8 (by decide) (fun hc => ?_) (fun hc => ?_)
  · have hf := ift hc hf
    refine lv_iconst (v := 0) hx hb dX11_isStaredAt_15 (by decide) ?_
    subst hQ
    exact mrz hx hb hr hlocks hZ hT hS hW (by decide) ⟨Option.some.inj hf, rfl⟩ dX11_isStaredAt_16
  · have hf := iff_ hc hf
    refine lv_iconst (v := 1) hx hb dX11_isStaredAt_11 (by decide) ?_
    refine lv_goto (tgt := 16) hx hb dX11_isStaredAt_12 (by decide) ?_
    subst hQ
    exact mrz hx hb hr hlocks hZ hT hS hW (by decide) ⟨Option.some.inj hf, rfl⟩ dX11_isStaredAt_16
def f_X6_stareLine (σ : Mem)  : Option (Int32 × Mem) :=
  bd2 (f_X6_person σ) (fun (r_1 : Int32) (σ_2 : Mem) => (if r_1 = 0 then some (0, σ_2) else nm (σ_2.1 27 2) (fun (x_3 : Int32) => rfc (σ_2.2.2 27 1) (fun (T_4 : Nat) => bd1 (f_X11_isStaredAt σ_2 T_4 x_3) (fun (r_5 : Int32) => (if r_5 = 0 then rfc (σ_2.2.2 27 1) (fun (T_6 : Nat) => bd2 (f_X6_whole σ_2 0 (σ_2.1 T_6 0)) (fun (r_7 : Int32) (σ_8 : Mem) => (if r_7 = 0 then some (0, σ_8) else rfc (σ_8.2.2 27 1) (fun (T_9 : Nat) => bd1 (f_X12_set σ_8 (T_9 + 11) x_3 (σ_8.1 27 2)) (fun (σ_10 : Mem) => some (1, σ_10)))))) else bd2 (f_X6_fail σ_2 3) (fun (r_11 : Int32) (σ_12 : Mem) => zrm r_11 σ_12)))))))
set_option maxHeartbeats 4000000 in
set_option maxRecDepth 100000 in
theorem c_X6_stareLine (g : XG) (l : Launch) (σ : Mem) (r : Int32) (τ : Mem) (hf : f_X6_stareLine σ = some (r, τ)) : Met l yX6_stareLine (wx (.code yX6_stareLine cX6_stareLine 2 (some .boolean))) (kr 7 151) (va_Pc [.ref (bs g 27)] (WS g 0 81 σ)) (Qi' g 0 81 r τ) 0 0 (Ag g 0) := by
  refine Met.ofW (cc := cX6_stareLine) (maxL := 2) (ret := (some .boolean)) (by decide) rfl ?_
  intro p e s m args below meth c s₁ B hml hv
  obtain ⟨rfl, hZ, hT, hW⟩ := hv
  have hx := B.exec
  have hb := B.bytes
  have hr := B.returns
  have hts : ∀ w ∈ wx (.code yX6_stareLine cX6_stareLine 2 (some .boolean)), w.before _ s = true := atoms_spec B.pre
  have htg : ∀ w ∈ lwg, w.before _ s = true := fun w h => hts w (List.mem_cons_of_mem _ h)
  have hown : s.vm.findClass RX6 = some m.cls := findClass_of_methodNamed B.named
  have hlocks := B.notSynchronized
  change W p l e (kr 7 151) s m (List.toArray [.ref (bs g 27)]) below meth c s.heap [] 0 0 (MQ below (Qi' g 0 81 r τ) (List.toArray [.ref (bs g 27)]) s 0 0 (Ag g 0)) _
  generalize hQ : MQ below (Qi' g 0 81 r τ) (List.toArray [.ref (bs g 27)]) s 0 0 (Ag g 0) = Q
  have hS : va_S (Ag g 0) s.heap s.heap [] := va_S.rf
  have hl := lv_entry ([.ref (bs g 27)]) (n := 2) (Nat.le_of_ble_eq_true rfl)
  rw [lg_entry_eq]
  generalize (lg_sl ([.ref (bs g 27)]) ++ List.replicate (2 - (lg_sl ([.ref (bs g 27)])).length) Slot.unset).toArray = ls at hl ⊢
  have hl : lv_has ls 2 [(0, .ref (bs g 27))] := hl
  delta f_X6_stareLine at hf
  obtain ⟨H, hH⟩ : ∃ H, H = s.heap := ⟨_, rfl⟩
  obtain ⟨locs, hLc⟩ : ∃ z : List Loc, z = [] := ⟨_, rfl⟩
  have hS : va_S (Ag g 0) s.heap H locs := by rw [hH, hLc]; exact hS
  have hW : Wd g 0 81 σ H := by rw [hH]; exact hW
  suffices hG : W p l e (kr 7 151) s m (List.toArray [.ref (bs g 27)]) below meth c H locs 0 0 Q (F0 m 0 ls []) by rw [hH, hLc] at hG; exact hG
  clear hH hLc
  refine lv_aload_n hx hb dX6_stareLine_0 rfl (lv_at hl 0 rfl) ?_
  refine mci hf hS (fun r τ h => va_runV (As := []) (rest := []) ⟨hx, hb, hml, hown, hts⟩ (c_X6_person g l σ r τ h) (cl_X6_162 hts ⟨Nat.le_of_ble_eq_true rfl, Nat.le_of_ble_eq_true rfl⟩) (mpV_6 hZ hT hS hW tz_27 _) rfl rfl hl.1 rfl (lv_room (Nat.le_of_ble_eq_true rfl)) dX6_stareLine_1 ⟨Nat.zero_le _, Nat.zero_le _⟩) (fun r_1 σ_2 H locs hf hW hS => ?_)
  refine lv_if_ne (tgt := 9) hx hb dX6_stareLine_4 (by decide) (fun hc => ?_) (fun hc => ?_)
  · have hf := iff_ hc hf
    refine lv_aload_n hx hb dX6_stareLine_9 rfl (lv_at hl 0 rfl) ?_
    refine gf_6_2 hx hb htg (htg _ lf_X6_127) hown hZ hW tz_27 dX6_stareLine_10 ?_
    refine mnmi hf (fun (x_3 : Int32) hf => ?_)
    refine lv_istore_n (lv' := [(1, .int x_3), (0, .ref (bs g 27))]) hx hb dX6_stareLine_13 rfl hl (by decide) rfl (fun ls hl => ?_)
    refine lv_aload_n hx hb dX6_stareLine_14 rfl (lv_at hl 1 rfl) ?_
    refine gf_6_1 hx hb htg (htg _ lf_X6_15) hown hZ hW tz_27 dX6_stareLine_15 hf (fun T_4 tT_4 hf => ?_)
    refine lv_iload_n hx hb dX6_stareLine_18 rfl (lv_at hl 0 rfl) ?_
    refine mcip hf hS (fun r h => va_runV (As := [.int x_3]) (rest := []) ⟨hx, hb, hml, hown, hts⟩ (c_X11_isStaredAt g l 0 81 σ_2 T_4 x_3 tT_4 r h) (cl_X6_215 hts ⟨Nat.le_of_ble_eq_true rfl, Nat.le_of_ble_eq_true rfl⟩) (mpV_11 hZ hT hS hW tT_4 _) rfl rfl hl.1 rfl (lv_room (Nat.le_of_ble_eq_true rfl)) dX6_stareLine_19 ⟨Nat.zero_le _, Nat.zero_le _⟩) (fun r_5 H locs hf hW hS => ?_)
    refine lv_if_eq (tgt := 31) hx hb dX6_stareLine_22 (by decide) (fun hc => ?_) (fun hc => ?_)
    · have hf := ift hc hf
      refine lv_aload_n hx hb dX6_stareLine_31 rfl (lv_at hl 1 rfl) ?_
      refine lv_iconst (v := 0) hx hb dX6_stareLine_32 (by decide) ?_
      refine lv_aload_n hx hb dX6_stareLine_33 rfl (lv_at hl 1 rfl) ?_
      refine gf_6_1 hx hb htg (htg _ lf_X6_15) hown hZ hW tz_27 dX6_stareLine_34 hf (fun T_6 tT_6 hf => ?_)
      refine gfN_11_0 hx hb htg ln_X6_130 hown hZ hW tT_6 dX6_stareLine_37 ?_
      refine mci hf hS (fun r τ h => va_runV (As := [.int 0, .int (σ_2.1 T_6 0)]) (rest := []) ⟨hx, hb, hml, hown, hts⟩ (c_X6_whole g l σ_2 0 (σ_2.1 T_6 0) r τ h) (cl_X6_218 hts ⟨Nat.le_of_ble_eq_true rfl, Nat.le_of_ble_eq_true rfl⟩) (mpV_6 hZ hT hS hW tz_27 _) rfl rfl hl.1 rfl (lv_room (Nat.le_of_ble_eq_true rfl)) dX6_stareLine_40 ⟨Nat.zero_le _, Nat.zero_le _⟩) (fun r_7 σ_8 H locs hf hW hS => ?_)
      refine lv_if_ne (tgt := 48) hx hb dX6_stareLine_43 (by decide) (fun hc => ?_) (fun hc => ?_)
      · have hf := iff_ hc hf
        refine lv_aload_n hx hb dX6_stareLine_48 rfl (lv_at hl 1 rfl) ?_
        refine gf_6_1 hx hb htg (htg _ lf_X6_15) hown hZ hW tz_27 dX6_stareLine_49 hf (fun T_9 tT_9 hf => ?_)
        refine gfN_11_13 hx hb htg ln_X6_221 hown hZ hW tT_9 dX6_stareLine_52 ?_
        refine lv_iload_n hx hb dX6_stareLine_55 rfl (lv_at hl 0 rfl) ?_
        refine lv_aload_n hx hb dX6_stareLine_56 rfl (lv_at hl 1 rfl) ?_
        refine gf_6_2 hx hb htg (htg _ lf_X6_127) hown hZ hW tz_27 dX6_stareLine_57 ?_
        refine mcv hf hS (fun τ h => va_runSN (As := [.ref (bs g (T_9 + 11)), .int x_3, .int (σ_8.1 27 2)]) (rest := []) ⟨hx, hb, hml, hown, hts⟩ (c_X12_set g l 0 81 σ_8 (T_9 + 11) x_3 (σ_8.1 27 2) (tT_9.sub 20 11 so_11_20_11) τ h) (cl_X6_191 hts hZ ⟨Nat.le_of_ble_eq_true rfl, Nat.le_of_ble_eq_true rfl⟩) (mpS hZ hT hS hW _) rfl rfl hl.1 rfl (lv_room (Nat.le_of_ble_eq_true rfl)) dX6_stareLine_60 ⟨Nat.zero_le _, Nat.zero_le _⟩) (fun σ_10 H locs hf hW hS => ?_)
        refine lv_iconst (v := 1) hx hb dX6_stareLine_63 (by decide) ?_
        subst hQ
        exact mrz hx hb hr hlocks hZ hT hS hW (by decide) (pr1 hf) dX6_stareLine_64
      · have hf := ift hc hf
        refine lv_iconst (v := 0) hx hb dX6_stareLine_46 (by decide) ?_
        subst hQ
        exact mrz hx hb hr hlocks hZ hT hS hW (by decide) (pr1 hf) dX6_stareLine_47
    · have hf := iff_ hc hf
      refine lv_aload_n hx hb dX6_stareLine_25 rfl (lv_at hl 1 rfl) ?_
      refine lv_iconst (v := 3) hx hb dX6_stareLine_26 (by decide) ?_
      refine mci hf hS (fun r τ h => va_runV (As := [.int 3]) (rest := []) ⟨hx, hb, hml, hown, hts⟩ (c_X6_fail g l σ_2 3 r τ h) (cl_X6_58 hts ⟨Nat.le_of_ble_eq_true rfl, Nat.le_of_ble_eq_true rfl⟩) (mpV_6 hZ hT hS hW tz_27 _) rfl rfl hl.1 rfl (lv_room (Nat.le_of_ble_eq_true rfl)) dX6_stareLine_27 ⟨Nat.zero_le _, Nat.zero_le _⟩) (fun r_11 σ_12 H locs hf hW hS => ?_)
      subst hQ
      exact mrz hx hb hr hlocks hZ hT hS hW (zrm_s hf).1 (zrm_s hf).2 dX6_stareLine_30
  · have hf := ift hc hf
    refine lv_iconst (v := 0) hx hb dX6_stareLine_7 (by decide) ?_
    subst hQ
    exact mrz hx hb hr hlocks hZ hT hS hW (by decide) (pr1 hf) dX6_stareLine_8
def f_X11_countOn (σ : Mem) (p0 : Nat) (e1 : Nat) : Option (Mem) :=
  bd1 (f_X11_count σ p0 e1) (fun (r_1 : Int32) => bd1 (f_X12_set σ (p0 + 1) (lnNum.getD e1 0) (r_1 + 1)) (fun (σ_2 : Mem) => some σ_2))
set_option maxHeartbeats 4000000 in
set_option maxRecDepth 100000 in
theorem c_X11_countOn (g : XG) (l : Launch) (lo n : Nat) (σ : Mem) (p0 : Nat) (e1 : Nat) (t0 : tp 11 lo n p0) (he1 : e1 < 7) (τ : Mem) (hf : f_X11_countOn σ p0 e1 = some τ) : Met l yX11_countOn (wx (.code yX11_countOn cX11_countOn 2 none)) (kr 2 42) (va_Pc [.ref (bs g p0), .ref (adE g e1)] (WS g lo n σ)) (Qv' g lo n τ) 0 0 (Ag g lo) := by
  refine Met.ofW (cc := cX11_countOn) (maxL := 2) (ret := none) (by decide) rfl ?_
  intro p e s m args below meth c s₁ B hml hv
  obtain ⟨rfl, hZ, hT, hW⟩ := hv
  have hx := B.exec
  have hb := B.bytes
  have hr := B.returns
  have hts : ∀ w ∈ wx (.code yX11_countOn cX11_countOn 2 none), w.before _ s = true := atoms_spec B.pre
  have htg : ∀ w ∈ lwg, w.before _ s = true := fun w h => hts w (List.mem_cons_of_mem _ h)
  have hown : s.vm.findClass RX11 = some m.cls := findClass_of_methodNamed B.named
  have hlocks := B.notSynchronized
  change W p l e (kr 2 42) s m (List.toArray [.ref (bs g p0), .ref (adE g e1)]) below meth c s.heap [] 0 0 (MQ below (Qv' g lo n τ) (List.toArray [.ref (bs g p0), .ref (adE g e1)]) s 0 0 (Ag g lo)) _
  generalize hQ : MQ below (Qv' g lo n τ) (List.toArray [.ref (bs g p0), .ref (adE g e1)]) s 0 0 (Ag g lo) = Q
  have hS : va_S (Ag g lo) s.heap s.heap [] := va_S.rf
  have hl := lv_entry ([.ref (bs g p0), .ref (adE g e1)]) (n := 2) (Nat.le_of_ble_eq_true rfl)
  rw [lg_entry_eq]
  generalize (lg_sl ([.ref (bs g p0), .ref (adE g e1)]) ++ List.replicate (2 - (lg_sl ([.ref (bs g p0), .ref (adE g e1)])).length) Slot.unset).toArray = ls at hl ⊢
  have hl : lv_has ls 2 [(0, .ref (bs g p0)), (1, .ref (adE g e1))] := hl
  delta f_X11_countOn at hf
  obtain ⟨H, hH⟩ : ∃ H, H = s.heap := ⟨_, rfl⟩
  obtain ⟨locs, hLc⟩ : ∃ z : List Loc, z = [] := ⟨_, rfl⟩
  have hS : va_S (Ag g lo) s.heap H locs := by rw [hH, hLc]; exact hS
  have hW : Wd g lo n σ H := by rw [hH]; exact hW
  suffices hG : W p l e (kr 2 42) s m (List.toArray [.ref (bs g p0), .ref (adE g e1)]) below meth c H locs 0 0 Q (F0 m 0 ls []) by rw [hH, hLc] at hG; exact hG
  clear hH hLc
  refine lv_aload_n hx hb dX11_countOn_0 rfl (lv_at hl 0 rfl) ?_
  refine gf_11_4 hx hb htg (htg _ lf_X11_13) hown hZ hW t0 dX11_countOn_1 ?_
  refine lv_aload_n hx hb dX11_countOn_4 rfl (lv_at hl 1 rfl) ?_
  refine gEN_number hx hb ln_X11_71 hown hZ hT hS he1 dX11_countOn_5 ?_
  refine lv_aload_n hx hb dX11_countOn_8 rfl (lv_at hl 0 rfl) ?_
  refine lv_aload_n hx hb dX11_countOn_9 rfl (lv_at hl 1 rfl) ?_
  refine mcip hf hS (fun r h => va_runV (As := [.ref (adE g e1)]) (rest := [.int (lnNum.getD e1 0), .ref (bs g (p0 + 1))]) ⟨hx, hb, hml, hown, hts⟩ (c_X11_count g l lo n σ p0 e1 t0 he1 r h) (cl_X11_80 hts ⟨Nat.le_of_ble_eq_true rfl, Nat.le_of_ble_eq_true rfl⟩) (mpV_11 hZ hT hS hW t0 _) rfl rfl hl.1 rfl (lv_room (Nat.le_of_ble_eq_true rfl)) dX11_countOn_10 ⟨Nat.zero_le _, Nat.zero_le _⟩) (fun r_1 H locs hf hW hS => ?_)
  refine lv_iconst (v := 1) hx hb dX11_countOn_13 (by decide) ?_
  refine lv_iadd hx hb dX11_countOn_14 ?_
  refine mcv hf hS (fun τ h => va_runSN (As := [.ref (bs g (p0 + 1)), .int (lnNum.getD e1 0), .int (r_1 + 1)]) (rest := []) ⟨hx, hb, hml, hown, hts⟩ (c_X12_set g l lo n σ (p0 + 1) (lnNum.getD e1 0) (r_1 + 1) (t0.sub 20 1 so_11_20_1) τ h) (cl_X11_84 hts hZ ⟨Nat.le_of_ble_eq_true rfl, Nat.le_of_ble_eq_true rfl⟩) (mpS hZ hT hS hW _) rfl rfl hl.1 rfl (lv_room (Nat.le_of_ble_eq_true rfl)) dX11_countOn_15 ⟨Nat.zero_le _, Nat.zero_le _⟩) (fun σ_2 H locs hf hW hS => ?_)
  subst hQ
  exact mrv hx hb hr hlocks hZ hT hS hW (Option.some.inj hf) dX11_countOn_18
def f_Jx29ce0_ordinal_8abf5 (e0 : Nat) : Option (Int32) :=
  some (lnNum.getD e0 0)
set_option maxHeartbeats 4000000 in
set_option maxRecDepth 100000 in
theorem c_Jx29ce0_ordinal_8abf5 (g : XG) (l : Launch) (lo n : Nat) (σ : Mem) (e0 : Nat) (he0 : e0 < 7) (r : Int32) (hf : f_Jx29ce0_ordinal_8abf5 e0 = some r) : Met l yJx29ce0_ordinal_8abf5 (wx (.code yJx29ce0_ordinal_8abf5 cJx29ce0_ordinal_8abf5 1 (some .int))) (kr 0 0) (va_Pc [.ref (adE g e0)] (WS g lo n σ)) (Qi' g lo n r σ) 0 0 (Ag g lo) := by
  refine Met.ofW (cc := cJx29ce0_ordinal_8abf5) (maxL := 1) (ret := (some .int)) (by decide) rfl ?_
  intro p e s m args below meth c s₁ B hml hv
  obtain ⟨rfl, hZ, hT, hW⟩ := hv
  have hx := B.exec
  have hb := B.bytes
  have hr := B.returns
  have hts : ∀ w ∈ wx (.code yJx29ce0_ordinal_8abf5 cJx29ce0_ordinal_8abf5 1 (some .int)), w.before _ s = true := atoms_spec B.pre
  have htg : ∀ w ∈ lwg, w.before _ s = true := fun w h => hts w (List.mem_cons_of_mem _ h)
  have hown : s.vm.findClass RJx29ce0 = some m.cls := findClass_of_methodNamed B.named
  have hlocks := B.notSynchronized
  change W p l e (kr 0 0) s m (List.toArray [.ref (adE g e0)]) below meth c s.heap [] 0 0 (MQ below (Qi' g lo n r σ) (List.toArray [.ref (adE g e0)]) s 0 0 (Ag g lo)) _
  generalize hQ : MQ below (Qi' g lo n r σ) (List.toArray [.ref (adE g e0)]) s 0 0 (Ag g lo) = Q
  have hS : va_S (Ag g lo) s.heap s.heap [] := va_S.rf
  have hl := lv_entry ([.ref (adE g e0)]) (n := 1) (Nat.le_of_ble_eq_true rfl)
  rw [lg_entry_eq]
  generalize (lg_sl ([.ref (adE g e0)]) ++ List.replicate (1 - (lg_sl ([.ref (adE g e0)])).length) Slot.unset).toArray = ls at hl ⊢
  have hl : lv_has ls 1 [(0, .ref (adE g e0))] := hl
  delta f_Jx29ce0_ordinal_8abf5 at hf
  obtain ⟨H, hH⟩ : ∃ H, H = s.heap := ⟨_, rfl⟩
  obtain ⟨locs, hLc⟩ : ∃ z : List Loc, z = [] := ⟨_, rfl⟩
  have hS : va_S (Ag g lo) s.heap H locs := by rw [hH, hLc]; exact hS
  have hW : Wd g lo n σ H := by rw [hH]; exact hW
  suffices hG : W p l e (kr 0 0) s m (List.toArray [.ref (adE g e0)]) below meth c H locs 0 0 Q (F0 m 0 ls []) by rw [hH, hLc] at hG; exact hG
  clear hH hLc
  refine lv_aload_n hx hb dJx29ce0_ordinal_8abf5_0 rfl (lv_at hl 0 rfl) ?_
  refine gE_ordinal hx hb (htg _ lf_Jx29ce0_7) hown hT hS he0 dJx29ce0_ordinal_8abf5_1 ?_
  subst hQ
  exact mri hx hb hr hlocks hZ hT hS hW ⟨Option.some.inj hf, rfl⟩ dJx29ce0_ordinal_8abf5_4
def f_X6_line (σ : Mem)  : Option (Int32 × Mem) :=
  nm (sI σ 27 3 (σ.1 1 4)) (fun (σ_1 : Mem) => bd1 (f_X6_lineNamed σ_1) (fun (o_2 : Option Nat) => onm o_2 (bd2 (f_X6_fail σ_1 1) (fun (r_4 : Int32) (σ_5 : Mem) => zrm r_4 σ_5)) (fun (T_3 : Nat) => jn0 (rfc (σ_1.2.2 27 1) (fun (T_7 : Nat) => bd1 (f_X11_count σ_1 T_7 T_3) (fun (r_8 : Int32) => (if r_8 < (lnRoom.getD T_3 0) then bd1 (f_X10_step σ_1) (fun (σ_9 : Mem) => bd1 (f_Jx29ce0_ordinal_8abf5 T_3) (fun (r_10 : Int32) => ixd r_10 7 (nm (swl.getD r_10.toNatClampNeg 0) (fun (x_11 : Int32) => jn2 (fun (i_12 : Int32) (σ_13 : Mem) => (if i_12 = 0 then zrm i_12 σ_13 else rfc (σ_13.2.2 27 1) (fun (T_15 : Nat) => bd1 (f_X11_countOn σ_13 T_15 T_3) (fun (σ_16 : Mem) => zrm i_12 σ_16)))) (fun k_14 => (if x_11 = 1 then bd2 (f_X6_townLine σ_9) (fun (r_29 : Int32) (σ_30 : Mem) => k_14 r_29 σ_30) else (if x_11 = 2 then bd2 (f_X6_personLine σ_9) (fun (r_27 : Int32) (σ_28 : Mem) => k_14 r_27 σ_28) else (if x_11 = 3 then bd2 (f_X6_changeLine σ_9) (fun (r_25 : Int32) (σ_26 : Mem) => k_14 r_25 σ_26) else (if x_11 = 4 then bd2 (f_X6_visitLine σ_9) (fun (r_23 : Int32) (σ_24 : Mem) => k_14 r_23 σ_24) else (if x_11 = 5 then bd2 (f_X6_wishLine σ_9) (fun (r_21 : Int32) (σ_22 : Mem) => k_14 r_21 σ_22) else (if x_11 = 6 then bd2 (f_X6_asksLine σ_9) (fun (r_19 : Int32) (σ_20 : Mem) => k_14 r_19 σ_20) else bd2 (f_X6_stareLine σ_9) (fun (r_17 : Int32) (σ_18 : Mem) => k_14 r_17 σ_18)))))))))))) else (if T_3 = 0 then bd2 (f_X6_fail σ_1 3) (fun (r_33 : Int32) (σ_34 : Mem) => zrm r_33 σ_34) else bd2 (f_X6_fail σ_1 5) (fun (r_31 : Int32) (σ_32 : Mem) => zrm r_31 σ_32)))))) (fun k_6 => (if T_3 = 0 then k_6 else rfc (σ_1.2.2 27 1) (fun (T_35 : Nat) => bd1 (f_X11_count σ_1 T_35 0) (fun (r_36 : Int32) => (if r_36 = 0 then bd2 (f_X6_fail σ_1 6) (fun (r_37 : Int32) (σ_38 : Mem) => zrm r_37 σ_38) else k_6))))))))
set_option maxHeartbeats 4000000 in
set_option maxRecDepth 100000 in
theorem c_X6_line (g : XG) (l : Launch) (σ : Mem) (r : Int32) (τ : Mem) (hf : f_X6_line σ = some (r, τ)) : Met l yX6_line (wx (.code yX6_line cX6_line 3 (some .boolean))) (kr 8 174) (va_Pc [.ref (bs g 27)] (WS g 0 81 σ)) (Qi' g 0 81 r τ) 0 0 (Ag g 0) := by
  refine Met.ofW (cc := cX6_line) (maxL := 3) (ret := (some .boolean)) (by decide) rfl ?_
  intro p e s m args below meth c s₁ B hml hv
  obtain ⟨rfl, hZ, hT, hW⟩ := hv
  have hx := B.exec
  have hb := B.bytes
  have hr := B.returns
  have hts : ∀ w ∈ wx (.code yX6_line cX6_line 3 (some .boolean)), w.before _ s = true := atoms_spec B.pre
  have htg : ∀ w ∈ lwg, w.before _ s = true := fun w h => hts w (List.mem_cons_of_mem _ h)
  have hown : s.vm.findClass RX6 = some m.cls := findClass_of_methodNamed B.named
  have hlocks := B.notSynchronized
  change W p l e (kr 8 174) s m (List.toArray [.ref (bs g 27)]) below meth c s.heap [] 0 0 (MQ below (Qi' g 0 81 r τ) (List.toArray [.ref (bs g 27)]) s 0 0 (Ag g 0)) _
  generalize hQ : MQ below (Qi' g 0 81 r τ) (List.toArray [.ref (bs g 27)]) s 0 0 (Ag g 0) = Q
  have hS : va_S (Ag g 0) s.heap s.heap [] := va_S.rf
  have hl := lv_entry ([.ref (bs g 27)]) (n := 3) (Nat.le_of_ble_eq_true rfl)
  rw [lg_entry_eq]
  generalize (lg_sl ([.ref (bs g 27)]) ++ List.replicate (3 - (lg_sl ([.ref (bs g 27)])).length) Slot.unset).toArray = ls at hl ⊢
  have hl : lv_has ls 3 [(0, .ref (bs g 27))] := hl
  delta f_X6_line at hf
  obtain ⟨H, hH⟩ : ∃ H, H = s.heap := ⟨_, rfl⟩
  obtain ⟨locs, hLc⟩ : ∃ z : List Loc, z = [] := ⟨_, rfl⟩
  have hS : va_S (Ag g 0) s.heap H locs := by rw [hH, hLc]; exact hS
  have hW : Wd g 0 81 σ H := by rw [hH]; exact hW
  suffices hG : W p l e (kr 8 174) s m (List.toArray [.ref (bs g 27)]) below meth c H locs 0 0 Q (F0 m 0 ls []) by rw [hH, hLc] at hG; exact hG
  clear hH hLc
  refine lv_aload_n hx hb dX6_line_0 rfl (lv_at hl 0 rfl) ?_
  refine lv_aload_n hx hb dX6_line_1 rfl (lv_at hl 0 rfl) ?_
  refine gf_6_0 hx hb htg (htg _ lf_X6_9) hown hZ hW tz_27 dX6_line_2 ?_
  refine gfN_10_4 hx hb htg ln_X6_44 hown hZ hW tz_1 dX6_line_5 ?_
  refine pf_6_3 hx hb htg (htg _ lf_X6_47) hown hZ hW hS tz_27 dX6_line_8 hf (fun σ_1 H locs hf hW hS => ?_)
  refine lv_aload_n hx hb dX6_line_11 rfl (lv_at hl 0 rfl) ?_
  refine mcep hf hS (fun r h => va_runV (As := []) (rest := []) ⟨hx, hb, hml, hown, hts⟩ (c_X6_lineNamed g l σ_1 r h) (cl_X6_54 hts ⟨Nat.le_of_ble_eq_true rfl, Nat.le_of_ble_eq_true rfl⟩) (mpV_6 hZ hT hS hW tz_27 _) rfl rfl hl.1 rfl (lv_room (Nat.le_of_ble_eq_true rfl)) dX6_line_12 ⟨Nat.zero_le _, Nat.zero_le _⟩) (fun o_2 H locs ho hf hW hS => ?_)
  cases o_2 with
  | none =>
    have hf := onm_n hf
    refine lv_astore_nN (lv' := [(1, .null), (0, .ref (bs g 27))]) hx hb dX6_line_15 rfl hl (by decide) rfl (fun ls hl => ?_)
    refine lv_aload_nN hx hb dX6_line_16 rfl (lv_at hl 0 rfl) ?_
    refine lv_ifnonnullN hx hb dX6_line_17 ?_
    refine lv_aload_n hx hb dX6_line_20 rfl (lv_at hl 1 rfl) ?_
    refine lv_iconst (v := 1) hx hb dX6_line_21 (by decide) ?_
    refine mci hf hS (fun r τ h => va_runV (As := [.int 1]) (rest := []) ⟨hx, hb, hml, hown, hts⟩ (c_X6_fail g l σ_1 1 r τ h) (cl_X6_58 hts ⟨Nat.le_of_ble_eq_true rfl, Nat.le_of_ble_eq_true rfl⟩) (mpV_6 hZ hT hS hW tz_27 _) rfl rfl hl.1 rfl (lv_room (Nat.le_of_ble_eq_true rfl)) dX6_line_22 ⟨Nat.zero_le _, Nat.zero_le _⟩) (fun r_4 σ_5 H locs hf hW hS => ?_)
    subst hQ
    exact mrz hx hb hr hlocks hZ hT hS hW (zrm_s hf).1 (zrm_s hf).2 dX6_line_25
  | some T_3 =>
    have hT_3 := bn_X6_lineNamed σ_1 ho
    have hf := onm_s hf
    refine lv_astore_n (lv' := [(1, .ref (adE g T_3)), (0, .ref (bs g 27))]) hx hb dX6_line_15 rfl hl (by decide) rfl (fun ls hl => ?_)
    refine lv_aload_n hx hb dX6_line_16 rfl (lv_at hl 0 rfl) ?_
    refine lv_ifnonnull (tgt := 26) hx hb dX6_line_17 (by decide) ?_
    refine lv_aload_n hx hb dX6_line_26 rfl (lv_at hl 0 rfl) ?_
    refine va_gets hx hb ((hT.1.1.1 0 (by decide)).1.narrow (fun q h => ag_a0 g 0 q h)) hS hown (htg _ lf_X6_62) (fun _ h => h) dX6_line_27 ?_
    refine jn0_W (∀ (H : Heap) (locs : List Loc) (ls : Array Slot), Wd g 0 81 σ_1 H → va_S (Ag g 0) s.heap H locs → lv_has ls 3 [(0, .ref (bs g 27)), (1, .ref (adE g T_3))] → W p l e (kr 8 174) s m (List.toArray [.ref (bs g 27)]) below meth c H locs 0 0 Q (F0 m 53 ls [])) hf (fun  hf => ?_) (fun k_6 hk_6 hf => ?_)
    · intro H locs ls hW hS hl
      refine lv_aload_n hx hb dX6_line_53 rfl (lv_at hl 0 rfl) ?_
      refine gf_6_1 hx hb htg (htg _ lf_X6_15) hown hZ hW tz_27 dX6_line_54 hf (fun T_7 tT_7 hf => ?_)
      refine lv_aload_n hx hb dX6_line_57 rfl (lv_at hl 1 rfl) ?_
      refine mcip hf hS (fun r h => va_runV (As := [.ref (adE g T_3)]) (rest := []) ⟨hx, hb, hml, hown, hts⟩ (c_X11_count g l 0 81 σ_1 T_7 T_3 tT_7 hT_3 r h) (cl_X6_68 hts ⟨Nat.le_of_ble_eq_true rfl, Nat.le_of_ble_eq_true rfl⟩) (mpV_11 hZ hT hS hW tT_7 _) rfl rfl hl.1 rfl (lv_room (Nat.le_of_ble_eq_true rfl)) dX6_line_58 ⟨Nat.zero_le _, Nat.zero_le _⟩) (fun r_8 H locs hf hW hS => ?_)
      refine lv_aload_n hx hb dX6_line_61 rfl (lv_at hl 1 rfl) ?_
      refine gEN_room hx hb ln_X6_72 hown hZ hT hS hT_3 dX6_line_62 ?_
      refine lv_icmp_lt (tgt := 85) hx hb dX6_line_65 (by decide) (fun hc => ?_) (fun hc => ?_)
      · have hf := ift hc hf
        refine lv_aload_n hx hb dX6_line_85 rfl (lv_at hl 0 rfl) ?_
        refine gf_6_0 hx hb htg (htg _ lf_X6_9) hown hZ hW tz_27 dX6_line_86 ?_
        refine mcv hf hS (fun τ h => va_runV (As := []) (rest := []) ⟨hx, hb, hml, hown, hts⟩ (c_X10_step g l σ_1 τ h) (cl_X6_41 hts ⟨Nat.le_of_ble_eq_true rfl, Nat.le_of_ble_eq_true rfl⟩) (mpV_10 hZ hT hS hW tz_1 _) rfl rfl hl.1 rfl (lv_room (Nat.le_of_ble_eq_true rfl)) dX6_line_89 ⟨Nat.zero_le _, Nat.zero_le _⟩) (fun σ_9 H locs hf hW hS => ?_)
        refine va_gets hx hb (hT.2.1.1.narrow (fun q h => ag_a0 g 0 q h)) hS hown (htg _ lf_X6_75) (fun _ h => h) dX6_line_92 ?_
        refine lv_aload_n hx hb dX6_line_95 rfl (lv_at hl 1 rfl) ?_
        refine mcip hf hS (fun r h => va_runU (As := []) (rest := [.ref (tSw g)]) ⟨hx, hb, hml, hown, hts⟩ (c_Jx29ce0_ordinal_8abf5 g l 0 81 σ_9 T_3 hT_3 r h) (cl_X6_81 hts ⟨Nat.le_of_ble_eq_true rfl, Nat.le_of_ble_eq_true rfl⟩) (mpV_E hZ hT hS hW hT_3 _) rfl rfl hl.1 rfl (lv_room (Nat.le_of_ble_eq_true rfl)) dX6_line_96 ⟨Nat.zero_le _, Nat.zero_le _⟩) (fun r_10 H locs hf hW hS => ?_)
        obtain ⟨hi, hf⟩ := ixd_s hf
        refine va_ti hx hb (hT.2.1.2.narrow (fun q h => ag_a0 g 0 q h)) hS hi rfl dX6_line_99 ?_
        refine mnmi hf (fun (x_11 : Int32) hf => ?_)
        refine jn2_W (fun (i_12 : Int32) (σ_13 : Mem) => ∀ (H : Heap) (locs : List Loc) (ls : Array Slot), Wd g 0 81 σ_13 H → va_S (Ag g 0) s.heap H locs → lv_has ls 3 [(0, .ref (bs g 27)), (1, .ref (adE g T_3)), (2, .int i_12)] → W p l e (kr 8 174) s m (List.toArray [.ref (bs g 27)]) below meth c H locs 0 0 Q (F0 m 193 ls [])) hf (fun i_12 σ_13 hf => ?_) (fun k_14 hk_14 hf => ?_)
        · intro H locs ls hW hS hl
          refine lv_iload_n hx hb dX6_line_193 rfl (lv_at hl 2 rfl) ?_
          refine lv_if_eq (tgt := 205) hx hb dX6_line_194 (by decide) (fun hc => ?_) (fun hc => ?_)
          · have hf := ift hc hf
            refine lv_iload_n hx hb dX6_line_205 rfl (lv_at hl 2 rfl) ?_
            subst hQ
            exact mrz hx hb hr hlocks hZ hT hS hW (zrm_s hf).1 (zrm_s hf).2 dX6_line_206
          · have hf := iff_ hc hf
            refine lv_aload_n hx hb dX6_line_197 rfl (lv_at hl 0 rfl) ?_
            refine gf_6_1 hx hb htg (htg _ lf_X6_15) hown hZ hW tz_27 dX6_line_198 hf (fun T_15 tT_15 hf => ?_)
            refine lv_aload_n hx hb dX6_line_201 rfl (lv_at hl 1 rfl) ?_
            refine mcv hf hS (fun τ h => va_runV (As := [.ref (adE g T_3)]) (rest := []) ⟨hx, hb, hml, hown, hts⟩ (c_X11_countOn g l 0 81 σ_13 T_15 T_3 tT_15 hT_3 τ h) (cl_X6_105 hts ⟨Nat.le_of_ble_eq_true rfl, Nat.le_of_ble_eq_true rfl⟩) (mpV_11 hZ hT hS hW tT_15 _) rfl rfl hl.1 rfl (lv_room (Nat.le_of_ble_eq_true rfl)) dX6_line_202 ⟨Nat.zero_le _, Nat.zero_le _⟩) (fun σ_16 H locs hf hW hS => ?_)
            refine lv_iload_n hx hb dX6_line_205 rfl (lv_at hl 2 rfl) ?_
            subst hQ
            exact mrz hx hb hr hlocks hZ hT hS hW (zrm_s hf).1 (zrm_s hf).2 dX6_line_206
        · by_cases hn1 : x_11 = 1
          · have hf := ift hn1 hf
            refine lv_tableIn (off := 40) (tgt := 140) hx hb dX6_line_100 (by rw [hn1]; decide) (by rw [hn1]; decide) (by rw [hn1]; decide) (by decide) ?_
            refine lv_aload_n hx hb dX6_line_140 rfl (lv_at hl 0 rfl) ?_
            refine mci hf hS (fun r τ h => va_runV (As := []) (rest := []) ⟨hx, hb, hml, hown, hts⟩ (c_X6_townLine g l σ_9 r τ h) (cl_X6_84 hts ⟨Nat.le_of_ble_eq_true rfl, Nat.le_of_ble_eq_true rfl⟩) (mpV_6 hZ hT hS hW tz_27 _) rfl rfl hl.1 rfl (lv_room (Nat.le_of_ble_eq_true rfl)) dX6_line_141 ⟨Nat.zero_le _, Nat.zero_le _⟩) (fun r_29 σ_30 H locs hf hW hS => ?_)
            refine lv_istore_n (lv' := [(2, .int r_29), (0, .ref (bs g 27)), (1, .ref (adE g T_3))]) hx hb dX6_line_144 rfl hl (by decide) rfl (fun ls hl => ?_)
            refine lv_goto (tgt := 193) hx hb dX6_line_145 (by decide) ?_
            exact hk_14 r_29 σ_30 hf H locs ls hW hS (lv_sub hl [1, 2, 0] rfl)
          have hf := iff_ hn1 hf
          by_cases hn2 : x_11 = 2
          · have hf := ift hn2 hf
            refine lv_tableIn (off := 48) (tgt := 148) hx hb dX6_line_100 (by rw [hn2]; decide) (by rw [hn2]; decide) (by rw [hn2]; decide) (by decide) ?_
            refine lv_aload_n hx hb dX6_line_148 rfl (lv_at hl 0 rfl) ?_
            refine mci hf hS (fun r τ h => va_runV (As := []) (rest := []) ⟨hx, hb, hml, hown, hts⟩ (c_X6_personLine g l σ_9 r τ h) (cl_X6_87 hts ⟨Nat.le_of_ble_eq_true rfl, Nat.le_of_ble_eq_true rfl⟩) (mpV_6 hZ hT hS hW tz_27 _) rfl rfl hl.1 rfl (lv_room (Nat.le_of_ble_eq_true rfl)) dX6_line_149 ⟨Nat.zero_le _, Nat.zero_le _⟩) (fun r_27 σ_28 H locs hf hW hS => ?_)
            refine lv_istore_n (lv' := [(2, .int r_27), (0, .ref (bs g 27)), (1, .ref (adE g T_3))]) hx hb dX6_line_152 rfl hl (by decide) rfl (fun ls hl => ?_)
            refine lv_goto (tgt := 193) hx hb dX6_line_153 (by decide) ?_
            exact hk_14 r_27 σ_28 hf H locs ls hW hS (lv_sub hl [1, 2, 0] rfl)
          have hf := iff_ hn2 hf
          by_cases hn3 : x_11 = 3
          · have hf := ift hn3 hf
            refine lv_tableIn (off := 56) (tgt := 156) hx hb dX6_line_100 (by rw [hn3]; decide) (by rw [hn3]; decide) (by rw [hn3]; decide) (by decide) ?_
            refine lv_aload_n hx hb dX6_line_156 rfl (lv_at hl 0 rfl) ?_
            refine mci hf hS (fun r τ h => va_runV (As := []) (rest := []) ⟨hx, hb, hml, hown, hts⟩ (c_X6_changeLine g l σ_9 r τ h) (cl_X6_90 hts ⟨Nat.le_of_ble_eq_true rfl, Nat.le_of_ble_eq_true rfl⟩) (mpV_6 hZ hT hS hW tz_27 _) rfl rfl hl.1 rfl (lv_room (Nat.le_of_ble_eq_true rfl)) dX6_line_157 ⟨Nat.zero_le _, Nat.zero_le _⟩) (fun r_25 σ_26 H locs hf hW hS => ?_)
            refine lv_istore_n (lv' := [(2, .int r_25), (0, .ref (bs g 27)), (1, .ref (adE g T_3))]) hx hb dX6_line_160 rfl hl (by decide) rfl (fun ls hl => ?_)
            refine lv_goto (tgt := 193) hx hb dX6_line_161 (by decide) ?_
            exact hk_14 r_25 σ_26 hf H locs ls hW hS (lv_sub hl [1, 2, 0] rfl)
          have hf := iff_ hn3 hf
          by_cases hn4 : x_11 = 4
          · have hf := ift hn4 hf
            refine lv_tableIn (off := 64) (tgt := 164) hx hb dX6_line_100 (by rw [hn4]; decide) (by rw [hn4]; decide) (by rw [hn4]; decide) (by decide) ?_
            refine lv_aload_n hx hb dX6_line_164 rfl (lv_at hl 0 rfl) ?_
            refine mci hf hS (fun r τ h => va_runV (As := []) (rest := []) ⟨hx, hb, hml, hown, hts⟩ (c_X6_visitLine g l σ_9 r τ h) (cl_X6_93 hts ⟨Nat.le_of_ble_eq_true rfl, Nat.le_of_ble_eq_true rfl⟩) (mpV_6 hZ hT hS hW tz_27 _) rfl rfl hl.1 rfl (lv_room (Nat.le_of_ble_eq_true rfl)) dX6_line_165 ⟨Nat.zero_le _, Nat.zero_le _⟩) (fun r_23 σ_24 H locs hf hW hS => ?_)
            refine lv_istore_n (lv' := [(2, .int r_23), (0, .ref (bs g 27)), (1, .ref (adE g T_3))]) hx hb dX6_line_168 rfl hl (by decide) rfl (fun ls hl => ?_)
            refine lv_goto (tgt := 193) hx hb dX6_line_169 (by decide) ?_
            exact hk_14 r_23 σ_24 hf H locs ls hW hS (lv_sub hl [1, 2, 0] rfl)
          have hf := iff_ hn4 hf
          by_cases hn5 : x_11 = 5
          · have hf := ift hn5 hf
            refine lv_tableIn (off := 72) (tgt := 172) hx hb dX6_line_100 (by rw [hn5]; decide) (by rw [hn5]; decide) (by rw [hn5]; decide) (by decide) ?_
            refine lv_aload_n hx hb dX6_line_172 rfl (lv_at hl 0 rfl) ?_
            refine mci hf hS (fun r τ h => va_runV (As := []) (rest := []) ⟨hx, hb, hml, hown, hts⟩ (c_X6_wishLine g l σ_9 r τ h) (cl_X6_96 hts ⟨Nat.le_of_ble_eq_true rfl, Nat.le_of_ble_eq_true rfl⟩) (mpV_6 hZ hT hS hW tz_27 _) rfl rfl hl.1 rfl (lv_room (Nat.le_of_ble_eq_true rfl)) dX6_line_173 ⟨Nat.zero_le _, Nat.zero_le _⟩) (fun r_21 σ_22 H locs hf hW hS => ?_)
            refine lv_istore_n (lv' := [(2, .int r_21), (0, .ref (bs g 27)), (1, .ref (adE g T_3))]) hx hb dX6_line_176 rfl hl (by decide) rfl (fun ls hl => ?_)
            refine lv_goto (tgt := 193) hx hb dX6_line_177 (by decide) ?_
            exact hk_14 r_21 σ_22 hf H locs ls hW hS (lv_sub hl [1, 2, 0] rfl)
          have hf := iff_ hn5 hf
          by_cases hn6 : x_11 = 6
          · have hf := ift hn6 hf
            refine lv_tableIn (off := 80) (tgt := 180) hx hb dX6_line_100 (by rw [hn6]; decide) (by rw [hn6]; decide) (by rw [hn6]; decide) (by decide) ?_
            refine lv_aload_n hx hb dX6_line_180 rfl (lv_at hl 0 rfl) ?_
            refine mci hf hS (fun r τ h => va_runV (As := []) (rest := []) ⟨hx, hb, hml, hown, hts⟩ (c_X6_asksLine g l σ_9 r τ h) (cl_X6_99 hts ⟨Nat.le_of_ble_eq_true rfl, Nat.le_of_ble_eq_true rfl⟩) (mpV_6 hZ hT hS hW tz_27 _) rfl rfl hl.1 rfl (lv_room (Nat.le_of_ble_eq_true rfl)) dX6_line_181 ⟨Nat.zero_le _, Nat.zero_le _⟩) (fun r_19 σ_20 H locs hf hW hS => ?_)
            refine lv_istore_n (lv' := [(2, .int r_19), (0, .ref (bs g 27)), (1, .ref (adE g T_3))]) hx hb dX6_line_184 rfl hl (by decide) rfl (fun ls hl => ?_)
            refine lv_goto (tgt := 193) hx hb dX6_line_185 (by decide) ?_
            exact hk_14 r_19 σ_20 hf H locs ls hW hS (lv_sub hl [1, 2, 0] rfl)
          have hf := iff_ hn6 hf
          refine lv_tableOut (tgt := 188) hx hb dX6_line_100 (tsw_1_6 hn1 hn2 hn3 hn4 hn5 hn6) (by decide) ?_
          refine lv_aload_n hx hb dX6_line_188 rfl (lv_at hl 0 rfl) ?_
          refine mci hf hS (fun r τ h => va_runV (As := []) (rest := []) ⟨hx, hb, hml, hown, hts⟩ (c_X6_stareLine g l σ_9 r τ h) (cl_X6_102 hts ⟨Nat.le_of_ble_eq_true rfl, Nat.le_of_ble_eq_true rfl⟩) (mpV_6 hZ hT hS hW tz_27 _) rfl rfl hl.1 rfl (lv_room (Nat.le_of_ble_eq_true rfl)) dX6_line_189 ⟨Nat.zero_le _, Nat.zero_le _⟩) (fun r_17 σ_18 H locs hf hW hS => ?_)
          refine lv_istore_n (lv' := [(2, .int r_17), (0, .ref (bs g 27)), (1, .ref (adE g T_3))]) hx hb dX6_line_192 rfl hl (by decide) rfl (fun ls hl => ?_)
          exact hk_14 r_17 σ_18 hf H locs ls hW hS (lv_sub hl [1, 2, 0] rfl)
      · have hf := iff_ hc hf
        refine lv_aload_n hx hb dX6_line_68 rfl (lv_at hl 0 rfl) ?_
        refine lv_aload_n hx hb dX6_line_69 rfl (lv_at hl 1 rfl) ?_
        refine va_gets hx hb ((hT.1.1.1 0 (by decide)).1.narrow (fun q h => ag_a0 g 0 q h)) hS hown (htg _ lf_X6_62) (fun _ h => h) dX6_line_70 ?_
        refine gAC_ne (tgt := 80) hx hb hT hT_3 (show 0 < 7 by decide) dX6_line_73 (by decide) (fun hc => ?_) (fun hc => ?_)
        · have hf := iff_ hc hf
          refine lv_iconst (v := 5) hx hb dX6_line_80 (by decide) ?_
          refine mci hf hS (fun r τ h => va_runV (As := [.int 5]) (rest := []) ⟨hx, hb, hml, hown, hts⟩ (c_X6_fail g l σ_1 5 r τ h) (cl_X6_58 hts ⟨Nat.le_of_ble_eq_true rfl, Nat.le_of_ble_eq_true rfl⟩) (mpV_6 hZ hT hS hW tz_27 _) rfl rfl hl.1 rfl (lv_room (Nat.le_of_ble_eq_true rfl)) dX6_line_81 ⟨Nat.zero_le _, Nat.zero_le _⟩) (fun r_31 σ_32 H locs hf hW hS => ?_)
          subst hQ
          exact mrz hx hb hr hlocks hZ hT hS hW (zrm_s hf).1 (zrm_s hf).2 dX6_line_84
        · have hf := ift hc hf
          refine lv_iconst (v := 3) hx hb dX6_line_76 (by decide) ?_
          refine lv_goto (tgt := 81) hx hb dX6_line_77 (by decide) ?_
          refine mci hf hS (fun r τ h => va_runV (As := [.int 3]) (rest := []) ⟨hx, hb, hml, hown, hts⟩ (c_X6_fail g l σ_1 3 r τ h) (cl_X6_58 hts ⟨Nat.le_of_ble_eq_true rfl, Nat.le_of_ble_eq_true rfl⟩) (mpV_6 hZ hT hS hW tz_27 _) rfl rfl hl.1 rfl (lv_room (Nat.le_of_ble_eq_true rfl)) dX6_line_81 ⟨Nat.zero_le _, Nat.zero_le _⟩) (fun r_33 σ_34 H locs hf hW hS => ?_)
          subst hQ
          exact mrz hx hb hr hlocks hZ hT hS hW (zrm_s hf).1 (zrm_s hf).2 dX6_line_84
    · refine gAC_eq (tgt := 53) hx hb hT hT_3 (show 0 < 7 by decide) dX6_line_30 (by decide) (fun hc => ?_) (fun hc => ?_)
      · have hf := ift hc hf
        exact hk_6  hf H locs ls hW hS (lv_sub hl [1, 0] rfl)
      · have hf := iff_ hc hf
        refine lv_aload_n hx hb dX6_line_33 rfl (lv_at hl 1 rfl) ?_
        refine gf_6_1 hx hb htg (htg _ lf_X6_15) hown hZ hW tz_27 dX6_line_34 hf (fun T_35 tT_35 hf => ?_)
        refine va_gets hx hb ((hT.1.1.1 0 (by decide)).1.narrow (fun q h => ag_a0 g 0 q h)) hS hown (htg _ lf_X6_62) (fun _ h => h) dX6_line_37 ?_
        refine mcip hf hS (fun r h => va_runV (As := [.ref (adE g 0)]) (rest := []) ⟨hx, hb, hml, hown, hts⟩ (c_X11_count g l 0 81 σ_1 T_35 0 tT_35 (show 0 < 7 by decide) r h) (cl_X6_68 hts ⟨Nat.le_of_ble_eq_true rfl, Nat.le_of_ble_eq_true rfl⟩) (mpV_11 hZ hT hS hW tT_35 _) rfl rfl hl.1 rfl (lv_room (Nat.le_of_ble_eq_true rfl)) dX6_line_40 ⟨Nat.zero_le _, Nat.zero_le _⟩) (fun r_36 H locs hf hW hS => ?_)
        refine lv_if_ne (tgt := 53) hx hb dX6_line_43 (by decide) (fun hc => ?_) (fun hc => ?_)
        · have hf := iff_ hc hf
          exact hk_6  hf H locs ls hW hS (lv_sub hl [1, 0] rfl)
        · have hf := ift hc hf
          refine lv_aload_n hx hb dX6_line_46 rfl (lv_at hl 1 rfl) ?_
          refine lv_bipush (v := 6) hx hb dX6_line_47 (by decide) ?_
          refine mci hf hS (fun r τ h => va_runV (As := [.int 6]) (rest := []) ⟨hx, hb, hml, hown, hts⟩ (c_X6_fail g l σ_1 6 r τ h) (cl_X6_58 hts ⟨Nat.le_of_ble_eq_true rfl, Nat.le_of_ble_eq_true rfl⟩) (mpV_6 hZ hT hS hW tz_27 _) rfl rfl hl.1 rfl (lv_room (Nat.le_of_ble_eq_true rfl)) dX6_line_49 ⟨Nat.zero_le _, Nat.zero_le _⟩) (fun r_37 σ_38 H locs hf hW hS => ?_)
          subst hQ
          exact mrz hx hb hr hlocks hZ hT hS hW (zrm_s hf).1 (zrm_s hf).2 dX6_line_52
def f_X6_read (σ : Mem) (p1 : Nat) (a2 : Int32) : Option (Int32 × Mem) :=
  nm (sR σ 27 1 (some p1)) (fun (σ_1 : Mem) => rfc (σ_1.2.2 27 1) (fun (T_2 : Nat) => bd1 (f_X11_forget σ_1 T_2) (fun (σ_3 : Mem) => nm (sI σ_3 27 4 0) (fun (σ_4 : Mem) => bd1 (f_X10_begin σ_4 a2) (fun (σ_5 : Mem) => fx3 FU (fun k_9 (i_6 : Int32) (i_7 : Int32) (σ_8 : Mem) => jn0 (jn1 (fun (σ_11 : Mem) => some (σ_11.1 27 4, σ_11)) (fun k_12 => (if (σ_8.1 27 4) = 0 then nm (sI σ_8 27 3 (σ_8.1 1 4)) (fun (σ_13 : Mem) => jn1 (fun (i_14 : Int32) => nm (sI σ_13 27 4 i_14) (fun (σ_16 : Mem) => k_12 σ_16)) (fun k_15 => (if (σ_13.1 1 5) = 0 then rfc (σ_13.2.2 27 1) (fun (T_17 : Nat) => bd1 (f_X11_people σ_13 T_17) (fun (r_18 : Int32) => (if r_18 = 0 then k_15 6 else k_15 0))) else k_15 1))) else k_12 σ_8))) (fun k_10 => (if 800 < i_7 then k_10 else (if i_6 = 0 then k_10 else bd2 (f_X6_line σ_8) (fun (r_19 : Int32) (σ_20 : Mem) => jn1 (fun (i_21 : Int32) => jn1 (fun (σ_23 : Mem) => nm (i_7 + 1) (fun (x_25 : Int32) => k_9 i_21 x_25 σ_23)) (fun k_24 => (if i_21 = 0 then k_24 σ_20 else bd1 (f_X10_step σ_20) (fun (σ_27 : Mem) => k_24 σ_27)))) (fun k_22 => jn0 (k_22 0) (fun k_28 => (if r_19 = 0 then k_28 else (if (σ_20.1 1 5) = 4 then k_22 1 else k_28))))))))) 1 0 σ_5)))))
set_option maxHeartbeats 4000000 in
set_option maxRecDepth 100000 in
theorem c_X6_read (g : XG) (l : Launch) (σ : Mem) (p1 : Nat) (a2 : Int32) (t1 : tp 11 0 81 p1) (r : Int32) (τ : Mem) (hf : f_X6_read σ p1 a2 = some (r, τ)) : Met l yX6_read (wx (.code yX6_read cX6_read 5 (some .int))) (kr 9 196) (va_Pc [.ref (bs g 27), .ref (bs g p1), .int a2] (WS g 0 81 σ)) (Qi' g 0 81 r τ) 0 0 (Ag g 0) := by
  refine Met.ofW (cc := cX6_read) (maxL := 5) (ret := (some .int)) (by decide) rfl ?_
  intro p e s m args below meth c s₁ B hml hv
  obtain ⟨rfl, hZ, hT, hW⟩ := hv
  have hx := B.exec
  have hb := B.bytes
  have hr := B.returns
  have hts : ∀ w ∈ wx (.code yX6_read cX6_read 5 (some .int)), w.before _ s = true := atoms_spec B.pre
  have htg : ∀ w ∈ lwg, w.before _ s = true := fun w h => hts w (List.mem_cons_of_mem _ h)
  have hown : s.vm.findClass RX6 = some m.cls := findClass_of_methodNamed B.named
  have hlocks := B.notSynchronized
  change W p l e (kr 9 196) s m (List.toArray [.ref (bs g 27), .ref (bs g p1), .int a2]) below meth c s.heap [] 0 0 (MQ below (Qi' g 0 81 r τ) (List.toArray [.ref (bs g 27), .ref (bs g p1), .int a2]) s 0 0 (Ag g 0)) _
  generalize hQ : MQ below (Qi' g 0 81 r τ) (List.toArray [.ref (bs g 27), .ref (bs g p1), .int a2]) s 0 0 (Ag g 0) = Q
  have hS : va_S (Ag g 0) s.heap s.heap [] := va_S.rf
  have hl := lv_entry ([.ref (bs g 27), .ref (bs g p1), .int a2]) (n := 5) (Nat.le_of_ble_eq_true rfl)
  rw [lg_entry_eq]
  generalize (lg_sl ([.ref (bs g 27), .ref (bs g p1), .int a2]) ++ List.replicate (5 - (lg_sl ([.ref (bs g 27), .ref (bs g p1), .int a2])).length) Slot.unset).toArray = ls at hl ⊢
  have hl : lv_has ls 5 [(0, .ref (bs g 27)), (1, .ref (bs g p1)), (2, .int a2)] := hl
  delta f_X6_read at hf
  obtain ⟨H, hH⟩ : ∃ H, H = s.heap := ⟨_, rfl⟩
  obtain ⟨locs, hLc⟩ : ∃ z : List Loc, z = [] := ⟨_, rfl⟩
  have hS : va_S (Ag g 0) s.heap H locs := by rw [hH, hLc]; exact hS
  have hW : Wd g 0 81 σ H := by rw [hH]; exact hW
  suffices hG : W p l e (kr 9 196) s m (List.toArray [.ref (bs g 27), .ref (bs g p1), .int a2]) below meth c H locs 0 0 Q (F0 m 0 ls []) by rw [hH, hLc] at hG; exact hG
  clear hH hLc
  refine lv_aload_n hx hb dX6_read_0 rfl (lv_at hl 0 rfl) ?_
  refine lv_aload_n hx hb dX6_read_1 rfl (lv_at hl 1 rfl) ?_
  refine pf_6_1 hx hb htg (htg _ lf_X6_15) hown hZ hW hS tz_27 dX6_read_2 t1 hf (fun σ_1 H locs hf hW hS => ?_)
  refine lv_aload_n hx hb dX6_read_5 rfl (lv_at hl 0 rfl) ?_
  refine gf_6_1 hx hb htg (htg _ lf_X6_15) hown hZ hW tz_27 dX6_read_6 hf (fun T_2 tT_2 hf => ?_)
  refine mcv hf hS (fun τ h => va_runV (As := []) (rest := []) ⟨hx, hb, hml, hown, hts⟩ (c_X11_forget g l 0 81 σ_1 T_2 tT_2 τ h) (cl_X6_19 hts ⟨Nat.le_of_ble_eq_true rfl, Nat.le_of_ble_eq_true rfl⟩) (mpV_11 hZ hT hS hW tT_2 _) rfl rfl hl.1 rfl (lv_room (Nat.le_of_ble_eq_true rfl)) dX6_read_9 ⟨Nat.zero_le _, Nat.zero_le _⟩) (fun σ_3 H locs hf hW hS => ?_)
  refine lv_aload_n hx hb dX6_read_12 rfl (lv_at hl 0 rfl) ?_
  refine lv_iconst (v := 0) hx hb dX6_read_13 (by decide) ?_
  refine pf_6_4 hx hb htg (htg _ lf_X6_24) hown hZ hW hS tz_27 dX6_read_14 hf (fun σ_4 H locs hf hW hS => ?_)
  refine lv_aload_n hx hb dX6_read_17 rfl (lv_at hl 0 rfl) ?_
  refine gf_6_0 hx hb htg (htg _ lf_X6_9) hown hZ hW tz_27 dX6_read_18 ?_
  refine lv_iload_n hx hb dX6_read_21 rfl (lv_at hl 2 rfl) ?_
  refine mcv hf hS (fun τ h => va_runV (As := [.int a2]) (rest := []) ⟨hx, hb, hml, hown, hts⟩ (c_X10_begin g l σ_4 a2 τ h) (cl_X6_28 hts ⟨Nat.le_of_ble_eq_true rfl, Nat.le_of_ble_eq_true rfl⟩) (mpV_10 hZ hT hS hW tz_1 _) rfl rfl hl.1 rfl (lv_room (Nat.le_of_ble_eq_true rfl)) dX6_read_22 ⟨Nat.zero_le _, Nat.zero_le _⟩) (fun σ_5 H locs hf hW hS => ?_)
  refine lv_iconst (v := 1) hx hb dX6_read_25 (by decide) ?_
  refine lv_istore_n (lv' := [(3, .int 1), (0, .ref (bs g 27)), (1, .ref (bs g p1)), (2, .int a2)]) hx hb dX6_read_26 rfl hl (by decide) rfl (fun ls hl => ?_)
  refine lv_iconst (v := 0) hx hb dX6_read_27 (by decide) ?_
  refine lv_istore (lv' := [(4, .int 0), (3, .int 1), (0, .ref (bs g 27)), (1, .ref (bs g p1)), (2, .int a2)]) hx hb dX6_read_28 hl (by decide) rfl (fun ls hl => ?_)
  refine fx3_W (fun (i_6 : Int32) (i_7 : Int32) (σ_8 : Mem) => ∀ (H : Heap) (locs : List Loc) (ls : Array Slot), Wd g 0 81 σ_8 H → va_S (Ag g 0) s.heap H locs → lv_has ls 5 [(0, .ref (bs g 27)), (3, .int i_6), (4, .int i_7)] → W p l e (kr 9 196) s m (List.toArray [.ref (bs g 27), .ref (bs g p1), .int a2]) below meth c H locs 0 0 Q (F0 m 30 ls [])) (fun k_9 hk_9 i_6 i_7 σ_8 hf => ?_) FU 1 0 σ_5 hf H locs ls hW hS (lv_sub hl [2, 1, 0] rfl)
  intro H locs ls hW hS hl
  refine lv_iload hx hb dX6_read_30 (lv_at hl 2 rfl) ?_
  refine lv_sipush (v := 800) hx hb dX6_read_32 (by decide) ?_
  refine jn0_W (∀ (H : Heap) (locs : List Loc) (ls : Array Slot), Wd g 0 81 σ_8 H → va_S (Ag g 0) s.heap H locs → lv_has ls 5 [(0, .ref (bs g 27))] → W p l e (kr 9 196) s m (List.toArray [.ref (bs g 27), .ref (bs g p1), .int a2]) below meth c H locs 0 0 Q (F0 m 83 ls [])) hf (fun  hf => ?_) (fun k_10 hk_10 hf => ?_)
  · intro H locs ls hW hS hl
    refine lv_aload_n hx hb dX6_read_83 rfl (lv_at hl 0 rfl) ?_
    refine gf_6_4 hx hb htg (htg _ lf_X6_24) hown hZ hW tz_27 dX6_read_84 ?_
    refine jn1_W (fun (σ_11 : Mem) => ∀ (H : Heap) (locs : List Loc) (ls : Array Slot), Wd g 0 81 σ_11 H → va_S (Ag g 0) s.heap H locs → lv_has ls 5 [(0, .ref (bs g 27))] → W p l e (kr 9 196) s m (List.toArray [.ref (bs g 27), .ref (bs g p1), .int a2]) below meth c H locs 0 0 Q (F0 m 135 ls [])) hf (fun σ_11 hf => ?_) (fun k_12 hk_12 hf => ?_)
    · intro H locs ls hW hS hl
      refine lv_aload_n hx hb dX6_read_135 rfl (lv_at hl 0 rfl) ?_
      refine gf_6_4 hx hb htg (htg _ lf_X6_24) hown hZ hW tz_27 dX6_read_136 ?_
      subst hQ
      exact mri hx hb hr hlocks hZ hT hS hW (pr1 hf) dX6_read_139
    · refine lv_if_ne (tgt := 135) hx hb dX6_read_87 (by decide) (fun hc => ?_) (fun hc => ?_)
      · have hf := iff_ hc hf
        exact hk_12 σ_8 hf H locs ls hW hS (lv_sub hl [0] rfl)
      · have hf := ift hc hf
        refine lv_aload_n hx hb dX6_read_90 rfl (lv_at hl 0 rfl) ?_
        refine lv_aload_n hx hb dX6_read_91 rfl (lv_at hl 0 rfl) ?_
        refine gf_6_0 hx hb htg (htg _ lf_X6_9) hown hZ hW tz_27 dX6_read_92 ?_
        refine gfN_10_4 hx hb htg ln_X6_44 hown hZ hW tz_1 dX6_read_95 ?_
        refine pf_6_3 hx hb htg (htg _ lf_X6_47) hown hZ hW hS tz_27 dX6_read_98 hf (fun σ_13 H locs hf hW hS => ?_)
        refine lv_aload_n hx hb dX6_read_101 rfl (lv_at hl 0 rfl) ?_
        refine lv_aload_n hx hb dX6_read_102 rfl (lv_at hl 0 rfl) ?_
        refine gf_6_0 hx hb htg (htg _ lf_X6_9) hown hZ hW tz_27 dX6_read_103 ?_
        refine gfN_10_5 hx hb htg ln_X6_38 hown hZ hW tz_1 dX6_read_106 ?_
        refine jn1_W (fun (i_14 : Int32) => ∀ (H : Heap) (locs : List Loc) (ls : Array Slot), Wd g 0 81 σ_13 H → va_S (Ag g 0) s.heap H locs → lv_has ls 5 [(0, .ref (bs g 27))] → W p l e (kr 9 196) s m (List.toArray [.ref (bs g 27), .ref (bs g p1), .int a2]) below meth c H locs 0 0 Q (F0 m 132 ls [.int i_14, .ref (bs g 27)])) hf (fun i_14 hf => ?_) (fun k_15 hk_15 hf => ?_)
        · intro H locs ls hW hS hl
          refine pf_6_4 hx hb htg (htg _ lf_X6_24) hown hZ hW hS tz_27 dX6_read_132 hf (fun σ_16 H locs hf hW hS => ?_)
          exact hk_12 σ_16 hf H locs ls hW hS (lv_sub hl [0] rfl)
        · refine lv_if_eq (tgt := 116) hx hb dX6_read_109 (by decide) (fun hc => ?_) (fun hc => ?_)
          · have hf := ift hc hf
            refine lv_aload_n hx hb dX6_read_116 rfl (lv_at hl 0 rfl) ?_
            refine gf_6_1 hx hb htg (htg _ lf_X6_15) hown hZ hW tz_27 dX6_read_117 hf (fun T_17 tT_17 hf => ?_)
            refine mcip hf hS (fun r h => va_runV (As := []) (rest := [.ref (bs g 27)]) ⟨hx, hb, hml, hown, hts⟩ (c_X11_people g l 0 81 σ_13 T_17 tT_17 r h) (cl_X6_50 hts ⟨Nat.le_of_ble_eq_true rfl, Nat.le_of_ble_eq_true rfl⟩) (mpV_11 hZ hT hS hW tT_17 _) rfl rfl hl.1 rfl (lv_room (Nat.le_of_ble_eq_true rfl)) dX6_read_120 ⟨Nat.zero_le _, Nat.zero_le _⟩) (fun r_18 H locs hf hW hS => ?_)
            refine lv_if_ne (tgt := 131) hx hb dX6_read_123 (by decide) (fun hc => ?_) (fun hc => ?_)
            · have hf := iff_ hc hf
              refine lv_iconst (v := 0) hx hb dX6_read_131 (by decide) ?_
              exact hk_15 0 hf H locs ls hW hS (lv_sub hl [0] rfl)
            · have hf := ift hc hf
              refine lv_bipush (v := 6) hx hb dX6_read_126 (by decide) ?_
              refine lv_goto (tgt := 132) hx hb dX6_read_128 (by decide) ?_
              exact hk_15 6 hf H locs ls hW hS (lv_sub hl [0] rfl)
          · have hf := iff_ hc hf
            refine lv_iconst (v := 1) hx hb dX6_read_112 (by decide) ?_
            refine lv_goto (tgt := 132) hx hb dX6_read_113 (by decide) ?_
            exact hk_15 1 hf H locs ls hW hS (lv_sub hl [0] rfl)
  · refine lv_icmp_gt (tgt := 83) hx hb dX6_read_35 (by decide) (fun hc => ?_) (fun hc => ?_)
    · have hf := ift hc hf
      exact hk_10  hf H locs ls hW hS (lv_sub hl [0] rfl)
    · have hf := iff_ hc hf
      refine lv_iload_n hx hb dX6_read_38 rfl (lv_at hl 1 rfl) ?_
      refine lv_if_eq (tgt := 83) hx hb dX6_read_39 (by decide) (fun hc => ?_) (fun hc => ?_)
      · have hf := ift hc hf
        exact hk_10  hf H locs ls hW hS (lv_sub hl [0] rfl)
      · have hf := iff_ hc hf
        refine lv_aload_n hx hb dX6_read_42 rfl (lv_at hl 0 rfl) ?_
        refine mci hf hS (fun r τ h => va_runV (As := []) (rest := []) ⟨hx, hb, hml, hown, hts⟩ (c_X6_line g l σ_8 r τ h) (cl_X6_34 hts ⟨Nat.le_of_ble_eq_true rfl, Nat.le_of_ble_eq_true rfl⟩) (mpV_6 hZ hT hS hW tz_27 _) rfl rfl hl.1 rfl (lv_room (Nat.le_of_ble_eq_true rfl)) dX6_read_43 ⟨Nat.zero_le _, Nat.zero_le _⟩) (fun r_19 σ_20 H locs hf hW hS => ?_)
        refine jn1_W (fun (i_21 : Int32) => ∀ (H : Heap) (locs : List Loc) (ls : Array Slot), Wd g 0 81 σ_20 H → va_S (Ag g 0) s.heap H locs → lv_has ls 5 [(0, .ref (bs g 27)), (4, .int i_7)] → W p l e (kr 9 196) s m (List.toArray [.ref (bs g 27), .ref (bs g p1), .int a2]) below meth c H locs 0 0 Q (F0 m 65 ls [.int i_21])) hf (fun i_21 hf => ?_) (fun k_22 hk_22 hf => ?_)
        · intro H locs ls hW hS hl
          refine lv_istore_n (lv' := [(3, .int i_21), (0, .ref (bs g 27)), (4, .int i_7)]) hx hb dX6_read_65 rfl hl (by decide) rfl (fun ls hl => ?_)
          refine lv_iload_n hx hb dX6_read_66 rfl (lv_at hl 0 rfl) ?_
          refine jn1_W (fun (σ_23 : Mem) => ∀ (H : Heap) (locs : List Loc) (ls : Array Slot), Wd g 0 81 σ_23 H → va_S (Ag g 0) s.heap H locs → lv_has ls 5 [(0, .ref (bs g 27)), (3, .int i_21), (4, .int i_7)] → W p l e (kr 9 196) s m (List.toArray [.ref (bs g 27), .ref (bs g p1), .int a2]) below meth c H locs 0 0 Q (F0 m 77 ls [])) hf (fun σ_23 hf => ?_) (fun k_24 hk_24 hf => ?_)
          · intro H locs ls hW hS hl
            obtain ⟨x_25, e_26, hf⟩ := nm_s hf
            refine lv_iinc (v := x_25) (lv' := [(4, .int x_25), (0, .ref (bs g 27)), (3, .int i_21)]) hx hb dX6_read_77 hl (k := 2) rfl (by rw [e_26]; rfl) (by decide) rfl (fun ls hl => ?_)
            refine lv_goto (tgt := 30) hx hb dX6_read_80 (by decide) ?_
            exact hk_9 i_21 x_25 σ_23 hf H locs ls hW hS (lv_sub hl [1, 2, 0] rfl)
          · refine lv_if_eq (tgt := 77) hx hb dX6_read_67 (by decide) (fun hc => ?_) (fun hc => ?_)
            · have hf := ift hc hf
              exact hk_24 σ_20 hf H locs ls hW hS (lv_sub hl [1, 0, 2] rfl)
            · have hf := iff_ hc hf
              refine lv_aload_n hx hb dX6_read_70 rfl (lv_at hl 1 rfl) ?_
              refine gf_6_0 hx hb htg (htg _ lf_X6_9) hown hZ hW tz_27 dX6_read_71 ?_
              refine mcv hf hS (fun τ h => va_runV (As := []) (rest := []) ⟨hx, hb, hml, hown, hts⟩ (c_X10_step g l σ_20 τ h) (cl_X6_41 hts ⟨Nat.le_of_ble_eq_true rfl, Nat.le_of_ble_eq_true rfl⟩) (mpV_10 hZ hT hS hW tz_1 _) rfl rfl hl.1 rfl (lv_room (Nat.le_of_ble_eq_true rfl)) dX6_read_74 ⟨Nat.zero_le _, Nat.zero_le _⟩) (fun σ_27 H locs hf hW hS => ?_)
              exact hk_24 σ_27 hf H locs ls hW hS (lv_sub hl [1, 0, 2] rfl)
        · refine jn0_W (∀ (H : Heap) (locs : List Loc) (ls : Array Slot), Wd g 0 81 σ_20 H → va_S (Ag g 0) s.heap H locs → lv_has ls 5 [(0, .ref (bs g 27)), (4, .int i_7)] → W p l e (kr 9 196) s m (List.toArray [.ref (bs g 27), .ref (bs g p1), .int a2]) below meth c H locs 0 0 Q (F0 m 64 ls [])) hf (fun  hf => ?_) (fun k_28 hk_28 hf => ?_)
          · intro H locs ls hW hS hl
            refine lv_iconst (v := 0) hx hb dX6_read_64 (by decide) ?_
            exact hk_22 0 hf H locs ls hW hS (lv_sub hl [0, 1] rfl)
          · refine lv_if_eq (tgt := 64) hx hb dX6_read_46 (by decide) (fun hc => ?_) (fun hc => ?_)
            · have hf := ift hc hf
              exact hk_28  hf H locs ls hW hS (lv_sub hl [0, 2] rfl)
            · have hf := iff_ hc hf
              refine lv_aload_n hx hb dX6_read_49 rfl (lv_at hl 0 rfl) ?_
              refine gf_6_0 hx hb htg (htg _ lf_X6_9) hown hZ hW tz_27 dX6_read_50 ?_
              refine gfN_10_5 hx hb htg ln_X6_38 hown hZ hW tz_1 dX6_read_53 ?_
              refine lv_iconst (v := 4) hx hb dX6_read_56 (by decide) ?_
              refine lv_icmp_ne (tgt := 64) hx hb dX6_read_57 (by decide) (fun hc => ?_) (fun hc => ?_)
              · have hf := iff_ hc hf
                exact hk_28  hf H locs ls hW hS (lv_sub hl [0, 2] rfl)
              · have hf := ift hc hf
                refine lv_iconst (v := 1) hx hb dX6_read_60 (by decide) ?_
                refine lv_goto (tgt := 65) hx hb dX6_read_61 (by decide) ?_
                exact hk_22 1 hf H locs ls hW hS (lv_sub hl [0, 2] rfl)
def f_X9_papersOn (σ : Mem) (p0 : Nat) (a1 : Int32) (a2 : Int32) : Option (Int32) :=
  bd1 (f_X9_latestVisit σ p0 a1 a2) (fun (r_1 : Int32) => (if 0 ≤ r_1 then bd1 (f_X5_at σ (p0 + 2) a1 r_1) (fun (r_2 : Int32) => some r_2) else rfc (σ.2.2 p0 0) (fun (T_3 : Nat) => bd1 (f_X12_get σ (T_3 + 4) a1) (fun (r_4 : Int32) => some r_4))))
set_option maxHeartbeats 4000000 in
set_option maxRecDepth 100000 in
theorem c_X9_papersOn (g : XG) (l : Launch) (lo n : Nat) (σ : Mem) (p0 : Nat) (a1 : Int32) (a2 : Int32) (t0 : tp 9 lo n p0) (r : Int32) (hf : f_X9_papersOn σ p0 a1 a2 = some r) : Met l yX9_papersOn (wx (.code yX9_papersOn cX9_papersOn 4 (some .int))) (kr 3 83) (va_Pc [.ref (bs g p0), .int a1, .int a2] (WS g lo n σ)) (Qi' g lo n r σ) 0 0 (Ag g lo) := by
  refine Met.ofW (cc := cX9_papersOn) (maxL := 4) (ret := (some .int)) (by decide) rfl ?_
  intro p e s m args below meth c s₁ B hml hv
  obtain ⟨rfl, hZ, hT, hW⟩ := hv
  have hx := B.exec
  have hb := B.bytes
  have hr := B.returns
  have hts : ∀ w ∈ wx (.code yX9_papersOn cX9_papersOn 4 (some .int)), w.before _ s = true := atoms_spec B.pre
  have htg : ∀ w ∈ lwg, w.before _ s = true := fun w h => hts w (List.mem_cons_of_mem _ h)
  have hown : s.vm.findClass RX9 = some m.cls := findClass_of_methodNamed B.named
  have hlocks := B.notSynchronized
  change W p l e (kr 3 83) s m (List.toArray [.ref (bs g p0), .int a1, .int a2]) below meth c s.heap [] 0 0 (MQ below (Qi' g lo n r σ) (List.toArray [.ref (bs g p0), .int a1, .int a2]) s 0 0 (Ag g lo)) _
  generalize hQ : MQ below (Qi' g lo n r σ) (List.toArray [.ref (bs g p0), .int a1, .int a2]) s 0 0 (Ag g lo) = Q
  have hS : va_S (Ag g lo) s.heap s.heap [] := va_S.rf
  have hl := lv_entry ([.ref (bs g p0), .int a1, .int a2]) (n := 4) (Nat.le_of_ble_eq_true rfl)
  rw [lg_entry_eq]
  generalize (lg_sl ([.ref (bs g p0), .int a1, .int a2]) ++ List.replicate (4 - (lg_sl ([.ref (bs g p0), .int a1, .int a2])).length) Slot.unset).toArray = ls at hl ⊢
  have hl : lv_has ls 4 [(0, .ref (bs g p0)), (1, .int a1), (2, .int a2)] := hl
  delta f_X9_papersOn at hf
  obtain ⟨H, hH⟩ : ∃ H, H = s.heap := ⟨_, rfl⟩
  obtain ⟨locs, hLc⟩ : ∃ z : List Loc, z = [] := ⟨_, rfl⟩
  have hS : va_S (Ag g lo) s.heap H locs := by rw [hH, hLc]; exact hS
  have hW : Wd g lo n σ H := by rw [hH]; exact hW
  suffices hG : W p l e (kr 3 83) s m (List.toArray [.ref (bs g p0), .int a1, .int a2]) below meth c H locs 0 0 Q (F0 m 0 ls []) by rw [hH, hLc] at hG; exact hG
  clear hH hLc
  refine lv_aload_n hx hb dX9_papersOn_0 rfl (lv_at hl 0 rfl) ?_
  refine lv_iload_n hx hb dX9_papersOn_1 rfl (lv_at hl 1 rfl) ?_
  refine lv_iload_n hx hb dX9_papersOn_2 rfl (lv_at hl 2 rfl) ?_
  refine mcip hf hS (fun r h => va_runV (As := [.int a1, .int a2]) (rest := []) ⟨hx, hb, hml, hown, hts⟩ (c_X9_latestVisit g l lo n σ p0 a1 a2 t0 r h) (cl_X9_75 hts ⟨Nat.le_of_ble_eq_true rfl, Nat.le_of_ble_eq_true rfl⟩) (mpV_9 hZ hT hS hW t0 _) rfl rfl hl.1 rfl (lv_room (Nat.le_of_ble_eq_true rfl)) dX9_papersOn_3 ⟨Nat.zero_le _, Nat.zero_le _⟩) (fun r_1 H locs hf hW hS => ?_)
  refine lv_istore_n (lv' := [(3, .int r_1), (0, .ref (bs g p0)), (1, .int a1), (2, .int a2)]) hx hb dX9_papersOn_6 rfl hl (by decide) rfl (fun ls hl => ?_)
  refine lv_iload_n hx hb dX9_papersOn_7 rfl (lv_at hl 0 rfl) ?_
  refine lv_if_ge (tgt := 25) hx hb dX9_papersOn_8 (by decide) (fun hc => ?_) (fun hc => ?_)
  · have hf := ift hc hf
    refine lv_aload_n hx hb dX9_papersOn_25 rfl (lv_at hl 1 rfl) ?_
    refine gf_9_4 hx hb htg (htg _ lf_X9_18) hown hZ hW t0 dX9_papersOn_26 ?_
    refine lv_iload_n hx hb dX9_papersOn_29 rfl (lv_at hl 2 rfl) ?_
    refine lv_iload_n hx hb dX9_papersOn_30 rfl (lv_at hl 0 rfl) ?_
    refine mcip hf hS (fun r h => va_runV (As := [.int a1, .int r_1]) (rest := []) ⟨hx, hb, hml, hown, hts⟩ (c_X5_at g l lo n σ (p0 + 2) a1 r_1 (t0.sub 5 2 so_9_5_2) r h) (cl_X9_90 hts ⟨Nat.le_of_ble_eq_true rfl, Nat.le_of_ble_eq_true rfl⟩) (mpV_5 hZ hT hS hW (t0.sub 5 2 so_9_5_2) _) rfl rfl hl.1 rfl (lv_room (Nat.le_of_ble_eq_true rfl)) dX9_papersOn_31 ⟨Nat.zero_le _, Nat.zero_le _⟩) (fun r_2 H locs hf hW hS => ?_)
    subst hQ
    exact mri hx hb hr hlocks hZ hT hS hW ⟨Option.some.inj hf, rfl⟩ dX9_papersOn_34
  · have hf := iff_ hc hf
    refine lv_aload_n hx hb dX9_papersOn_11 rfl (lv_at hl 1 rfl) ?_
    refine gf_9_0 hx hb htg (htg _ lf_X9_26) hown hZ hW t0 dX9_papersOn_12 hf (fun T_3 tT_3 hf => ?_)
    refine gfN_11_7 hx hb htg ln_X9_81 hown hZ hW tT_3 dX9_papersOn_15 ?_
    refine lv_iload_n hx hb dX9_papersOn_18 rfl (lv_at hl 2 rfl) ?_
    refine mcip hf hS (fun r h => va_runSN (As := [.ref (bs g (T_3 + 4)), .int a1]) (rest := []) ⟨hx, hb, hml, hown, hts⟩ (c_X12_get g l lo n σ (T_3 + 4) a1 (tT_3.sub 20 4 so_11_20_4) r h) (cl_X9_53 hts hZ ⟨Nat.le_of_ble_eq_true rfl, Nat.le_of_ble_eq_true rfl⟩) (mpS hZ hT hS hW _) rfl rfl hl.1 rfl (lv_room (Nat.le_of_ble_eq_true rfl)) dX9_papersOn_19 ⟨Nat.zero_le _, Nat.zero_le _⟩) (fun r_4 H locs hf hW hS => ?_)
    refine lv_goto (tgt := 34) hx hb dX9_papersOn_22 (by decide) ?_
    subst hQ
    exact mri hx hb hr hlocks hZ hT hS hW ⟨Option.some.inj hf, rfl⟩ dX9_papersOn_34
def f_X7_listDifferences (σ : Mem) (p1 : Nat) (a2 : Int32) : Option (Mem) :=
  nm (sI σ 61 2 0) (fun (σ_1 : Mem) => fx2 FU (fun k_4 (i_2 : Int32) (σ_3 : Mem) => rfc (σ_3.2.2 p1 0) (fun (T_5 : Nat) => bd1 (f_X11_people σ_3 T_5) (fun (r_6 : Int32) => (if r_6 ≤ i_2 then some σ_3 else bd1 (f_X9_papersOn σ_3 p1 i_2 a2) (fun (r_7 : Int32) => fx2 FU (fun k_10 (i_8 : Int32) (σ_9 : Mem) => rfc (σ_9.2.2 p1 0) (fun (T_11 : Nat) => bd1 (f_X11_people σ_9 T_11) (fun (r_12 : Int32) => (if r_12 ≤ i_8 then nm (i_2 + 1) (fun (x_13 : Int32) => k_4 x_13 σ_9) else jn1 (fun (σ_15 : Mem) => nm (i_8 + 1) (fun (x_17 : Int32) => k_10 x_17 σ_15)) (fun k_16 => (if i_8 = i_2 then k_16 σ_9 else bd1 (f_X5_at σ_9 (p1 + 2) i_8 a2) (fun (r_19 : Int32) => bd1 (f_X5_unlikeMarks r_19 r_7) (fun (r_20 : Int32) => bd1 (f_X12_set σ_9 (61 + 1) (σ_9.1 61 2) r_20) (fun (σ_21 : Mem) => nm (sI σ_21 61 2 ((σ_21.1 61 2) + 1)) (fun (σ_22 : Mem) => k_16 σ_22)))))))))) 0 σ_3))))) 0 σ_1)
set_option maxHeartbeats 4000000 in
set_option maxRecDepth 100000 in
theorem c_X7_listDifferences (g : XG) (l : Launch) (σ : Mem) (p1 : Nat) (a2 : Int32) (t1 : tp 9 0 81 p1) (τ : Mem) (hf : f_X7_listDifferences σ p1 a2 = some τ) : Met l yX7_listDifferences (wx (.code yX7_listDifferences cX7_listDifferences 6 none)) (kr 4 106) (va_Pc [.ref (bs g 61), .ref (bs g p1), .int a2] (WS g 0 81 σ)) (Qv' g 0 81 τ) 0 0 (Ag g 0) := by
  refine Met.ofW (cc := cX7_listDifferences) (maxL := 6) (ret := none) (by decide) rfl ?_
  intro p e s m args below meth c s₁ B hml hv
  obtain ⟨rfl, hZ, hT, hW⟩ := hv
  have hx := B.exec
  have hb := B.bytes
  have hr := B.returns
  have hts : ∀ w ∈ wx (.code yX7_listDifferences cX7_listDifferences 6 none), w.before _ s = true := atoms_spec B.pre
  have htg : ∀ w ∈ lwg, w.before _ s = true := fun w h => hts w (List.mem_cons_of_mem _ h)
  have hown : s.vm.findClass RX7 = some m.cls := findClass_of_methodNamed B.named
  have hlocks := B.notSynchronized
  change W p l e (kr 4 106) s m (List.toArray [.ref (bs g 61), .ref (bs g p1), .int a2]) below meth c s.heap [] 0 0 (MQ below (Qv' g 0 81 τ) (List.toArray [.ref (bs g 61), .ref (bs g p1), .int a2]) s 0 0 (Ag g 0)) _
  generalize hQ : MQ below (Qv' g 0 81 τ) (List.toArray [.ref (bs g 61), .ref (bs g p1), .int a2]) s 0 0 (Ag g 0) = Q
  have hS : va_S (Ag g 0) s.heap s.heap [] := va_S.rf
  have hl := lv_entry ([.ref (bs g 61), .ref (bs g p1), .int a2]) (n := 6) (Nat.le_of_ble_eq_true rfl)
  rw [lg_entry_eq]
  generalize (lg_sl ([.ref (bs g 61), .ref (bs g p1), .int a2]) ++ List.replicate (6 - (lg_sl ([.ref (bs g 61), .ref (bs g p1), .int a2])).length) Slot.unset).toArray = ls at hl ⊢
  have hl : lv_has ls 6 [(0, .ref (bs g 61)), (1, .ref (bs g p1)), (2, .int a2)] := hl
  delta f_X7_listDifferences at hf
  obtain ⟨H, hH⟩ : ∃ H, H = s.heap := ⟨_, rfl⟩
  obtain ⟨locs, hLc⟩ : ∃ z : List Loc, z = [] := ⟨_, rfl⟩
  have hS : va_S (Ag g 0) s.heap H locs := by rw [hH, hLc]; exact hS
  have hW : Wd g 0 81 σ H := by rw [hH]; exact hW
  suffices hG : W p l e (kr 4 106) s m (List.toArray [.ref (bs g 61), .ref (bs g p1), .int a2]) below meth c H locs 0 0 Q (F0 m 0 ls []) by rw [hH, hLc] at hG; exact hG
  clear hH hLc
  refine lv_aload_n hx hb dX7_listDifferences_0 rfl (lv_at hl 0 rfl) ?_
  refine lv_iconst (v := 0) hx hb dX7_listDifferences_1 (by decide) ?_
  refine pf_7_2 hx hb htg (htg _ lf_X7_44) hown hZ hW hS tz_61 dX7_listDifferences_2 hf (fun σ_1 H locs hf hW hS => ?_)
  refine lv_iconst (v := 0) hx hb dX7_listDifferences_5 (by decide) ?_
  refine lv_istore_n (lv' := [(3, .int 0), (0, .ref (bs g 61)), (1, .ref (bs g p1)), (2, .int a2)]) hx hb dX7_listDifferences_6 rfl hl (by decide) rfl (fun ls hl => ?_)
  refine fx2_W (fun (i_2 : Int32) (σ_3 : Mem) => ∀ (H : Heap) (locs : List Loc) (ls : Array Slot), Wd g 0 81 σ_3 H → va_S (Ag g 0) s.heap H locs → lv_has ls 6 [(0, .ref (bs g 61)), (1, .ref (bs g p1)), (2, .int a2), (3, .int i_2)] → W p l e (kr 4 106) s m (List.toArray [.ref (bs g 61), .ref (bs g p1), .int a2]) below meth c H locs 0 0 Q (F0 m 7 ls [])) (fun k_4 hk_4 i_2 σ_3 hf => ?_) FU 0 σ_1 hf H locs ls hW hS (lv_sub hl [1, 2, 3, 0] rfl)
  intro H locs ls hW hS hl
  refine lv_iload_n hx hb dX7_listDifferences_7 rfl (lv_at hl 3 rfl) ?_
  refine lv_aload_n hx hb dX7_listDifferences_8 rfl (lv_at hl 1 rfl) ?_
  refine gfN_9_0 hx hb htg ln_X7_22 hown hZ hW t1 dX7_listDifferences_9 hf (fun T_5 tT_5 hf => ?_)
  refine mcip hf hS (fun r h => va_runV (As := []) (rest := [.int i_2]) ⟨hx, hb, hml, hown, hts⟩ (c_X11_people g l 0 81 σ_3 T_5 tT_5 r h) (cl_X7_47 hts ⟨Nat.le_of_ble_eq_true rfl, Nat.le_of_ble_eq_true rfl⟩) (mpV_11 hZ hT hS hW tT_5 _) rfl rfl hl.1 rfl (lv_room (Nat.le_of_ble_eq_true rfl)) dX7_listDifferences_12 ⟨Nat.zero_le _, Nat.zero_le _⟩) (fun r_6 H locs hf hW hS => ?_)
  refine lv_icmp_ge (tgt := 95) hx hb dX7_listDifferences_15 (by decide) (fun hc => ?_) (fun hc => ?_)
  · have hf := ift hc hf
    subst hQ
    exact mrv hx hb hr hlocks hZ hT hS hW (Option.some.inj hf) dX7_listDifferences_95
  · have hf := iff_ hc hf
    refine lv_aload_n hx hb dX7_listDifferences_18 rfl (lv_at hl 1 rfl) ?_
    refine lv_iload_n hx hb dX7_listDifferences_19 rfl (lv_at hl 3 rfl) ?_
    refine lv_iload_n hx hb dX7_listDifferences_20 rfl (lv_at hl 2 rfl) ?_
    refine mcip hf hS (fun r h => va_runV (As := [.int i_2, .int a2]) (rest := []) ⟨hx, hb, hml, hown, hts⟩ (c_X9_papersOn g l 0 81 σ_3 p1 i_2 a2 t1 r h) (cl_X7_51 hts ⟨Nat.le_of_ble_eq_true rfl, Nat.le_of_ble_eq_true rfl⟩) (mpV_9 hZ hT hS hW t1 _) rfl rfl hl.1 rfl (lv_room (Nat.le_of_ble_eq_true rfl)) dX7_listDifferences_21 ⟨Nat.zero_le _, Nat.zero_le _⟩) (fun r_7 H locs hf hW hS => ?_)
    refine lv_istore (lv' := [(4, .int r_7), (0, .ref (bs g 61)), (1, .ref (bs g p1)), (2, .int a2), (3, .int i_2)]) hx hb dX7_listDifferences_24 hl (by decide) rfl (fun ls hl => ?_)
    refine lv_iconst (v := 0) hx hb dX7_listDifferences_26 (by decide) ?_
    refine lv_istore (lv' := [(5, .int 0), (4, .int r_7), (0, .ref (bs g 61)), (1, .ref (bs g p1)), (2, .int a2), (3, .int i_2)]) hx hb dX7_listDifferences_27 hl (by decide) rfl (fun ls hl => ?_)
    refine fx2_W (fun (i_8 : Int32) (σ_9 : Mem) => ∀ (H : Heap) (locs : List Loc) (ls : Array Slot), Wd g 0 81 σ_9 H → va_S (Ag g 0) s.heap H locs → lv_has ls 6 [(0, .ref (bs g 61)), (1, .ref (bs g p1)), (2, .int a2), (3, .int i_2), (4, .int r_7), (5, .int i_8)] → W p l e (kr 4 106) s m (List.toArray [.ref (bs g 61), .ref (bs g p1), .int a2]) below meth c H locs 0 0 Q (F0 m 29 ls [])) (fun k_10 hk_10 i_8 σ_9 hf => ?_) FU 0 σ_3 hf H locs ls hW hS (lv_sub hl [2, 3, 4, 5, 1, 0] rfl)
    intro H locs ls hW hS hl
    refine lv_iload hx hb dX7_listDifferences_29 (lv_at hl 5 rfl) ?_
    refine lv_aload_n hx hb dX7_listDifferences_31 rfl (lv_at hl 1 rfl) ?_
    refine gfN_9_0 hx hb htg ln_X7_22 hown hZ hW t1 dX7_listDifferences_32 hf (fun T_11 tT_11 hf => ?_)
    refine mcip hf hS (fun r h => va_runV (As := []) (rest := [.int i_8]) ⟨hx, hb, hml, hown, hts⟩ (c_X11_people g l 0 81 σ_9 T_11 tT_11 r h) (cl_X7_47 hts ⟨Nat.le_of_ble_eq_true rfl, Nat.le_of_ble_eq_true rfl⟩) (mpV_11 hZ hT hS hW tT_11 _) rfl rfl hl.1 rfl (lv_room (Nat.le_of_ble_eq_true rfl)) dX7_listDifferences_35 ⟨Nat.zero_le _, Nat.zero_le _⟩) (fun r_12 H locs hf hW hS => ?_)
    refine lv_icmp_ge (tgt := 89) hx hb dX7_listDifferences_38 (by decide) (fun hc => ?_) (fun hc => ?_)
    · have hf := ift hc hf
      obtain ⟨x_13, e_14, hf⟩ := nm_s hf
      refine lv_iinc (v := x_13) (lv' := [(3, .int x_13), (0, .ref (bs g 61)), (1, .ref (bs g p1)), (2, .int a2), (4, .int r_7), (5, .int i_8)]) hx hb dX7_listDifferences_89 hl (k := 3) rfl (by rw [e_14]; rfl) (by decide) rfl (fun ls hl => ?_)
      refine lv_goto (tgt := 7) hx hb dX7_listDifferences_92 (by decide) ?_
      exact hk_4 x_13 σ_9 hf H locs ls hW hS (lv_sub hl [1, 2, 3, 0] rfl)
    · have hf := iff_ hc hf
      refine lv_iload hx hb dX7_listDifferences_41 (lv_at hl 5 rfl) ?_
      refine lv_iload_n hx hb dX7_listDifferences_43 rfl (lv_at hl 3 rfl) ?_
      refine jn1_W (fun (σ_15 : Mem) => ∀ (H : Heap) (locs : List Loc) (ls : Array Slot), Wd g 0 81 σ_15 H → va_S (Ag g 0) s.heap H locs → lv_has ls 6 [(0, .ref (bs g 61)), (1, .ref (bs g p1)), (2, .int a2), (3, .int i_2), (4, .int r_7), (5, .int i_8)] → W p l e (kr 4 106) s m (List.toArray [.ref (bs g 61), .ref (bs g p1), .int a2]) below meth c H locs 0 0 Q (F0 m 83 ls [])) hf (fun σ_15 hf => ?_) (fun k_16 hk_16 hf => ?_)
      · intro H locs ls hW hS hl
        obtain ⟨x_17, e_18, hf⟩ := nm_s hf
        refine lv_iinc (v := x_17) (lv' := [(5, .int x_17), (0, .ref (bs g 61)), (1, .ref (bs g p1)), (2, .int a2), (3, .int i_2), (4, .int r_7)]) hx hb dX7_listDifferences_83 hl (k := 5) rfl (by rw [e_18]; rfl) (by decide) rfl (fun ls hl => ?_)
        refine lv_goto (tgt := 29) hx hb dX7_listDifferences_86 (by decide) ?_
        exact hk_10 x_17 σ_15 hf H locs ls hW hS (lv_sub hl [1, 2, 3, 4, 5, 0] rfl)
      · refine lv_icmp_eq (tgt := 83) hx hb dX7_listDifferences_44 (by decide) (fun hc => ?_) (fun hc => ?_)
        · have hf := ift hc hf
          exact hk_16 σ_9 hf H locs ls hW hS (lv_sub hl [0, 1, 2, 3, 4, 5] rfl)
        · have hf := iff_ hc hf
          refine lv_aload_n hx hb dX7_listDifferences_47 rfl (lv_at hl 0 rfl) ?_
          refine gf_7_0 hx hb htg (htg _ lf_X7_9) hown hZ hW tz_61 dX7_listDifferences_48 ?_
          refine lv_aload_n hx hb dX7_listDifferences_51 rfl (lv_at hl 0 rfl) ?_
          refine gf_7_2 hx hb htg (htg _ lf_X7_44) hown hZ hW tz_61 dX7_listDifferences_52 ?_
          refine lv_aload_n hx hb dX7_listDifferences_55 rfl (lv_at hl 1 rfl) ?_
          refine gfN_9_4 hx hb htg ln_X7_55 hown hZ hW t1 dX7_listDifferences_56 ?_
          refine lv_iload hx hb dX7_listDifferences_59 (lv_at hl 5 rfl) ?_
          refine lv_iload_n hx hb dX7_listDifferences_61 rfl (lv_at hl 2 rfl) ?_
          refine mcip hf hS (fun r h => va_runV (As := [.int i_8, .int a2]) (rest := [.int (σ_9.1 61 2), .ref (bs g (61 + 1))]) ⟨hx, hb, hml, hown, hts⟩ (c_X5_at g l 0 81 σ_9 (p1 + 2) i_8 a2 (t1.sub 5 2 so_9_5_2) r h) (cl_X7_59 hts ⟨Nat.le_of_ble_eq_true rfl, Nat.le_of_ble_eq_true rfl⟩) (mpV_5 hZ hT hS hW (t1.sub 5 2 so_9_5_2) _) rfl rfl hl.1 rfl (lv_room (Nat.le_of_ble_eq_true rfl)) dX7_listDifferences_62 ⟨Nat.zero_le _, Nat.zero_le _⟩) (fun r_19 H locs hf hW hS => ?_)
          refine lv_iload hx hb dX7_listDifferences_65 (lv_at hl 4 rfl) ?_
          refine mcip hf hS (fun r h => va_runS (As := [.int r_19, .int r_7]) (rest := [.int (σ_9.1 61 2), .ref (bs g (61 + 1))]) ⟨hx, hb, hml, hown, hts⟩ (c_X5_unlikeMarks g l 0 81 σ_9 r_19 r_7 r h) (cl_X7_64 hts ⟨Nat.le_of_ble_eq_true rfl, Nat.le_of_ble_eq_true rfl⟩) (mpS hZ hT hS hW _) rfl rfl hl.1 rfl (lv_room (Nat.le_of_ble_eq_true rfl)) dX7_listDifferences_67 ⟨Nat.zero_le _, Nat.zero_le _⟩) (fun r_20 H locs hf hW hS => ?_)
          refine mcv hf hS (fun τ h => va_runSN (As := [.ref (bs g (61 + 1)), .int (σ_9.1 61 2), .int r_20]) (rest := []) ⟨hx, hb, hml, hown, hts⟩ (c_X12_set g l 0 81 σ_9 (61 + 1) (σ_9.1 61 2) r_20 (tz_61.sub 20 1 so_7_20_1) τ h) (cl_X7_67 hts hZ ⟨Nat.le_of_ble_eq_true rfl, Nat.le_of_ble_eq_true rfl⟩) (mpS hZ hT hS hW _) rfl rfl hl.1 rfl (lv_room (Nat.le_of_ble_eq_true rfl)) dX7_listDifferences_70 ⟨Nat.zero_le _, Nat.zero_le _⟩) (fun σ_21 H locs hf hW hS => ?_)
          refine lv_aload_n hx hb dX7_listDifferences_73 rfl (lv_at hl 0 rfl) ?_
          refine lv_dup hx hb dX7_listDifferences_74 rfl ?_
          refine gf_7_2 hx hb htg (htg _ lf_X7_44) hown hZ hW tz_61 dX7_listDifferences_75 ?_
          refine lv_iconst (v := 1) hx hb dX7_listDifferences_78 (by decide) ?_
          refine lv_iadd hx hb dX7_listDifferences_79 ?_
          refine pf_7_2 hx hb htg (htg _ lf_X7_44) hown hZ hW hS tz_61 dX7_listDifferences_80 hf (fun σ_22 H locs hf hW hS => ?_)
          exact hk_16 σ_22 hf H locs ls hW hS (lv_sub hl [0, 1, 2, 3, 4, 5] rfl)
def f_X7_tellsAllApart (σ : Mem) (a1 : Int32) : Option (Int32) :=
  fx1 FU (fun k_2 (i_1 : Int32) => (if (σ.1 61 2) ≤ i_1 then some 1 else bd1 (f_X12_get σ (61 + 1) i_1) (fun (r_3 : Int32) => (if (r_3 &&& a1) = 0 then some 0 else nm (i_1 + 1) (fun (x_4 : Int32) => k_2 x_4))))) 0
set_option maxHeartbeats 4000000 in
set_option maxRecDepth 100000 in
theorem c_X7_tellsAllApart (g : XG) (l : Launch) (σ : Mem) (a1 : Int32) (r : Int32) (hf : f_X7_tellsAllApart σ a1 = some r) : Met l yX7_tellsAllApart (wx (.code yX7_tellsAllApart cX7_tellsAllApart 3 (some .boolean))) (kr 1 21) (va_Pc [.ref (bs g 61), .int a1] (WS g 0 81 σ)) (Qi' g 0 81 r σ) 0 0 (Ag g 0) := by
  refine Met.ofW (cc := cX7_tellsAllApart) (maxL := 3) (ret := (some .boolean)) (by decide) rfl ?_
  intro p e s m args below meth c s₁ B hml hv
  obtain ⟨rfl, hZ, hT, hW⟩ := hv
  have hx := B.exec
  have hb := B.bytes
  have hr := B.returns
  have hts : ∀ w ∈ wx (.code yX7_tellsAllApart cX7_tellsAllApart 3 (some .boolean)), w.before _ s = true := atoms_spec B.pre
  have htg : ∀ w ∈ lwg, w.before _ s = true := fun w h => hts w (List.mem_cons_of_mem _ h)
  have hown : s.vm.findClass RX7 = some m.cls := findClass_of_methodNamed B.named
  have hlocks := B.notSynchronized
  change W p l e (kr 1 21) s m (List.toArray [.ref (bs g 61), .int a1]) below meth c s.heap [] 0 0 (MQ below (Qi' g 0 81 r σ) (List.toArray [.ref (bs g 61), .int a1]) s 0 0 (Ag g 0)) _
  generalize hQ : MQ below (Qi' g 0 81 r σ) (List.toArray [.ref (bs g 61), .int a1]) s 0 0 (Ag g 0) = Q
  have hS : va_S (Ag g 0) s.heap s.heap [] := va_S.rf
  have hl := lv_entry ([.ref (bs g 61), .int a1]) (n := 3) (Nat.le_of_ble_eq_true rfl)
  rw [lg_entry_eq]
  generalize (lg_sl ([.ref (bs g 61), .int a1]) ++ List.replicate (3 - (lg_sl ([.ref (bs g 61), .int a1])).length) Slot.unset).toArray = ls at hl ⊢
  have hl : lv_has ls 3 [(0, .ref (bs g 61)), (1, .int a1)] := hl
  delta f_X7_tellsAllApart at hf
  obtain ⟨H, hH⟩ : ∃ H, H = s.heap := ⟨_, rfl⟩
  obtain ⟨locs, hLc⟩ : ∃ z : List Loc, z = [] := ⟨_, rfl⟩
  have hS : va_S (Ag g 0) s.heap H locs := by rw [hH, hLc]; exact hS
  have hW : Wd g 0 81 σ H := by rw [hH]; exact hW
  suffices hG : W p l e (kr 1 21) s m (List.toArray [.ref (bs g 61), .int a1]) below meth c H locs 0 0 Q (F0 m 0 ls []) by rw [hH, hLc] at hG; exact hG
  clear hH hLc
  refine lv_iconst (v := 0) hx hb dX7_tellsAllApart_0 (by decide) ?_
  refine lv_istore_n (lv' := [(2, .int 0), (0, .ref (bs g 61)), (1, .int a1)]) hx hb dX7_tellsAllApart_1 rfl hl (by decide) rfl (fun ls hl => ?_)
  refine fx1_W (fun (i_1 : Int32) => ∀ (H : Heap) (locs : List Loc) (ls : Array Slot), Wd g 0 81 σ H → va_S (Ag g 0) s.heap H locs → lv_has ls 3 [(0, .ref (bs g 61)), (1, .int a1), (2, .int i_1)] → W p l e (kr 1 21) s m (List.toArray [.ref (bs g 61), .int a1]) below meth c H locs 0 0 Q (F0 m 2 ls [])) (fun k_2 hk_2 i_1 hf => ?_) FU 0 hf H locs ls hW hS (lv_sub hl [1, 2, 0] rfl)
  intro H locs ls hW hS hl
  refine lv_iload_n hx hb dX7_tellsAllApart_2 rfl (lv_at hl 2 rfl) ?_
  refine lv_aload_n hx hb dX7_tellsAllApart_3 rfl (lv_at hl 0 rfl) ?_
  refine gf_7_2 hx hb htg (htg _ lf_X7_44) hown hZ hW tz_61 dX7_tellsAllApart_4 ?_
  refine lv_icmp_ge (tgt := 31) hx hb dX7_tellsAllApart_7 (by decide) (fun hc => ?_) (fun hc => ?_)
  · have hf := ift hc hf
    refine lv_iconst (v := 1) hx hb dX7_tellsAllApart_31 (by decide) ?_
    subst hQ
    exact mrz hx hb hr hlocks hZ hT hS hW (by decide) ⟨Option.some.inj hf, rfl⟩ dX7_tellsAllApart_32
  · have hf := iff_ hc hf
    refine lv_aload_n hx hb dX7_tellsAllApart_10 rfl (lv_at hl 0 rfl) ?_
    refine gf_7_0 hx hb htg (htg _ lf_X7_9) hown hZ hW tz_61 dX7_tellsAllApart_11 ?_
    refine lv_iload_n hx hb dX7_tellsAllApart_14 rfl (lv_at hl 2 rfl) ?_
    refine mcip hf hS (fun r h => va_runSN (As := [.ref (bs g (61 + 1)), .int i_1]) (rest := []) ⟨hx, hb, hml, hown, hts⟩ (c_X12_get g l 0 81 σ (61 + 1) i_1 (tz_61.sub 20 1 so_7_20_1) r h) (cl_X7_71 hts hZ ⟨Nat.le_of_ble_eq_true rfl, Nat.le_of_ble_eq_true rfl⟩) (mpS hZ hT hS hW _) rfl rfl hl.1 rfl (lv_room (Nat.le_of_ble_eq_true rfl)) dX7_tellsAllApart_15 ⟨Nat.zero_le _, Nat.zero_le _⟩) (fun r_3 H locs hf hW hS => ?_)
    refine lv_iload_n hx hb dX7_tellsAllApart_18 rfl (lv_at hl 1 rfl) ?_
    refine lv_iand hx hb dX7_tellsAllApart_19 ?_
    refine lv_if_ne (tgt := 25) hx hb dX7_tellsAllApart_20 (by decide) (fun hc => ?_) (fun hc => ?_)
    · have hf := iff_ hc hf
      obtain ⟨x_4, e_5, hf⟩ := nm_s hf
      refine lv_iinc (v := x_4) (lv' := [(2, .int x_4), (0, .ref (bs g 61)), (1, .int a1)]) hx hb dX7_tellsAllApart_25 hl (k := 2) rfl (by rw [e_5]; rfl) (by decide) rfl (fun ls hl => ?_)
      refine lv_goto (tgt := 2) hx hb dX7_tellsAllApart_28 (by decide) ?_
      exact hk_2 x_4 hf H locs ls hW hS (lv_sub hl [1, 2, 0] rfl)
    · have hf := ift hc hf
      refine lv_iconst (v := 0) hx hb dX7_tellsAllApart_23 (by decide) ?_
      subst hQ
      exact mrz hx hb hr hlocks hZ hT hS hW (by decide) ⟨Option.some.inj hf, rfl⟩ dX7_tellsAllApart_24
def f_X7_marksToGuard (σ : Mem) (p1 : Nat) (a2 : Int32) : Option (Int32 × Mem) :=
  bd1 (f_X7_listDifferences σ p1 a2) (fun (σ_1 : Mem) => fx3 FU (fun k_5 (i_2 : Int32) (i_3 : Int32) (i_4 : Int32) => rfc (σ_1.2.2 p1 0) (fun (T_6 : Nat) => (if (1 <<< ((σ_1.1 T_6 0) &&& 31)) ≤ i_4 then some (i_2, σ_1) else bd1 (f_J6_bitCount_0f7a4 i_4) (fun (r_7 : Int32) => jn2 (fun (i_8 : Int32) (i_9 : Int32) => nm (i_4 + 1) (fun (x_11 : Int32) => k_5 i_8 i_9 x_11)) (fun k_10 => (if i_3 ≤ r_7 then k_10 i_2 i_3 else bd1 (f_X7_tellsAllApart σ_1 i_4) (fun (r_13 : Int32) => (if r_13 = 0 then k_10 i_2 i_3 else bd1 (f_J6_bitCount_0f7a4 i_4) (fun (r_14 : Int32) => k_10 i_4 r_14))))))))) (-2) 7 0)
set_option maxHeartbeats 4000000 in
set_option maxRecDepth 100000 in
theorem c_X7_marksToGuard (g : XG) (l : Launch) (σ : Mem) (p1 : Nat) (a2 : Int32) (t1 : tp 9 0 81 p1) (r : Int32) (τ : Mem) (hf : f_X7_marksToGuard σ p1 a2 = some (r, τ)) : Met l yX7_marksToGuard (wx (.code yX7_marksToGuard cX7_marksToGuard 6 (some .int))) (kr 5 131) (va_Pc [.ref (bs g 61), .ref (bs g p1), .int a2] (WS g 0 81 σ)) (Qi' g 0 81 r τ) 0 0 (Ag g 0) := by
  refine Met.ofW (cc := cX7_marksToGuard) (maxL := 6) (ret := (some .int)) (by decide) rfl ?_
  intro p e s m args below meth c s₁ B hml hv
  obtain ⟨rfl, hZ, hT, hW⟩ := hv
  have hx := B.exec
  have hb := B.bytes
  have hr := B.returns
  have hts : ∀ w ∈ wx (.code yX7_marksToGuard cX7_marksToGuard 6 (some .int)), w.before _ s = true := atoms_spec B.pre
  have htg : ∀ w ∈ lwg, w.before _ s = true := fun w h => hts w (List.mem_cons_of_mem _ h)
  have hown : s.vm.findClass RX7 = some m.cls := findClass_of_methodNamed B.named
  have hlocks := B.notSynchronized
  change W p l e (kr 5 131) s m (List.toArray [.ref (bs g 61), .ref (bs g p1), .int a2]) below meth c s.heap [] 0 0 (MQ below (Qi' g 0 81 r τ) (List.toArray [.ref (bs g 61), .ref (bs g p1), .int a2]) s 0 0 (Ag g 0)) _
  generalize hQ : MQ below (Qi' g 0 81 r τ) (List.toArray [.ref (bs g 61), .ref (bs g p1), .int a2]) s 0 0 (Ag g 0) = Q
  have hS : va_S (Ag g 0) s.heap s.heap [] := va_S.rf
  have hl := lv_entry ([.ref (bs g 61), .ref (bs g p1), .int a2]) (n := 6) (Nat.le_of_ble_eq_true rfl)
  rw [lg_entry_eq]
  generalize (lg_sl ([.ref (bs g 61), .ref (bs g p1), .int a2]) ++ List.replicate (6 - (lg_sl ([.ref (bs g 61), .ref (bs g p1), .int a2])).length) Slot.unset).toArray = ls at hl ⊢
  have hl : lv_has ls 6 [(0, .ref (bs g 61)), (1, .ref (bs g p1)), (2, .int a2)] := hl
  delta f_X7_marksToGuard at hf
  obtain ⟨H, hH⟩ : ∃ H, H = s.heap := ⟨_, rfl⟩
  obtain ⟨locs, hLc⟩ : ∃ z : List Loc, z = [] := ⟨_, rfl⟩
  have hS : va_S (Ag g 0) s.heap H locs := by rw [hH, hLc]; exact hS
  have hW : Wd g 0 81 σ H := by rw [hH]; exact hW
  suffices hG : W p l e (kr 5 131) s m (List.toArray [.ref (bs g 61), .ref (bs g p1), .int a2]) below meth c H locs 0 0 Q (F0 m 0 ls []) by rw [hH, hLc] at hG; exact hG
  clear hH hLc
  refine lv_aload_n hx hb dX7_marksToGuard_0 rfl (lv_at hl 0 rfl) ?_
  refine lv_aload_n hx hb dX7_marksToGuard_1 rfl (lv_at hl 1 rfl) ?_
  refine lv_iload_n hx hb dX7_marksToGuard_2 rfl (lv_at hl 2 rfl) ?_
  refine mcv hf hS (fun τ h => va_runV (As := [.ref (bs g p1), .int a2]) (rest := []) ⟨hx, hb, hml, hown, hts⟩ (c_X7_listDifferences g l σ p1 a2 t1 τ h) (cl_X7_18 hts ⟨Nat.le_of_ble_eq_true rfl, Nat.le_of_ble_eq_true rfl⟩) (mpV_7 hZ hT hS hW tz_61 _) rfl rfl hl.1 rfl (lv_room (Nat.le_of_ble_eq_true rfl)) dX7_marksToGuard_3 ⟨Nat.zero_le _, Nat.zero_le _⟩) (fun σ_1 H locs hf hW hS => ?_)
  refine lv_bipush (v := (-2)) hx hb dX7_marksToGuard_6 (by decide) ?_
  refine lv_istore_n (lv' := [(3, .int (-2)), (0, .ref (bs g 61)), (1, .ref (bs g p1)), (2, .int a2)]) hx hb dX7_marksToGuard_8 rfl hl (by decide) rfl (fun ls hl => ?_)
  refine lv_bipush (v := 7) hx hb dX7_marksToGuard_9 (by decide) ?_
  refine lv_istore (lv' := [(4, .int 7), (3, .int (-2)), (0, .ref (bs g 61)), (1, .ref (bs g p1)), (2, .int a2)]) hx hb dX7_marksToGuard_11 hl (by decide) rfl (fun ls hl => ?_)
  refine lv_iconst (v := 0) hx hb dX7_marksToGuard_13 (by decide) ?_
  refine lv_istore (lv' := [(5, .int 0), (4, .int 7), (3, .int (-2)), (0, .ref (bs g 61)), (1, .ref (bs g p1)), (2, .int a2)]) hx hb dX7_marksToGuard_14 hl (by decide) rfl (fun ls hl => ?_)
  refine fx3_W (fun (i_2 : Int32) (i_3 : Int32) (i_4 : Int32) => ∀ (H : Heap) (locs : List Loc) (ls : Array Slot), Wd g 0 81 σ_1 H → va_S (Ag g 0) s.heap H locs → lv_has ls 6 [(0, .ref (bs g 61)), (1, .ref (bs g p1)), (3, .int i_2), (4, .int i_3), (5, .int i_4)] → W p l e (kr 5 131) s m (List.toArray [.ref (bs g 61), .ref (bs g p1), .int a2]) below meth c H locs 0 0 Q (F0 m 16 ls [])) (fun k_5 hk_5 i_2 i_3 i_4 hf => ?_) FU (-2) 7 0 hf H locs ls hW hS (lv_sub hl [3, 4, 2, 1, 0] rfl)
  intro H locs ls hW hS hl
  refine lv_iload hx hb dX7_marksToGuard_16 (lv_at hl 4 rfl) ?_
  refine lv_iconst (v := 1) hx hb dX7_marksToGuard_18 (by decide) ?_
  refine lv_aload_n hx hb dX7_marksToGuard_19 rfl (lv_at hl 1 rfl) ?_
  refine gfN_9_0 hx hb htg ln_X7_22 hown hZ hW t1 dX7_marksToGuard_20 hf (fun T_6 tT_6 hf => ?_)
  refine gfN_11_0 hx hb htg ln_X7_28 hown hZ hW tT_6 dX7_marksToGuard_23 ?_
  refine lv_ishl hx hb dX7_marksToGuard_26 ?_
  refine lv_icmp_ge (tgt := 65) hx hb dX7_marksToGuard_27 (by decide) (fun hc => ?_) (fun hc => ?_)
  · have hf := ift hc hf
    refine lv_iload_n hx hb dX7_marksToGuard_65 rfl (lv_at hl 2 rfl) ?_
    subst hQ
    exact mri hx hb hr hlocks hZ hT hS hW (pr1 hf) dX7_marksToGuard_66
  · have hf := iff_ hc hf
    refine lv_iload hx hb dX7_marksToGuard_30 (lv_at hl 4 rfl) ?_
    refine mcip hf hS (fun r h => va_runS (As := [.int i_4]) (rest := []) ⟨hx, hb, hml, hown, hts⟩ (c_J6_bitCount_0f7a4 g l 0 81 σ_1 i_4 r h) (cl_X7_34 hts ⟨Nat.le_of_ble_eq_true rfl, Nat.le_of_ble_eq_true rfl⟩) (mpS hZ hT hS hW _) rfl rfl hl.1 rfl (lv_room (Nat.le_of_ble_eq_true rfl)) dX7_marksToGuard_32 ⟨Nat.zero_le _, Nat.zero_le _⟩) (fun r_7 H locs hf hW hS => ?_)
    refine lv_iload hx hb dX7_marksToGuard_35 (lv_at hl 3 rfl) ?_
    refine jn2_W (fun (i_8 : Int32) (i_9 : Int32) => ∀ (H : Heap) (locs : List Loc) (ls : Array Slot), Wd g 0 81 σ_1 H → va_S (Ag g 0) s.heap H locs → lv_has ls 6 [(0, .ref (bs g 61)), (1, .ref (bs g p1)), (3, .int i_8), (4, .int i_9), (5, .int i_4)] → W p l e (kr 5 131) s m (List.toArray [.ref (bs g 61), .ref (bs g p1), .int a2]) below meth c H locs 0 0 Q (F0 m 59 ls [])) hf (fun i_8 i_9 hf => ?_) (fun k_10 hk_10 hf => ?_)
    · intro H locs ls hW hS hl
      obtain ⟨x_11, e_12, hf⟩ := nm_s hf
      refine lv_iinc (v := x_11) (lv' := [(5, .int x_11), (0, .ref (bs g 61)), (1, .ref (bs g p1)), (3, .int i_8), (4, .int i_9)]) hx hb dX7_marksToGuard_59 hl (k := 4) rfl (by rw [e_12]; rfl) (by decide) rfl (fun ls hl => ?_)
      refine lv_goto (tgt := 16) hx hb dX7_marksToGuard_62 (by decide) ?_
      exact hk_5 i_8 i_9 x_11 hf H locs ls hW hS (lv_sub hl [1, 2, 3, 4, 0] rfl)
    · refine lv_icmp_ge (tgt := 59) hx hb dX7_marksToGuard_37 (by decide) (fun hc => ?_) (fun hc => ?_)
      · have hf := ift hc hf
        exact hk_10 i_2 i_3 hf H locs ls hW hS (lv_sub hl [0, 1, 2, 3, 4] rfl)
      · have hf := iff_ hc hf
        refine lv_aload_n hx hb dX7_marksToGuard_40 rfl (lv_at hl 0 rfl) ?_
        refine lv_iload hx hb dX7_marksToGuard_41 (lv_at hl 4 rfl) ?_
        refine mcip hf hS (fun r h => va_runV (As := [.int i_4]) (rest := []) ⟨hx, hb, hml, hown, hts⟩ (c_X7_tellsAllApart g l σ_1 i_4 r h) (cl_X7_40 hts ⟨Nat.le_of_ble_eq_true rfl, Nat.le_of_ble_eq_true rfl⟩) (mpV_7 hZ hT hS hW tz_61 _) rfl rfl hl.1 rfl (lv_room (Nat.le_of_ble_eq_true rfl)) dX7_marksToGuard_43 ⟨Nat.zero_le _, Nat.zero_le _⟩) (fun r_13 H locs hf hW hS => ?_)
        refine lv_if_eq (tgt := 59) hx hb dX7_marksToGuard_46 (by decide) (fun hc => ?_) (fun hc => ?_)
        · have hf := ift hc hf
          exact hk_10 i_2 i_3 hf H locs ls hW hS (lv_sub hl [0, 1, 2, 3, 4] rfl)
        · have hf := iff_ hc hf
          refine lv_iload hx hb dX7_marksToGuard_49 (lv_at hl 4 rfl) ?_
          refine lv_istore_n (lv' := [(3, .int i_4), (0, .ref (bs g 61)), (1, .ref (bs g p1)), (4, .int i_3), (5, .int i_4)]) hx hb dX7_marksToGuard_51 rfl hl (by decide) rfl (fun ls hl => ?_)
          refine lv_iload hx hb dX7_marksToGuard_52 (lv_at hl 4 rfl) ?_
          refine mcip hf hS (fun r h => va_runS (As := [.int i_4]) (rest := []) ⟨hx, hb, hml, hown, hts⟩ (c_J6_bitCount_0f7a4 g l 0 81 σ_1 i_4 r h) (cl_X7_34 hts ⟨Nat.le_of_ble_eq_true rfl, Nat.le_of_ble_eq_true rfl⟩) (mpS hZ hT hS hW _) rfl rfl hl.1 rfl (lv_room (Nat.le_of_ble_eq_true rfl)) dX7_marksToGuard_54 ⟨Nat.zero_le _, Nat.zero_le _⟩) (fun r_14 H locs hf hW hS => ?_)
          refine lv_istore (lv' := [(4, .int r_14), (3, .int i_4), (0, .ref (bs g 61)), (1, .ref (bs g p1)), (5, .int i_4)]) hx hb dX7_marksToGuard_57 hl (by decide) rfl (fun ls hl => ?_)
          exact hk_10 i_4 r_14 hf H locs ls hW hS (lv_sub hl [2, 3, 1, 0, 4] rfl)
def f_X7_countLooks (σ : Mem) (p0 : Nat) : Option (Int32) :=
  some (1 <<< ((2 * (σ.1 p0 0)) &&& 31))
set_option maxHeartbeats 4000000 in
set_option maxRecDepth 100000 in
theorem c_X7_countLooks (g : XG) (l : Launch) (lo n : Nat) (σ : Mem) (p0 : Nat) (t0 : tp 11 lo n p0) (r : Int32) (hf : f_X7_countLooks σ p0 = some r) : Met l yX7_countLooks (wx (.code yX7_countLooks cX7_countLooks 1 (some .int))) (kr 0 0) (va_Pc [.ref (bs g p0)] (WS g lo n σ)) (Qi' g lo n r σ) 0 0 (Ag g lo) := by
  refine Met.ofW (cc := cX7_countLooks) (maxL := 1) (ret := (some .int)) (by decide) rfl ?_
  intro p e s m args below meth c s₁ B hml hv
  obtain ⟨rfl, hZ, hT, hW⟩ := hv
  have hx := B.exec
  have hb := B.bytes
  have hr := B.returns
  have hts : ∀ w ∈ wx (.code yX7_countLooks cX7_countLooks 1 (some .int)), w.before _ s = true := atoms_spec B.pre
  have htg : ∀ w ∈ lwg, w.before _ s = true := fun w h => hts w (List.mem_cons_of_mem _ h)
  have hown : s.vm.findClass RX7 = some m.cls := findClass_of_methodNamed B.named
  have hlocks := B.notSynchronized
  change W p l e (kr 0 0) s m (List.toArray [.ref (bs g p0)]) below meth c s.heap [] 0 0 (MQ below (Qi' g lo n r σ) (List.toArray [.ref (bs g p0)]) s 0 0 (Ag g lo)) _
  generalize hQ : MQ below (Qi' g lo n r σ) (List.toArray [.ref (bs g p0)]) s 0 0 (Ag g lo) = Q
  have hS : va_S (Ag g lo) s.heap s.heap [] := va_S.rf
  have hl := lv_entry ([.ref (bs g p0)]) (n := 1) (Nat.le_of_ble_eq_true rfl)
  rw [lg_entry_eq]
  generalize (lg_sl ([.ref (bs g p0)]) ++ List.replicate (1 - (lg_sl ([.ref (bs g p0)])).length) Slot.unset).toArray = ls at hl ⊢
  have hl : lv_has ls 1 [(0, .ref (bs g p0))] := hl
  delta f_X7_countLooks at hf
  obtain ⟨H, hH⟩ : ∃ H, H = s.heap := ⟨_, rfl⟩
  obtain ⟨locs, hLc⟩ : ∃ z : List Loc, z = [] := ⟨_, rfl⟩
  have hS : va_S (Ag g lo) s.heap H locs := by rw [hH, hLc]; exact hS
  have hW : Wd g lo n σ H := by rw [hH]; exact hW
  suffices hG : W p l e (kr 0 0) s m (List.toArray [.ref (bs g p0)]) below meth c H locs 0 0 Q (F0 m 0 ls []) by rw [hH, hLc] at hG; exact hG
  clear hH hLc
  refine lv_iconst (v := 1) hx hb dX7_countLooks_0 (by decide) ?_
  refine lv_iconst (v := 2) hx hb dX7_countLooks_1 (by decide) ?_
  refine lv_aload_n hx hb dX7_countLooks_2 rfl (lv_at hl 0 rfl) ?_
  refine gfN_11_0 hx hb htg ln_X7_28 hown hZ hW t0 dX7_countLooks_3 ?_
  refine lv_imul hx hb dX7_countLooks_6 ?_
  refine lv_ishl hx hb dX7_countLooks_7 ?_
  subst hQ
  exact mri hx hb hr hlocks hZ hT hS hW ⟨Option.some.inj hf, rfl⟩ dX7_countLooks_8
def f_X7_nthLook (σ : Mem) (p0 : Nat) (a1 : Int32) : Option (Int32) :=
  some (a1 <<< ((2 * (6 - (σ.1 p0 0))) &&& 31))
set_option maxHeartbeats 4000000 in
set_option maxRecDepth 100000 in
theorem c_X7_nthLook (g : XG) (l : Launch) (lo n : Nat) (σ : Mem) (p0 : Nat) (a1 : Int32) (t0 : tp 11 lo n p0) (r : Int32) (hf : f_X7_nthLook σ p0 a1 = some r) : Met l yX7_nthLook (wx (.code yX7_nthLook cX7_nthLook 2 (some .int))) (kr 0 0) (va_Pc [.ref (bs g p0), .int a1] (WS g lo n σ)) (Qi' g lo n r σ) 0 0 (Ag g lo) := by
  refine Met.ofW (cc := cX7_nthLook) (maxL := 2) (ret := (some .int)) (by decide) rfl ?_
  intro p e s m args below meth c s₁ B hml hv
  obtain ⟨rfl, hZ, hT, hW⟩ := hv
  have hx := B.exec
  have hb := B.bytes
  have hr := B.returns
  have hts : ∀ w ∈ wx (.code yX7_nthLook cX7_nthLook 2 (some .int)), w.before _ s = true := atoms_spec B.pre
  have htg : ∀ w ∈ lwg, w.before _ s = true := fun w h => hts w (List.mem_cons_of_mem _ h)
  have hown : s.vm.findClass RX7 = some m.cls := findClass_of_methodNamed B.named
  have hlocks := B.notSynchronized
  change W p l e (kr 0 0) s m (List.toArray [.ref (bs g p0), .int a1]) below meth c s.heap [] 0 0 (MQ below (Qi' g lo n r σ) (List.toArray [.ref (bs g p0), .int a1]) s 0 0 (Ag g lo)) _
  generalize hQ : MQ below (Qi' g lo n r σ) (List.toArray [.ref (bs g p0), .int a1]) s 0 0 (Ag g lo) = Q
  have hS : va_S (Ag g lo) s.heap s.heap [] := va_S.rf
  have hl := lv_entry ([.ref (bs g p0), .int a1]) (n := 2) (Nat.le_of_ble_eq_true rfl)
  rw [lg_entry_eq]
  generalize (lg_sl ([.ref (bs g p0), .int a1]) ++ List.replicate (2 - (lg_sl ([.ref (bs g p0), .int a1])).length) Slot.unset).toArray = ls at hl ⊢
  have hl : lv_has ls 2 [(0, .ref (bs g p0)), (1, .int a1)] := hl
  delta f_X7_nthLook at hf
  obtain ⟨H, hH⟩ : ∃ H, H = s.heap := ⟨_, rfl⟩
  obtain ⟨locs, hLc⟩ : ∃ z : List Loc, z = [] := ⟨_, rfl⟩
  have hS : va_S (Ag g lo) s.heap H locs := by rw [hH, hLc]; exact hS
  have hW : Wd g lo n σ H := by rw [hH]; exact hW
  suffices hG : W p l e (kr 0 0) s m (List.toArray [.ref (bs g p0), .int a1]) below meth c H locs 0 0 Q (F0 m 0 ls []) by rw [hH, hLc] at hG; exact hG
  clear hH hLc
  refine lv_iload_n hx hb dX7_nthLook_0 rfl (lv_at hl 1 rfl) ?_
  refine lv_iconst (v := 2) hx hb dX7_nthLook_1 (by decide) ?_
  refine lv_bipush (v := 6) hx hb dX7_nthLook_2 (by decide) ?_
  refine lv_aload_n hx hb dX7_nthLook_4 rfl (lv_at hl 0 rfl) ?_
  refine gfN_11_0 hx hb htg ln_X7_28 hown hZ hW t0 dX7_nthLook_5 ?_
  refine lv_isub hx hb dX7_nthLook_8 ?_
  refine lv_imul hx hb dX7_nthLook_9 ?_
  refine lv_ishl hx hb dX7_nthLook_10 ?_
  subst hQ
  exact mri hx hb hr hlocks hZ hT hS hW ⟨Option.some.inj hf, rfl⟩ dX7_nthLook_11
def f_X7_alike (σ : Mem) (p0 : Nat) (a1 : Int32) (a2 : Int32) : Option (Int32) :=
  bd1 (f_X12_get σ (p0 + 4) a2) (fun (r_1 : Int32) => bd1 (f_X5_unlike a1 r_1) (fun (r_2 : Int32) => some ((σ.1 p0 0) - r_2)))
set_option maxHeartbeats 4000000 in
set_option maxRecDepth 100000 in
theorem c_X7_alike (g : XG) (l : Launch) (lo n : Nat) (σ : Mem) (p0 : Nat) (a1 : Int32) (a2 : Int32) (t0 : tp 11 lo n p0) (r : Int32) (hf : f_X7_alike σ p0 a1 a2 = some r) : Met l yX7_alike (wx (.code yX7_alike cX7_alike 3 (some .int))) (kr 2 42) (va_Pc [.ref (bs g p0), .int a1, .int a2] (WS g lo n σ)) (Qi' g lo n r σ) 0 0 (Ag g lo) := by
  refine Met.ofW (cc := cX7_alike) (maxL := 3) (ret := (some .int)) (by decide) rfl ?_
  intro p e s m args below meth c s₁ B hml hv
  obtain ⟨rfl, hZ, hT, hW⟩ := hv
  have hx := B.exec
  have hb := B.bytes
  have hr := B.returns
  have hts : ∀ w ∈ wx (.code yX7_alike cX7_alike 3 (some .int)), w.before _ s = true := atoms_spec B.pre
  have htg : ∀ w ∈ lwg, w.before _ s = true := fun w h => hts w (List.mem_cons_of_mem _ h)
  have hown : s.vm.findClass RX7 = some m.cls := findClass_of_methodNamed B.named
  have hlocks := B.notSynchronized
  change W p l e (kr 2 42) s m (List.toArray [.ref (bs g p0), .int a1, .int a2]) below meth c s.heap [] 0 0 (MQ below (Qi' g lo n r σ) (List.toArray [.ref (bs g p0), .int a1, .int a2]) s 0 0 (Ag g lo)) _
  generalize hQ : MQ below (Qi' g lo n r σ) (List.toArray [.ref (bs g p0), .int a1, .int a2]) s 0 0 (Ag g lo) = Q
  have hS : va_S (Ag g lo) s.heap s.heap [] := va_S.rf
  have hl := lv_entry ([.ref (bs g p0), .int a1, .int a2]) (n := 3) (Nat.le_of_ble_eq_true rfl)
  rw [lg_entry_eq]
  generalize (lg_sl ([.ref (bs g p0), .int a1, .int a2]) ++ List.replicate (3 - (lg_sl ([.ref (bs g p0), .int a1, .int a2])).length) Slot.unset).toArray = ls at hl ⊢
  have hl : lv_has ls 3 [(0, .ref (bs g p0)), (1, .int a1), (2, .int a2)] := hl
  delta f_X7_alike at hf
  obtain ⟨H, hH⟩ : ∃ H, H = s.heap := ⟨_, rfl⟩
  obtain ⟨locs, hLc⟩ : ∃ z : List Loc, z = [] := ⟨_, rfl⟩
  have hS : va_S (Ag g lo) s.heap H locs := by rw [hH, hLc]; exact hS
  have hW : Wd g lo n σ H := by rw [hH]; exact hW
  suffices hG : W p l e (kr 2 42) s m (List.toArray [.ref (bs g p0), .int a1, .int a2]) below meth c H locs 0 0 Q (F0 m 0 ls []) by rw [hH, hLc] at hG; exact hG
  clear hH hLc
  refine lv_aload_n hx hb dX7_alike_0 rfl (lv_at hl 0 rfl) ?_
  refine gfN_11_0 hx hb htg ln_X7_28 hown hZ hW t0 dX7_alike_1 ?_
  refine lv_iload_n hx hb dX7_alike_4 rfl (lv_at hl 1 rfl) ?_
  refine lv_aload_n hx hb dX7_alike_5 rfl (lv_at hl 0 rfl) ?_
  refine gfN_11_7 hx hb htg ln_X7_75 hown hZ hW t0 dX7_alike_6 ?_
  refine lv_iload_n hx hb dX7_alike_9 rfl (lv_at hl 2 rfl) ?_
  refine mcip hf hS (fun r h => va_runSN (As := [.ref (bs g (p0 + 4)), .int a2]) (rest := [.int a1, .int (σ.1 p0 0)]) ⟨hx, hb, hml, hown, hts⟩ (c_X12_get g l lo n σ (p0 + 4) a2 (t0.sub 20 4 so_11_20_4) r h) (cl_X7_71 hts hZ ⟨Nat.le_of_ble_eq_true rfl, Nat.le_of_ble_eq_true rfl⟩) (mpS hZ hT hS hW _) rfl rfl hl.1 rfl (lv_room (Nat.le_of_ble_eq_true rfl)) dX7_alike_10 ⟨Nat.zero_le _, Nat.zero_le _⟩) (fun r_1 H locs hf hW hS => ?_)
  refine mcip hf hS (fun r h => va_runS (As := [.int a1, .int r_1]) (rest := [.int (σ.1 p0 0)]) ⟨hx, hb, hml, hown, hts⟩ (c_X5_unlike g l lo n σ a1 r_1 r h) (cl_X7_78 hts ⟨Nat.le_of_ble_eq_true rfl, Nat.le_of_ble_eq_true rfl⟩) (mpS hZ hT hS hW _) rfl rfl hl.1 rfl (lv_room (Nat.le_of_ble_eq_true rfl)) dX7_alike_13 ⟨Nat.zero_le _, Nat.zero_le _⟩) (fun r_2 H locs hf hW hS => ?_)
  refine lv_isub hx hb dX7_alike_16 ?_
  subst hQ
  exact mri hx hb hr hlocks hZ hT hS hW ⟨Option.some.inj hf, rfl⟩ dX7_alike_17
def f_X7_fits (σ : Mem) (p0 : Nat) (a1 : Int32) : Option (Int32) :=
  fx1 FU (fun k_2 (i_1 : Int32) => bd1 (f_X11_people σ p0) (fun (r_3 : Int32) => (if r_3 ≤ i_1 then some 1 else bd1 (f_X11_isStaredAt σ p0 i_1) (fun (r_4 : Int32) => jn0 (nm (i_1 + 1) (fun (x_6 : Int32) => k_2 x_6)) (fun k_5 => (if r_4 = 0 then k_5 else bd1 (f_X7_alike σ p0 a1 i_1) (fun (r_8 : Int32) => bd1 (f_X12_get σ (p0 + 11) i_1) (fun (r_9 : Int32) => (if r_8 = r_9 then k_5 else some 0))))))))) 0
set_option maxHeartbeats 4000000 in
set_option maxRecDepth 100000 in
theorem c_X7_fits (g : XG) (l : Launch) (lo n : Nat) (σ : Mem) (p0 : Nat) (a1 : Int32) (t0 : tp 11 lo n p0) (r : Int32) (hf : f_X7_fits σ p0 a1 = some r) : Met l yX7_fits (wx (.code yX7_fits cX7_fits 3 (some .boolean))) (kr 3 64) (va_Pc [.ref (bs g p0), .int a1] (WS g lo n σ)) (Qi' g lo n r σ) 0 0 (Ag g lo) := by
  refine Met.ofW (cc := cX7_fits) (maxL := 3) (ret := (some .boolean)) (by decide) rfl ?_
  intro p e s m args below meth c s₁ B hml hv
  obtain ⟨rfl, hZ, hT, hW⟩ := hv
  have hx := B.exec
  have hb := B.bytes
  have hr := B.returns
  have hts : ∀ w ∈ wx (.code yX7_fits cX7_fits 3 (some .boolean)), w.before _ s = true := atoms_spec B.pre
  have htg : ∀ w ∈ lwg, w.before _ s = true := fun w h => hts w (List.mem_cons_of_mem _ h)
  have hown : s.vm.findClass RX7 = some m.cls := findClass_of_methodNamed B.named
  have hlocks := B.notSynchronized
  change W p l e (kr 3 64) s m (List.toArray [.ref (bs g p0), .int a1]) below meth c s.heap [] 0 0 (MQ below (Qi' g lo n r σ) (List.toArray [.ref (bs g p0), .int a1]) s 0 0 (Ag g lo)) _
  generalize hQ : MQ below (Qi' g lo n r σ) (List.toArray [.ref (bs g p0), .int a1]) s 0 0 (Ag g lo) = Q
  have hS : va_S (Ag g lo) s.heap s.heap [] := va_S.rf
  have hl := lv_entry ([.ref (bs g p0), .int a1]) (n := 3) (Nat.le_of_ble_eq_true rfl)
  rw [lg_entry_eq]
  generalize (lg_sl ([.ref (bs g p0), .int a1]) ++ List.replicate (3 - (lg_sl ([.ref (bs g p0), .int a1])).length) Slot.unset).toArray = ls at hl ⊢
  have hl : lv_has ls 3 [(0, .ref (bs g p0)), (1, .int a1)] := hl
  delta f_X7_fits at hf
  obtain ⟨H, hH⟩ : ∃ H, H = s.heap := ⟨_, rfl⟩
  obtain ⟨locs, hLc⟩ : ∃ z : List Loc, z = [] := ⟨_, rfl⟩
  have hS : va_S (Ag g lo) s.heap H locs := by rw [hH, hLc]; exact hS
  have hW : Wd g lo n σ H := by rw [hH]; exact hW
  suffices hG : W p l e (kr 3 64) s m (List.toArray [.ref (bs g p0), .int a1]) below meth c H locs 0 0 Q (F0 m 0 ls []) by rw [hH, hLc] at hG; exact hG
  clear hH hLc
  refine lv_iconst (v := 0) hx hb dX7_fits_0 (by decide) ?_
  refine lv_istore_n (lv' := [(2, .int 0), (0, .ref (bs g p0)), (1, .int a1)]) hx hb dX7_fits_1 rfl hl (by decide) rfl (fun ls hl => ?_)
  refine fx1_W (fun (i_1 : Int32) => ∀ (H : Heap) (locs : List Loc) (ls : Array Slot), Wd g lo n σ H → va_S (Ag g lo) s.heap H locs → lv_has ls 3 [(0, .ref (bs g p0)), (1, .int a1), (2, .int i_1)] → W p l e (kr 3 64) s m (List.toArray [.ref (bs g p0), .int a1]) below meth c H locs 0 0 Q (F0 m 2 ls [])) (fun k_2 hk_2 i_1 hf => ?_) FU 0 hf H locs ls hW hS (lv_sub hl [1, 2, 0] rfl)
  intro H locs ls hW hS hl
  refine lv_iload_n hx hb dX7_fits_2 rfl (lv_at hl 2 rfl) ?_
  refine lv_aload_n hx hb dX7_fits_3 rfl (lv_at hl 0 rfl) ?_
  refine mcip hf hS (fun r h => va_runV (As := []) (rest := [.int i_1]) ⟨hx, hb, hml, hown, hts⟩ (c_X11_people g l lo n σ p0 t0 r h) (cl_X7_47 hts ⟨Nat.le_of_ble_eq_true rfl, Nat.le_of_ble_eq_true rfl⟩) (mpV_11 hZ hT hS hW t0 _) rfl rfl hl.1 rfl (lv_room (Nat.le_of_ble_eq_true rfl)) dX7_fits_4 ⟨Nat.zero_le _, Nat.zero_le _⟩) (fun r_3 H locs hf hW hS => ?_)
  refine lv_icmp_ge (tgt := 43) hx hb dX7_fits_7 (by decide) (fun hc => ?_) (fun hc => ?_)
  · have hf := ift hc hf
    refine lv_iconst (v := 1) hx hb dX7_fits_43 (by decide) ?_
    subst hQ
    exact mrz hx hb hr hlocks hZ hT hS hW (by decide) ⟨Option.some.inj hf, rfl⟩ dX7_fits_44
  · have hf := iff_ hc hf
    refine lv_aload_n hx hb dX7_fits_10 rfl (lv_at hl 0 rfl) ?_
    refine lv_iload_n hx hb dX7_fits_11 rfl (lv_at hl 2 rfl) ?_
    refine mcip hf hS (fun r h => va_runV (As := [.int i_1]) (rest := []) ⟨hx, hb, hml, hown, hts⟩ (c_X11_isStaredAt g l lo n σ p0 i_1 t0 r h) (cl_X7_81 hts ⟨Nat.le_of_ble_eq_true rfl, Nat.le_of_ble_eq_true rfl⟩) (mpV_11 hZ hT hS hW t0 _) rfl rfl hl.1 rfl (lv_room (Nat.le_of_ble_eq_true rfl)) dX7_fits_12 ⟨Nat.zero_le _, Nat.zero_le _⟩) (fun r_4 H locs hf hW hS => ?_)
    refine jn0_W (∀ (H : Heap) (locs : List Loc) (ls : Array Slot), Wd g lo n σ H → va_S (Ag g lo) s.heap H locs → lv_has ls 3 [(0, .ref (bs g p0)), (1, .int a1), (2, .int i_1)] → W p l e (kr 3 64) s m (List.toArray [.ref (bs g p0), .int a1]) below meth c H locs 0 0 Q (F0 m 37 ls [])) hf (fun  hf => ?_) (fun k_5 hk_5 hf => ?_)
    · intro H locs ls hW hS hl
      obtain ⟨x_6, e_7, hf⟩ := nm_s hf
      refine lv_iinc (v := x_6) (lv' := [(2, .int x_6), (0, .ref (bs g p0)), (1, .int a1)]) hx hb dX7_fits_37 hl (k := 2) rfl (by rw [e_7]; rfl) (by decide) rfl (fun ls hl => ?_)
      refine lv_goto (tgt := 2) hx hb dX7_fits_40 (by decide) ?_
      exact hk_2 x_6 hf H locs ls hW hS (lv_sub hl [1, 2, 0] rfl)
    · refine lv_if_eq (tgt := 37) hx hb dX7_fits_15 (by decide) (fun hc => ?_) (fun hc => ?_)
      · have hf := ift hc hf
        exact hk_5  hf H locs ls hW hS (lv_sub hl [0, 1, 2] rfl)
      · have hf := iff_ hc hf
        refine lv_aload_n hx hb dX7_fits_18 rfl (lv_at hl 0 rfl) ?_
        refine lv_iload_n hx hb dX7_fits_19 rfl (lv_at hl 1 rfl) ?_
        refine lv_iload_n hx hb dX7_fits_20 rfl (lv_at hl 2 rfl) ?_
        refine mcip hf hS (fun r h => va_runS (As := [.ref (bs g p0), .int a1, .int i_1]) (rest := []) ⟨hx, hb, hml, hown, hts⟩ (c_X7_alike g l lo n σ p0 a1 i_1 t0 r h) (cl_X7_84 hts ⟨Nat.le_of_ble_eq_true rfl, Nat.le_of_ble_eq_true rfl⟩) (mpS hZ hT hS hW _) rfl rfl hl.1 rfl (lv_room (Nat.le_of_ble_eq_true rfl)) dX7_fits_21 ⟨Nat.zero_le _, Nat.zero_le _⟩) (fun r_8 H locs hf hW hS => ?_)
        refine lv_aload_n hx hb dX7_fits_24 rfl (lv_at hl 0 rfl) ?_
        refine gfN_11_13 hx hb htg ln_X7_88 hown hZ hW t0 dX7_fits_25 ?_
        refine lv_iload_n hx hb dX7_fits_28 rfl (lv_at hl 2 rfl) ?_
        refine mcip hf hS (fun r h => va_runSN (As := [.ref (bs g (p0 + 11)), .int i_1]) (rest := [.int r_8]) ⟨hx, hb, hml, hown, hts⟩ (c_X12_get g l lo n σ (p0 + 11) i_1 (t0.sub 20 11 so_11_20_11) r h) (cl_X7_71 hts hZ ⟨Nat.le_of_ble_eq_true rfl, Nat.le_of_ble_eq_true rfl⟩) (mpS hZ hT hS hW _) rfl rfl hl.1 rfl (lv_room (Nat.le_of_ble_eq_true rfl)) dX7_fits_29 ⟨Nat.zero_le _, Nat.zero_le _⟩) (fun r_9 H locs hf hW hS => ?_)
        refine lv_icmp_eq (tgt := 37) hx hb dX7_fits_32 (by decide) (fun hc => ?_) (fun hc => ?_)
        · have hf := ift hc hf
          exact hk_5  hf H locs ls hW hS (lv_sub hl [0, 1, 2] rfl)
        · have hf := iff_ hc hf
          refine lv_iconst (v := 0) hx hb dX7_fits_35 (by decide) ?_
          subst hQ
          exact mrz hx hb hr hlocks hZ hT hS hW (by decide) ⟨Option.some.inj hf, rfl⟩ dX7_fits_36
def f_X7_countFitting (σ : Mem) (p0 : Nat) : Option (Int32) :=
  fx2 FU (fun k_3 (i_1 : Int32) (i_2 : Int32) => bd1 (f_X7_countLooks σ p0) (fun (r_4 : Int32) => (if r_4 ≤ i_2 then some i_1 else bd1 (f_X7_nthLook σ p0 i_2) (fun (r_5 : Int32) => bd1 (f_X7_fits σ p0 r_5) (fun (r_6 : Int32) => jn1 (fun (i_7 : Int32) => nm (i_1 + i_7) (fun (x_9 : Int32) => nm (i_2 + 1) (fun (x_10 : Int32) => k_3 x_9 x_10))) (fun k_8 => (if r_6 = 0 then k_8 0 else k_8 1))))))) 0 0
set_option maxHeartbeats 4000000 in
set_option maxRecDepth 100000 in
theorem c_X7_countFitting (g : XG) (l : Launch) (lo n : Nat) (σ : Mem) (p0 : Nat) (t0 : tp 11 lo n p0) (r : Int32) (hf : f_X7_countFitting σ p0 = some r) : Met l yX7_countFitting (wx (.code yX7_countFitting cX7_countFitting 3 (some .int))) (kr 4 86) (va_Pc [.ref (bs g p0)] (WS g lo n σ)) (Qi' g lo n r σ) 0 0 (Ag g lo) := by
  refine Met.ofW (cc := cX7_countFitting) (maxL := 3) (ret := (some .int)) (by decide) rfl ?_
  intro p e s m args below meth c s₁ B hml hv
  obtain ⟨rfl, hZ, hT, hW⟩ := hv
  have hx := B.exec
  have hb := B.bytes
  have hr := B.returns
  have hts : ∀ w ∈ wx (.code yX7_countFitting cX7_countFitting 3 (some .int)), w.before _ s = true := atoms_spec B.pre
  have htg : ∀ w ∈ lwg, w.before _ s = true := fun w h => hts w (List.mem_cons_of_mem _ h)
  have hown : s.vm.findClass RX7 = some m.cls := findClass_of_methodNamed B.named
  have hlocks := B.notSynchronized
  change W p l e (kr 4 86) s m (List.toArray [.ref (bs g p0)]) below meth c s.heap [] 0 0 (MQ below (Qi' g lo n r σ) (List.toArray [.ref (bs g p0)]) s 0 0 (Ag g lo)) _
  generalize hQ : MQ below (Qi' g lo n r σ) (List.toArray [.ref (bs g p0)]) s 0 0 (Ag g lo) = Q
  have hS : va_S (Ag g lo) s.heap s.heap [] := va_S.rf
  have hl := lv_entry ([.ref (bs g p0)]) (n := 3) (Nat.le_of_ble_eq_true rfl)
  rw [lg_entry_eq]
  generalize (lg_sl ([.ref (bs g p0)]) ++ List.replicate (3 - (lg_sl ([.ref (bs g p0)])).length) Slot.unset).toArray = ls at hl ⊢
  have hl : lv_has ls 3 [(0, .ref (bs g p0))] := hl
  delta f_X7_countFitting at hf
  obtain ⟨H, hH⟩ : ∃ H, H = s.heap := ⟨_, rfl⟩
  obtain ⟨locs, hLc⟩ : ∃ z : List Loc, z = [] := ⟨_, rfl⟩
  have hS : va_S (Ag g lo) s.heap H locs := by rw [hH, hLc]; exact hS
  have hW : Wd g lo n σ H := by rw [hH]; exact hW
  suffices hG : W p l e (kr 4 86) s m (List.toArray [.ref (bs g p0)]) below meth c H locs 0 0 Q (F0 m 0 ls []) by rw [hH, hLc] at hG; exact hG
  clear hH hLc
  refine lv_iconst (v := 0) hx hb dX7_countFitting_0 (by decide) ?_
  refine lv_istore_n (lv' := [(1, .int 0), (0, .ref (bs g p0))]) hx hb dX7_countFitting_1 rfl hl (by decide) rfl (fun ls hl => ?_)
  refine lv_iconst (v := 0) hx hb dX7_countFitting_2 (by decide) ?_
  refine lv_istore_n (lv' := [(2, .int 0), (1, .int 0), (0, .ref (bs g p0))]) hx hb dX7_countFitting_3 rfl hl (by decide) rfl (fun ls hl => ?_)
  refine fx2_W (fun (i_1 : Int32) (i_2 : Int32) => ∀ (H : Heap) (locs : List Loc) (ls : Array Slot), Wd g lo n σ H → va_S (Ag g lo) s.heap H locs → lv_has ls 3 [(0, .ref (bs g p0)), (1, .int i_1), (2, .int i_2)] → W p l e (kr 4 86) s m (List.toArray [.ref (bs g p0)]) below meth c H locs 0 0 Q (F0 m 4 ls [])) (fun k_3 hk_3 i_1 i_2 hf => ?_) FU 0 0 hf H locs ls hW hS (lv_sub hl [2, 1, 0] rfl)
  intro H locs ls hW hS hl
  refine lv_iload_n hx hb dX7_countFitting_4 rfl (lv_at hl 2 rfl) ?_
  refine lv_aload_n hx hb dX7_countFitting_5 rfl (lv_at hl 0 rfl) ?_
  refine mcip hf hS (fun r h => va_runS (As := [.ref (bs g p0)]) (rest := [.int i_2]) ⟨hx, hb, hml, hown, hts⟩ (c_X7_countLooks g l lo n σ p0 t0 r h) (cl_X7_91 hts ⟨Nat.le_of_ble_eq_true rfl, Nat.le_of_ble_eq_true rfl⟩) (mpS hZ hT hS hW _) rfl rfl hl.1 rfl (lv_room (Nat.le_of_ble_eq_true rfl)) dX7_countFitting_6 ⟨Nat.zero_le _, Nat.zero_le _⟩) (fun r_4 H locs hf hW hS => ?_)
  refine lv_icmp_ge (tgt := 38) hx hb dX7_countFitting_9 (by decide) (fun hc => ?_) (fun hc => ?_)
  · have hf := ift hc hf
    refine lv_iload_n hx hb dX7_countFitting_38 rfl (lv_at hl 1 rfl) ?_
    subst hQ
    exact mri hx hb hr hlocks hZ hT hS hW ⟨Option.some.inj hf, rfl⟩ dX7_countFitting_39
  · have hf := iff_ hc hf
    refine lv_iload_n hx hb dX7_countFitting_12 rfl (lv_at hl 1 rfl) ?_
    refine lv_aload_n hx hb dX7_countFitting_13 rfl (lv_at hl 0 rfl) ?_
    refine lv_aload_n hx hb dX7_countFitting_14 rfl (lv_at hl 0 rfl) ?_
    refine lv_iload_n hx hb dX7_countFitting_15 rfl (lv_at hl 2 rfl) ?_
    refine mcip hf hS (fun r h => va_runS (As := [.ref (bs g p0), .int i_2]) (rest := [.ref (bs g p0), .int i_1]) ⟨hx, hb, hml, hown, hts⟩ (c_X7_nthLook g l lo n σ p0 i_2 t0 r h) (cl_X7_95 hts ⟨Nat.le_of_ble_eq_true rfl, Nat.le_of_ble_eq_true rfl⟩) (mpS hZ hT hS hW _) rfl rfl hl.1 rfl (lv_room (Nat.le_of_ble_eq_true rfl)) dX7_countFitting_16 ⟨Nat.zero_le _, Nat.zero_le _⟩) (fun r_5 H locs hf hW hS => ?_)
    refine mcip hf hS (fun r h => va_runS (As := [.ref (bs g p0), .int r_5]) (rest := [.int i_1]) ⟨hx, hb, hml, hown, hts⟩ (c_X7_fits g l lo n σ p0 r_5 t0 r h) (cl_X7_99 hts ⟨Nat.le_of_ble_eq_true rfl, Nat.le_of_ble_eq_true rfl⟩) (mpS hZ hT hS hW _) rfl rfl hl.1 rfl (lv_room (Nat.le_of_ble_eq_true rfl)) dX7_countFitting_19 ⟨Nat.zero_le _, Nat.zero_le _⟩) (fun r_6 H locs hf hW hS => ?_)
    refine jn1_W (fun (i_7 : Int32) => ∀ (H : Heap) (locs : List Loc) (ls : Array Slot), Wd g lo n σ H → va_S (Ag g lo) s.heap H locs → lv_has ls 3 [(0, .ref (bs g p0)), (2, .int i_2)] → W p l e (kr 4 86) s m (List.toArray [.ref (bs g p0)]) below meth c H locs 0 0 Q (F0 m 30 ls [.int i_7, .int i_1])) hf (fun i_7 hf => ?_) (fun k_8 hk_8 hf => ?_)
    · intro H locs ls hW hS hl
      refine lv_iadd hx hb dX7_countFitting_30 ?_
      refine mnmi hf (fun (x_9 : Int32) hf => ?_)
      refine lv_istore_n (lv' := [(1, .int x_9), (0, .ref (bs g p0)), (2, .int i_2)]) hx hb dX7_countFitting_31 rfl hl (by decide) rfl (fun ls hl => ?_)
      obtain ⟨x_10, e_11, hf⟩ := nm_s hf
      refine lv_iinc (v := x_10) (lv' := [(2, .int x_10), (1, .int x_9), (0, .ref (bs g p0))]) hx hb dX7_countFitting_32 hl (k := 2) rfl (by rw [e_11]; rfl) (by decide) rfl (fun ls hl => ?_)
      refine lv_goto (tgt := 4) hx hb dX7_countFitting_35 (by decide) ?_
      exact hk_3 x_9 x_10 hf H locs ls hW hS (lv_sub hl [2, 1, 0] rfl)
    · refine lv_if_eq (tgt := 29) hx hb dX7_countFitting_22 (by decide) (fun hc => ?_) (fun hc => ?_)
      · have hf := ift hc hf
        refine lv_iconst (v := 0) hx hb dX7_countFitting_29 (by decide) ?_
        exact hk_8 0 hf H locs ls hW hS (lv_sub hl [0, 2] rfl)
      · have hf := iff_ hc hf
        refine lv_iconst (v := 1) hx hb dX7_countFitting_25 (by decide) ?_
        refine lv_goto (tgt := 30) hx hb dX7_countFitting_26 (by decide) ?_
        exact hk_8 1 hf H locs ls hW hS (lv_sub hl [0, 2] rfl)
def f_X7_fittingAt (σ : Mem) (p0 : Nat) (a1 : Int32) : Option (Int32) :=
  fx2 FU (fun k_3 (i_1 : Int32) (i_2 : Int32) => bd1 (f_X7_countLooks σ p0) (fun (r_4 : Int32) => (if r_4 ≤ i_2 then some (-2) else bd1 (f_X7_nthLook σ p0 i_2) (fun (r_5 : Int32) => bd1 (f_X7_fits σ p0 r_5) (fun (r_6 : Int32) => jn1 (fun (i_7 : Int32) => nm (i_2 + 1) (fun (x_9 : Int32) => k_3 i_7 x_9)) (fun k_8 => (if r_6 = 0 then k_8 i_1 else (if i_1 = a1 then bd1 (f_X7_nthLook σ p0 i_2) (fun (r_13 : Int32) => some r_13) else nm (i_1 + 1) (fun (x_11 : Int32) => k_8 x_11))))))))) 0 0
set_option maxHeartbeats 4000000 in
set_option maxRecDepth 100000 in
theorem c_X7_fittingAt (g : XG) (l : Launch) (lo n : Nat) (σ : Mem) (p0 : Nat) (a1 : Int32) (t0 : tp 11 lo n p0) (r : Int32) (hf : f_X7_fittingAt σ p0 a1 = some r) : Met l yX7_fittingAt (wx (.code yX7_fittingAt cX7_fittingAt 4 (some .int))) (kr 4 86) (va_Pc [.ref (bs g p0), .int a1] (WS g lo n σ)) (Qi' g lo n r σ) 0 0 (Ag g lo) := by
  refine Met.ofW (cc := cX7_fittingAt) (maxL := 4) (ret := (some .int)) (by decide) rfl ?_
  intro p e s m args below meth c s₁ B hml hv
  obtain ⟨rfl, hZ, hT, hW⟩ := hv
  have hx := B.exec
  have hb := B.bytes
  have hr := B.returns
  have hts : ∀ w ∈ wx (.code yX7_fittingAt cX7_fittingAt 4 (some .int)), w.before _ s = true := atoms_spec B.pre
  have htg : ∀ w ∈ lwg, w.before _ s = true := fun w h => hts w (List.mem_cons_of_mem _ h)
  have hown : s.vm.findClass RX7 = some m.cls := findClass_of_methodNamed B.named
  have hlocks := B.notSynchronized
  change W p l e (kr 4 86) s m (List.toArray [.ref (bs g p0), .int a1]) below meth c s.heap [] 0 0 (MQ below (Qi' g lo n r σ) (List.toArray [.ref (bs g p0), .int a1]) s 0 0 (Ag g lo)) _
  generalize hQ : MQ below (Qi' g lo n r σ) (List.toArray [.ref (bs g p0), .int a1]) s 0 0 (Ag g lo) = Q
  have hS : va_S (Ag g lo) s.heap s.heap [] := va_S.rf
  have hl := lv_entry ([.ref (bs g p0), .int a1]) (n := 4) (Nat.le_of_ble_eq_true rfl)
  rw [lg_entry_eq]
  generalize (lg_sl ([.ref (bs g p0), .int a1]) ++ List.replicate (4 - (lg_sl ([.ref (bs g p0), .int a1])).length) Slot.unset).toArray = ls at hl ⊢
  have hl : lv_has ls 4 [(0, .ref (bs g p0)), (1, .int a1)] := hl
  delta f_X7_fittingAt at hf
  obtain ⟨H, hH⟩ : ∃ H, H = s.heap := ⟨_, rfl⟩
  obtain ⟨locs, hLc⟩ : ∃ z : List Loc, z = [] := ⟨_, rfl⟩
  have hS : va_S (Ag g lo) s.heap H locs := by rw [hH, hLc]; exact hS
  have hW : Wd g lo n σ H := by rw [hH]; exact hW
  suffices hG : W p l e (kr 4 86) s m (List.toArray [.ref (bs g p0), .int a1]) below meth c H locs 0 0 Q (F0 m 0 ls []) by rw [hH, hLc] at hG; exact hG
  clear hH hLc
  refine lv_iconst (v := 0) hx hb dX7_fittingAt_0 (by decide) ?_
  refine lv_istore_n (lv' := [(2, .int 0), (0, .ref (bs g p0)), (1, .int a1)]) hx hb dX7_fittingAt_1 rfl hl (by decide) rfl (fun ls hl => ?_)
  refine lv_iconst (v := 0) hx hb dX7_fittingAt_2 (by decide) ?_
  refine lv_istore_n (lv' := [(3, .int 0), (2, .int 0), (0, .ref (bs g p0)), (1, .int a1)]) hx hb dX7_fittingAt_3 rfl hl (by decide) rfl (fun ls hl => ?_)
  refine fx2_W (fun (i_1 : Int32) (i_2 : Int32) => ∀ (H : Heap) (locs : List Loc) (ls : Array Slot), Wd g lo n σ H → va_S (Ag g lo) s.heap H locs → lv_has ls 4 [(0, .ref (bs g p0)), (1, .int a1), (2, .int i_1), (3, .int i_2)] → W p l e (kr 4 86) s m (List.toArray [.ref (bs g p0), .int a1]) below meth c H locs 0 0 Q (F0 m 4 ls [])) (fun k_3 hk_3 i_1 i_2 hf => ?_) FU 0 0 hf H locs ls hW hS (lv_sub hl [2, 3, 1, 0] rfl)
  intro H locs ls hW hS hl
  refine lv_iload_n hx hb dX7_fittingAt_4 rfl (lv_at hl 3 rfl) ?_
  refine lv_aload_n hx hb dX7_fittingAt_5 rfl (lv_at hl 0 rfl) ?_
  refine mcip hf hS (fun r h => va_runS (As := [.ref (bs g p0)]) (rest := [.int i_2]) ⟨hx, hb, hml, hown, hts⟩ (c_X7_countLooks g l lo n σ p0 t0 r h) (cl_X7_91 hts ⟨Nat.le_of_ble_eq_true rfl, Nat.le_of_ble_eq_true rfl⟩) (mpS hZ hT hS hW _) rfl rfl hl.1 rfl (lv_room (Nat.le_of_ble_eq_true rfl)) dX7_fittingAt_6 ⟨Nat.zero_le _, Nat.zero_le _⟩) (fun r_4 H locs hf hW hS => ?_)
  refine lv_icmp_ge (tgt := 44) hx hb dX7_fittingAt_9 (by decide) (fun hc => ?_) (fun hc => ?_)
  · have hf := ift hc hf
    refine lv_bipush (v := (-2)) hx hb dX7_fittingAt_44 (by decide) ?_
    subst hQ
    exact mri hx hb hr hlocks hZ hT hS hW ⟨Option.some.inj hf, rfl⟩ dX7_fittingAt_46
  · have hf := iff_ hc hf
    refine lv_aload_n hx hb dX7_fittingAt_12 rfl (lv_at hl 0 rfl) ?_
    refine lv_aload_n hx hb dX7_fittingAt_13 rfl (lv_at hl 0 rfl) ?_
    refine lv_iload_n hx hb dX7_fittingAt_14 rfl (lv_at hl 3 rfl) ?_
    refine mcip hf hS (fun r h => va_runS (As := [.ref (bs g p0), .int i_2]) (rest := [.ref (bs g p0)]) ⟨hx, hb, hml, hown, hts⟩ (c_X7_nthLook g l lo n σ p0 i_2 t0 r h) (cl_X7_95 hts ⟨Nat.le_of_ble_eq_true rfl, Nat.le_of_ble_eq_true rfl⟩) (mpS hZ hT hS hW _) rfl rfl hl.1 rfl (lv_room (Nat.le_of_ble_eq_true rfl)) dX7_fittingAt_15 ⟨Nat.zero_le _, Nat.zero_le _⟩) (fun r_5 H locs hf hW hS => ?_)
    refine mcip hf hS (fun r h => va_runS (As := [.ref (bs g p0), .int r_5]) (rest := []) ⟨hx, hb, hml, hown, hts⟩ (c_X7_fits g l lo n σ p0 r_5 t0 r h) (cl_X7_99 hts ⟨Nat.le_of_ble_eq_true rfl, Nat.le_of_ble_eq_true rfl⟩) (mpS hZ hT hS hW _) rfl rfl hl.1 rfl (lv_room (Nat.le_of_ble_eq_true rfl)) dX7_fittingAt_18 ⟨Nat.zero_le _, Nat.zero_le _⟩) (fun r_6 H locs hf hW hS => ?_)
    refine jn1_W (fun (i_7 : Int32) => ∀ (H : Heap) (locs : List Loc) (ls : Array Slot), Wd g lo n σ H → va_S (Ag g lo) s.heap H locs → lv_has ls 4 [(0, .ref (bs g p0)), (1, .int a1), (2, .int i_7), (3, .int i_2)] → W p l e (kr 4 86) s m (List.toArray [.ref (bs g p0), .int a1]) below meth c H locs 0 0 Q (F0 m 38 ls [])) hf (fun i_7 hf => ?_) (fun k_8 hk_8 hf => ?_)
    · intro H locs ls hW hS hl
      obtain ⟨x_9, e_10, hf⟩ := nm_s hf
      refine lv_iinc (v := x_9) (lv' := [(3, .int x_9), (0, .ref (bs g p0)), (1, .int a1), (2, .int i_7)]) hx hb dX7_fittingAt_38 hl (k := 3) rfl (by rw [e_10]; rfl) (by decide) rfl (fun ls hl => ?_)
      refine lv_goto (tgt := 4) hx hb dX7_fittingAt_41 (by decide) ?_
      exact hk_3 i_7 x_9 hf H locs ls hW hS (lv_sub hl [1, 2, 3, 0] rfl)
    · refine lv_if_eq (tgt := 38) hx hb dX7_fittingAt_21 (by decide) (fun hc => ?_) (fun hc => ?_)
      · have hf := ift hc hf
        exact hk_8 i_1 hf H locs ls hW hS (lv_sub hl [0, 1, 2, 3] rfl)
      · have hf := iff_ hc hf
        refine lv_iload_n hx hb dX7_fittingAt_24 rfl (lv_at hl 2 rfl) ?_
        refine lv_iload_n hx hb dX7_fittingAt_25 rfl (lv_at hl 1 rfl) ?_
        refine lv_icmp_ne (tgt := 35) hx hb dX7_fittingAt_26 (by decide) (fun hc => ?_) (fun hc => ?_)
        · have hf := iff_ hc hf
          obtain ⟨x_11, e_12, hf⟩ := nm_s hf
          refine lv_iinc (v := x_11) (lv' := [(2, .int x_11), (0, .ref (bs g p0)), (1, .int a1), (3, .int i_2)]) hx hb dX7_fittingAt_35 hl (k := 2) rfl (by rw [e_12]; rfl) (by decide) rfl (fun ls hl => ?_)
          exact hk_8 x_11 hf H locs ls hW hS (lv_sub hl [1, 2, 0, 3] rfl)
        · have hf := ift hc hf
          refine lv_aload_n hx hb dX7_fittingAt_29 rfl (lv_at hl 0 rfl) ?_
          refine lv_iload_n hx hb dX7_fittingAt_30 rfl (lv_at hl 3 rfl) ?_
          refine mcip hf hS (fun r h => va_runS (As := [.ref (bs g p0), .int i_2]) (rest := []) ⟨hx, hb, hml, hown, hts⟩ (c_X7_nthLook g l lo n σ p0 i_2 t0 r h) (cl_X7_95 hts ⟨Nat.le_of_ble_eq_true rfl, Nat.le_of_ble_eq_true rfl⟩) (mpS hZ hT hS hW _) rfl rfl hl.1 rfl (lv_room (Nat.le_of_ble_eq_true rfl)) dX7_fittingAt_31 ⟨Nat.zero_le _, Nat.zero_le _⟩) (fun r_13 H locs hf hW hS => ?_)
          subst hQ
          exact mri hx hb hr hlocks hZ hT hS hW ⟨Option.some.inj hf, rfl⟩ dX7_fittingAt_34
def f_X7_tallyFitting (σ : Mem) (p1 : Nat) : Option (Int32 × Mem) :=
  bd1 (f_X12_fill σ (61 + 2) 0) (fun (σ_1 : Mem) => fx3 FU (fun k_5 (i_2 : Int32) (i_3 : Int32) (σ_4 : Mem) => bd1 (f_X7_countLooks σ_4 p1) (fun (r_6 : Int32) => (if r_6 ≤ i_3 then zrm i_2 σ_4 else bd1 (f_X7_nthLook σ_4 p1 i_3) (fun (r_7 : Int32) => bd1 (f_X7_fits σ_4 p1 r_7) (fun (r_8 : Int32) => jn2 (fun (i_9 : Int32) (σ_10 : Mem) => nm (i_3 + 1) (fun (x_12 : Int32) => k_5 i_9 x_12 σ_10)) (fun k_11 => (if r_8 = 0 then k_11 i_2 σ_4 else fx2 FU (fun k_16 (i_14 : Int32) (σ_15 : Mem) => bd1 (f_X11_people σ_15 p1) (fun (r_17 : Int32) => (if r_17 ≤ i_14 then k_11 1 σ_15 else bd1 (f_X7_alike σ_15 p1 r_7 i_14) (fun (r_18 : Int32) => nm ((i_14 * 7) + r_18) (fun (x_19 : Int32) => bd1 (f_X12_get σ_15 (61 + 2) x_19) (fun (r_20 : Int32) => bd1 (f_X12_set σ_15 (61 + 2) x_19 (r_20 + 1)) (fun (σ_21 : Mem) => nm (i_14 + 1) (fun (x_22 : Int32) => k_16 x_22 σ_21)))))))) 0 σ_4))))))) 0 0 σ_1)
set_option maxHeartbeats 4000000 in
set_option maxRecDepth 100000 in
theorem c_X7_tallyFitting (g : XG) (l : Launch) (σ : Mem) (p1 : Nat) (t1 : tp 11 0 81 p1) (r : Int32) (τ : Mem) (hf : f_X7_tallyFitting σ p1 = some (r, τ)) : Met l yX7_tallyFitting (wx (.code yX7_tallyFitting cX7_tallyFitting 7 (some .boolean))) (kr 4 86) (va_Pc [.ref (bs g 61), .ref (bs g p1)] (WS g 0 81 σ)) (Qi' g 0 81 r τ) 0 0 (Ag g 0) := by
  refine Met.ofW (cc := cX7_tallyFitting) (maxL := 7) (ret := (some .boolean)) (by decide) rfl ?_
  intro p e s m args below meth c s₁ B hml hv
  obtain ⟨rfl, hZ, hT, hW⟩ := hv
  have hx := B.exec
  have hb := B.bytes
  have hr := B.returns
  have hts : ∀ w ∈ wx (.code yX7_tallyFitting cX7_tallyFitting 7 (some .boolean)), w.before _ s = true := atoms_spec B.pre
  have htg : ∀ w ∈ lwg, w.before _ s = true := fun w h => hts w (List.mem_cons_of_mem _ h)
  have hown : s.vm.findClass RX7 = some m.cls := findClass_of_methodNamed B.named
  have hlocks := B.notSynchronized
  change W p l e (kr 4 86) s m (List.toArray [.ref (bs g 61), .ref (bs g p1)]) below meth c s.heap [] 0 0 (MQ below (Qi' g 0 81 r τ) (List.toArray [.ref (bs g 61), .ref (bs g p1)]) s 0 0 (Ag g 0)) _
  generalize hQ : MQ below (Qi' g 0 81 r τ) (List.toArray [.ref (bs g 61), .ref (bs g p1)]) s 0 0 (Ag g 0) = Q
  have hS : va_S (Ag g 0) s.heap s.heap [] := va_S.rf
  have hl := lv_entry ([.ref (bs g 61), .ref (bs g p1)]) (n := 7) (Nat.le_of_ble_eq_true rfl)
  rw [lg_entry_eq]
  generalize (lg_sl ([.ref (bs g 61), .ref (bs g p1)]) ++ List.replicate (7 - (lg_sl ([.ref (bs g 61), .ref (bs g p1)])).length) Slot.unset).toArray = ls at hl ⊢
  have hl : lv_has ls 7 [(0, .ref (bs g 61)), (1, .ref (bs g p1))] := hl
  delta f_X7_tallyFitting at hf
  obtain ⟨H, hH⟩ : ∃ H, H = s.heap := ⟨_, rfl⟩
  obtain ⟨locs, hLc⟩ : ∃ z : List Loc, z = [] := ⟨_, rfl⟩
  have hS : va_S (Ag g 0) s.heap H locs := by rw [hH, hLc]; exact hS
  have hW : Wd g 0 81 σ H := by rw [hH]; exact hW
  suffices hG : W p l e (kr 4 86) s m (List.toArray [.ref (bs g 61), .ref (bs g p1)]) below meth c H locs 0 0 Q (F0 m 0 ls []) by rw [hH, hLc] at hG; exact hG
  clear hH hLc
  refine lv_iconst (v := 0) hx hb dX7_tallyFitting_0 (by decide) ?_
  refine lv_istore_n (lv' := [(2, .int 0), (0, .ref (bs g 61)), (1, .ref (bs g p1))]) hx hb dX7_tallyFitting_1 rfl hl (by decide) rfl (fun ls hl => ?_)
  refine lv_aload_n hx hb dX7_tallyFitting_2 rfl (lv_at hl 1 rfl) ?_
  refine gf_7_1 hx hb htg (htg _ lf_X7_15) hown hZ hW tz_61 dX7_tallyFitting_3 ?_
  refine lv_iconst (v := 0) hx hb dX7_tallyFitting_6 (by decide) ?_
  refine mcv hf hS (fun τ h => va_runSN (As := [.ref (bs g (61 + 2)), .int 0]) (rest := []) ⟨hx, hb, hml, hown, hts⟩ (c_X12_fill g l 0 81 σ (61 + 2) 0 (tz_61.sub 20 2 so_7_20_2) τ h) (cl_X7_116 hts hZ ⟨Nat.le_of_ble_eq_true rfl, Nat.le_of_ble_eq_true rfl⟩) (mpS hZ hT hS hW _) rfl rfl hl.1 rfl (lv_room (Nat.le_of_ble_eq_true rfl)) dX7_tallyFitting_7 ⟨Nat.zero_le _, Nat.zero_le _⟩) (fun σ_1 H locs hf hW hS => ?_)
  refine lv_iconst (v := 0) hx hb dX7_tallyFitting_10 (by decide) ?_
  refine lv_istore_n (lv' := [(3, .int 0), (2, .int 0), (0, .ref (bs g 61)), (1, .ref (bs g p1))]) hx hb dX7_tallyFitting_11 rfl hl (by decide) rfl (fun ls hl => ?_)
  refine fx3_W (fun (i_2 : Int32) (i_3 : Int32) (σ_4 : Mem) => ∀ (H : Heap) (locs : List Loc) (ls : Array Slot), Wd g 0 81 σ_4 H → va_S (Ag g 0) s.heap H locs → lv_has ls 7 [(0, .ref (bs g 61)), (1, .ref (bs g p1)), (2, .int i_2), (3, .int i_3)] → W p l e (kr 4 86) s m (List.toArray [.ref (bs g 61), .ref (bs g p1)]) below meth c H locs 0 0 Q (F0 m 12 ls [])) (fun k_5 hk_5 i_2 i_3 σ_4 hf => ?_) FU 0 0 σ_1 hf H locs ls hW hS (lv_sub hl [2, 3, 1, 0] rfl)
  intro H locs ls hW hS hl
  refine lv_iload_n hx hb dX7_tallyFitting_12 rfl (lv_at hl 3 rfl) ?_
  refine lv_aload_n hx hb dX7_tallyFitting_13 rfl (lv_at hl 1 rfl) ?_
  refine mcip hf hS (fun r h => va_runS (As := [.ref (bs g p1)]) (rest := [.int i_3]) ⟨hx, hb, hml, hown, hts⟩ (c_X7_countLooks g l 0 81 σ_4 p1 t1 r h) (cl_X7_91 hts ⟨Nat.le_of_ble_eq_true rfl, Nat.le_of_ble_eq_true rfl⟩) (mpS hZ hT hS hW _) rfl rfl hl.1 rfl (lv_room (Nat.le_of_ble_eq_true rfl)) dX7_tallyFitting_14 ⟨Nat.zero_le _, Nat.zero_le _⟩) (fun r_6 H locs hf hW hS => ?_)
  refine lv_icmp_ge (tgt := 98) hx hb dX7_tallyFitting_17 (by decide) (fun hc => ?_) (fun hc => ?_)
  · have hf := ift hc hf
    refine lv_iload_n hx hb dX7_tallyFitting_98 rfl (lv_at hl 2 rfl) ?_
    subst hQ
    exact mrz hx hb hr hlocks hZ hT hS hW (zrm_s hf).1 (zrm_s hf).2 dX7_tallyFitting_99
  · have hf := iff_ hc hf
    refine lv_aload_n hx hb dX7_tallyFitting_20 rfl (lv_at hl 1 rfl) ?_
    refine lv_iload_n hx hb dX7_tallyFitting_21 rfl (lv_at hl 3 rfl) ?_
    refine mcip hf hS (fun r h => va_runS (As := [.ref (bs g p1), .int i_3]) (rest := []) ⟨hx, hb, hml, hown, hts⟩ (c_X7_nthLook g l 0 81 σ_4 p1 i_3 t1 r h) (cl_X7_95 hts ⟨Nat.le_of_ble_eq_true rfl, Nat.le_of_ble_eq_true rfl⟩) (mpS hZ hT hS hW _) rfl rfl hl.1 rfl (lv_room (Nat.le_of_ble_eq_true rfl)) dX7_tallyFitting_22 ⟨Nat.zero_le _, Nat.zero_le _⟩) (fun r_7 H locs hf hW hS => ?_)
    refine lv_istore (lv' := [(4, .int r_7), (0, .ref (bs g 61)), (1, .ref (bs g p1)), (2, .int i_2), (3, .int i_3)]) hx hb dX7_tallyFitting_25 hl (by decide) rfl (fun ls hl => ?_)
    refine lv_aload_n hx hb dX7_tallyFitting_27 rfl (lv_at hl 2 rfl) ?_
    refine lv_iload hx hb dX7_tallyFitting_28 (lv_at hl 0 rfl) ?_
    refine mcip hf hS (fun r h => va_runS (As := [.ref (bs g p1), .int r_7]) (rest := []) ⟨hx, hb, hml, hown, hts⟩ (c_X7_fits g l 0 81 σ_4 p1 r_7 t1 r h) (cl_X7_99 hts ⟨Nat.le_of_ble_eq_true rfl, Nat.le_of_ble_eq_true rfl⟩) (mpS hZ hT hS hW _) rfl rfl hl.1 rfl (lv_room (Nat.le_of_ble_eq_true rfl)) dX7_tallyFitting_30 ⟨Nat.zero_le _, Nat.zero_le _⟩) (fun r_8 H locs hf hW hS => ?_)
    refine jn2_W (fun (i_9 : Int32) (σ_10 : Mem) => ∀ (H : Heap) (locs : List Loc) (ls : Array Slot), Wd g 0 81 σ_10 H → va_S (Ag g 0) s.heap H locs → lv_has ls 7 [(0, .ref (bs g 61)), (1, .ref (bs g p1)), (2, .int i_9), (3, .int i_3)] → W p l e (kr 4 86) s m (List.toArray [.ref (bs g 61), .ref (bs g p1)]) below meth c H locs 0 0 Q (F0 m 92 ls [])) hf (fun i_9 σ_10 hf => ?_) (fun k_11 hk_11 hf => ?_)
    · intro H locs ls hW hS hl
      obtain ⟨x_12, e_13, hf⟩ := nm_s hf
      refine lv_iinc (v := x_12) (lv' := [(3, .int x_12), (0, .ref (bs g 61)), (1, .ref (bs g p1)), (2, .int i_9)]) hx hb dX7_tallyFitting_92 hl (k := 3) rfl (by rw [e_13]; rfl) (by decide) rfl (fun ls hl => ?_)
      refine lv_goto (tgt := 12) hx hb dX7_tallyFitting_95 (by decide) ?_
      exact hk_5 i_9 x_12 σ_10 hf H locs ls hW hS (lv_sub hl [1, 2, 3, 0] rfl)
    · refine lv_if_eq (tgt := 92) hx hb dX7_tallyFitting_33 (by decide) (fun hc => ?_) (fun hc => ?_)
      · have hf := ift hc hf
        exact hk_11 i_2 σ_4 hf H locs ls hW hS (lv_sub hl [1, 2, 3, 4] rfl)
      · have hf := iff_ hc hf
        refine lv_iconst (v := 1) hx hb dX7_tallyFitting_36 (by decide) ?_
        refine lv_istore_n (lv' := [(2, .int 1), (4, .int r_7), (0, .ref (bs g 61)), (1, .ref (bs g p1)), (3, .int i_3)]) hx hb dX7_tallyFitting_37 rfl hl (by decide) rfl (fun ls hl => ?_)
        refine lv_iconst (v := 0) hx hb dX7_tallyFitting_38 (by decide) ?_
        refine lv_istore (lv' := [(5, .int 0), (2, .int 1), (4, .int r_7), (0, .ref (bs g 61)), (1, .ref (bs g p1)), (3, .int i_3)]) hx hb dX7_tallyFitting_39 hl (by decide) rfl (fun ls hl => ?_)
        refine fx2_W (fun (i_14 : Int32) (σ_15 : Mem) => ∀ (H : Heap) (locs : List Loc) (ls : Array Slot), Wd g 0 81 σ_15 H → va_S (Ag g 0) s.heap H locs → lv_has ls 7 [(0, .ref (bs g 61)), (1, .ref (bs g p1)), (2, .int 1), (3, .int i_3), (4, .int r_7), (5, .int i_14)] → W p l e (kr 4 86) s m (List.toArray [.ref (bs g 61), .ref (bs g p1)]) below meth c H locs 0 0 Q (F0 m 41 ls [])) (fun k_16 hk_16 i_14 σ_15 hf => ?_) FU 0 σ_4 hf H locs ls hW hS (lv_sub hl [3, 4, 1, 5, 2, 0] rfl)
        intro H locs ls hW hS hl
        refine lv_iload hx hb dX7_tallyFitting_41 (lv_at hl 5 rfl) ?_
        refine lv_aload_n hx hb dX7_tallyFitting_43 rfl (lv_at hl 1 rfl) ?_
        refine mcip hf hS (fun r h => va_runV (As := []) (rest := [.int i_14]) ⟨hx, hb, hml, hown, hts⟩ (c_X11_people g l 0 81 σ_15 p1 t1 r h) (cl_X7_47 hts ⟨Nat.le_of_ble_eq_true rfl, Nat.le_of_ble_eq_true rfl⟩) (mpV_11 hZ hT hS hW t1 _) rfl rfl hl.1 rfl (lv_room (Nat.le_of_ble_eq_true rfl)) dX7_tallyFitting_44 ⟨Nat.zero_le _, Nat.zero_le _⟩) (fun r_17 H locs hf hW hS => ?_)
        refine lv_icmp_ge (tgt := 92) hx hb dX7_tallyFitting_47 (by decide) (fun hc => ?_) (fun hc => ?_)
        · have hf := ift hc hf
          exact hk_11 1 σ_15 hf H locs ls hW hS (lv_sub hl [0, 1, 2, 3] rfl)
        · have hf := iff_ hc hf
          refine lv_iload hx hb dX7_tallyFitting_50 (lv_at hl 5 rfl) ?_
          refine lv_bipush (v := 7) hx hb dX7_tallyFitting_52 (by decide) ?_
          refine lv_imul hx hb dX7_tallyFitting_54 ?_
          refine lv_aload_n hx hb dX7_tallyFitting_55 rfl (lv_at hl 1 rfl) ?_
          refine lv_iload hx hb dX7_tallyFitting_56 (lv_at hl 4 rfl) ?_
          refine lv_iload hx hb dX7_tallyFitting_58 (lv_at hl 5 rfl) ?_
          refine mcip hf hS (fun r h => va_runS (As := [.ref (bs g p1), .int r_7, .int i_14]) (rest := [.int (i_14 * 7)]) ⟨hx, hb, hml, hown, hts⟩ (c_X7_alike g l 0 81 σ_15 p1 r_7 i_14 t1 r h) (cl_X7_84 hts ⟨Nat.le_of_ble_eq_true rfl, Nat.le_of_ble_eq_true rfl⟩) (mpS hZ hT hS hW _) rfl rfl hl.1 rfl (lv_room (Nat.le_of_ble_eq_true rfl)) dX7_tallyFitting_60 ⟨Nat.zero_le _, Nat.zero_le _⟩) (fun r_18 H locs hf hW hS => ?_)
          refine lv_iadd hx hb dX7_tallyFitting_63 ?_
          refine mnmi hf (fun (x_19 : Int32) hf => ?_)
          refine lv_istore (lv' := [(6, .int x_19), (0, .ref (bs g 61)), (1, .ref (bs g p1)), (2, .int 1), (3, .int i_3), (4, .int r_7), (5, .int i_14)]) hx hb dX7_tallyFitting_64 hl (by decide) rfl (fun ls hl => ?_)
          refine lv_aload_n hx hb dX7_tallyFitting_66 rfl (lv_at hl 1 rfl) ?_
          refine gf_7_1 hx hb htg (htg _ lf_X7_15) hown hZ hW tz_61 dX7_tallyFitting_67 ?_
          refine lv_iload hx hb dX7_tallyFitting_70 (lv_at hl 0 rfl) ?_
          refine lv_aload_n hx hb dX7_tallyFitting_72 rfl (lv_at hl 1 rfl) ?_
          refine gf_7_1 hx hb htg (htg _ lf_X7_15) hown hZ hW tz_61 dX7_tallyFitting_73 ?_
          refine lv_iload hx hb dX7_tallyFitting_76 (lv_at hl 0 rfl) ?_
          refine mcip hf hS (fun r h => va_runSN (As := [.ref (bs g (61 + 2)), .int x_19]) (rest := [.int x_19, .ref (bs g (61 + 2))]) ⟨hx, hb, hml, hown, hts⟩ (c_X12_get g l 0 81 σ_15 (61 + 2) x_19 (tz_61.sub 20 2 so_7_20_2) r h) (cl_X7_71 hts hZ ⟨Nat.le_of_ble_eq_true rfl, Nat.le_of_ble_eq_true rfl⟩) (mpS hZ hT hS hW _) rfl rfl hl.1 rfl (lv_room (Nat.le_of_ble_eq_true rfl)) dX7_tallyFitting_78 ⟨Nat.zero_le _, Nat.zero_le _⟩) (fun r_20 H locs hf hW hS => ?_)
          refine lv_iconst (v := 1) hx hb dX7_tallyFitting_81 (by decide) ?_
          refine lv_iadd hx hb dX7_tallyFitting_82 ?_
          refine mcv hf hS (fun τ h => va_runSN (As := [.ref (bs g (61 + 2)), .int x_19, .int (r_20 + 1)]) (rest := []) ⟨hx, hb, hml, hown, hts⟩ (c_X12_set g l 0 81 σ_15 (61 + 2) x_19 (r_20 + 1) (tz_61.sub 20 2 so_7_20_2) τ h) (cl_X7_67 hts hZ ⟨Nat.le_of_ble_eq_true rfl, Nat.le_of_ble_eq_true rfl⟩) (mpS hZ hT hS hW _) rfl rfl hl.1 rfl (lv_room (Nat.le_of_ble_eq_true rfl)) dX7_tallyFitting_83 ⟨Nat.zero_le _, Nat.zero_le _⟩) (fun σ_21 H locs hf hW hS => ?_)
          obtain ⟨x_22, e_23, hf⟩ := nm_s hf
          refine lv_iinc (v := x_22) (lv' := [(5, .int x_22), (6, .int x_19), (0, .ref (bs g 61)), (1, .ref (bs g p1)), (2, .int 1), (3, .int i_3), (4, .int r_7)]) hx hb dX7_tallyFitting_86 hl (k := 6) rfl (by rw [e_23]; rfl) (by decide) rfl (fun ls hl => ?_)
          refine lv_goto (tgt := 41) hx hb dX7_tallyFitting_89 (by decide) ?_
          exact hk_16 x_22 σ_21 hf H locs ls hW hS (lv_sub hl [2, 3, 4, 5, 6, 0] rfl)
def f_X7_mostLeft (σ : Mem) (a1 : Int32) : Option (Int32) :=
  fx2 FU (fun k_3 (i_1 : Int32) (i_2 : Int32) => (if 6 < i_2 then some i_1 else bd1 (f_X12_get σ (61 + 2) ((a1 * 7) + i_2)) (fun (r_4 : Int32) => nm (if i_1 < r_4 then r_4 else i_1) (fun (x_5 : Int32) => nm (i_2 + 1) (fun (x_6 : Int32) => k_3 x_5 x_6))))) 0 0
set_option maxHeartbeats 4000000 in
set_option maxRecDepth 100000 in
theorem c_X7_mostLeft (g : XG) (l : Launch) (σ : Mem) (a1 : Int32) (r : Int32) (hf : f_X7_mostLeft σ a1 = some r) : Met l yX7_mostLeft (wx (.code yX7_mostLeft cX7_mostLeft 4 (some .int))) (kr 1 60) (va_Pc [.ref (bs g 61), .int a1] (WS g 0 81 σ)) (Qi' g 0 81 r σ) 0 0 (Ag g 0) := by
  refine Met.ofW (cc := cX7_mostLeft) (maxL := 4) (ret := (some .int)) (by decide) rfl ?_
  intro p e s m args below meth c s₁ B hml hv
  obtain ⟨rfl, hZ, hT, hW⟩ := hv
  have hx := B.exec
  have hb := B.bytes
  have hr := B.returns
  have hts : ∀ w ∈ wx (.code yX7_mostLeft cX7_mostLeft 4 (some .int)), w.before _ s = true := atoms_spec B.pre
  have htg : ∀ w ∈ lwg, w.before _ s = true := fun w h => hts w (List.mem_cons_of_mem _ h)
  have hown : s.vm.findClass RX7 = some m.cls := findClass_of_methodNamed B.named
  have hlocks := B.notSynchronized
  change W p l e (kr 1 60) s m (List.toArray [.ref (bs g 61), .int a1]) below meth c s.heap [] 0 0 (MQ below (Qi' g 0 81 r σ) (List.toArray [.ref (bs g 61), .int a1]) s 0 0 (Ag g 0)) _
  generalize hQ : MQ below (Qi' g 0 81 r σ) (List.toArray [.ref (bs g 61), .int a1]) s 0 0 (Ag g 0) = Q
  have hS : va_S (Ag g 0) s.heap s.heap [] := va_S.rf
  have hl := lv_entry ([.ref (bs g 61), .int a1]) (n := 4) (Nat.le_of_ble_eq_true rfl)
  rw [lg_entry_eq]
  generalize (lg_sl ([.ref (bs g 61), .int a1]) ++ List.replicate (4 - (lg_sl ([.ref (bs g 61), .int a1])).length) Slot.unset).toArray = ls at hl ⊢
  have hl : lv_has ls 4 [(0, .ref (bs g 61)), (1, .int a1)] := hl
  delta f_X7_mostLeft at hf
  obtain ⟨H, hH⟩ : ∃ H, H = s.heap := ⟨_, rfl⟩
  obtain ⟨locs, hLc⟩ : ∃ z : List Loc, z = [] := ⟨_, rfl⟩
  have hS : va_S (Ag g 0) s.heap H locs := by rw [hH, hLc]; exact hS
  have hW : Wd g 0 81 σ H := by rw [hH]; exact hW
  suffices hG : W p l e (kr 1 60) s m (List.toArray [.ref (bs g 61), .int a1]) below meth c H locs 0 0 Q (F0 m 0 ls []) by rw [hH, hLc] at hG; exact hG
  clear hH hLc
  refine lv_iconst (v := 0) hx hb dX7_mostLeft_0 (by decide) ?_
  refine lv_istore_n (lv' := [(2, .int 0), (0, .ref (bs g 61)), (1, .int a1)]) hx hb dX7_mostLeft_1 rfl hl (by decide) rfl (fun ls hl => ?_)
  refine lv_iconst (v := 0) hx hb dX7_mostLeft_2 (by decide) ?_
  refine lv_istore_n (lv' := [(3, .int 0), (2, .int 0), (0, .ref (bs g 61)), (1, .int a1)]) hx hb dX7_mostLeft_3 rfl hl (by decide) rfl (fun ls hl => ?_)
  refine fx2_W (fun (i_1 : Int32) (i_2 : Int32) => ∀ (H : Heap) (locs : List Loc) (ls : Array Slot), Wd g 0 81 σ H → va_S (Ag g 0) s.heap H locs → lv_has ls 4 [(0, .ref (bs g 61)), (1, .int a1), (2, .int i_1), (3, .int i_2)] → W p l e (kr 1 60) s m (List.toArray [.ref (bs g 61), .int a1]) below meth c H locs 0 0 Q (F0 m 4 ls [])) (fun k_3 hk_3 i_1 i_2 hf => ?_) FU 0 0 hf H locs ls hW hS (lv_sub hl [2, 3, 1, 0] rfl)
  intro H locs ls hW hS hl
  refine lv_iload_n hx hb dX7_mostLeft_4 rfl (lv_at hl 3 rfl) ?_
  refine lv_bipush (v := 6) hx hb dX7_mostLeft_5 (by decide) ?_
  refine lv_icmp_gt (tgt := 34) hx hb dX7_mostLeft_7 (by decide) (fun hc => ?_) (fun hc => ?_)
  · have hf := ift hc hf
    refine lv_iload_n hx hb dX7_mostLeft_34 rfl (lv_at hl 2 rfl) ?_
    subst hQ
    exact mri hx hb hr hlocks hZ hT hS hW ⟨Option.some.inj hf, rfl⟩ dX7_mostLeft_35
  · have hf := iff_ hc hf
    refine lv_iload_n hx hb dX7_mostLeft_10 rfl (lv_at hl 2 rfl) ?_
    refine lv_aload_n hx hb dX7_mostLeft_11 rfl (lv_at hl 0 rfl) ?_
    refine gf_7_1 hx hb htg (htg _ lf_X7_15) hown hZ hW tz_61 dX7_mostLeft_12 ?_
    refine lv_iload_n hx hb dX7_mostLeft_15 rfl (lv_at hl 1 rfl) ?_
    refine lv_bipush (v := 7) hx hb dX7_mostLeft_16 (by decide) ?_
    refine lv_imul hx hb dX7_mostLeft_18 ?_
    refine lv_iload_n hx hb dX7_mostLeft_19 rfl (lv_at hl 3 rfl) ?_
    refine lv_iadd hx hb dX7_mostLeft_20 ?_
    refine mcip hf hS (fun r h => va_runSN (As := [.ref (bs g (61 + 2)), .int ((a1 * 7) + i_2)]) (rest := [.int i_1]) ⟨hx, hb, hml, hown, hts⟩ (c_X12_get g l 0 81 σ (61 + 2) ((a1 * 7) + i_2) (tz_61.sub 20 2 so_7_20_2) r h) (cl_X7_71 hts hZ ⟨Nat.le_of_ble_eq_true rfl, Nat.le_of_ble_eq_true rfl⟩) (mpS hZ hT hS hW _) rfl rfl hl.1 rfl (lv_room (Nat.le_of_ble_eq_true rfl)) dX7_mostLeft_21 ⟨Nat.zero_le _, Nat.zero_le _⟩) (fun r_4 H locs hf hW hS => ?_)
    refine va_mmax hx hb (hml.trans hl.1.symm) hown (htg _ lm_X7_120) (htg _ lst_Math_max) (htg _ ini_Math) (htg _ lc_Math_max) (Nat.le_of_ble_eq_true rfl) (Nat.le_of_ble_eq_true rfl) (Nat.zero_le _) (Nat.zero_le _) dX7_mostLeft_24 ?_
    refine mnmi hf (fun (x_5 : Int32) hf => ?_)
    refine lv_istore_n (lv' := [(2, .int x_5), (0, .ref (bs g 61)), (1, .int a1), (3, .int i_2)]) hx hb dX7_mostLeft_27 rfl hl (by decide) rfl (fun ls hl => ?_)
    obtain ⟨x_6, e_7, hf⟩ := nm_s hf
    refine lv_iinc (v := x_6) (lv' := [(3, .int x_6), (2, .int x_5), (0, .ref (bs g 61)), (1, .int a1)]) hx hb dX7_mostLeft_28 hl (k := 3) rfl (by rw [e_7]; rfl) (by decide) rfl (fun ls hl => ?_)
    refine lv_goto (tgt := 4) hx hb dX7_mostLeft_31 (by decide) ?_
    exact hk_3 x_5 x_6 hf H locs ls hW hS (lv_sub hl [2, 3, 1, 0] rfl)
def f_X7_choosePass (σ : Mem) (p1 : Nat) : Option (Mem) :=
  bd2 (f_X7_tallyFitting σ p1) (fun (r_1 : Int32) (σ_2 : Mem) => nm (sI σ_2 61 3 (-2)) (fun (σ_3 : Mem) => nm (sI σ_3 61 4 (-2)) (fun (σ_4 : Mem) => fx2 FU (fun k_7 (i_5 : Int32) (σ_6 : Mem) => bd1 (f_X11_people σ_6 p1) (fun (r_8 : Int32) => (if r_8 ≤ i_5 then some σ_6 else (if r_1 = 0 then some σ_6 else bd1 (f_X7_mostLeft σ_6 i_5) (fun (r_9 : Int32) => jn1 (fun (σ_10 : Mem) => nm (i_5 + 1) (fun (x_12 : Int32) => k_7 x_12 σ_10)) (fun k_11 => jn0 (nm (sI σ_6 61 3 i_5) (fun (σ_15 : Mem) => nm (sI σ_15 61 4 r_9) (fun (σ_16 : Mem) => k_11 σ_16))) (fun k_14 => (if (σ_6.1 61 3) < 0 then k_14 else (if (σ_6.1 61 4) ≤ r_9 then k_11 σ_6 else k_14))))))))) 0 σ_4)))
set_option maxHeartbeats 4000000 in
set_option maxRecDepth 100000 in
theorem c_X7_choosePass (g : XG) (l : Launch) (σ : Mem) (p1 : Nat) (t1 : tp 11 0 81 p1) (τ : Mem) (hf : f_X7_choosePass σ p1 = some τ) : Met l yX7_choosePass (wx (.code yX7_choosePass cX7_choosePass 5 none)) (kr 5 112) (va_Pc [.ref (bs g 61), .ref (bs g p1)] (WS g 0 81 σ)) (Qv' g 0 81 τ) 0 0 (Ag g 0) := by
  refine Met.ofW (cc := cX7_choosePass) (maxL := 5) (ret := none) (by decide) rfl ?_
  intro p e s m args below meth c s₁ B hml hv
  obtain ⟨rfl, hZ, hT, hW⟩ := hv
  have hx := B.exec
  have hb := B.bytes
  have hr := B.returns
  have hts : ∀ w ∈ wx (.code yX7_choosePass cX7_choosePass 5 none), w.before _ s = true := atoms_spec B.pre
  have htg : ∀ w ∈ lwg, w.before _ s = true := fun w h => hts w (List.mem_cons_of_mem _ h)
  have hown : s.vm.findClass RX7 = some m.cls := findClass_of_methodNamed B.named
  have hlocks := B.notSynchronized
  change W p l e (kr 5 112) s m (List.toArray [.ref (bs g 61), .ref (bs g p1)]) below meth c s.heap [] 0 0 (MQ below (Qv' g 0 81 τ) (List.toArray [.ref (bs g 61), .ref (bs g p1)]) s 0 0 (Ag g 0)) _
  generalize hQ : MQ below (Qv' g 0 81 τ) (List.toArray [.ref (bs g 61), .ref (bs g p1)]) s 0 0 (Ag g 0) = Q
  have hS : va_S (Ag g 0) s.heap s.heap [] := va_S.rf
  have hl := lv_entry ([.ref (bs g 61), .ref (bs g p1)]) (n := 5) (Nat.le_of_ble_eq_true rfl)
  rw [lg_entry_eq]
  generalize (lg_sl ([.ref (bs g 61), .ref (bs g p1)]) ++ List.replicate (5 - (lg_sl ([.ref (bs g 61), .ref (bs g p1)])).length) Slot.unset).toArray = ls at hl ⊢
  have hl : lv_has ls 5 [(0, .ref (bs g 61)), (1, .ref (bs g p1))] := hl
  delta f_X7_choosePass at hf
  obtain ⟨H, hH⟩ : ∃ H, H = s.heap := ⟨_, rfl⟩
  obtain ⟨locs, hLc⟩ : ∃ z : List Loc, z = [] := ⟨_, rfl⟩
  have hS : va_S (Ag g 0) s.heap H locs := by rw [hH, hLc]; exact hS
  have hW : Wd g 0 81 σ H := by rw [hH]; exact hW
  suffices hG : W p l e (kr 5 112) s m (List.toArray [.ref (bs g 61), .ref (bs g p1)]) below meth c H locs 0 0 Q (F0 m 0 ls []) by rw [hH, hLc] at hG; exact hG
  clear hH hLc
  refine lv_aload_n hx hb dX7_choosePass_0 rfl (lv_at hl 0 rfl) ?_
  refine lv_aload_n hx hb dX7_choosePass_1 rfl (lv_at hl 1 rfl) ?_
  refine mci hf hS (fun r τ h => va_runV (As := [.ref (bs g p1)]) (rest := []) ⟨hx, hb, hml, hown, hts⟩ (c_X7_tallyFitting g l σ p1 t1 r τ h) (cl_X7_103 hts ⟨Nat.le_of_ble_eq_true rfl, Nat.le_of_ble_eq_true rfl⟩) (mpV_7 hZ hT hS hW tz_61 _) rfl rfl hl.1 rfl (lv_room (Nat.le_of_ble_eq_true rfl)) dX7_choosePass_2 ⟨Nat.zero_le _, Nat.zero_le _⟩) (fun r_1 σ_2 H locs hf hW hS => ?_)
  refine lv_istore_n (lv' := [(2, .int r_1), (0, .ref (bs g 61)), (1, .ref (bs g p1))]) hx hb dX7_choosePass_5 rfl hl (by decide) rfl (fun ls hl => ?_)
  refine lv_aload_n hx hb dX7_choosePass_6 rfl (lv_at hl 1 rfl) ?_
  refine lv_bipush (v := (-2)) hx hb dX7_choosePass_7 (by decide) ?_
  refine pf_7_3 hx hb htg (htg _ lf_X7_107) hown hZ hW hS tz_61 dX7_choosePass_9 hf (fun σ_3 H locs hf hW hS => ?_)
  refine lv_aload_n hx hb dX7_choosePass_12 rfl (lv_at hl 1 rfl) ?_
  refine lv_bipush (v := (-2)) hx hb dX7_choosePass_13 (by decide) ?_
  refine pf_7_4 hx hb htg (htg _ lf_X7_110) hown hZ hW hS tz_61 dX7_choosePass_15 hf (fun σ_4 H locs hf hW hS => ?_)
  refine lv_iconst (v := 0) hx hb dX7_choosePass_18 (by decide) ?_
  refine lv_istore_n (lv' := [(3, .int 0), (2, .int r_1), (0, .ref (bs g 61)), (1, .ref (bs g p1))]) hx hb dX7_choosePass_19 rfl hl (by decide) rfl (fun ls hl => ?_)
  refine fx2_W (fun (i_5 : Int32) (σ_6 : Mem) => ∀ (H : Heap) (locs : List Loc) (ls : Array Slot), Wd g 0 81 σ_6 H → va_S (Ag g 0) s.heap H locs → lv_has ls 5 [(0, .ref (bs g 61)), (1, .ref (bs g p1)), (2, .int r_1), (3, .int i_5)] → W p l e (kr 5 112) s m (List.toArray [.ref (bs g 61), .ref (bs g p1)]) below meth c H locs 0 0 Q (F0 m 20 ls [])) (fun k_7 hk_7 i_5 σ_6 hf => ?_) FU 0 σ_4 hf H locs ls hW hS (lv_sub hl [2, 3, 1, 0] rfl)
  intro H locs ls hW hS hl
  refine lv_iload_n hx hb dX7_choosePass_20 rfl (lv_at hl 3 rfl) ?_
  refine lv_aload_n hx hb dX7_choosePass_21 rfl (lv_at hl 1 rfl) ?_
  refine mcip hf hS (fun r h => va_runV (As := []) (rest := [.int i_5]) ⟨hx, hb, hml, hown, hts⟩ (c_X11_people g l 0 81 σ_6 p1 t1 r h) (cl_X7_47 hts ⟨Nat.le_of_ble_eq_true rfl, Nat.le_of_ble_eq_true rfl⟩) (mpV_11 hZ hT hS hW t1 _) rfl rfl hl.1 rfl (lv_room (Nat.le_of_ble_eq_true rfl)) dX7_choosePass_22 ⟨Nat.zero_le _, Nat.zero_le _⟩) (fun r_8 H locs hf hW hS => ?_)
  refine lv_icmp_ge (tgt := 72) hx hb dX7_choosePass_25 (by decide) (fun hc => ?_) (fun hc => ?_)
  · have hf := ift hc hf
    subst hQ
    exact mrv hx hb hr hlocks hZ hT hS hW (Option.some.inj hf) dX7_choosePass_72
  · have hf := iff_ hc hf
    refine lv_iload_n hx hb dX7_choosePass_28 rfl (lv_at hl 2 rfl) ?_
    refine lv_if_eq (tgt := 72) hx hb dX7_choosePass_29 (by decide) (fun hc => ?_) (fun hc => ?_)
    · have hf := ift hc hf
      subst hQ
      exact mrv hx hb hr hlocks hZ hT hS hW (Option.some.inj hf) dX7_choosePass_72
    · have hf := iff_ hc hf
      refine lv_aload_n hx hb dX7_choosePass_32 rfl (lv_at hl 0 rfl) ?_
      refine lv_iload_n hx hb dX7_choosePass_33 rfl (lv_at hl 3 rfl) ?_
      refine mcip hf hS (fun r h => va_runV (As := [.int i_5]) (rest := []) ⟨hx, hb, hml, hown, hts⟩ (c_X7_mostLeft g l σ_6 i_5 r h) (cl_X7_113 hts ⟨Nat.le_of_ble_eq_true rfl, Nat.le_of_ble_eq_true rfl⟩) (mpV_7 hZ hT hS hW tz_61 _) rfl rfl hl.1 rfl (lv_room (Nat.le_of_ble_eq_true rfl)) dX7_choosePass_34 ⟨Nat.zero_le _, Nat.zero_le _⟩) (fun r_9 H locs hf hW hS => ?_)
      refine lv_istore (lv' := [(4, .int r_9), (0, .ref (bs g 61)), (1, .ref (bs g p1)), (2, .int r_1), (3, .int i_5)]) hx hb dX7_choosePass_37 hl (by decide) rfl (fun ls hl => ?_)
      refine lv_aload_n hx hb dX7_choosePass_39 rfl (lv_at hl 1 rfl) ?_
      refine gf_7_3 hx hb htg (htg _ lf_X7_107) hown hZ hW tz_61 dX7_choosePass_40 ?_
      refine jn1_W (fun (σ_10 : Mem) => ∀ (H : Heap) (locs : List Loc) (ls : Array Slot), Wd g 0 81 σ_10 H → va_S (Ag g 0) s.heap H locs → lv_has ls 5 [(0, .ref (bs g 61)), (1, .ref (bs g p1)), (2, .int r_1), (3, .int i_5)] → W p l e (kr 5 112) s m (List.toArray [.ref (bs g 61), .ref (bs g p1)]) below meth c H locs 0 0 Q (F0 m 66 ls [])) hf (fun σ_10 hf => ?_) (fun k_11 hk_11 hf => ?_)
      · intro H locs ls hW hS hl
        obtain ⟨x_12, e_13, hf⟩ := nm_s hf
        refine lv_iinc (v := x_12) (lv' := [(3, .int x_12), (0, .ref (bs g 61)), (1, .ref (bs g p1)), (2, .int r_1)]) hx hb dX7_choosePass_66 hl (k := 3) rfl (by rw [e_13]; rfl) (by decide) rfl (fun ls hl => ?_)
        refine lv_goto (tgt := 20) hx hb dX7_choosePass_69 (by decide) ?_
        exact hk_7 x_12 σ_10 hf H locs ls hW hS (lv_sub hl [1, 2, 3, 0] rfl)
      · refine jn0_W (∀ (H : Heap) (locs : List Loc) (ls : Array Slot), Wd g 0 81 σ_6 H → va_S (Ag g 0) s.heap H locs → lv_has ls 5 [(0, .ref (bs g 61)), (1, .ref (bs g p1)), (2, .int r_1), (3, .int i_5), (4, .int r_9)] → W p l e (kr 5 112) s m (List.toArray [.ref (bs g 61), .ref (bs g p1)]) below meth c H locs 0 0 Q (F0 m 55 ls [])) hf (fun  hf => ?_) (fun k_14 hk_14 hf => ?_)
        · intro H locs ls hW hS hl
          refine lv_aload_n hx hb dX7_choosePass_55 rfl (lv_at hl 0 rfl) ?_
          refine lv_iload_n hx hb dX7_choosePass_56 rfl (lv_at hl 3 rfl) ?_
          refine pf_7_3 hx hb htg (htg _ lf_X7_107) hown hZ hW hS tz_61 dX7_choosePass_57 hf (fun σ_15 H locs hf hW hS => ?_)
          refine lv_aload_n hx hb dX7_choosePass_60 rfl (lv_at hl 0 rfl) ?_
          refine lv_iload hx hb dX7_choosePass_61 (lv_at hl 4 rfl) ?_
          refine pf_7_4 hx hb htg (htg _ lf_X7_110) hown hZ hW hS tz_61 dX7_choosePass_63 hf (fun σ_16 H locs hf hW hS => ?_)
          exact hk_11 σ_16 hf H locs ls hW hS (lv_sub hl [0, 1, 2, 3] rfl)
        · refine lv_if_lt (tgt := 55) hx hb dX7_choosePass_43 (by decide) (fun hc => ?_) (fun hc => ?_)
          · have hf := ift hc hf
            exact hk_14  hf H locs ls hW hS (lv_sub hl [1, 2, 3, 4, 0] rfl)
          · have hf := iff_ hc hf
            refine lv_iload hx hb dX7_choosePass_46 (lv_at hl 0 rfl) ?_
            refine lv_aload_n hx hb dX7_choosePass_48 rfl (lv_at hl 1 rfl) ?_
            refine gf_7_4 hx hb htg (htg _ lf_X7_110) hown hZ hW tz_61 dX7_choosePass_49 ?_
            refine lv_icmp_ge (tgt := 66) hx hb dX7_choosePass_52 (by decide) (fun hc => ?_) (fun hc => ?_)
            · have hf := ift hc hf
              exact hk_11 σ_6 hf H locs ls hW hS (lv_sub hl [1, 2, 3, 4] rfl)
            · have hf := iff_ hc hf
              exact hk_14  hf H locs ls hW hS (lv_sub hl [1, 2, 3, 4, 0] rfl)
def f_X11_firstWish (σ : Mem) (p0 : Nat) (a1 : Int32) : Option (Int32) :=
  fx1 FU (fun k_2 (i_1 : Int32) => bd1 (f_X11_wishes σ p0) (fun (r_3 : Int32) => (if r_3 ≤ i_1 then some (-2) else bd1 (f_X12_get σ (p0 + 8) i_1) (fun (r_4 : Int32) => (if r_4 = a1 then bd1 (f_X12_get σ (p0 + 9) i_1) (fun (r_7 : Int32) => some r_7) else nm (i_1 + 1) (fun (x_5 : Int32) => k_2 x_5)))))) 0
set_option maxHeartbeats 4000000 in
set_option maxRecDepth 100000 in
theorem c_X11_firstWish (g : XG) (l : Launch) (lo n : Nat) (σ : Mem) (p0 : Nat) (a1 : Int32) (t0 : tp 11 lo n p0) (r : Int32) (hf : f_X11_firstWish σ p0 a1 = some r) : Met l yX11_firstWish (wx (.code yX11_firstWish cX11_firstWish 3 (some .int))) (kr 2 41) (va_Pc [.ref (bs g p0), .int a1] (WS g lo n σ)) (Qi' g lo n r σ) 0 0 (Ag g lo) := by
  refine Met.ofW (cc := cX11_firstWish) (maxL := 3) (ret := (some .int)) (by decide) rfl ?_
  intro p e s m args below meth c s₁ B hml hv
  obtain ⟨rfl, hZ, hT, hW⟩ := hv
  have hx := B.exec
  have hb := B.bytes
  have hr := B.returns
  have hts : ∀ w ∈ wx (.code yX11_firstWish cX11_firstWish 3 (some .int)), w.before _ s = true := atoms_spec B.pre
  have htg : ∀ w ∈ lwg, w.before _ s = true := fun w h => hts w (List.mem_cons_of_mem _ h)
  have hown : s.vm.findClass RX11 = some m.cls := findClass_of_methodNamed B.named
  have hlocks := B.notSynchronized
  change W p l e (kr 2 41) s m (List.toArray [.ref (bs g p0), .int a1]) below meth c s.heap [] 0 0 (MQ below (Qi' g lo n r σ) (List.toArray [.ref (bs g p0), .int a1]) s 0 0 (Ag g lo)) _
  generalize hQ : MQ below (Qi' g lo n r σ) (List.toArray [.ref (bs g p0), .int a1]) s 0 0 (Ag g lo) = Q
  have hS : va_S (Ag g lo) s.heap s.heap [] := va_S.rf
  have hl := lv_entry ([.ref (bs g p0), .int a1]) (n := 3) (Nat.le_of_ble_eq_true rfl)
  rw [lg_entry_eq]
  generalize (lg_sl ([.ref (bs g p0), .int a1]) ++ List.replicate (3 - (lg_sl ([.ref (bs g p0), .int a1])).length) Slot.unset).toArray = ls at hl ⊢
  have hl : lv_has ls 3 [(0, .ref (bs g p0)), (1, .int a1)] := hl
  delta f_X11_firstWish at hf
  obtain ⟨H, hH⟩ : ∃ H, H = s.heap := ⟨_, rfl⟩
  obtain ⟨locs, hLc⟩ : ∃ z : List Loc, z = [] := ⟨_, rfl⟩
  have hS : va_S (Ag g lo) s.heap H locs := by rw [hH, hLc]; exact hS
  have hW : Wd g lo n σ H := by rw [hH]; exact hW
  suffices hG : W p l e (kr 2 41) s m (List.toArray [.ref (bs g p0), .int a1]) below meth c H locs 0 0 Q (F0 m 0 ls []) by rw [hH, hLc] at hG; exact hG
  clear hH hLc
  refine lv_iconst (v := 0) hx hb dX11_firstWish_0 (by decide) ?_
  refine lv_istore_n (lv' := [(2, .int 0), (0, .ref (bs g p0)), (1, .int a1)]) hx hb dX11_firstWish_1 rfl hl (by decide) rfl (fun ls hl => ?_)
  refine fx1_W (fun (i_1 : Int32) => ∀ (H : Heap) (locs : List Loc) (ls : Array Slot), Wd g lo n σ H → va_S (Ag g lo) s.heap H locs → lv_has ls 3 [(0, .ref (bs g p0)), (1, .int a1), (2, .int i_1)] → W p l e (kr 2 41) s m (List.toArray [.ref (bs g p0), .int a1]) below meth c H locs 0 0 Q (F0 m 2 ls [])) (fun k_2 hk_2 i_1 hf => ?_) FU 0 hf H locs ls hW hS (lv_sub hl [1, 2, 0] rfl)
  intro H locs ls hW hS hl
  refine lv_iload_n hx hb dX11_firstWish_2 rfl (lv_at hl 2 rfl) ?_
  refine lv_aload_n hx hb dX11_firstWish_3 rfl (lv_at hl 0 rfl) ?_
  refine mcip hf hS (fun r h => va_runV (As := []) (rest := [.int i_1]) ⟨hx, hb, hml, hown, hts⟩ (c_X11_wishes g l lo n σ p0 t0 r h) (cl_X11_115 hts ⟨Nat.le_of_ble_eq_true rfl, Nat.le_of_ble_eq_true rfl⟩) (mpV_11 hZ hT hS hW t0 _) rfl rfl hl.1 rfl (lv_room (Nat.le_of_ble_eq_true rfl)) dX11_firstWish_4 ⟨Nat.zero_le _, Nat.zero_le _⟩) (fun r_3 H locs hf hW hS => ?_)
  refine lv_icmp_ge (tgt := 37) hx hb dX11_firstWish_7 (by decide) (fun hc => ?_) (fun hc => ?_)
  · have hf := ift hc hf
    refine lv_bipush (v := (-2)) hx hb dX11_firstWish_37 (by decide) ?_
    subst hQ
    exact mri hx hb hr hlocks hZ hT hS hW ⟨Option.some.inj hf, rfl⟩ dX11_firstWish_39
  · have hf := iff_ hc hf
    refine lv_aload_n hx hb dX11_firstWish_10 rfl (lv_at hl 0 rfl) ?_
    refine gf_11_10 hx hb htg (htg _ lf_X11_39) hown hZ hW t0 dX11_firstWish_11 ?_
    refine lv_iload_n hx hb dX11_firstWish_14 rfl (lv_at hl 2 rfl) ?_
    refine mcip hf hS (fun r h => va_runSN (As := [.ref (bs g (p0 + 8)), .int i_1]) (rest := []) ⟨hx, hb, hml, hown, hts⟩ (c_X12_get g l lo n σ (p0 + 8) i_1 (t0.sub 20 8 so_11_20_8) r h) (cl_X11_76 hts hZ ⟨Nat.le_of_ble_eq_true rfl, Nat.le_of_ble_eq_true rfl⟩) (mpS hZ hT hS hW _) rfl rfl hl.1 rfl (lv_room (Nat.le_of_ble_eq_true rfl)) dX11_firstWish_15 ⟨Nat.zero_le _, Nat.zero_le _⟩) (fun r_4 H locs hf hW hS => ?_)
    refine lv_iload_n hx hb dX11_firstWish_18 rfl (lv_at hl 1 rfl) ?_
    refine lv_icmp_ne (tgt := 31) hx hb dX11_firstWish_19 (by decide) (fun hc => ?_) (fun hc => ?_)
    · have hf := iff_ hc hf
      obtain ⟨x_5, e_6, hf⟩ := nm_s hf
      refine lv_iinc (v := x_5) (lv' := [(2, .int x_5), (0, .ref (bs g p0)), (1, .int a1)]) hx hb dX11_firstWish_31 hl (k := 2) rfl (by rw [e_6]; rfl) (by decide) rfl (fun ls hl => ?_)
      refine lv_goto (tgt := 2) hx hb dX11_firstWish_34 (by decide) ?_
      exact hk_2 x_5 hf H locs ls hW hS (lv_sub hl [1, 2, 0] rfl)
    · have hf := ift hc hf
      refine lv_aload_n hx hb dX11_firstWish_22 rfl (lv_at hl 0 rfl) ?_
      refine gf_11_11 hx hb htg (htg _ lf_X11_42) hown hZ hW t0 dX11_firstWish_23 ?_
      refine lv_iload_n hx hb dX11_firstWish_26 rfl (lv_at hl 2 rfl) ?_
      refine mcip hf hS (fun r h => va_runSN (As := [.ref (bs g (p0 + 9)), .int i_1]) (rest := []) ⟨hx, hb, hml, hown, hts⟩ (c_X12_get g l lo n σ (p0 + 9) i_1 (t0.sub 20 9 so_11_20_9) r h) (cl_X11_76 hts hZ ⟨Nat.le_of_ble_eq_true rfl, Nat.le_of_ble_eq_true rfl⟩) (mpS hZ hT hS hW _) rfl rfl hl.1 rfl (lv_room (Nat.le_of_ble_eq_true rfl)) dX11_firstWish_27 ⟨Nat.zero_le _, Nat.zero_le _⟩) (fun r_7 H locs hf hW hS => ?_)
      subst hQ
      exact mri hx hb hr hlocks hZ hT hS hW ⟨Option.some.inj hf, rfl⟩ dX11_firstWish_30
def f_X8_onlyVisit (σ : Mem) (p0 : Nat) (a1 : Int32) : Option (Int32) :=
  nm (σ.1 p0 1) (fun (x_1 : Int32) => fx2 FU (fun k_4 (i_2 : Int32) (i_3 : Int32) => (if 30 ≤ i_3 then some i_2 else bd1 (f_X9_visitor σ p0 i_3) (fun (r_5 : Int32) => jn1 (fun (i_6 : Int32) => nm (i_3 + 1) (fun (x_8 : Int32) => k_4 i_6 x_8)) (fun k_7 => (if r_5 = a1 then (if i_2 < 0 then k_7 i_3 else some (-2)) else k_7 i_2))))) (-2) x_1)
set_option maxHeartbeats 4000000 in
set_option maxRecDepth 100000 in
theorem c_X8_onlyVisit (g : XG) (l : Launch) (lo n : Nat) (σ : Mem) (p0 : Nat) (a1 : Int32) (t0 : tp 9 lo n p0) (r : Int32) (hf : f_X8_onlyVisit σ p0 a1 = some r) : Met l yX8_onlyVisit (wx (.code yX8_onlyVisit cX8_onlyVisit 4 (some .int))) (kr 2 42) (va_Pc [.ref (bs g p0), .int a1] (WS g lo n σ)) (Qi' g lo n r σ) 0 0 (Ag g lo) := by
  refine Met.ofW (cc := cX8_onlyVisit) (maxL := 4) (ret := (some .int)) (by decide) rfl ?_
  intro p e s m args below meth c s₁ B hml hv
  obtain ⟨rfl, hZ, hT, hW⟩ := hv
  have hx := B.exec
  have hb := B.bytes
  have hr := B.returns
  have hts : ∀ w ∈ wx (.code yX8_onlyVisit cX8_onlyVisit 4 (some .int)), w.before _ s = true := atoms_spec B.pre
  have htg : ∀ w ∈ lwg, w.before _ s = true := fun w h => hts w (List.mem_cons_of_mem _ h)
  have hown : s.vm.findClass RX8 = some m.cls := findClass_of_methodNamed B.named
  have hlocks := B.notSynchronized
  change W p l e (kr 2 42) s m (List.toArray [.ref (bs g p0), .int a1]) below meth c s.heap [] 0 0 (MQ below (Qi' g lo n r σ) (List.toArray [.ref (bs g p0), .int a1]) s 0 0 (Ag g lo)) _
  generalize hQ : MQ below (Qi' g lo n r σ) (List.toArray [.ref (bs g p0), .int a1]) s 0 0 (Ag g lo) = Q
  have hS : va_S (Ag g lo) s.heap s.heap [] := va_S.rf
  have hl := lv_entry ([.ref (bs g p0), .int a1]) (n := 4) (Nat.le_of_ble_eq_true rfl)
  rw [lg_entry_eq]
  generalize (lg_sl ([.ref (bs g p0), .int a1]) ++ List.replicate (4 - (lg_sl ([.ref (bs g p0), .int a1])).length) Slot.unset).toArray = ls at hl ⊢
  have hl : lv_has ls 4 [(0, .ref (bs g p0)), (1, .int a1)] := hl
  delta f_X8_onlyVisit at hf
  obtain ⟨H, hH⟩ : ∃ H, H = s.heap := ⟨_, rfl⟩
  obtain ⟨locs, hLc⟩ : ∃ z : List Loc, z = [] := ⟨_, rfl⟩
  have hS : va_S (Ag g lo) s.heap H locs := by rw [hH, hLc]; exact hS
  have hW : Wd g lo n σ H := by rw [hH]; exact hW
  suffices hG : W p l e (kr 2 42) s m (List.toArray [.ref (bs g p0), .int a1]) below meth c H locs 0 0 Q (F0 m 0 ls []) by rw [hH, hLc] at hG; exact hG
  clear hH hLc
  refine lv_bipush (v := (-2)) hx hb dX8_onlyVisit_0 (by decide) ?_
  refine lv_istore_n (lv' := [(2, .int (-2)), (0, .ref (bs g p0)), (1, .int a1)]) hx hb dX8_onlyVisit_2 rfl hl (by decide) rfl (fun ls hl => ?_)
  refine lv_aload_n hx hb dX8_onlyVisit_3 rfl (lv_at hl 1 rfl) ?_
  refine gfN_9_1 hx hb htg ln_X8_52 hown hZ hW t0 dX8_onlyVisit_4 ?_
  refine mnmi hf (fun (x_1 : Int32) hf => ?_)
  refine lv_istore_n (lv' := [(3, .int x_1), (2, .int (-2)), (0, .ref (bs g p0)), (1, .int a1)]) hx hb dX8_onlyVisit_7 rfl hl (by decide) rfl (fun ls hl => ?_)
  refine fx2_W (fun (i_2 : Int32) (i_3 : Int32) => ∀ (H : Heap) (locs : List Loc) (ls : Array Slot), Wd g lo n σ H → va_S (Ag g lo) s.heap H locs → lv_has ls 4 [(0, .ref (bs g p0)), (1, .int a1), (2, .int i_2), (3, .int i_3)] → W p l e (kr 2 42) s m (List.toArray [.ref (bs g p0), .int a1]) below meth c H locs 0 0 Q (F0 m 8 ls [])) (fun k_4 hk_4 i_2 i_3 hf => ?_) FU (-2) x_1 hf H locs ls hW hS (lv_sub hl [2, 3, 1, 0] rfl)
  intro H locs ls hW hS hl
  refine lv_iload_n hx hb dX8_onlyVisit_8 rfl (lv_at hl 3 rfl) ?_
  refine lv_bipush (v := 30) hx hb dX8_onlyVisit_9 (by decide) ?_
  refine lv_icmp_ge (tgt := 38) hx hb dX8_onlyVisit_11 (by decide) (fun hc => ?_) (fun hc => ?_)
  · have hf := ift hc hf
    refine lv_iload_n hx hb dX8_onlyVisit_38 rfl (lv_at hl 2 rfl) ?_
    subst hQ
    exact mri hx hb hr hlocks hZ hT hS hW ⟨Option.some.inj hf, rfl⟩ dX8_onlyVisit_39
  · have hf := iff_ hc hf
    refine lv_aload_n hx hb dX8_onlyVisit_14 rfl (lv_at hl 0 rfl) ?_
    refine lv_iload_n hx hb dX8_onlyVisit_15 rfl (lv_at hl 3 rfl) ?_
    refine mcip hf hS (fun r h => va_runV (As := [.int i_3]) (rest := []) ⟨hx, hb, hml, hown, hts⟩ (c_X9_visitor g l lo n σ p0 i_3 t0 r h) (cl_X8_56 hts ⟨Nat.le_of_ble_eq_true rfl, Nat.le_of_ble_eq_true rfl⟩) (mpV_9 hZ hT hS hW t0 _) rfl rfl hl.1 rfl (lv_room (Nat.le_of_ble_eq_true rfl)) dX8_onlyVisit_16 ⟨Nat.zero_le _, Nat.zero_le _⟩) (fun r_5 H locs hf hW hS => ?_)
    refine lv_iload_n hx hb dX8_onlyVisit_19 rfl (lv_at hl 1 rfl) ?_
    refine jn1_W (fun (i_6 : Int32) => ∀ (H : Heap) (locs : List Loc) (ls : Array Slot), Wd g lo n σ H → va_S (Ag g lo) s.heap H locs → lv_has ls 4 [(0, .ref (bs g p0)), (1, .int a1), (2, .int i_6), (3, .int i_3)] → W p l e (kr 2 42) s m (List.toArray [.ref (bs g p0), .int a1]) below meth c H locs 0 0 Q (F0 m 32 ls [])) hf (fun i_6 hf => ?_) (fun k_7 hk_7 hf => ?_)
    · intro H locs ls hW hS hl
      obtain ⟨x_8, e_9, hf⟩ := nm_s hf
      refine lv_iinc (v := x_8) (lv' := [(3, .int x_8), (0, .ref (bs g p0)), (1, .int a1), (2, .int i_6)]) hx hb dX8_onlyVisit_32 hl (k := 3) rfl (by rw [e_9]; rfl) (by decide) rfl (fun ls hl => ?_)
      refine lv_goto (tgt := 8) hx hb dX8_onlyVisit_35 (by decide) ?_
      exact hk_4 i_6 x_8 hf H locs ls hW hS (lv_sub hl [1, 2, 3, 0] rfl)
    · refine lv_icmp_ne (tgt := 32) hx hb dX8_onlyVisit_20 (by decide) (fun hc => ?_) (fun hc => ?_)
      · have hf := iff_ hc hf
        exact hk_7 i_2 hf H locs ls hW hS (lv_sub hl [0, 1, 2, 3] rfl)
      · have hf := ift hc hf
        refine lv_iload_n hx hb dX8_onlyVisit_23 rfl (lv_at hl 2 rfl) ?_
        refine lv_if_lt (tgt := 30) hx hb dX8_onlyVisit_24 (by decide) (fun hc => ?_) (fun hc => ?_)
        · have hf := ift hc hf
          refine lv_iload_n hx hb dX8_onlyVisit_30 rfl (lv_at hl 3 rfl) ?_
          refine lv_istore_n (lv' := [(2, .int i_3), (0, .ref (bs g p0)), (1, .int a1), (3, .int i_3)]) hx hb dX8_onlyVisit_31 rfl hl (by decide) rfl (fun ls hl => ?_)
          exact hk_7 i_3 hf H locs ls hW hS (lv_sub hl [1, 2, 0, 3] rfl)
        · have hf := iff_ hc hf
          refine lv_bipush (v := (-2)) hx hb dX8_onlyVisit_27 (by decide) ?_
          subst hQ
          exact mri hx hb hr hlocks hZ hT hS hW ⟨Option.some.inj hf, rfl⟩ dX8_onlyVisit_29
def f_X8_waits (σ : Mem) (a1 : Int32) : Option (Int32) :=
  bd1 (f_X12_get σ (55 + 1) a1) (fun (r_1 : Int32) => jn0 (some 0) (fun k_2 => (if r_1 < 0 then k_2 else bd1 (f_X12_get σ (55 + 2) a1) (fun (r_3 : Int32) => (if 0 ≤ r_3 then k_2 else some 1)))))
set_option maxHeartbeats 4000000 in
set_option maxRecDepth 100000 in
theorem c_X8_waits (g : XG) (l : Launch) (σ : Mem) (a1 : Int32) (r : Int32) (hf : f_X8_waits σ a1 = some r) : Met l yX8_waits (wx (.code yX8_waits cX8_waits 2 (some .boolean))) (kr 1 21) (va_Pc [.ref (bs g 55), .int a1] (WS g 0 81 σ)) (Qi' g 0 81 r σ) 0 0 (Ag g 0) := by
  refine Met.ofW (cc := cX8_waits) (maxL := 2) (ret := (some .boolean)) (by decide) rfl ?_
  intro p e s m args below meth c s₁ B hml hv
  obtain ⟨rfl, hZ, hT, hW⟩ := hv
  have hx := B.exec
  have hb := B.bytes
  have hr := B.returns
  have hts : ∀ w ∈ wx (.code yX8_waits cX8_waits 2 (some .boolean)), w.before _ s = true := atoms_spec B.pre
  have htg : ∀ w ∈ lwg, w.before _ s = true := fun w h => hts w (List.mem_cons_of_mem _ h)
  have hown : s.vm.findClass RX8 = some m.cls := findClass_of_methodNamed B.named
  have hlocks := B.notSynchronized
  change W p l e (kr 1 21) s m (List.toArray [.ref (bs g 55), .int a1]) below meth c s.heap [] 0 0 (MQ below (Qi' g 0 81 r σ) (List.toArray [.ref (bs g 55), .int a1]) s 0 0 (Ag g 0)) _
  generalize hQ : MQ below (Qi' g 0 81 r σ) (List.toArray [.ref (bs g 55), .int a1]) s 0 0 (Ag g 0) = Q
  have hS : va_S (Ag g 0) s.heap s.heap [] := va_S.rf
  have hl := lv_entry ([.ref (bs g 55), .int a1]) (n := 2) (Nat.le_of_ble_eq_true rfl)
  rw [lg_entry_eq]
  generalize (lg_sl ([.ref (bs g 55), .int a1]) ++ List.replicate (2 - (lg_sl ([.ref (bs g 55), .int a1])).length) Slot.unset).toArray = ls at hl ⊢
  have hl : lv_has ls 2 [(0, .ref (bs g 55)), (1, .int a1)] := hl
  delta f_X8_waits at hf
  obtain ⟨H, hH⟩ : ∃ H, H = s.heap := ⟨_, rfl⟩
  obtain ⟨locs, hLc⟩ : ∃ z : List Loc, z = [] := ⟨_, rfl⟩
  have hS : va_S (Ag g 0) s.heap H locs := by rw [hH, hLc]; exact hS
  have hW : Wd g 0 81 σ H := by rw [hH]; exact hW
  suffices hG : W p l e (kr 1 21) s m (List.toArray [.ref (bs g 55), .int a1]) below meth c H locs 0 0 Q (F0 m 0 ls []) by rw [hH, hLc] at hG; exact hG
  clear hH hLc
  refine lv_aload_n hx hb dX8_waits_0 rfl (lv_at hl 0 rfl) ?_
  refine gf_8_0 hx hb htg (htg _ lf_X8_9) hown hZ hW tz_55 dX8_waits_1 ?_
  refine lv_iload_n hx hb dX8_waits_4 rfl (lv_at hl 1 rfl) ?_
  refine mcip hf hS (fun r h => va_runSN (As := [.ref (bs g (55 + 1)), .int a1]) (rest := []) ⟨hx, hb, hml, hown, hts⟩ (c_X12_get g l 0 81 σ (55 + 1) a1 (tz_55.sub 20 1 so_8_20_1) r h) (cl_X8_59 hts hZ ⟨Nat.le_of_ble_eq_true rfl, Nat.le_of_ble_eq_true rfl⟩) (mpS hZ hT hS hW _) rfl rfl hl.1 rfl (lv_room (Nat.le_of_ble_eq_true rfl)) dX8_waits_5 ⟨Nat.zero_le _, Nat.zero_le _⟩) (fun r_1 H locs hf hW hS => ?_)
  refine jn0_W (∀ (H : Heap) (locs : List Loc) (ls : Array Slot), Wd g 0 81 σ H → va_S (Ag g 0) s.heap H locs → lv_has ls 2 [] → W p l e (kr 1 21) s m (List.toArray [.ref (bs g 55), .int a1]) below meth c H locs 0 0 Q (F0 m 26 ls [])) hf (fun  hf => ?_) (fun k_2 hk_2 hf => ?_)
  · intro H locs ls hW hS hl
    refine lv_iconst (v := 0) hx hb dX8_waits_26 (by decide) ?_
    subst hQ
    exact mrz hx hb hr hlocks hZ hT hS hW (by decide) ⟨Option.some.inj hf, rfl⟩ dX8_waits_27
  · refine lv_if_lt (tgt := 26) hx hb dX8_waits_8 (by decide) (fun hc => ?_) (fun hc => ?_)
    · have hf := ift hc hf
      exact hk_2  hf H locs ls hW hS (lv_sub hl [] rfl)
    · have hf := iff_ hc hf
      refine lv_aload_n hx hb dX8_waits_11 rfl (lv_at hl 0 rfl) ?_
      refine gf_8_1 hx hb htg (htg _ lf_X8_15) hown hZ hW tz_55 dX8_waits_12 ?_
      refine lv_iload_n hx hb dX8_waits_15 rfl (lv_at hl 1 rfl) ?_
      refine mcip hf hS (fun r h => va_runSN (As := [.ref (bs g (55 + 2)), .int a1]) (rest := []) ⟨hx, hb, hml, hown, hts⟩ (c_X12_get g l 0 81 σ (55 + 2) a1 (tz_55.sub 20 2 so_8_20_2) r h) (cl_X8_59 hts hZ ⟨Nat.le_of_ble_eq_true rfl, Nat.le_of_ble_eq_true rfl⟩) (mpS hZ hT hS hW _) rfl rfl hl.1 rfl (lv_room (Nat.le_of_ble_eq_true rfl)) dX8_waits_16 ⟨Nat.zero_le _, Nat.zero_le _⟩) (fun r_3 H locs hf hW hS => ?_)
      refine lv_if_ge (tgt := 26) hx hb dX8_waits_19 (by decide) (fun hc => ?_) (fun hc => ?_)
      · have hf := ift hc hf
        exact hk_2  hf H locs ls hW hS (lv_sub hl [] rfl)
      · have hf := iff_ hc hf
        refine lv_iconst (v := 1) hx hb dX8_waits_22 (by decide) ?_
        refine lv_goto (tgt := 27) hx hb dX8_waits_23 (by decide) ?_
        subst hQ
        exact mrz hx hb hr hlocks hZ hT hS hW (by decide) ⟨Option.some.inj hf, rfl⟩ dX8_waits_27
def f_X8_isNearer (a0 : Int32) (a1 : Int32) (a2 : Int32) : Option (Int32) :=
  nm (if 0 ≤ (a0 - a2) then (a0 - a2) else 0 - (a0 - a2)) (fun (x_1 : Int32) => nm (if 0 ≤ (a1 - a2) then (a1 - a2) else 0 - (a1 - a2)) (fun (x_2 : Int32) => jn0 (some 1) (fun k_3 => (if x_1 < x_2 then k_3 else jn0 (some 0) (fun k_4 => (if x_1 = x_2 then (if a1 ≤ a0 then k_4 else k_3) else k_4))))))
set_option maxHeartbeats 4000000 in
set_option maxRecDepth 100000 in
theorem c_X8_isNearer (g : XG) (l : Launch) (lo n : Nat) (σ : Mem) (a0 : Int32) (a1 : Int32) (a2 : Int32) (r : Int32) (hf : f_X8_isNearer a0 a1 a2 = some r) : Met l yX8_isNearer (wx (.code yX8_isNearer cX8_isNearer 5 (some .boolean))) (kr 1 60) (va_Pc [.int a0, .int a1, .int a2] (WS g lo n σ)) (Qi' g lo n r σ) 0 0 (Ag g lo) := by
  refine Met.ofW (cc := cX8_isNearer) (maxL := 5) (ret := (some .boolean)) (by decide) rfl ?_
  intro p e s m args below meth c s₁ B hml hv
  obtain ⟨rfl, hZ, hT, hW⟩ := hv
  have hx := B.exec
  have hb := B.bytes
  have hr := B.returns
  have hts : ∀ w ∈ wx (.code yX8_isNearer cX8_isNearer 5 (some .boolean)), w.before _ s = true := atoms_spec B.pre
  have htg : ∀ w ∈ lwg, w.before _ s = true := fun w h => hts w (List.mem_cons_of_mem _ h)
  have hown : s.vm.findClass RX8 = some m.cls := findClass_of_methodNamed B.named
  have hlocks := B.notSynchronized
  change W p l e (kr 1 60) s m (List.toArray [.int a0, .int a1, .int a2]) below meth c s.heap [] 0 0 (MQ below (Qi' g lo n r σ) (List.toArray [.int a0, .int a1, .int a2]) s 0 0 (Ag g lo)) _
  generalize hQ : MQ below (Qi' g lo n r σ) (List.toArray [.int a0, .int a1, .int a2]) s 0 0 (Ag g lo) = Q
  have hS : va_S (Ag g lo) s.heap s.heap [] := va_S.rf
  have hl := lv_entry ([.int a0, .int a1, .int a2]) (n := 5) (Nat.le_of_ble_eq_true rfl)
  rw [lg_entry_eq]
  generalize (lg_sl ([.int a0, .int a1, .int a2]) ++ List.replicate (5 - (lg_sl ([.int a0, .int a1, .int a2])).length) Slot.unset).toArray = ls at hl ⊢
  have hl : lv_has ls 5 [(0, .int a0), (1, .int a1), (2, .int a2)] := hl
  delta f_X8_isNearer at hf
  obtain ⟨H, hH⟩ : ∃ H, H = s.heap := ⟨_, rfl⟩
  obtain ⟨locs, hLc⟩ : ∃ z : List Loc, z = [] := ⟨_, rfl⟩
  have hS : va_S (Ag g lo) s.heap H locs := by rw [hH, hLc]; exact hS
  have hW : Wd g lo n σ H := by rw [hH]; exact hW
  suffices hG : W p l e (kr 1 60) s m (List.toArray [.int a0, .int a1, .int a2]) below meth c H locs 0 0 Q (F0 m 0 ls []) by rw [hH, hLc] at hG; exact hG
  clear hH hLc
  refine lv_iload_n hx hb dX8_isNearer_0 rfl (lv_at hl 0 rfl) ?_
  refine lv_iload_n hx hb dX8_isNearer_1 rfl (lv_at hl 2 rfl) ?_
  refine lv_isub hx hb dX8_isNearer_2 ?_
  refine va_mabs hx hb (hml.trans hl.1.symm) hown (htg _ lm_X8_74) (htg _ lst_Math_abs) (htg _ ini_Math) (htg _ lc_Math_abs) (Nat.le_of_ble_eq_true rfl) (Nat.le_of_ble_eq_true rfl) (Nat.zero_le _) (Nat.zero_le _) dX8_isNearer_3 ?_
  refine mnmi hf (fun (x_1 : Int32) hf => ?_)
  refine lv_istore_n (lv' := [(3, .int x_1), (0, .int a0), (1, .int a1), (2, .int a2)]) hx hb dX8_isNearer_6 rfl hl (by decide) rfl (fun ls hl => ?_)
  refine lv_iload_n hx hb dX8_isNearer_7 rfl (lv_at hl 2 rfl) ?_
  refine lv_iload_n hx hb dX8_isNearer_8 rfl (lv_at hl 3 rfl) ?_
  refine lv_isub hx hb dX8_isNearer_9 ?_
  refine va_mabs hx hb (hml.trans hl.1.symm) hown (htg _ lm_X8_74) (htg _ lst_Math_abs) (htg _ ini_Math) (htg _ lc_Math_abs) (Nat.le_of_ble_eq_true rfl) (Nat.le_of_ble_eq_true rfl) (Nat.zero_le _) (Nat.zero_le _) dX8_isNearer_10 ?_
  refine mnmi hf (fun (x_2 : Int32) hf => ?_)
  refine lv_istore (lv' := [(4, .int x_2), (3, .int x_1), (0, .int a0), (1, .int a1), (2, .int a2)]) hx hb dX8_isNearer_13 hl (by decide) rfl (fun ls hl => ?_)
  refine lv_iload_n hx hb dX8_isNearer_15 rfl (lv_at hl 1 rfl) ?_
  refine lv_iload hx hb dX8_isNearer_16 (lv_at hl 0 rfl) ?_
  refine jn0_W (∀ (H : Heap) (locs : List Loc) (ls : Array Slot), Wd g lo n σ H → va_S (Ag g lo) s.heap H locs → lv_has ls 5 [] → W p l e (kr 1 60) s m (List.toArray [.int a0, .int a1, .int a2]) below meth c H locs 0 0 Q (F0 m 32 ls [])) hf (fun  hf => ?_) (fun k_3 hk_3 hf => ?_)
  · intro H locs ls hW hS hl
    refine lv_iconst (v := 1) hx hb dX8_isNearer_32 (by decide) ?_
    refine lv_goto (tgt := 37) hx hb dX8_isNearer_33 (by decide) ?_
    subst hQ
    exact mrz hx hb hr hlocks hZ hT hS hW (by decide) ⟨Option.some.inj hf, rfl⟩ dX8_isNearer_37
  · refine lv_icmp_lt (tgt := 32) hx hb dX8_isNearer_18 (by decide) (fun hc => ?_) (fun hc => ?_)
    · have hf := ift hc hf
      exact hk_3  hf H locs ls hW hS (lv_sub hl [] rfl)
    · have hf := iff_ hc hf
      refine lv_iload_n hx hb dX8_isNearer_21 rfl (lv_at hl 1 rfl) ?_
      refine lv_iload hx hb dX8_isNearer_22 (lv_at hl 0 rfl) ?_
      refine jn0_W (∀ (H : Heap) (locs : List Loc) (ls : Array Slot), Wd g lo n σ H → va_S (Ag g lo) s.heap H locs → lv_has ls 5 [] → W p l e (kr 1 60) s m (List.toArray [.int a0, .int a1, .int a2]) below meth c H locs 0 0 Q (F0 m 36 ls [])) hf (fun  hf => ?_) (fun k_4 hk_4 hf => ?_)
      · intro H locs ls hW hS hl
        refine lv_iconst (v := 0) hx hb dX8_isNearer_36 (by decide) ?_
        subst hQ
        exact mrz hx hb hr hlocks hZ hT hS hW (by decide) ⟨Option.some.inj hf, rfl⟩ dX8_isNearer_37
      · refine lv_icmp_ne (tgt := 36) hx hb dX8_isNearer_24 (by decide) (fun hc => ?_) (fun hc => ?_)
        · have hf := iff_ hc hf
          exact hk_4  hf H locs ls hW hS (lv_sub hl [] rfl)
        · have hf := ift hc hf
          refine lv_iload_n hx hb dX8_isNearer_27 rfl (lv_at hl 2 rfl) ?_
          refine lv_iload_n hx hb dX8_isNearer_28 rfl (lv_at hl 3 rfl) ?_
          refine lv_icmp_ge (tgt := 36) hx hb dX8_isNearer_29 (by decide) (fun hc => ?_) (fun hc => ?_)
          · have hf := ift hc hf
            exact hk_4  hf H locs ls hW hS (lv_sub hl [] rfl)
          · have hf := iff_ hc hf
            exact hk_3  hf H locs ls hW hS (lv_sub hl [] rfl)
def f_X8_liked (σ : Mem) (a1 : Int32) : Option (Int32) :=
  fx2 FU (fun k_3 (i_1 : Int32) (i_2 : Int32) => (if 5 ≤ i_2 then some i_1 else bd1 (f_X8_waits σ i_2) (fun (r_4 : Int32) => jn1 (fun (i_5 : Int32) => nm (i_2 + 1) (fun (x_7 : Int32) => k_3 i_5 x_7)) (fun k_6 => (if r_4 = 0 then k_6 i_1 else jn0 (k_6 i_2) (fun k_9 => (if i_1 < 0 then k_9 else bd1 (f_X12_get σ (55 + 1) i_2) (fun (r_10 : Int32) => bd1 (f_X12_get σ (55 + 1) i_1) (fun (r_11 : Int32) => bd1 (f_X8_isNearer r_10 r_11 a1) (fun (r_12 : Int32) => (if r_12 = 0 then k_6 i_1 else k_9))))))))))) (-2) 0
set_option maxHeartbeats 4000000 in
set_option maxRecDepth 100000 in
theorem c_X8_liked (g : XG) (l : Launch) (σ : Mem) (a1 : Int32) (r : Int32) (hf : f_X8_liked σ a1 = some r) : Met l yX8_liked (wx (.code yX8_liked cX8_liked 4 (some .int))) (kr 2 84) (va_Pc [.ref (bs g 55), .int a1] (WS g 0 81 σ)) (Qi' g 0 81 r σ) 0 0 (Ag g 0) := by
  refine Met.ofW (cc := cX8_liked) (maxL := 4) (ret := (some .int)) (by decide) rfl ?_
  intro p e s m args below meth c s₁ B hml hv
  obtain ⟨rfl, hZ, hT, hW⟩ := hv
  have hx := B.exec
  have hb := B.bytes
  have hr := B.returns
  have hts : ∀ w ∈ wx (.code yX8_liked cX8_liked 4 (some .int)), w.before _ s = true := atoms_spec B.pre
  have htg : ∀ w ∈ lwg, w.before _ s = true := fun w h => hts w (List.mem_cons_of_mem _ h)
  have hown : s.vm.findClass RX8 = some m.cls := findClass_of_methodNamed B.named
  have hlocks := B.notSynchronized
  change W p l e (kr 2 84) s m (List.toArray [.ref (bs g 55), .int a1]) below meth c s.heap [] 0 0 (MQ below (Qi' g 0 81 r σ) (List.toArray [.ref (bs g 55), .int a1]) s 0 0 (Ag g 0)) _
  generalize hQ : MQ below (Qi' g 0 81 r σ) (List.toArray [.ref (bs g 55), .int a1]) s 0 0 (Ag g 0) = Q
  have hS : va_S (Ag g 0) s.heap s.heap [] := va_S.rf
  have hl := lv_entry ([.ref (bs g 55), .int a1]) (n := 4) (Nat.le_of_ble_eq_true rfl)
  rw [lg_entry_eq]
  generalize (lg_sl ([.ref (bs g 55), .int a1]) ++ List.replicate (4 - (lg_sl ([.ref (bs g 55), .int a1])).length) Slot.unset).toArray = ls at hl ⊢
  have hl : lv_has ls 4 [(0, .ref (bs g 55)), (1, .int a1)] := hl
  delta f_X8_liked at hf
  obtain ⟨H, hH⟩ : ∃ H, H = s.heap := ⟨_, rfl⟩
  obtain ⟨locs, hLc⟩ : ∃ z : List Loc, z = [] := ⟨_, rfl⟩
  have hS : va_S (Ag g 0) s.heap H locs := by rw [hH, hLc]; exact hS
  have hW : Wd g 0 81 σ H := by rw [hH]; exact hW
  suffices hG : W p l e (kr 2 84) s m (List.toArray [.ref (bs g 55), .int a1]) below meth c H locs 0 0 Q (F0 m 0 ls []) by rw [hH, hLc] at hG; exact hG
  clear hH hLc
  refine lv_bipush (v := (-2)) hx hb dX8_liked_0 (by decide) ?_
  refine lv_istore_n (lv' := [(2, .int (-2)), (0, .ref (bs g 55)), (1, .int a1)]) hx hb dX8_liked_2 rfl hl (by decide) rfl (fun ls hl => ?_)
  refine lv_iconst (v := 0) hx hb dX8_liked_3 (by decide) ?_
  refine lv_istore_n (lv' := [(3, .int 0), (2, .int (-2)), (0, .ref (bs g 55)), (1, .int a1)]) hx hb dX8_liked_4 rfl hl (by decide) rfl (fun ls hl => ?_)
  refine fx2_W (fun (i_1 : Int32) (i_2 : Int32) => ∀ (H : Heap) (locs : List Loc) (ls : Array Slot), Wd g 0 81 σ H → va_S (Ag g 0) s.heap H locs → lv_has ls 4 [(0, .ref (bs g 55)), (1, .int a1), (2, .int i_1), (3, .int i_2)] → W p l e (kr 2 84) s m (List.toArray [.ref (bs g 55), .int a1]) below meth c H locs 0 0 Q (F0 m 5 ls [])) (fun k_3 hk_3 i_1 i_2 hf => ?_) FU (-2) 0 hf H locs ls hW hS (lv_sub hl [2, 3, 1, 0] rfl)
  intro H locs ls hW hS hl
  refine lv_iload_n hx hb dX8_liked_5 rfl (lv_at hl 3 rfl) ?_
  refine lv_iconst (v := 5) hx hb dX8_liked_6 (by decide) ?_
  refine lv_icmp_ge (tgt := 53) hx hb dX8_liked_7 (by decide) (fun hc => ?_) (fun hc => ?_)
  · have hf := ift hc hf
    refine lv_iload_n hx hb dX8_liked_53 rfl (lv_at hl 2 rfl) ?_
    subst hQ
    exact mri hx hb hr hlocks hZ hT hS hW ⟨Option.some.inj hf, rfl⟩ dX8_liked_54
  · have hf := iff_ hc hf
    refine lv_aload_n hx hb dX8_liked_10 rfl (lv_at hl 0 rfl) ?_
    refine lv_iload_n hx hb dX8_liked_11 rfl (lv_at hl 3 rfl) ?_
    refine mcip hf hS (fun r h => va_runV (As := [.int i_2]) (rest := []) ⟨hx, hb, hml, hown, hts⟩ (c_X8_waits g l σ i_2 r h) (cl_X8_63 hts ⟨Nat.le_of_ble_eq_true rfl, Nat.le_of_ble_eq_true rfl⟩) (mpV_8 hZ hT hS hW tz_55 _) rfl rfl hl.1 rfl (lv_room (Nat.le_of_ble_eq_true rfl)) dX8_liked_12 ⟨Nat.zero_le _, Nat.zero_le _⟩) (fun r_4 H locs hf hW hS => ?_)
    refine jn1_W (fun (i_5 : Int32) => ∀ (H : Heap) (locs : List Loc) (ls : Array Slot), Wd g 0 81 σ H → va_S (Ag g 0) s.heap H locs → lv_has ls 4 [(0, .ref (bs g 55)), (1, .int a1), (2, .int i_5), (3, .int i_2)] → W p l e (kr 2 84) s m (List.toArray [.ref (bs g 55), .int a1]) below meth c H locs 0 0 Q (F0 m 47 ls [])) hf (fun i_5 hf => ?_) (fun k_6 hk_6 hf => ?_)
    · intro H locs ls hW hS hl
      obtain ⟨x_7, e_8, hf⟩ := nm_s hf
      refine lv_iinc (v := x_7) (lv' := [(3, .int x_7), (0, .ref (bs g 55)), (1, .int a1), (2, .int i_5)]) hx hb dX8_liked_47 hl (k := 3) rfl (by rw [e_8]; rfl) (by decide) rfl (fun ls hl => ?_)
      refine lv_goto (tgt := 5) hx hb dX8_liked_50 (by decide) ?_
      exact hk_3 i_5 x_7 hf H locs ls hW hS (lv_sub hl [1, 2, 3, 0] rfl)
    · refine lv_if_eq (tgt := 47) hx hb dX8_liked_15 (by decide) (fun hc => ?_) (fun hc => ?_)
      · have hf := ift hc hf
        exact hk_6 i_1 hf H locs ls hW hS (lv_sub hl [0, 1, 2, 3] rfl)
      · have hf := iff_ hc hf
        refine lv_iload_n hx hb dX8_liked_18 rfl (lv_at hl 2 rfl) ?_
        refine jn0_W (∀ (H : Heap) (locs : List Loc) (ls : Array Slot), Wd g 0 81 σ H → va_S (Ag g 0) s.heap H locs → lv_has ls 4 [(0, .ref (bs g 55)), (1, .int a1), (3, .int i_2)] → W p l e (kr 2 84) s m (List.toArray [.ref (bs g 55), .int a1]) below meth c H locs 0 0 Q (F0 m 45 ls [])) hf (fun  hf => ?_) (fun k_9 hk_9 hf => ?_)
        · intro H locs ls hW hS hl
          refine lv_iload_n hx hb dX8_liked_45 rfl (lv_at hl 2 rfl) ?_
          refine lv_istore_n (lv' := [(2, .int i_2), (0, .ref (bs g 55)), (1, .int a1), (3, .int i_2)]) hx hb dX8_liked_46 rfl hl (by decide) rfl (fun ls hl => ?_)
          exact hk_6 i_2 hf H locs ls hW hS (lv_sub hl [1, 2, 0, 3] rfl)
        · refine lv_if_lt (tgt := 45) hx hb dX8_liked_19 (by decide) (fun hc => ?_) (fun hc => ?_)
          · have hf := ift hc hf
            exact hk_9  hf H locs ls hW hS (lv_sub hl [0, 1, 3] rfl)
          · have hf := iff_ hc hf
            refine lv_aload_n hx hb dX8_liked_22 rfl (lv_at hl 0 rfl) ?_
            refine gf_8_0 hx hb htg (htg _ lf_X8_9) hown hZ hW tz_55 dX8_liked_23 ?_
            refine lv_iload_n hx hb dX8_liked_26 rfl (lv_at hl 3 rfl) ?_
            refine mcip hf hS (fun r h => va_runSN (As := [.ref (bs g (55 + 1)), .int i_2]) (rest := []) ⟨hx, hb, hml, hown, hts⟩ (c_X12_get g l 0 81 σ (55 + 1) i_2 (tz_55.sub 20 1 so_8_20_1) r h) (cl_X8_59 hts hZ ⟨Nat.le_of_ble_eq_true rfl, Nat.le_of_ble_eq_true rfl⟩) (mpS hZ hT hS hW _) rfl rfl hl.1 rfl (lv_room (Nat.le_of_ble_eq_true rfl)) dX8_liked_27 ⟨Nat.zero_le _, Nat.zero_le _⟩) (fun r_10 H locs hf hW hS => ?_)
            refine lv_aload_n hx hb dX8_liked_30 rfl (lv_at hl 0 rfl) ?_
            refine gf_8_0 hx hb htg (htg _ lf_X8_9) hown hZ hW tz_55 dX8_liked_31 ?_
            refine lv_iload_n hx hb dX8_liked_34 rfl (lv_at hl 2 rfl) ?_
            refine mcip hf hS (fun r h => va_runSN (As := [.ref (bs g (55 + 1)), .int i_1]) (rest := [.int r_10]) ⟨hx, hb, hml, hown, hts⟩ (c_X12_get g l 0 81 σ (55 + 1) i_1 (tz_55.sub 20 1 so_8_20_1) r h) (cl_X8_59 hts hZ ⟨Nat.le_of_ble_eq_true rfl, Nat.le_of_ble_eq_true rfl⟩) (mpS hZ hT hS hW _) rfl rfl hl.1 rfl (lv_room (Nat.le_of_ble_eq_true rfl)) dX8_liked_35 ⟨Nat.zero_le _, Nat.zero_le _⟩) (fun r_11 H locs hf hW hS => ?_)
            refine lv_iload_n hx hb dX8_liked_38 rfl (lv_at hl 1 rfl) ?_
            refine mcip hf hS (fun r h => va_runS (As := [.int r_10, .int r_11, .int a1]) (rest := []) ⟨hx, hb, hml, hown, hts⟩ (c_X8_isNearer g l 0 81 σ r_10 r_11 a1 r h) (cl_X8_70 hts ⟨Nat.le_of_ble_eq_true rfl, Nat.le_of_ble_eq_true rfl⟩) (mpS hZ hT hS hW _) rfl rfl hl.1 rfl (lv_room (Nat.le_of_ble_eq_true rfl)) dX8_liked_39 ⟨Nat.zero_le _, Nat.zero_le _⟩) (fun r_12 H locs hf hW hS => ?_)
            refine lv_if_eq (tgt := 47) hx hb dX8_liked_42 (by decide) (fun hc => ?_) (fun hc => ?_)
            · have hf := ift hc hf
              exact hk_6 i_1 hf H locs ls hW hS (lv_sub hl [0, 1, 2, 3] rfl)
            · have hf := iff_ hc hf
              exact hk_9  hf H locs ls hW hS (lv_sub hl [0, 1, 3] rfl)
def f_X8_point (σ : Mem) (p1 : Nat) : Option (Mem) :=
  fx2 FU (fun k_3 (i_1 : Int32) (σ_2 : Mem) => (if 5 ≤ i_1 then some σ_2 else bd1 (f_X8_waits σ_2 i_1) (fun (r_4 : Int32) => jn1 (fun (σ_5 : Mem) => nm (i_1 + 1) (fun (x_7 : Int32) => k_3 x_7 σ_5)) (fun k_6 => (if r_4 = 0 then k_6 σ_2 else rfc (σ_2.2.2 p1 0) (fun (T_9 : Nat) => bd1 (f_X11_firstWish σ_2 T_9 i_1) (fun (r_10 : Int32) => bd1 (f_X8_liked σ_2 r_10) (fun (r_11 : Int32) => bd1 (f_X12_set σ_2 (55 + 3) i_1 r_11) (fun (σ_12 : Mem) => k_6 σ_12))))))))) 0 σ
set_option maxHeartbeats 4000000 in
set_option maxRecDepth 100000 in
theorem c_X8_point (g : XG) (l : Launch) (σ : Mem) (p1 : Nat) (t1 : tp 9 0 81 p1) (τ : Mem) (hf : f_X8_point σ p1 = some τ) : Met l yX8_point (wx (.code yX8_point cX8_point 3 none)) (kr 3 107) (va_Pc [.ref (bs g 55), .ref (bs g p1)] (WS g 0 81 σ)) (Qv' g 0 81 τ) 0 0 (Ag g 0) := by
  refine Met.ofW (cc := cX8_point) (maxL := 3) (ret := none) (by decide) rfl ?_
  intro p e s m args below meth c s₁ B hml hv
  obtain ⟨rfl, hZ, hT, hW⟩ := hv
  have hx := B.exec
  have hb := B.bytes
  have hr := B.returns
  have hts : ∀ w ∈ wx (.code yX8_point cX8_point 3 none), w.before _ s = true := atoms_spec B.pre
  have htg : ∀ w ∈ lwg, w.before _ s = true := fun w h => hts w (List.mem_cons_of_mem _ h)
  have hown : s.vm.findClass RX8 = some m.cls := findClass_of_methodNamed B.named
  have hlocks := B.notSynchronized
  change W p l e (kr 3 107) s m (List.toArray [.ref (bs g 55), .ref (bs g p1)]) below meth c s.heap [] 0 0 (MQ below (Qv' g 0 81 τ) (List.toArray [.ref (bs g 55), .ref (bs g p1)]) s 0 0 (Ag g 0)) _
  generalize hQ : MQ below (Qv' g 0 81 τ) (List.toArray [.ref (bs g 55), .ref (bs g p1)]) s 0 0 (Ag g 0) = Q
  have hS : va_S (Ag g 0) s.heap s.heap [] := va_S.rf
  have hl := lv_entry ([.ref (bs g 55), .ref (bs g p1)]) (n := 3) (Nat.le_of_ble_eq_true rfl)
  rw [lg_entry_eq]
  generalize (lg_sl ([.ref (bs g 55), .ref (bs g p1)]) ++ List.replicate (3 - (lg_sl ([.ref (bs g 55), .ref (bs g p1)])).length) Slot.unset).toArray = ls at hl ⊢
  have hl : lv_has ls 3 [(0, .ref (bs g 55)), (1, .ref (bs g p1))] := hl
  delta f_X8_point at hf
  obtain ⟨H, hH⟩ : ∃ H, H = s.heap := ⟨_, rfl⟩
  obtain ⟨locs, hLc⟩ : ∃ z : List Loc, z = [] := ⟨_, rfl⟩
  have hS : va_S (Ag g 0) s.heap H locs := by rw [hH, hLc]; exact hS
  have hW : Wd g 0 81 σ H := by rw [hH]; exact hW
  suffices hG : W p l e (kr 3 107) s m (List.toArray [.ref (bs g 55), .ref (bs g p1)]) below meth c H locs 0 0 Q (F0 m 0 ls []) by rw [hH, hLc] at hG; exact hG
  clear hH hLc
  refine lv_iconst (v := 0) hx hb dX8_point_0 (by decide) ?_
  refine lv_istore_n (lv' := [(2, .int 0), (0, .ref (bs g 55)), (1, .ref (bs g p1))]) hx hb dX8_point_1 rfl hl (by decide) rfl (fun ls hl => ?_)
  refine fx2_W (fun (i_1 : Int32) (σ_2 : Mem) => ∀ (H : Heap) (locs : List Loc) (ls : Array Slot), Wd g 0 81 σ_2 H → va_S (Ag g 0) s.heap H locs → lv_has ls 3 [(0, .ref (bs g 55)), (1, .ref (bs g p1)), (2, .int i_1)] → W p l e (kr 3 107) s m (List.toArray [.ref (bs g 55), .ref (bs g p1)]) below meth c H locs 0 0 Q (F0 m 2 ls [])) (fun k_3 hk_3 i_1 σ_2 hf => ?_) FU 0 σ hf H locs ls hW hS (lv_sub hl [1, 2, 0] rfl)
  intro H locs ls hW hS hl
  refine lv_iload_n hx hb dX8_point_2 rfl (lv_at hl 2 rfl) ?_
  refine lv_iconst (v := 5) hx hb dX8_point_3 (by decide) ?_
  refine lv_icmp_ge (tgt := 41) hx hb dX8_point_4 (by decide) (fun hc => ?_) (fun hc => ?_)
  · have hf := ift hc hf
    subst hQ
    exact mrv hx hb hr hlocks hZ hT hS hW (Option.some.inj hf) dX8_point_41
  · have hf := iff_ hc hf
    refine lv_aload_n hx hb dX8_point_7 rfl (lv_at hl 0 rfl) ?_
    refine lv_iload_n hx hb dX8_point_8 rfl (lv_at hl 2 rfl) ?_
    refine mcip hf hS (fun r h => va_runV (As := [.int i_1]) (rest := []) ⟨hx, hb, hml, hown, hts⟩ (c_X8_waits g l σ_2 i_1 r h) (cl_X8_63 hts ⟨Nat.le_of_ble_eq_true rfl, Nat.le_of_ble_eq_true rfl⟩) (mpV_8 hZ hT hS hW tz_55 _) rfl rfl hl.1 rfl (lv_room (Nat.le_of_ble_eq_true rfl)) dX8_point_9 ⟨Nat.zero_le _, Nat.zero_le _⟩) (fun r_4 H locs hf hW hS => ?_)
    refine jn1_W (fun (σ_5 : Mem) => ∀ (H : Heap) (locs : List Loc) (ls : Array Slot), Wd g 0 81 σ_5 H → va_S (Ag g 0) s.heap H locs → lv_has ls 3 [(0, .ref (bs g 55)), (1, .ref (bs g p1)), (2, .int i_1)] → W p l e (kr 3 107) s m (List.toArray [.ref (bs g 55), .ref (bs g p1)]) below meth c H locs 0 0 Q (F0 m 35 ls [])) hf (fun σ_5 hf => ?_) (fun k_6 hk_6 hf => ?_)
    · intro H locs ls hW hS hl
      obtain ⟨x_7, e_8, hf⟩ := nm_s hf
      refine lv_iinc (v := x_7) (lv' := [(2, .int x_7), (0, .ref (bs g 55)), (1, .ref (bs g p1))]) hx hb dX8_point_35 hl (k := 2) rfl (by rw [e_8]; rfl) (by decide) rfl (fun ls hl => ?_)
      refine lv_goto (tgt := 2) hx hb dX8_point_38 (by decide) ?_
      exact hk_3 x_7 σ_5 hf H locs ls hW hS (lv_sub hl [1, 2, 0] rfl)
    · refine lv_if_eq (tgt := 35) hx hb dX8_point_12 (by decide) (fun hc => ?_) (fun hc => ?_)
      · have hf := ift hc hf
        exact hk_6 σ_2 hf H locs ls hW hS (lv_sub hl [0, 1, 2] rfl)
      · have hf := iff_ hc hf
        refine lv_aload_n hx hb dX8_point_15 rfl (lv_at hl 0 rfl) ?_
        refine gf_8_2 hx hb htg (htg _ lf_X8_18) hown hZ hW tz_55 dX8_point_16 ?_
        refine lv_iload_n hx hb dX8_point_19 rfl (lv_at hl 2 rfl) ?_
        refine lv_aload_n hx hb dX8_point_20 rfl (lv_at hl 0 rfl) ?_
        refine lv_aload_n hx hb dX8_point_21 rfl (lv_at hl 1 rfl) ?_
        refine gfN_9_0 hx hb htg ln_X8_21 hown hZ hW t1 dX8_point_22 hf (fun T_9 tT_9 hf => ?_)
        refine lv_iload_n hx hb dX8_point_25 rfl (lv_at hl 2 rfl) ?_
        refine mcip hf hS (fun r h => va_runV (As := [.int i_1]) (rest := [.ref (bs g 55), .int i_1, .ref (bs g (55 + 3))]) ⟨hx, hb, hml, hown, hts⟩ (c_X11_firstWish g l 0 81 σ_2 T_9 i_1 tT_9 r h) (cl_X8_33 hts ⟨Nat.le_of_ble_eq_true rfl, Nat.le_of_ble_eq_true rfl⟩) (mpV_11 hZ hT hS hW tT_9 _) rfl rfl hl.1 rfl (lv_room (Nat.le_of_ble_eq_true rfl)) dX8_point_26 ⟨Nat.zero_le _, Nat.zero_le _⟩) (fun r_10 H locs hf hW hS => ?_)
        refine mcip hf hS (fun r h => va_runV (As := [.int r_10]) (rest := [.int i_1, .ref (bs g (55 + 3))]) ⟨hx, hb, hml, hown, hts⟩ (c_X8_liked g l σ_2 r_10 r h) (cl_X8_67 hts ⟨Nat.le_of_ble_eq_true rfl, Nat.le_of_ble_eq_true rfl⟩) (mpV_8 hZ hT hS hW tz_55 _) rfl rfl hl.1 rfl (lv_room (Nat.le_of_ble_eq_true rfl)) dX8_point_29 ⟨Nat.zero_le _, Nat.zero_le _⟩) (fun r_11 H locs hf hW hS => ?_)
        refine mcv hf hS (fun τ h => va_runSN (As := [.ref (bs g (55 + 3)), .int i_1, .int r_11]) (rest := []) ⟨hx, hb, hml, hown, hts⟩ (c_X12_set g l 0 81 σ_2 (55 + 3) i_1 r_11 (tz_55.sub 20 3 so_8_20_3) τ h) (cl_X8_41 hts hZ ⟨Nat.le_of_ble_eq_true rfl, Nat.le_of_ble_eq_true rfl⟩) (mpS hZ hT hS hW _) rfl rfl hl.1 rfl (lv_room (Nat.le_of_ble_eq_true rfl)) dX8_point_32 ⟨Nat.zero_le _, Nat.zero_le _⟩) (fun σ_12 H locs hf hW hS => ?_)
        exact hk_6 σ_12 hf H locs ls hW hS (lv_sub hl [0, 1, 2] rfl)
def f_X8_closeRing (σ : Mem)  : Option (Mem) :=
  fx2 FU (fun k_3 (i_1 : Int32) (i_2 : Int32) => (if i_2 < 0 then (if 0 ≤ i_1 then fx2 FU (fun k_6 (i_4 : Int32) (i_5 : Int32) => (if 5 ≤ i_5 then fx3 FU (fun k_10 (i_7 : Int32) (i_8 : Int32) (σ_9 : Mem) => (if 5 ≤ i_8 then some σ_9 else bd1 (f_X8_waits σ_9 i_7) (fun (r_11 : Int32) => (if r_11 = 0 then some σ_9 else bd1 (f_X12_get σ_9 (55 + 3) i_7) (fun (r_12 : Int32) => bd1 (f_X12_get σ_9 (55 + 1) r_12) (fun (r_13 : Int32) => bd1 (f_X12_set σ_9 (55 + 2) i_7 r_13) (fun (σ_14 : Mem) => bd1 (f_X12_get σ_14 (55 + 3) i_7) (fun (r_15 : Int32) => nm (i_8 + 1) (fun (x_16 : Int32) => k_10 r_15 x_16 σ_14))))))))) i_4 0 σ else bd1 (f_X12_get σ (55 + 3) i_4) (fun (r_18 : Int32) => nm (i_5 + 1) (fun (x_19 : Int32) => k_6 r_18 x_19)))) i_1 0 else some σ) else bd1 (f_X8_waits σ i_2) (fun (r_21 : Int32) => jn1 (fun (i_22 : Int32) => nm (i_2 + (-1)) (fun (x_24 : Int32) => k_3 i_22 x_24)) (fun k_23 => (if r_21 = 0 then k_23 i_1 else k_23 i_2))))) (-2) 4
set_option maxHeartbeats 4000000 in
set_option maxRecDepth 100000 in
theorem c_X8_closeRing (g : XG) (l : Launch) (σ : Mem) (τ : Mem) (hf : f_X8_closeRing σ = some τ) : Met l yX8_closeRing (wx (.code yX8_closeRing cX8_closeRing 4 none)) (kr 2 42) (va_Pc [.ref (bs g 55)] (WS g 0 81 σ)) (Qv' g 0 81 τ) 0 0 (Ag g 0) := by
  refine Met.ofW (cc := cX8_closeRing) (maxL := 4) (ret := none) (by decide) rfl ?_
  intro p e s m args below meth c s₁ B hml hv
  obtain ⟨rfl, hZ, hT, hW⟩ := hv
  have hx := B.exec
  have hb := B.bytes
  have hr := B.returns
  have hts : ∀ w ∈ wx (.code yX8_closeRing cX8_closeRing 4 none), w.before _ s = true := atoms_spec B.pre
  have htg : ∀ w ∈ lwg, w.before _ s = true := fun w h => hts w (List.mem_cons_of_mem _ h)
  have hown : s.vm.findClass RX8 = some m.cls := findClass_of_methodNamed B.named
  have hlocks := B.notSynchronized
  change W p l e (kr 2 42) s m (List.toArray [.ref (bs g 55)]) below meth c s.heap [] 0 0 (MQ below (Qv' g 0 81 τ) (List.toArray [.ref (bs g 55)]) s 0 0 (Ag g 0)) _
  generalize hQ : MQ below (Qv' g 0 81 τ) (List.toArray [.ref (bs g 55)]) s 0 0 (Ag g 0) = Q
  have hS : va_S (Ag g 0) s.heap s.heap [] := va_S.rf
  have hl := lv_entry ([.ref (bs g 55)]) (n := 4) (Nat.le_of_ble_eq_true rfl)
  rw [lg_entry_eq]
  generalize (lg_sl ([.ref (bs g 55)]) ++ List.replicate (4 - (lg_sl ([.ref (bs g 55)])).length) Slot.unset).toArray = ls at hl ⊢
  have hl : lv_has ls 4 [(0, .ref (bs g 55))] := hl
  delta f_X8_closeRing at hf
  obtain ⟨H, hH⟩ : ∃ H, H = s.heap := ⟨_, rfl⟩
  obtain ⟨locs, hLc⟩ : ∃ z : List Loc, z = [] := ⟨_, rfl⟩
  have hS : va_S (Ag g 0) s.heap H locs := by rw [hH, hLc]; exact hS
  have hW : Wd g 0 81 σ H := by rw [hH]; exact hW
  suffices hG : W p l e (kr 2 42) s m (List.toArray [.ref (bs g 55)]) below meth c H locs 0 0 Q (F0 m 0 ls []) by rw [hH, hLc] at hG; exact hG
  clear hH hLc
  refine lv_bipush (v := (-2)) hx hb dX8_closeRing_0 (by decide) ?_
  refine lv_istore_n (lv' := [(1, .int (-2)), (0, .ref (bs g 55))]) hx hb dX8_closeRing_2 rfl hl (by decide) rfl (fun ls hl => ?_)
  refine lv_iconst (v := 4) hx hb dX8_closeRing_3 (by decide) ?_
  refine lv_istore_n (lv' := [(2, .int 4), (1, .int (-2)), (0, .ref (bs g 55))]) hx hb dX8_closeRing_4 rfl hl (by decide) rfl (fun ls hl => ?_)
  refine fx2_W (fun (i_1 : Int32) (i_2 : Int32) => ∀ (H : Heap) (locs : List Loc) (ls : Array Slot), Wd g 0 81 σ H → va_S (Ag g 0) s.heap H locs → lv_has ls 4 [(0, .ref (bs g 55)), (1, .int i_1), (2, .int i_2)] → W p l e (kr 2 42) s m (List.toArray [.ref (bs g 55)]) below meth c H locs 0 0 Q (F0 m 5 ls [])) (fun k_3 hk_3 i_1 i_2 hf => ?_) FU (-2) 4 hf H locs ls hW hS (lv_sub hl [2, 1, 0] rfl)
  intro H locs ls hW hS hl
  refine lv_iload_n hx hb dX8_closeRing_5 rfl (lv_at hl 2 rfl) ?_
  refine lv_if_lt (tgt := 29) hx hb dX8_closeRing_6 (by decide) (fun hc => ?_) (fun hc => ?_)
  · have hf := ift hc hf
    refine lv_iload_n hx hb dX8_closeRing_29 rfl (lv_at hl 1 rfl) ?_
    refine lv_if_ge (tgt := 34) hx hb dX8_closeRing_30 (by decide) (fun hc => ?_) (fun hc => ?_)
    · have hf := ift hc hf
      refine lv_iconst (v := 0) hx hb dX8_closeRing_34 (by decide) ?_
      refine lv_istore_n (lv' := [(2, .int 0), (0, .ref (bs g 55)), (1, .int i_1)]) hx hb dX8_closeRing_35 rfl hl (by decide) rfl (fun ls hl => ?_)
      refine fx2_W (fun (i_4 : Int32) (i_5 : Int32) => ∀ (H : Heap) (locs : List Loc) (ls : Array Slot), Wd g 0 81 σ H → va_S (Ag g 0) s.heap H locs → lv_has ls 4 [(0, .ref (bs g 55)), (1, .int i_4), (2, .int i_5)] → W p l e (kr 2 42) s m (List.toArray [.ref (bs g 55)]) below meth c H locs 0 0 Q (F0 m 36 ls [])) (fun k_6 hk_6 i_4 i_5 hf => ?_) FU i_1 0 hf H locs ls hW hS (lv_sub hl [1, 2, 0] rfl)
      intro H locs ls hW hS hl
      refine lv_iload_n hx hb dX8_closeRing_36 rfl (lv_at hl 2 rfl) ?_
      refine lv_iconst (v := 5) hx hb dX8_closeRing_37 (by decide) ?_
      refine lv_icmp_ge (tgt := 56) hx hb dX8_closeRing_38 (by decide) (fun hc => ?_) (fun hc => ?_)
      · have hf := ift hc hf
        refine lv_iload_n hx hb dX8_closeRing_56 rfl (lv_at hl 1 rfl) ?_
        refine lv_istore_n (lv' := [(2, .int i_4), (0, .ref (bs g 55)), (1, .int i_4)]) hx hb dX8_closeRing_57 rfl hl (by decide) rfl (fun ls hl => ?_)
        refine lv_iconst (v := 0) hx hb dX8_closeRing_58 (by decide) ?_
        refine lv_istore_n (lv' := [(3, .int 0), (2, .int i_4), (0, .ref (bs g 55)), (1, .int i_4)]) hx hb dX8_closeRing_59 rfl hl (by decide) rfl (fun ls hl => ?_)
        refine fx3_W (fun (i_7 : Int32) (i_8 : Int32) (σ_9 : Mem) => ∀ (H : Heap) (locs : List Loc) (ls : Array Slot), Wd g 0 81 σ_9 H → va_S (Ag g 0) s.heap H locs → lv_has ls 4 [(0, .ref (bs g 55)), (2, .int i_7), (3, .int i_8)] → W p l e (kr 2 42) s m (List.toArray [.ref (bs g 55)]) below meth c H locs 0 0 Q (F0 m 60 ls [])) (fun k_10 hk_10 i_7 i_8 σ_9 hf => ?_) FU i_4 0 σ hf H locs ls hW hS (lv_sub hl [2, 1, 0] rfl)
        intro H locs ls hW hS hl
        refine lv_iload_n hx hb dX8_closeRing_60 rfl (lv_at hl 2 rfl) ?_
        refine lv_iconst (v := 5) hx hb dX8_closeRing_61 (by decide) ?_
        refine lv_icmp_ge (tgt := 111) hx hb dX8_closeRing_62 (by decide) (fun hc => ?_) (fun hc => ?_)
        · have hf := ift hc hf
          subst hQ
          exact mrv hx hb hr hlocks hZ hT hS hW (Option.some.inj hf) dX8_closeRing_111
        · have hf := iff_ hc hf
          refine lv_aload_n hx hb dX8_closeRing_65 rfl (lv_at hl 0 rfl) ?_
          refine lv_iload_n hx hb dX8_closeRing_66 rfl (lv_at hl 1 rfl) ?_
          refine mcip hf hS (fun r h => va_runV (As := [.int i_7]) (rest := []) ⟨hx, hb, hml, hown, hts⟩ (c_X8_waits g l σ_9 i_7 r h) (cl_X8_63 hts ⟨Nat.le_of_ble_eq_true rfl, Nat.le_of_ble_eq_true rfl⟩) (mpV_8 hZ hT hS hW tz_55 _) rfl rfl hl.1 rfl (lv_room (Nat.le_of_ble_eq_true rfl)) dX8_closeRing_67 ⟨Nat.zero_le _, Nat.zero_le _⟩) (fun r_11 H locs hf hW hS => ?_)
          refine lv_if_eq (tgt := 111) hx hb dX8_closeRing_70 (by decide) (fun hc => ?_) (fun hc => ?_)
          · have hf := ift hc hf
            subst hQ
            exact mrv hx hb hr hlocks hZ hT hS hW (Option.some.inj hf) dX8_closeRing_111
          · have hf := iff_ hc hf
            refine lv_aload_n hx hb dX8_closeRing_73 rfl (lv_at hl 0 rfl) ?_
            refine gf_8_1 hx hb htg (htg _ lf_X8_15) hown hZ hW tz_55 dX8_closeRing_74 ?_
            refine lv_iload_n hx hb dX8_closeRing_77 rfl (lv_at hl 1 rfl) ?_
            refine lv_aload_n hx hb dX8_closeRing_78 rfl (lv_at hl 0 rfl) ?_
            refine gf_8_0 hx hb htg (htg _ lf_X8_9) hown hZ hW tz_55 dX8_closeRing_79 ?_
            refine lv_aload_n hx hb dX8_closeRing_82 rfl (lv_at hl 0 rfl) ?_
            refine gf_8_2 hx hb htg (htg _ lf_X8_18) hown hZ hW tz_55 dX8_closeRing_83 ?_
            refine lv_iload_n hx hb dX8_closeRing_86 rfl (lv_at hl 1 rfl) ?_
            refine mcip hf hS (fun r h => va_runSN (As := [.ref (bs g (55 + 3)), .int i_7]) (rest := [.ref (bs g (55 + 1)), .int i_7, .ref (bs g (55 + 2))]) ⟨hx, hb, hml, hown, hts⟩ (c_X12_get g l 0 81 σ_9 (55 + 3) i_7 (tz_55.sub 20 3 so_8_20_3) r h) (cl_X8_59 hts hZ ⟨Nat.le_of_ble_eq_true rfl, Nat.le_of_ble_eq_true rfl⟩) (mpS hZ hT hS hW _) rfl rfl hl.1 rfl (lv_room (Nat.le_of_ble_eq_true rfl)) dX8_closeRing_87 ⟨Nat.zero_le _, Nat.zero_le _⟩) (fun r_12 H locs hf hW hS => ?_)
            refine mcip hf hS (fun r h => va_runSN (As := [.ref (bs g (55 + 1)), .int r_12]) (rest := [.int i_7, .ref (bs g (55 + 2))]) ⟨hx, hb, hml, hown, hts⟩ (c_X12_get g l 0 81 σ_9 (55 + 1) r_12 (tz_55.sub 20 1 so_8_20_1) r h) (cl_X8_59 hts hZ ⟨Nat.le_of_ble_eq_true rfl, Nat.le_of_ble_eq_true rfl⟩) (mpS hZ hT hS hW _) rfl rfl hl.1 rfl (lv_room (Nat.le_of_ble_eq_true rfl)) dX8_closeRing_90 ⟨Nat.zero_le _, Nat.zero_le _⟩) (fun r_13 H locs hf hW hS => ?_)
            refine mcv hf hS (fun τ h => va_runSN (As := [.ref (bs g (55 + 2)), .int i_7, .int r_13]) (rest := []) ⟨hx, hb, hml, hown, hts⟩ (c_X12_set g l 0 81 σ_9 (55 + 2) i_7 r_13 (tz_55.sub 20 2 so_8_20_2) τ h) (cl_X8_41 hts hZ ⟨Nat.le_of_ble_eq_true rfl, Nat.le_of_ble_eq_true rfl⟩) (mpS hZ hT hS hW _) rfl rfl hl.1 rfl (lv_room (Nat.le_of_ble_eq_true rfl)) dX8_closeRing_93 ⟨Nat.zero_le _, Nat.zero_le _⟩) (fun σ_14 H locs hf hW hS => ?_)
            refine lv_aload_n hx hb dX8_closeRing_96 rfl (lv_at hl 0 rfl) ?_
            refine gf_8_2 hx hb htg (htg _ lf_X8_18) hown hZ hW tz_55 dX8_closeRing_97 ?_
            refine lv_iload_n hx hb dX8_closeRing_100 rfl (lv_at hl 1 rfl) ?_
            refine mcip hf hS (fun r h => va_runSN (As := [.ref (bs g (55 + 3)), .int i_7]) (rest := []) ⟨hx, hb, hml, hown, hts⟩ (c_X12_get g l 0 81 σ_14 (55 + 3) i_7 (tz_55.sub 20 3 so_8_20_3) r h) (cl_X8_59 hts hZ ⟨Nat.le_of_ble_eq_true rfl, Nat.le_of_ble_eq_true rfl⟩) (mpS hZ hT hS hW _) rfl rfl hl.1 rfl (lv_room (Nat.le_of_ble_eq_true rfl)) dX8_closeRing_101 ⟨Nat.zero_le _, Nat.zero_le _⟩) (fun r_15 H locs hf hW hS => ?_)
            refine lv_istore_n (lv' := [(2, .int r_15), (0, .ref (bs g 55)), (3, .int i_8)]) hx hb dX8_closeRing_104 rfl hl (by decide) rfl (fun ls hl => ?_)
            obtain ⟨x_16, e_17, hf⟩ := nm_s hf
            refine lv_iinc (v := x_16) (lv' := [(3, .int x_16), (2, .int r_15), (0, .ref (bs g 55))]) hx hb dX8_closeRing_105 hl (k := 2) rfl (by rw [e_17]; rfl) (by decide) rfl (fun ls hl => ?_)
            refine lv_goto (tgt := 60) hx hb dX8_closeRing_108 (by decide) ?_
            exact hk_10 r_15 x_16 σ_14 hf H locs ls hW hS (lv_sub hl [2, 1, 0] rfl)
      · have hf := iff_ hc hf
        refine lv_aload_n hx hb dX8_closeRing_41 rfl (lv_at hl 0 rfl) ?_
        refine gf_8_2 hx hb htg (htg _ lf_X8_18) hown hZ hW tz_55 dX8_closeRing_42 ?_
        refine lv_iload_n hx hb dX8_closeRing_45 rfl (lv_at hl 1 rfl) ?_
        refine mcip hf hS (fun r h => va_runSN (As := [.ref (bs g (55 + 3)), .int i_4]) (rest := []) ⟨hx, hb, hml, hown, hts⟩ (c_X12_get g l 0 81 σ (55 + 3) i_4 (tz_55.sub 20 3 so_8_20_3) r h) (cl_X8_59 hts hZ ⟨Nat.le_of_ble_eq_true rfl, Nat.le_of_ble_eq_true rfl⟩) (mpS hZ hT hS hW _) rfl rfl hl.1 rfl (lv_room (Nat.le_of_ble_eq_true rfl)) dX8_closeRing_46 ⟨Nat.zero_le _, Nat.zero_le _⟩) (fun r_18 H locs hf hW hS => ?_)
        refine lv_istore_n (lv' := [(1, .int r_18), (0, .ref (bs g 55)), (2, .int i_5)]) hx hb dX8_closeRing_49 rfl hl (by decide) rfl (fun ls hl => ?_)
        obtain ⟨x_19, e_20, hf⟩ := nm_s hf
        refine lv_iinc (v := x_19) (lv' := [(2, .int x_19), (1, .int r_18), (0, .ref (bs g 55))]) hx hb dX8_closeRing_50 hl (k := 2) rfl (by rw [e_20]; rfl) (by decide) rfl (fun ls hl => ?_)
        refine lv_goto (tgt := 36) hx hb dX8_closeRing_53 (by decide) ?_
        exact hk_6 r_18 x_19 hf H locs ls hW hS (lv_sub hl [2, 1, 0] rfl)
    · have hf := iff_ hc hf
      subst hQ
      exact mrv hx hb hr hlocks hZ hT hS hW (Option.some.inj hf) dX8_closeRing_33
  · have hf := iff_ hc hf
    refine lv_aload_n hx hb dX8_closeRing_9 rfl (lv_at hl 0 rfl) ?_
    refine lv_iload_n hx hb dX8_closeRing_10 rfl (lv_at hl 2 rfl) ?_
    refine mcip hf hS (fun r h => va_runV (As := [.int i_2]) (rest := []) ⟨hx, hb, hml, hown, hts⟩ (c_X8_waits g l σ i_2 r h) (cl_X8_63 hts ⟨Nat.le_of_ble_eq_true rfl, Nat.le_of_ble_eq_true rfl⟩) (mpV_8 hZ hT hS hW tz_55 _) rfl rfl hl.1 rfl (lv_room (Nat.le_of_ble_eq_true rfl)) dX8_closeRing_11 ⟨Nat.zero_le _, Nat.zero_le _⟩) (fun r_21 H locs hf hW hS => ?_)
    refine jn1_W (fun (i_22 : Int32) => ∀ (H : Heap) (locs : List Loc) (ls : Array Slot), Wd g 0 81 σ H → va_S (Ag g 0) s.heap H locs → lv_has ls 4 [(0, .ref (bs g 55)), (2, .int i_2)] → W p l e (kr 2 42) s m (List.toArray [.ref (bs g 55)]) below meth c H locs 0 0 Q (F0 m 22 ls [.int i_22])) hf (fun i_22 hf => ?_) (fun k_23 hk_23 hf => ?_)
    · intro H locs ls hW hS hl
      refine lv_istore_n (lv' := [(1, .int i_22), (0, .ref (bs g 55)), (2, .int i_2)]) hx hb dX8_closeRing_22 rfl hl (by decide) rfl (fun ls hl => ?_)
      obtain ⟨x_24, e_25, hf⟩ := nm_s hf
      refine lv_iinc (v := x_24) (lv' := [(2, .int x_24), (1, .int i_22), (0, .ref (bs g 55))]) hx hb dX8_closeRing_23 hl (k := 2) rfl (by rw [e_25]; rfl) (by decide) rfl (fun ls hl => ?_)
      refine lv_goto (tgt := 5) hx hb dX8_closeRing_26 (by decide) ?_
      exact hk_3 i_22 x_24 hf H locs ls hW hS (lv_sub hl [2, 1, 0] rfl)
    · refine lv_if_eq (tgt := 21) hx hb dX8_closeRing_14 (by decide) (fun hc => ?_) (fun hc => ?_)
      · have hf := ift hc hf
        refine lv_iload_n hx hb dX8_closeRing_21 rfl (lv_at hl 1 rfl) ?_
        exact hk_23 i_1 hf H locs ls hW hS (lv_sub hl [0, 2] rfl)
      · have hf := iff_ hc hf
        refine lv_iload_n hx hb dX8_closeRing_17 rfl (lv_at hl 2 rfl) ?_
        refine lv_goto (tgt := 22) hx hb dX8_closeRing_18 (by decide) ?_
        exact hk_23 i_2 hf H locs ls hW hS (lv_sub hl [0, 2] rfl)
def f_X8_trade (σ : Mem) (p1 : Nat) : Option (Mem) :=
  fx2 FU (fun k_3 (i_1 : Int32) (σ_2 : Mem) => (if 5 ≤ i_1 then fx2 FU (fun k_6 (i_4 : Int32) (σ_5 : Mem) => (if 5 ≤ i_4 then some σ_5 else bd1 (f_X8_point σ_5 p1) (fun (σ_7 : Mem) => bd1 (f_X8_closeRing σ_7) (fun (σ_8 : Mem) => nm (i_4 + 1) (fun (x_9 : Int32) => k_6 x_9 σ_8))))) 0 σ_2 else rfc (σ_2.2.2 p1 0) (fun (T_11 : Nat) => bd1 (f_X11_people σ_2 T_11) (fun (r_12 : Int32) => jn1 (fun (i_13 : Int32) => jn1 (fun (i_15 : Int32) => bd1 (f_X12_set σ_2 (55 + 1) i_1 i_15) (fun (σ_17 : Mem) => bd1 (f_X12_set σ_17 (55 + 2) i_1 (-2)) (fun (σ_18 : Mem) => nm (i_1 + 1) (fun (x_19 : Int32) => k_3 x_19 σ_18)))) (fun k_16 => (if i_13 = 0 then k_16 (-2) else bd1 (f_X8_onlyVisit σ_2 p1 i_1) (fun (r_21 : Int32) => k_16 r_21)))) (fun k_14 => jn0 (k_14 0) (fun k_22 => (if r_12 ≤ i_1 then k_22 else rfc (σ_2.2.2 p1 0) (fun (T_23 : Nat) => bd1 (f_X11_firstWish σ_2 T_23 i_1) (fun (r_24 : Int32) => (if r_24 < 0 then k_22 else k_14 1)))))))))) 0 σ
set_option maxHeartbeats 4000000 in
set_option maxRecDepth 100000 in
theorem c_X8_trade (g : XG) (l : Launch) (σ : Mem) (p1 : Nat) (t1 : tp 9 0 81 p1) (τ : Mem) (hf : f_X8_trade σ p1 = some τ) : Met l yX8_trade (wx (.code yX8_trade cX8_trade 4 none)) (kr 4 129) (va_Pc [.ref (bs g 55), .ref (bs g p1)] (WS g 0 81 σ)) (Qv' g 0 81 τ) 0 0 (Ag g 0) := by
  refine Met.ofW (cc := cX8_trade) (maxL := 4) (ret := none) (by decide) rfl ?_
  intro p e s m args below meth c s₁ B hml hv
  obtain ⟨rfl, hZ, hT, hW⟩ := hv
  have hx := B.exec
  have hb := B.bytes
  have hr := B.returns
  have hts : ∀ w ∈ wx (.code yX8_trade cX8_trade 4 none), w.before _ s = true := atoms_spec B.pre
  have htg : ∀ w ∈ lwg, w.before _ s = true := fun w h => hts w (List.mem_cons_of_mem _ h)
  have hown : s.vm.findClass RX8 = some m.cls := findClass_of_methodNamed B.named
  have hlocks := B.notSynchronized
  change W p l e (kr 4 129) s m (List.toArray [.ref (bs g 55), .ref (bs g p1)]) below meth c s.heap [] 0 0 (MQ below (Qv' g 0 81 τ) (List.toArray [.ref (bs g 55), .ref (bs g p1)]) s 0 0 (Ag g 0)) _
  generalize hQ : MQ below (Qv' g 0 81 τ) (List.toArray [.ref (bs g 55), .ref (bs g p1)]) s 0 0 (Ag g 0) = Q
  have hS : va_S (Ag g 0) s.heap s.heap [] := va_S.rf
  have hl := lv_entry ([.ref (bs g 55), .ref (bs g p1)]) (n := 4) (Nat.le_of_ble_eq_true rfl)
  rw [lg_entry_eq]
  generalize (lg_sl ([.ref (bs g 55), .ref (bs g p1)]) ++ List.replicate (4 - (lg_sl ([.ref (bs g 55), .ref (bs g p1)])).length) Slot.unset).toArray = ls at hl ⊢
  have hl : lv_has ls 4 [(0, .ref (bs g 55)), (1, .ref (bs g p1))] := hl
  delta f_X8_trade at hf
  obtain ⟨H, hH⟩ : ∃ H, H = s.heap := ⟨_, rfl⟩
  obtain ⟨locs, hLc⟩ : ∃ z : List Loc, z = [] := ⟨_, rfl⟩
  have hS : va_S (Ag g 0) s.heap H locs := by rw [hH, hLc]; exact hS
  have hW : Wd g 0 81 σ H := by rw [hH]; exact hW
  suffices hG : W p l e (kr 4 129) s m (List.toArray [.ref (bs g 55), .ref (bs g p1)]) below meth c H locs 0 0 Q (F0 m 0 ls []) by rw [hH, hLc] at hG; exact hG
  clear hH hLc
  refine lv_iconst (v := 0) hx hb dX8_trade_0 (by decide) ?_
  refine lv_istore_n (lv' := [(2, .int 0), (0, .ref (bs g 55)), (1, .ref (bs g p1))]) hx hb dX8_trade_1 rfl hl (by decide) rfl (fun ls hl => ?_)
  refine fx2_W (fun (i_1 : Int32) (σ_2 : Mem) => ∀ (H : Heap) (locs : List Loc) (ls : Array Slot), Wd g 0 81 σ_2 H → va_S (Ag g 0) s.heap H locs → lv_has ls 4 [(0, .ref (bs g 55)), (1, .ref (bs g p1)), (2, .int i_1)] → W p l e (kr 4 129) s m (List.toArray [.ref (bs g 55), .ref (bs g p1)]) below meth c H locs 0 0 Q (F0 m 2 ls [])) (fun k_3 hk_3 i_1 σ_2 hf => ?_) FU 0 σ hf H locs ls hW hS (lv_sub hl [1, 2, 0] rfl)
  intro H locs ls hW hS hl
  refine lv_iload_n hx hb dX8_trade_2 rfl (lv_at hl 2 rfl) ?_
  refine lv_iconst (v := 5) hx hb dX8_trade_3 (by decide) ?_
  refine lv_icmp_ge (tgt := 73) hx hb dX8_trade_4 (by decide) (fun hc => ?_) (fun hc => ?_)
  · have hf := ift hc hf
    refine lv_iconst (v := 0) hx hb dX8_trade_73 (by decide) ?_
    refine lv_istore_n (lv' := [(2, .int 0), (0, .ref (bs g 55)), (1, .ref (bs g p1))]) hx hb dX8_trade_74 rfl hl (by decide) rfl (fun ls hl => ?_)
    refine fx2_W (fun (i_4 : Int32) (σ_5 : Mem) => ∀ (H : Heap) (locs : List Loc) (ls : Array Slot), Wd g 0 81 σ_5 H → va_S (Ag g 0) s.heap H locs → lv_has ls 4 [(0, .ref (bs g 55)), (1, .ref (bs g p1)), (2, .int i_4)] → W p l e (kr 4 129) s m (List.toArray [.ref (bs g 55), .ref (bs g p1)]) below meth c H locs 0 0 Q (F0 m 75 ls [])) (fun k_6 hk_6 i_4 σ_5 hf => ?_) FU 0 σ_2 hf H locs ls hW hS (lv_sub hl [1, 2, 0] rfl)
    intro H locs ls hW hS hl
    refine lv_iload_n hx hb dX8_trade_75 rfl (lv_at hl 2 rfl) ?_
    refine lv_iconst (v := 5) hx hb dX8_trade_76 (by decide) ?_
    refine lv_icmp_ge (tgt := 95) hx hb dX8_trade_77 (by decide) (fun hc => ?_) (fun hc => ?_)
    · have hf := ift hc hf
      subst hQ
      exact mrv hx hb hr hlocks hZ hT hS hW (Option.some.inj hf) dX8_trade_95
    · have hf := iff_ hc hf
      refine lv_aload_n hx hb dX8_trade_80 rfl (lv_at hl 0 rfl) ?_
      refine lv_aload_n hx hb dX8_trade_81 rfl (lv_at hl 1 rfl) ?_
      refine mcv hf hS (fun τ h => va_runV (As := [.ref (bs g p1)]) (rest := []) ⟨hx, hb, hml, hown, hts⟩ (c_X8_point g l σ_5 p1 t1 τ h) (cl_X8_45 hts ⟨Nat.le_of_ble_eq_true rfl, Nat.le_of_ble_eq_true rfl⟩) (mpV_8 hZ hT hS hW tz_55 _) rfl rfl hl.1 rfl (lv_room (Nat.le_of_ble_eq_true rfl)) dX8_trade_82 ⟨Nat.zero_le _, Nat.zero_le _⟩) (fun σ_7 H locs hf hW hS => ?_)
      refine lv_aload_n hx hb dX8_trade_85 rfl (lv_at hl 0 rfl) ?_
      refine mcv hf hS (fun τ h => va_runV (As := []) (rest := []) ⟨hx, hb, hml, hown, hts⟩ (c_X8_closeRing g l σ_7 τ h) (cl_X8_49 hts ⟨Nat.le_of_ble_eq_true rfl, Nat.le_of_ble_eq_true rfl⟩) (mpV_8 hZ hT hS hW tz_55 _) rfl rfl hl.1 rfl (lv_room (Nat.le_of_ble_eq_true rfl)) dX8_trade_86 ⟨Nat.zero_le _, Nat.zero_le _⟩) (fun σ_8 H locs hf hW hS => ?_)
      obtain ⟨x_9, e_10, hf⟩ := nm_s hf
      refine lv_iinc (v := x_9) (lv' := [(2, .int x_9), (0, .ref (bs g 55)), (1, .ref (bs g p1))]) hx hb dX8_trade_89 hl (k := 2) rfl (by rw [e_10]; rfl) (by decide) rfl (fun ls hl => ?_)
      refine lv_goto (tgt := 75) hx hb dX8_trade_92 (by decide) ?_
      exact hk_6 x_9 σ_8 hf H locs ls hW hS (lv_sub hl [1, 2, 0] rfl)
  · have hf := iff_ hc hf
    refine lv_iload_n hx hb dX8_trade_7 rfl (lv_at hl 2 rfl) ?_
    refine lv_aload_n hx hb dX8_trade_8 rfl (lv_at hl 1 rfl) ?_
    refine gfN_9_0 hx hb htg ln_X8_21 hown hZ hW t1 dX8_trade_9 hf (fun T_11 tT_11 hf => ?_)
    refine mcip hf hS (fun r h => va_runV (As := []) (rest := [.int i_1]) ⟨hx, hb, hml, hown, hts⟩ (c_X11_people g l 0 81 σ_2 T_11 tT_11 r h) (cl_X8_27 hts ⟨Nat.le_of_ble_eq_true rfl, Nat.le_of_ble_eq_true rfl⟩) (mpV_11 hZ hT hS hW tT_11 _) rfl rfl hl.1 rfl (lv_room (Nat.le_of_ble_eq_true rfl)) dX8_trade_12 ⟨Nat.zero_le _, Nat.zero_le _⟩) (fun r_12 H locs hf hW hS => ?_)
    refine jn1_W (fun (i_13 : Int32) => ∀ (H : Heap) (locs : List Loc) (ls : Array Slot), Wd g 0 81 σ_2 H → va_S (Ag g 0) s.heap H locs → lv_has ls 4 [(0, .ref (bs g 55)), (1, .ref (bs g p1)), (2, .int i_1)] → W p l e (kr 4 129) s m (List.toArray [.ref (bs g 55), .ref (bs g p1)]) below meth c H locs 0 0 Q (F0 m 34 ls [.int i_13])) hf (fun i_13 hf => ?_) (fun k_14 hk_14 hf => ?_)
    · intro H locs ls hW hS hl
      refine lv_istore_n (lv' := [(3, .int i_13), (0, .ref (bs g 55)), (1, .ref (bs g p1)), (2, .int i_1)]) hx hb dX8_trade_34 rfl hl (by decide) rfl (fun ls hl => ?_)
      refine lv_aload_n hx hb dX8_trade_35 rfl (lv_at hl 1 rfl) ?_
      refine gf_8_0 hx hb htg (htg _ lf_X8_9) hown hZ hW tz_55 dX8_trade_36 ?_
      refine lv_iload_n hx hb dX8_trade_39 rfl (lv_at hl 3 rfl) ?_
      refine lv_iload_n hx hb dX8_trade_40 rfl (lv_at hl 0 rfl) ?_
      refine jn1_W (fun (i_15 : Int32) => ∀ (H : Heap) (locs : List Loc) (ls : Array Slot), Wd g 0 81 σ_2 H → va_S (Ag g 0) s.heap H locs → lv_has ls 4 [(0, .ref (bs g 55)), (1, .ref (bs g p1)), (2, .int i_1)] → W p l e (kr 4 129) s m (List.toArray [.ref (bs g 55), .ref (bs g p1)]) below meth c H locs 0 0 Q (F0 m 54 ls [.int i_15, .int i_1, .ref (bs g (55 + 1))])) hf (fun i_15 hf => ?_) (fun k_16 hk_16 hf => ?_)
      · intro H locs ls hW hS hl
        refine mcv hf hS (fun τ h => va_runSN (As := [.ref (bs g (55 + 1)), .int i_1, .int i_15]) (rest := []) ⟨hx, hb, hml, hown, hts⟩ (c_X12_set g l 0 81 σ_2 (55 + 1) i_1 i_15 (tz_55.sub 20 1 so_8_20_1) τ h) (cl_X8_41 hts hZ ⟨Nat.le_of_ble_eq_true rfl, Nat.le_of_ble_eq_true rfl⟩) (mpS hZ hT hS hW _) rfl rfl hl.1 rfl (lv_room (Nat.le_of_ble_eq_true rfl)) dX8_trade_54 ⟨Nat.zero_le _, Nat.zero_le _⟩) (fun σ_17 H locs hf hW hS => ?_)
        refine lv_aload_n hx hb dX8_trade_57 rfl (lv_at hl 0 rfl) ?_
        refine gf_8_1 hx hb htg (htg _ lf_X8_15) hown hZ hW tz_55 dX8_trade_58 ?_
        refine lv_iload_n hx hb dX8_trade_61 rfl (lv_at hl 2 rfl) ?_
        refine lv_bipush (v := (-2)) hx hb dX8_trade_62 (by decide) ?_
        refine mcv hf hS (fun τ h => va_runSN (As := [.ref (bs g (55 + 2)), .int i_1, .int (-2)]) (rest := []) ⟨hx, hb, hml, hown, hts⟩ (c_X12_set g l 0 81 σ_17 (55 + 2) i_1 (-2) (tz_55.sub 20 2 so_8_20_2) τ h) (cl_X8_41 hts hZ ⟨Nat.le_of_ble_eq_true rfl, Nat.le_of_ble_eq_true rfl⟩) (mpS hZ hT hS hW _) rfl rfl hl.1 rfl (lv_room (Nat.le_of_ble_eq_true rfl)) dX8_trade_64 ⟨Nat.zero_le _, Nat.zero_le _⟩) (fun σ_18 H locs hf hW hS => ?_)
        obtain ⟨x_19, e_20, hf⟩ := nm_s hf
        refine lv_iinc (v := x_19) (lv' := [(2, .int x_19), (0, .ref (bs g 55)), (1, .ref (bs g p1))]) hx hb dX8_trade_67 hl (k := 2) rfl (by rw [e_20]; rfl) (by decide) rfl (fun ls hl => ?_)
        refine lv_goto (tgt := 2) hx hb dX8_trade_70 (by decide) ?_
        exact hk_3 x_19 σ_18 hf H locs ls hW hS (lv_sub hl [1, 2, 0] rfl)
      · refine lv_if_eq (tgt := 52) hx hb dX8_trade_41 (by decide) (fun hc => ?_) (fun hc => ?_)
        · have hf := ift hc hf
          refine lv_bipush (v := (-2)) hx hb dX8_trade_52 (by decide) ?_
          exact hk_16 (-2) hf H locs ls hW hS (lv_sub hl [1, 2, 3] rfl)
        · have hf := iff_ hc hf
          refine lv_aload_n hx hb dX8_trade_44 rfl (lv_at hl 2 rfl) ?_
          refine lv_iload_n hx hb dX8_trade_45 rfl (lv_at hl 3 rfl) ?_
          refine mcip hf hS (fun r h => va_runS (As := [.ref (bs g p1), .int i_1]) (rest := [.int i_1, .ref (bs g (55 + 1))]) ⟨hx, hb, hml, hown, hts⟩ (c_X8_onlyVisit g l 0 81 σ_2 p1 i_1 t1 r h) (cl_X8_37 hts ⟨Nat.le_of_ble_eq_true rfl, Nat.le_of_ble_eq_true rfl⟩) (mpS hZ hT hS hW _) rfl rfl hl.1 rfl (lv_room (Nat.le_of_ble_eq_true rfl)) dX8_trade_46 ⟨Nat.zero_le _, Nat.zero_le _⟩) (fun r_21 H locs hf hW hS => ?_)
          refine lv_goto (tgt := 54) hx hb dX8_trade_49 (by decide) ?_
          exact hk_16 r_21 hf H locs ls hW hS (lv_sub hl [1, 2, 3] rfl)
    · refine jn0_W (∀ (H : Heap) (locs : List Loc) (ls : Array Slot), Wd g 0 81 σ_2 H → va_S (Ag g 0) s.heap H locs → lv_has ls 4 [(0, .ref (bs g 55)), (1, .ref (bs g p1)), (2, .int i_1)] → W p l e (kr 4 129) s m (List.toArray [.ref (bs g 55), .ref (bs g p1)]) below meth c H locs 0 0 Q (F0 m 33 ls [])) hf (fun  hf => ?_) (fun k_22 hk_22 hf => ?_)
      · intro H locs ls hW hS hl
        refine lv_iconst (v := 0) hx hb dX8_trade_33 (by decide) ?_
        exact hk_14 0 hf H locs ls hW hS (lv_sub hl [0, 1, 2] rfl)
      · refine lv_icmp_ge (tgt := 33) hx hb dX8_trade_15 (by decide) (fun hc => ?_) (fun hc => ?_)
        · have hf := ift hc hf
          exact hk_22  hf H locs ls hW hS (lv_sub hl [0, 1, 2] rfl)
        · have hf := iff_ hc hf
          refine lv_aload_n hx hb dX8_trade_18 rfl (lv_at hl 1 rfl) ?_
          refine gfN_9_0 hx hb htg ln_X8_21 hown hZ hW t1 dX8_trade_19 hf (fun T_23 tT_23 hf => ?_)
          refine lv_iload_n hx hb dX8_trade_22 rfl (lv_at hl 2 rfl) ?_
          refine mcip hf hS (fun r h => va_runV (As := [.int i_1]) (rest := []) ⟨hx, hb, hml, hown, hts⟩ (c_X11_firstWish g l 0 81 σ_2 T_23 i_1 tT_23 r h) (cl_X8_33 hts ⟨Nat.le_of_ble_eq_true rfl, Nat.le_of_ble_eq_true rfl⟩) (mpV_11 hZ hT hS hW tT_23 _) rfl rfl hl.1 rfl (lv_room (Nat.le_of_ble_eq_true rfl)) dX8_trade_23 ⟨Nat.zero_le _, Nat.zero_le _⟩) (fun r_24 H locs hf hW hS => ?_)
          refine lv_if_lt (tgt := 33) hx hb dX8_trade_26 (by decide) (fun hc => ?_) (fun hc => ?_)
          · have hf := ift hc hf
            exact hk_22  hf H locs ls hW hS (lv_sub hl [0, 1, 2] rfl)
          · have hf := iff_ hc hf
            refine lv_iconst (v := 1) hx hb dX8_trade_29 (by decide) ?_
            refine lv_goto (tgt := 34) hx hb dX8_trade_30 (by decide) ?_
            exact hk_14 1 hf H locs ls hW hS (lv_sub hl [0, 1, 2] rfl)
def f_X9_begin (σ : Mem) (p0 : Nat) (p1 : Nat) : Option (Mem) :=
  nm (sR σ p0 0 (some p1)) (fun (σ_1 : Mem) => nm (sI σ_1 p0 1 0) (fun (σ_2 : Mem) => nm (sI σ_2 p0 2 0) (fun (σ_3 : Mem) => bd1 (f_X12_copyRow σ_3 (p1 + 7) (p0 + 1)) (fun (σ_4 : Mem) => bd1 (f_X5_copy σ_4 (p0 + 2) (p1 + 5)) (fun (σ_5 : Mem) => some σ_5)))))
set_option maxHeartbeats 4000000 in
set_option maxRecDepth 100000 in
theorem c_X9_begin (g : XG) (l : Launch) (lo n : Nat) (σ : Mem) (p0 : Nat) (p1 : Nat) (t0 : tp 9 lo n p0) (t1 : tp 11 lo n p1) (τ : Mem) (hf : f_X9_begin σ p0 p1 = some τ) : Met l yX9_begin (wx (.code yX9_begin cX9_begin 2 none)) (kr 3 102) (va_Pc [.ref (bs g p0), .ref (bs g p1)] (WS g lo n σ)) (Qv' g lo n τ) 0 0 (Ag g lo) := by
  refine Met.ofW (cc := cX9_begin) (maxL := 2) (ret := none) (by decide) rfl ?_
  intro p e s m args below meth c s₁ B hml hv
  obtain ⟨rfl, hZ, hT, hW⟩ := hv
  have hx := B.exec
  have hb := B.bytes
  have hr := B.returns
  have hts : ∀ w ∈ wx (.code yX9_begin cX9_begin 2 none), w.before _ s = true := atoms_spec B.pre
  have htg : ∀ w ∈ lwg, w.before _ s = true := fun w h => hts w (List.mem_cons_of_mem _ h)
  have hown : s.vm.findClass RX9 = some m.cls := findClass_of_methodNamed B.named
  have hlocks := B.notSynchronized
  change W p l e (kr 3 102) s m (List.toArray [.ref (bs g p0), .ref (bs g p1)]) below meth c s.heap [] 0 0 (MQ below (Qv' g lo n τ) (List.toArray [.ref (bs g p0), .ref (bs g p1)]) s 0 0 (Ag g lo)) _
  generalize hQ : MQ below (Qv' g lo n τ) (List.toArray [.ref (bs g p0), .ref (bs g p1)]) s 0 0 (Ag g lo) = Q
  have hS : va_S (Ag g lo) s.heap s.heap [] := va_S.rf
  have hl := lv_entry ([.ref (bs g p0), .ref (bs g p1)]) (n := 2) (Nat.le_of_ble_eq_true rfl)
  rw [lg_entry_eq]
  generalize (lg_sl ([.ref (bs g p0), .ref (bs g p1)]) ++ List.replicate (2 - (lg_sl ([.ref (bs g p0), .ref (bs g p1)])).length) Slot.unset).toArray = ls at hl ⊢
  have hl : lv_has ls 2 [(0, .ref (bs g p0)), (1, .ref (bs g p1))] := hl
  delta f_X9_begin at hf
  obtain ⟨H, hH⟩ : ∃ H, H = s.heap := ⟨_, rfl⟩
  obtain ⟨locs, hLc⟩ : ∃ z : List Loc, z = [] := ⟨_, rfl⟩
  have hS : va_S (Ag g lo) s.heap H locs := by rw [hH, hLc]; exact hS
  have hW : Wd g lo n σ H := by rw [hH]; exact hW
  suffices hG : W p l e (kr 3 102) s m (List.toArray [.ref (bs g p0), .ref (bs g p1)]) below meth c H locs 0 0 Q (F0 m 0 ls []) by rw [hH, hLc] at hG; exact hG
  clear hH hLc
  refine lv_aload_n hx hb dX9_begin_0 rfl (lv_at hl 0 rfl) ?_
  refine lv_aload_n hx hb dX9_begin_1 rfl (lv_at hl 1 rfl) ?_
  refine pf_9_0 hx hb htg (htg _ lf_X9_26) hown hZ hW hS t0 dX9_begin_2 t1 hf (fun σ_1 H locs hf hW hS => ?_)
  refine lv_aload_n hx hb dX9_begin_5 rfl (lv_at hl 0 rfl) ?_
  refine lv_iconst (v := 0) hx hb dX9_begin_6 (by decide) ?_
  refine pf_9_1 hx hb htg (htg _ lf_X9_30) hown hZ hW hS t0 dX9_begin_7 hf (fun σ_2 H locs hf hW hS => ?_)
  refine lv_aload_n hx hb dX9_begin_10 rfl (lv_at hl 0 rfl) ?_
  refine lv_iconst (v := 0) hx hb dX9_begin_11 (by decide) ?_
  refine pf_9_2 hx hb htg (htg _ lf_X9_34) hown hZ hW hS t0 dX9_begin_12 hf (fun σ_3 H locs hf hW hS => ?_)
  refine lv_aload_n hx hb dX9_begin_15 rfl (lv_at hl 1 rfl) ?_
  refine gfN_11_9 hx hb htg ln_X9_37 hown hZ hW t1 dX9_begin_16 ?_
  refine lv_aload_n hx hb dX9_begin_19 rfl (lv_at hl 0 rfl) ?_
  refine gf_9_3 hx hb htg (htg _ lf_X9_9) hown hZ hW t0 dX9_begin_20 ?_
  refine mcv hf hS (fun τ h => va_runSN (As := [.ref (bs g (p1 + 7)), .ref (bs g (p0 + 1))]) (rest := []) ⟨hx, hb, hml, hown, hts⟩ (c_X12_copyRow g l lo n σ_3 (p1 + 7) (p0 + 1) (t1.sub 20 7 so_11_20_7) (t0.sub 20 1 so_9_20_1) τ h) (cl_X9_40 hts hZ ⟨Nat.le_of_ble_eq_true rfl, Nat.le_of_ble_eq_true rfl⟩) (mpS hZ hT hS hW _) rfl rfl hl.1 rfl (lv_room (Nat.le_of_ble_eq_true rfl)) dX9_begin_23 ⟨Nat.zero_le _, Nat.zero_le _⟩) (fun σ_4 H locs hf hW hS => ?_)
  refine lv_aload_n hx hb dX9_begin_26 rfl (lv_at hl 0 rfl) ?_
  refine gf_9_4 hx hb htg (htg _ lf_X9_18) hown hZ hW t0 dX9_begin_27 ?_
  refine lv_aload_n hx hb dX9_begin_30 rfl (lv_at hl 1 rfl) ?_
  refine gfN_11_8 hx hb htg ln_X9_44 hown hZ hW t1 dX9_begin_31 ?_
  refine mcv hf hS (fun τ h => va_runV (As := [.ref (bs g (p1 + 5))]) (rest := []) ⟨hx, hb, hml, hown, hts⟩ (c_X5_copy g l lo n σ_4 (p0 + 2) (p1 + 5) (t0.sub 5 2 so_9_5_2) (t1.sub 5 5 so_11_5_5) τ h) (cl_X9_45 hts ⟨Nat.le_of_ble_eq_true rfl, Nat.le_of_ble_eq_true rfl⟩) (mpV_5 hZ hT hS hW (t0.sub 5 2 so_9_5_2) _) rfl rfl hl.1 rfl (lv_room (Nat.le_of_ble_eq_true rfl)) dX9_begin_34 ⟨Nat.zero_le _, Nat.zero_le _⟩) (fun σ_5 H locs hf hW hS => ?_)
  subst hQ
  exact mrv hx hb hr hlocks hZ hT hS hW (Option.some.inj hf) dX9_begin_37
def f_X9_copy (σ : Mem) (p0 : Nat) (p1 : Nat) : Option (Mem) :=
  rfc (σ.2.2 p1 0) (fun (T_1 : Nat) => nm (sR σ p0 0 (some T_1)) (fun (σ_2 : Mem) => nm (sI σ_2 p0 1 (σ_2.1 p1 1)) (fun (σ_3 : Mem) => nm (sI σ_3 p0 2 (σ_3.1 p1 2)) (fun (σ_4 : Mem) => bd1 (f_X12_copyRow σ_4 (p1 + 1) (p0 + 1)) (fun (σ_5 : Mem) => bd1 (f_X5_copy σ_5 (p0 + 2) (p1 + 2)) (fun (σ_6 : Mem) => some σ_6))))))
set_option maxHeartbeats 4000000 in
set_option maxRecDepth 100000 in
theorem c_X9_copy (g : XG) (l : Launch) (lo n : Nat) (σ : Mem) (p0 : Nat) (p1 : Nat) (t0 : tp 9 lo n p0) (t1 : tp 9 lo n p1) (τ : Mem) (hf : f_X9_copy σ p0 p1 = some τ) : Met l yX9_copy (wx (.code yX9_copy cX9_copy 2 none)) (kr 3 102) (va_Pc [.ref (bs g p0), .ref (bs g p1)] (WS g lo n σ)) (Qv' g lo n τ) 0 0 (Ag g lo) := by
  refine Met.ofW (cc := cX9_copy) (maxL := 2) (ret := none) (by decide) rfl ?_
  intro p e s m args below meth c s₁ B hml hv
  obtain ⟨rfl, hZ, hT, hW⟩ := hv
  have hx := B.exec
  have hb := B.bytes
  have hr := B.returns
  have hts : ∀ w ∈ wx (.code yX9_copy cX9_copy 2 none), w.before _ s = true := atoms_spec B.pre
  have htg : ∀ w ∈ lwg, w.before _ s = true := fun w h => hts w (List.mem_cons_of_mem _ h)
  have hown : s.vm.findClass RX9 = some m.cls := findClass_of_methodNamed B.named
  have hlocks := B.notSynchronized
  change W p l e (kr 3 102) s m (List.toArray [.ref (bs g p0), .ref (bs g p1)]) below meth c s.heap [] 0 0 (MQ below (Qv' g lo n τ) (List.toArray [.ref (bs g p0), .ref (bs g p1)]) s 0 0 (Ag g lo)) _
  generalize hQ : MQ below (Qv' g lo n τ) (List.toArray [.ref (bs g p0), .ref (bs g p1)]) s 0 0 (Ag g lo) = Q
  have hS : va_S (Ag g lo) s.heap s.heap [] := va_S.rf
  have hl := lv_entry ([.ref (bs g p0), .ref (bs g p1)]) (n := 2) (Nat.le_of_ble_eq_true rfl)
  rw [lg_entry_eq]
  generalize (lg_sl ([.ref (bs g p0), .ref (bs g p1)]) ++ List.replicate (2 - (lg_sl ([.ref (bs g p0), .ref (bs g p1)])).length) Slot.unset).toArray = ls at hl ⊢
  have hl : lv_has ls 2 [(0, .ref (bs g p0)), (1, .ref (bs g p1))] := hl
  delta f_X9_copy at hf
  obtain ⟨H, hH⟩ : ∃ H, H = s.heap := ⟨_, rfl⟩
  obtain ⟨locs, hLc⟩ : ∃ z : List Loc, z = [] := ⟨_, rfl⟩
  have hS : va_S (Ag g lo) s.heap H locs := by rw [hH, hLc]; exact hS
  have hW : Wd g lo n σ H := by rw [hH]; exact hW
  suffices hG : W p l e (kr 3 102) s m (List.toArray [.ref (bs g p0), .ref (bs g p1)]) below meth c H locs 0 0 Q (F0 m 0 ls []) by rw [hH, hLc] at hG; exact hG
  clear hH hLc
  refine lv_aload_n hx hb dX9_copy_0 rfl (lv_at hl 0 rfl) ?_
  refine lv_aload_n hx hb dX9_copy_1 rfl (lv_at hl 1 rfl) ?_
  refine gf_9_0 hx hb htg (htg _ lf_X9_26) hown hZ hW t1 dX9_copy_2 hf (fun T_1 tT_1 hf => ?_)
  refine pf_9_0 hx hb htg (htg _ lf_X9_26) hown hZ hW hS t0 dX9_copy_5 tT_1 hf (fun σ_2 H locs hf hW hS => ?_)
  refine lv_aload_n hx hb dX9_copy_8 rfl (lv_at hl 0 rfl) ?_
  refine lv_aload_n hx hb dX9_copy_9 rfl (lv_at hl 1 rfl) ?_
  refine gf_9_1 hx hb htg (htg _ lf_X9_30) hown hZ hW t1 dX9_copy_10 ?_
  refine pf_9_1 hx hb htg (htg _ lf_X9_30) hown hZ hW hS t0 dX9_copy_13 hf (fun σ_3 H locs hf hW hS => ?_)
  refine lv_aload_n hx hb dX9_copy_16 rfl (lv_at hl 0 rfl) ?_
  refine lv_aload_n hx hb dX9_copy_17 rfl (lv_at hl 1 rfl) ?_
  refine gf_9_2 hx hb htg (htg _ lf_X9_34) hown hZ hW t1 dX9_copy_18 ?_
  refine pf_9_2 hx hb htg (htg _ lf_X9_34) hown hZ hW hS t0 dX9_copy_21 hf (fun σ_4 H locs hf hW hS => ?_)
  refine lv_aload_n hx hb dX9_copy_24 rfl (lv_at hl 1 rfl) ?_
  refine gf_9_3 hx hb htg (htg _ lf_X9_9) hown hZ hW t1 dX9_copy_25 ?_
  refine lv_aload_n hx hb dX9_copy_28 rfl (lv_at hl 0 rfl) ?_
  refine gf_9_3 hx hb htg (htg _ lf_X9_9) hown hZ hW t0 dX9_copy_29 ?_
  refine mcv hf hS (fun τ h => va_runSN (As := [.ref (bs g (p1 + 1)), .ref (bs g (p0 + 1))]) (rest := []) ⟨hx, hb, hml, hown, hts⟩ (c_X12_copyRow g l lo n σ_4 (p1 + 1) (p0 + 1) (t1.sub 20 1 so_9_20_1) (t0.sub 20 1 so_9_20_1) τ h) (cl_X9_40 hts hZ ⟨Nat.le_of_ble_eq_true rfl, Nat.le_of_ble_eq_true rfl⟩) (mpS hZ hT hS hW _) rfl rfl hl.1 rfl (lv_room (Nat.le_of_ble_eq_true rfl)) dX9_copy_32 ⟨Nat.zero_le _, Nat.zero_le _⟩) (fun σ_5 H locs hf hW hS => ?_)
  refine lv_aload_n hx hb dX9_copy_35 rfl (lv_at hl 0 rfl) ?_
  refine gf_9_4 hx hb htg (htg _ lf_X9_18) hown hZ hW t0 dX9_copy_36 ?_
  refine lv_aload_n hx hb dX9_copy_39 rfl (lv_at hl 1 rfl) ?_
  refine gf_9_4 hx hb htg (htg _ lf_X9_18) hown hZ hW t1 dX9_copy_40 ?_
  refine mcv hf hS (fun τ h => va_runV (As := [.ref (bs g (p1 + 2))]) (rest := []) ⟨hx, hb, hml, hown, hts⟩ (c_X5_copy g l lo n σ_5 (p0 + 2) (p1 + 2) (t0.sub 5 2 so_9_5_2) (t1.sub 5 2 so_9_5_2) τ h) (cl_X9_45 hts ⟨Nat.le_of_ble_eq_true rfl, Nat.le_of_ble_eq_true rfl⟩) (mpV_5 hZ hT hS hW (t0.sub 5 2 so_9_5_2) _) rfl rfl hl.1 rfl (lv_room (Nat.le_of_ble_eq_true rfl)) dX9_copy_43 ⟨Nat.zero_le _, Nat.zero_le _⟩) (fun σ_6 H locs hf hW hS => ?_)
  subst hQ
  exact mrv hx hb hr hlocks hZ hT hS hW (Option.some.inj hf) dX9_copy_46
def f_X9_countVisits (σ : Mem) (p0 : Nat) : Option (Int32) :=
  fx2 FU (fun k_3 (i_1 : Int32) (i_2 : Int32) => (if 30 ≤ i_2 then some i_1 else bd1 (f_X9_visitor σ p0 i_2) (fun (r_4 : Int32) => jn1 (fun (i_5 : Int32) => nm (i_1 + i_5) (fun (x_7 : Int32) => nm (i_2 + 1) (fun (x_8 : Int32) => k_3 x_7 x_8))) (fun k_6 => (if r_4 < 0 then k_6 0 else k_6 1))))) 0 0
set_option maxHeartbeats 4000000 in
set_option maxRecDepth 100000 in
theorem c_X9_countVisits (g : XG) (l : Launch) (lo n : Nat) (σ : Mem) (p0 : Nat) (t0 : tp 9 lo n p0) (r : Int32) (hf : f_X9_countVisits σ p0 = some r) : Met l yX9_countVisits (wx (.code yX9_countVisits cX9_countVisits 3 (some .int))) (kr 2 42) (va_Pc [.ref (bs g p0)] (WS g lo n σ)) (Qi' g lo n r σ) 0 0 (Ag g lo) := by
  refine Met.ofW (cc := cX9_countVisits) (maxL := 3) (ret := (some .int)) (by decide) rfl ?_
  intro p e s m args below meth c s₁ B hml hv
  obtain ⟨rfl, hZ, hT, hW⟩ := hv
  have hx := B.exec
  have hb := B.bytes
  have hr := B.returns
  have hts : ∀ w ∈ wx (.code yX9_countVisits cX9_countVisits 3 (some .int)), w.before _ s = true := atoms_spec B.pre
  have htg : ∀ w ∈ lwg, w.before _ s = true := fun w h => hts w (List.mem_cons_of_mem _ h)
  have hown : s.vm.findClass RX9 = some m.cls := findClass_of_methodNamed B.named
  have hlocks := B.notSynchronized
  change W p l e (kr 2 42) s m (List.toArray [.ref (bs g p0)]) below meth c s.heap [] 0 0 (MQ below (Qi' g lo n r σ) (List.toArray [.ref (bs g p0)]) s 0 0 (Ag g lo)) _
  generalize hQ : MQ below (Qi' g lo n r σ) (List.toArray [.ref (bs g p0)]) s 0 0 (Ag g lo) = Q
  have hS : va_S (Ag g lo) s.heap s.heap [] := va_S.rf
  have hl := lv_entry ([.ref (bs g p0)]) (n := 3) (Nat.le_of_ble_eq_true rfl)
  rw [lg_entry_eq]
  generalize (lg_sl ([.ref (bs g p0)]) ++ List.replicate (3 - (lg_sl ([.ref (bs g p0)])).length) Slot.unset).toArray = ls at hl ⊢
  have hl : lv_has ls 3 [(0, .ref (bs g p0))] := hl
  delta f_X9_countVisits at hf
  obtain ⟨H, hH⟩ : ∃ H, H = s.heap := ⟨_, rfl⟩
  obtain ⟨locs, hLc⟩ : ∃ z : List Loc, z = [] := ⟨_, rfl⟩
  have hS : va_S (Ag g lo) s.heap H locs := by rw [hH, hLc]; exact hS
  have hW : Wd g lo n σ H := by rw [hH]; exact hW
  suffices hG : W p l e (kr 2 42) s m (List.toArray [.ref (bs g p0)]) below meth c H locs 0 0 Q (F0 m 0 ls []) by rw [hH, hLc] at hG; exact hG
  clear hH hLc
  refine lv_iconst (v := 0) hx hb dX9_countVisits_0 (by decide) ?_
  refine lv_istore_n (lv' := [(1, .int 0), (0, .ref (bs g p0))]) hx hb dX9_countVisits_1 rfl hl (by decide) rfl (fun ls hl => ?_)
  refine lv_iconst (v := 0) hx hb dX9_countVisits_2 (by decide) ?_
  refine lv_istore_n (lv' := [(2, .int 0), (1, .int 0), (0, .ref (bs g p0))]) hx hb dX9_countVisits_3 rfl hl (by decide) rfl (fun ls hl => ?_)
  refine fx2_W (fun (i_1 : Int32) (i_2 : Int32) => ∀ (H : Heap) (locs : List Loc) (ls : Array Slot), Wd g lo n σ H → va_S (Ag g lo) s.heap H locs → lv_has ls 3 [(0, .ref (bs g p0)), (1, .int i_1), (2, .int i_2)] → W p l e (kr 2 42) s m (List.toArray [.ref (bs g p0)]) below meth c H locs 0 0 Q (F0 m 4 ls [])) (fun k_3 hk_3 i_1 i_2 hf => ?_) FU 0 0 hf H locs ls hW hS (lv_sub hl [2, 1, 0] rfl)
  intro H locs ls hW hS hl
  refine lv_iload_n hx hb dX9_countVisits_4 rfl (lv_at hl 2 rfl) ?_
  refine lv_bipush (v := 30) hx hb dX9_countVisits_5 (by decide) ?_
  refine lv_icmp_ge (tgt := 32) hx hb dX9_countVisits_7 (by decide) (fun hc => ?_) (fun hc => ?_)
  · have hf := ift hc hf
    refine lv_iload_n hx hb dX9_countVisits_32 rfl (lv_at hl 1 rfl) ?_
    subst hQ
    exact mri hx hb hr hlocks hZ hT hS hW ⟨Option.some.inj hf, rfl⟩ dX9_countVisits_33
  · have hf := iff_ hc hf
    refine lv_iload_n hx hb dX9_countVisits_10 rfl (lv_at hl 1 rfl) ?_
    refine lv_aload_n hx hb dX9_countVisits_11 rfl (lv_at hl 0 rfl) ?_
    refine lv_iload_n hx hb dX9_countVisits_12 rfl (lv_at hl 2 rfl) ?_
    refine mcip hf hS (fun r h => va_runV (As := [.int i_2]) (rest := [.int i_1]) ⟨hx, hb, hml, hown, hts⟩ (c_X9_visitor g l lo n σ p0 i_2 t0 r h) (cl_X9_61 hts ⟨Nat.le_of_ble_eq_true rfl, Nat.le_of_ble_eq_true rfl⟩) (mpV_9 hZ hT hS hW t0 _) rfl rfl hl.1 rfl (lv_room (Nat.le_of_ble_eq_true rfl)) dX9_countVisits_13 ⟨Nat.zero_le _, Nat.zero_le _⟩) (fun r_4 H locs hf hW hS => ?_)
    refine jn1_W (fun (i_5 : Int32) => ∀ (H : Heap) (locs : List Loc) (ls : Array Slot), Wd g lo n σ H → va_S (Ag g lo) s.heap H locs → lv_has ls 3 [(0, .ref (bs g p0)), (2, .int i_2)] → W p l e (kr 2 42) s m (List.toArray [.ref (bs g p0)]) below meth c H locs 0 0 Q (F0 m 24 ls [.int i_5, .int i_1])) hf (fun i_5 hf => ?_) (fun k_6 hk_6 hf => ?_)
    · intro H locs ls hW hS hl
      refine lv_iadd hx hb dX9_countVisits_24 ?_
      refine mnmi hf (fun (x_7 : Int32) hf => ?_)
      refine lv_istore_n (lv' := [(1, .int x_7), (0, .ref (bs g p0)), (2, .int i_2)]) hx hb dX9_countVisits_25 rfl hl (by decide) rfl (fun ls hl => ?_)
      obtain ⟨x_8, e_9, hf⟩ := nm_s hf
      refine lv_iinc (v := x_8) (lv' := [(2, .int x_8), (1, .int x_7), (0, .ref (bs g p0))]) hx hb dX9_countVisits_26 hl (k := 2) rfl (by rw [e_9]; rfl) (by decide) rfl (fun ls hl => ?_)
      refine lv_goto (tgt := 4) hx hb dX9_countVisits_29 (by decide) ?_
      exact hk_3 x_7 x_8 hf H locs ls hW hS (lv_sub hl [2, 1, 0] rfl)
    · refine lv_if_lt (tgt := 23) hx hb dX9_countVisits_16 (by decide) (fun hc => ?_) (fun hc => ?_)
      · have hf := ift hc hf
        refine lv_iconst (v := 0) hx hb dX9_countVisits_23 (by decide) ?_
        exact hk_6 0 hf H locs ls hW hS (lv_sub hl [0, 2] rfl)
      · have hf := iff_ hc hf
        refine lv_iconst (v := 1) hx hb dX9_countVisits_19 (by decide) ?_
        refine lv_goto (tgt := 24) hx hb dX9_countVisits_20 (by decide) ?_
        exact hk_6 1 hf H locs ls hW hS (lv_sub hl [0, 2] rfl)
def f_X9_isAwaited (σ : Mem) (p0 : Nat) (a1 : Int32) : Option (Int32) :=
  jn0 (some 0) (fun k_1 => (if a1 < (σ.1 p0 1) then k_1 else bd1 (f_X9_visitor σ p0 a1) (fun (r_2 : Int32) => (if r_2 < 0 then k_1 else some 1))))
set_option maxHeartbeats 4000000 in
set_option maxRecDepth 100000 in
theorem c_X9_isAwaited (g : XG) (l : Launch) (lo n : Nat) (σ : Mem) (p0 : Nat) (a1 : Int32) (t0 : tp 9 lo n p0) (r : Int32) (hf : f_X9_isAwaited σ p0 a1 = some r) : Met l yX9_isAwaited (wx (.code yX9_isAwaited cX9_isAwaited 2 (some .boolean))) (kr 2 42) (va_Pc [.ref (bs g p0), .int a1] (WS g lo n σ)) (Qi' g lo n r σ) 0 0 (Ag g lo) := by
  refine Met.ofW (cc := cX9_isAwaited) (maxL := 2) (ret := (some .boolean)) (by decide) rfl ?_
  intro p e s m args below meth c s₁ B hml hv
  obtain ⟨rfl, hZ, hT, hW⟩ := hv
  have hx := B.exec
  have hb := B.bytes
  have hr := B.returns
  have hts : ∀ w ∈ wx (.code yX9_isAwaited cX9_isAwaited 2 (some .boolean)), w.before _ s = true := atoms_spec B.pre
  have htg : ∀ w ∈ lwg, w.before _ s = true := fun w h => hts w (List.mem_cons_of_mem _ h)
  have hown : s.vm.findClass RX9 = some m.cls := findClass_of_methodNamed B.named
  have hlocks := B.notSynchronized
  change W p l e (kr 2 42) s m (List.toArray [.ref (bs g p0), .int a1]) below meth c s.heap [] 0 0 (MQ below (Qi' g lo n r σ) (List.toArray [.ref (bs g p0), .int a1]) s 0 0 (Ag g lo)) _
  generalize hQ : MQ below (Qi' g lo n r σ) (List.toArray [.ref (bs g p0), .int a1]) s 0 0 (Ag g lo) = Q
  have hS : va_S (Ag g lo) s.heap s.heap [] := va_S.rf
  have hl := lv_entry ([.ref (bs g p0), .int a1]) (n := 2) (Nat.le_of_ble_eq_true rfl)
  rw [lg_entry_eq]
  generalize (lg_sl ([.ref (bs g p0), .int a1]) ++ List.replicate (2 - (lg_sl ([.ref (bs g p0), .int a1])).length) Slot.unset).toArray = ls at hl ⊢
  have hl : lv_has ls 2 [(0, .ref (bs g p0)), (1, .int a1)] := hl
  delta f_X9_isAwaited at hf
  obtain ⟨H, hH⟩ : ∃ H, H = s.heap := ⟨_, rfl⟩
  obtain ⟨locs, hLc⟩ : ∃ z : List Loc, z = [] := ⟨_, rfl⟩
  have hS : va_S (Ag g lo) s.heap H locs := by rw [hH, hLc]; exact hS
  have hW : Wd g lo n σ H := by rw [hH]; exact hW
  suffices hG : W p l e (kr 2 42) s m (List.toArray [.ref (bs g p0), .int a1]) below meth c H locs 0 0 Q (F0 m 0 ls []) by rw [hH, hLc] at hG; exact hG
  clear hH hLc
  refine lv_iload_n hx hb dX9_isAwaited_0 rfl (lv_at hl 1 rfl) ?_
  refine lv_aload_n hx hb dX9_isAwaited_1 rfl (lv_at hl 0 rfl) ?_
  refine gf_9_1 hx hb htg (htg _ lf_X9_30) hown hZ hW t0 dX9_isAwaited_2 ?_
  refine jn0_W (∀ (H : Heap) (locs : List Loc) (ls : Array Slot), Wd g lo n σ H → va_S (Ag g lo) s.heap H locs → lv_has ls 2 [] → W p l e (kr 2 42) s m (List.toArray [.ref (bs g p0), .int a1]) below meth c H locs 0 0 Q (F0 m 20 ls [])) hf (fun  hf => ?_) (fun k_1 hk_1 hf => ?_)
  · intro H locs ls hW hS hl
    refine lv_iconst (v := 0) hx hb dX9_isAwaited_20 (by decide) ?_
    subst hQ
    exact mrz hx hb hr hlocks hZ hT hS hW (by decide) ⟨Option.some.inj hf, rfl⟩ dX9_isAwaited_21
  · refine lv_icmp_lt (tgt := 20) hx hb dX9_isAwaited_5 (by decide) (fun hc => ?_) (fun hc => ?_)
    · have hf := ift hc hf
      exact hk_1  hf H locs ls hW hS (lv_sub hl [] rfl)
    · have hf := iff_ hc hf
      refine lv_aload_n hx hb dX9_isAwaited_8 rfl (lv_at hl 0 rfl) ?_
      refine lv_iload_n hx hb dX9_isAwaited_9 rfl (lv_at hl 1 rfl) ?_
      refine mcip hf hS (fun r h => va_runV (As := [.int a1]) (rest := []) ⟨hx, hb, hml, hown, hts⟩ (c_X9_visitor g l lo n σ p0 a1 t0 r h) (cl_X9_61 hts ⟨Nat.le_of_ble_eq_true rfl, Nat.le_of_ble_eq_true rfl⟩) (mpV_9 hZ hT hS hW t0 _) rfl rfl hl.1 rfl (lv_room (Nat.le_of_ble_eq_true rfl)) dX9_isAwaited_10 ⟨Nat.zero_le _, Nat.zero_le _⟩) (fun r_2 H locs hf hW hS => ?_)
      refine lv_if_lt (tgt := 20) hx hb dX9_isAwaited_13 (by decide) (fun hc => ?_) (fun hc => ?_)
      · have hf := ift hc hf
        exact hk_1  hf H locs ls hW hS (lv_sub hl [] rfl)
      · have hf := iff_ hc hf
        refine lv_iconst (v := 1) hx hb dX9_isAwaited_16 (by decide) ?_
        refine lv_goto (tgt := 21) hx hb dX9_isAwaited_17 (by decide) ?_
        subst hQ
        exact mrz hx hb hr hlocks hZ hT hS hW (by decide) ⟨Option.some.inj hf, rfl⟩ dX9_isAwaited_21
