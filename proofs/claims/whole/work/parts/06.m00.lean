def f_X1_forget (σ : Mem)  : Option (Mem) :=
  nm (sI σ 49 1 0) (fun (σ_1 : Mem) => some σ_1)
set_option maxHeartbeats 4000000 in
set_option maxRecDepth 100000 in
theorem c_X1_forget (g : XG) (l : Launch) (σ : Mem) (τ : Mem) (hf : f_X1_forget σ = some τ) : Met l yX1_forget (wx (.code yX1_forget cX1_forget 1 none)) (kr 0 0) (va_Pc [.ref (bs g 49)] (WS g 0 81 σ)) (Qv' g 0 81 τ) 0 0 (Ag g 0) := by
  refine Met.ofW (cc := cX1_forget) (maxL := 1) (ret := none) (by decide) rfl ?_
  intro p e s m args below meth c s₁ B hml hv
  obtain ⟨rfl, hZ, hT, hW⟩ := hv
  have hx := B.exec
  have hb := B.bytes
  have hr := B.returns
  have hts : ∀ w ∈ wx (.code yX1_forget cX1_forget 1 none), w.before _ s = true := atoms_spec B.pre
  have htg : ∀ w ∈ lwg, w.before _ s = true := fun w h => hts w (List.mem_cons_of_mem _ h)
  have hown : s.vm.findClass RX1 = some m.cls := findClass_of_methodNamed B.named
  have hlocks := B.notSynchronized
  change W p l e (kr 0 0) s m (List.toArray [.ref (bs g 49)]) below meth c s.heap [] 0 0 (MQ below (Qv' g 0 81 τ) (List.toArray [.ref (bs g 49)]) s 0 0 (Ag g 0)) _
  generalize hQ : MQ below (Qv' g 0 81 τ) (List.toArray [.ref (bs g 49)]) s 0 0 (Ag g 0) = Q
  have hS : va_S (Ag g 0) s.heap s.heap [] := va_S.rf
  have hl := lv_entry ([.ref (bs g 49)]) (n := 1) (Nat.le_of_ble_eq_true rfl)
  rw [lg_entry_eq]
  generalize (lg_sl ([.ref (bs g 49)]) ++ List.replicate (1 - (lg_sl ([.ref (bs g 49)])).length) Slot.unset).toArray = ls at hl ⊢
  have hl : lv_has ls 1 [(0, .ref (bs g 49))] := hl
  delta f_X1_forget at hf
  obtain ⟨H, hH⟩ : ∃ H, H = s.heap := ⟨_, rfl⟩
  obtain ⟨locs, hLc⟩ : ∃ z : List Loc, z = [] := ⟨_, rfl⟩
  have hS : va_S (Ag g 0) s.heap H locs := by rw [hH, hLc]; exact hS
  have hW : Wd g 0 81 σ H := by rw [hH]; exact hW
  suffices hG : W p l e (kr 0 0) s m (List.toArray [.ref (bs g 49)]) below meth c H locs 0 0 Q (F0 m 0 ls []) by rw [hH, hLc] at hG; exact hG
  clear hH hLc
  refine lv_aload_n hx hb dX1_forget_0 rfl (lv_at hl 0 rfl) ?_
  refine lv_iconst (v := 0) hx hb dX1_forget_1 (by decide) ?_
  refine pf_1_1 hx hb htg (htg _ lf_X1_15) hown hZ hW hS tz_49 dX1_forget_2 hf (fun σ_1 H locs hf hW hS => ?_)
  subst hQ
  exact mrv hx hb hr hlocks hZ hT hS hW (Option.some.inj hf) dX1_forget_5
def f_X12_set (σ : Mem) (p0 : Nat) (a1 : Int32) (a2 : Int32) : Option (Mem) :=
  (if a1 < 0 then some σ else (if (nI (aln p0)) ≤ a1 then some σ else ixd a1 (aln p0) (nm (sI σ p0 a1.toNatClampNeg a2) (fun (σ_1 : Mem) => some σ_1))))
set_option maxHeartbeats 4000000 in
set_option maxRecDepth 100000 in
theorem c_X12_set (g : XG) (l : Launch) (lo n : Nat) (σ : Mem) (p0 : Nat) (a1 : Int32) (a2 : Int32) (t0 : tp 20 lo n p0) (τ : Mem) (hf : f_X12_set σ p0 a1 a2 = some τ) : Met l yX12_set (wx (.code yX12_set cX12_set 3 none)) (kr 0 0) (va_Pc [.ref (bs g p0), .int a1, .int a2] (WS g lo n σ)) (Qv' g lo n τ) 0 0 (Ag g lo) := by
  refine Met.ofW (cc := cX12_set) (maxL := 3) (ret := none) (by decide) rfl ?_
  intro p e s m args below meth c s₁ B hml hv
  obtain ⟨rfl, hZ, hT, hW⟩ := hv
  have hx := B.exec
  have hb := B.bytes
  have hr := B.returns
  have hts : ∀ w ∈ wx (.code yX12_set cX12_set 3 none), w.before _ s = true := atoms_spec B.pre
  have htg : ∀ w ∈ lwg, w.before _ s = true := fun w h => hts w (List.mem_cons_of_mem _ h)
  have hown : s.vm.findClass RX12 = some m.cls := findClass_of_methodNamed B.named
  have hlocks := B.notSynchronized
  change W p l e (kr 0 0) s m (List.toArray [.ref (bs g p0), .int a1, .int a2]) below meth c s.heap [] 0 0 (MQ below (Qv' g lo n τ) (List.toArray [.ref (bs g p0), .int a1, .int a2]) s 0 0 (Ag g lo)) _
  generalize hQ : MQ below (Qv' g lo n τ) (List.toArray [.ref (bs g p0), .int a1, .int a2]) s 0 0 (Ag g lo) = Q
  have hS : va_S (Ag g lo) s.heap s.heap [] := va_S.rf
  have hl := lv_entry ([.ref (bs g p0), .int a1, .int a2]) (n := 3) (Nat.le_of_ble_eq_true rfl)
  rw [lg_entry_eq]
  generalize (lg_sl ([.ref (bs g p0), .int a1, .int a2]) ++ List.replicate (3 - (lg_sl ([.ref (bs g p0), .int a1, .int a2])).length) Slot.unset).toArray = ls at hl ⊢
  have hl : lv_has ls 3 [(0, .ref (bs g p0)), (1, .int a1), (2, .int a2)] := hl
  delta f_X12_set at hf
  obtain ⟨H, hH⟩ : ∃ H, H = s.heap := ⟨_, rfl⟩
  obtain ⟨locs, hLc⟩ : ∃ z : List Loc, z = [] := ⟨_, rfl⟩
  have hS : va_S (Ag g lo) s.heap H locs := by rw [hH, hLc]; exact hS
  have hW : Wd g lo n σ H := by rw [hH]; exact hW
  suffices hG : W p l e (kr 0 0) s m (List.toArray [.ref (bs g p0), .int a1, .int a2]) below meth c H locs 0 0 Q (F0 m 0 ls []) by rw [hH, hLc] at hG; exact hG
  clear hH hLc
  refine lv_iload_n hx hb dX12_set_0 rfl (lv_at hl 1 rfl) ?_
  refine lv_if_lt (tgt := 14) hx hb dX12_set_1 (by decide) (fun hc => ?_) (fun hc => ?_)
  · have hf := ift hc hf
    subst hQ
    exact mrv hx hb hr hlocks hZ hT hS hW (Option.some.inj hf) dX12_set_14
  · have hf := iff_ hc hf
    refine lv_iload_n hx hb dX12_set_4 rfl (lv_at hl 1 rfl) ?_
    refine lv_aload_n hx hb dX12_set_5 rfl (lv_at hl 0 rfl) ?_
    refine mln_i hx hb hZ hW t0 dX12_set_6 ?_
    refine lv_icmp_ge (tgt := 14) hx hb dX12_set_7 (by decide) (fun hc => ?_) (fun hc => ?_)
    · have hf := ift hc hf
      subst hQ
      exact mrv hx hb hr hlocks hZ hT hS hW (Option.some.inj hf) dX12_set_14
    · have hf := iff_ hc hf
      refine lv_aload_n hx hb dX12_set_10 rfl (lv_at hl 0 rfl) ?_
      refine lv_iload_n hx hb dX12_set_11 rfl (lv_at hl 1 rfl) ?_
      refine lv_iload_n hx hb dX12_set_12 rfl (lv_at hl 2 rfl) ?_
      refine mst_i hx hb hZ hW hS t0 hf dX12_set_13 (fun σ_1 H locs hf hW hS => ?_)
      subst hQ
      exact mrv hx hb hr hlocks hZ hT hS hW (Option.some.inj hf) dX12_set_14
def f_X1_note (σ : Mem) (a1 : Int32) (a2 : Int32) (a3 : Int32) (a4 : Int32) : Option (Mem) :=
  jn1 (fun (σ_1 : Mem) => nm ((σ_1.1 49 1) * 4) (fun (x_3 : Int32) => bd1 (f_X12_set σ_1 (49 + 1) x_3 a1) (fun (σ_4 : Mem) => bd1 (f_X12_set σ_4 (49 + 1) (x_3 + 1) a2) (fun (σ_5 : Mem) => bd1 (f_X12_set σ_5 (49 + 1) (x_3 + 2) a3) (fun (σ_6 : Mem) => bd1 (f_X12_set σ_6 (49 + 1) (x_3 + 3) a4) (fun (σ_7 : Mem) => nm (sI σ_7 49 1 ((σ_7.1 49 1) + 1)) (fun (σ_8 : Mem) => some σ_8))))))) (fun k_2 => (if (σ.1 49 1) < 16 then k_2 σ else cpd 4 0 ((nI (aln (49 + 1))) - 4) (aln (49 + 1)) (aln (49 + 1)) (nm (sA σ (49 + 1) (va_cpy (σ.1 (49 + 1)) (σ.1 (49 + 1)) (4 : Int32).toNatClampNeg (0 : Int32).toNatClampNeg ((nI (aln (49 + 1))) - 4).toNatClampNeg)) (fun (σ_9 : Mem) => nm (sI σ_9 49 1 15) (fun (σ_10 : Mem) => k_2 σ_10)))))
set_option maxHeartbeats 4000000 in
set_option maxRecDepth 100000 in
theorem c_X1_note (g : XG) (l : Launch) (σ : Mem) (a1 : Int32) (a2 : Int32) (a3 : Int32) (a4 : Int32) (τ : Mem) (hf : f_X1_note σ a1 a2 a3 a4 = some τ) : Met l yX1_note (wx (.code yX1_note cX1_note 6 none)) (kr 1 60) (va_Pc [.ref (bs g 49), .int a1, .int a2, .int a3, .int a4] (WS g 0 81 σ)) (Qv' g 0 81 τ) 0 0 (Ag g 0) := by
  refine Met.ofW (cc := cX1_note) (maxL := 6) (ret := none) (by decide) rfl ?_
  intro p e s m args below meth c s₁ B hml hv
  obtain ⟨rfl, hZ, hT, hW⟩ := hv
  have hx := B.exec
  have hb := B.bytes
  have hr := B.returns
  have hts : ∀ w ∈ wx (.code yX1_note cX1_note 6 none), w.before _ s = true := atoms_spec B.pre
  have htg : ∀ w ∈ lwg, w.before _ s = true := fun w h => hts w (List.mem_cons_of_mem _ h)
  have hown : s.vm.findClass RX1 = some m.cls := findClass_of_methodNamed B.named
  have hlocks := B.notSynchronized
  change W p l e (kr 1 60) s m (List.toArray [.ref (bs g 49), .int a1, .int a2, .int a3, .int a4]) below meth c s.heap [] 0 0 (MQ below (Qv' g 0 81 τ) (List.toArray [.ref (bs g 49), .int a1, .int a2, .int a3, .int a4]) s 0 0 (Ag g 0)) _
  generalize hQ : MQ below (Qv' g 0 81 τ) (List.toArray [.ref (bs g 49), .int a1, .int a2, .int a3, .int a4]) s 0 0 (Ag g 0) = Q
  have hS : va_S (Ag g 0) s.heap s.heap [] := va_S.rf
  have hl := lv_entry ([.ref (bs g 49), .int a1, .int a2, .int a3, .int a4]) (n := 6) (Nat.le_of_ble_eq_true rfl)
  rw [lg_entry_eq]
  generalize (lg_sl ([.ref (bs g 49), .int a1, .int a2, .int a3, .int a4]) ++ List.replicate (6 - (lg_sl ([.ref (bs g 49), .int a1, .int a2, .int a3, .int a4])).length) Slot.unset).toArray = ls at hl ⊢
  have hl : lv_has ls 6 [(0, .ref (bs g 49)), (1, .int a1), (2, .int a2), (3, .int a3), (4, .int a4)] := hl
  delta f_X1_note at hf
  obtain ⟨H, hH⟩ : ∃ H, H = s.heap := ⟨_, rfl⟩
  obtain ⟨locs, hLc⟩ : ∃ z : List Loc, z = [] := ⟨_, rfl⟩
  have hS : va_S (Ag g 0) s.heap H locs := by rw [hH, hLc]; exact hS
  have hW : Wd g 0 81 σ H := by rw [hH]; exact hW
  suffices hG : W p l e (kr 1 60) s m (List.toArray [.ref (bs g 49), .int a1, .int a2, .int a3, .int a4]) below meth c H locs 0 0 Q (F0 m 0 ls []) by rw [hH, hLc] at hG; exact hG
  clear hH hLc
  refine lv_aload_n hx hb dX1_note_0 rfl (lv_at hl 0 rfl) ?_
  refine gf_1_1 hx hb htg (htg _ lf_X1_15) hown hZ hW tz_49 dX1_note_1 ?_
  refine lv_bipush (v := 16) hx hb dX1_note_4 (by decide) ?_
  refine jn1_W (fun (σ_1 : Mem) => ∀ (H : Heap) (locs : List Loc) (ls : Array Slot), Wd g 0 81 σ_1 H → va_S (Ag g 0) s.heap H locs → lv_has ls 6 [(0, .ref (bs g 49)), (1, .int a1), (2, .int a2), (3, .int a3), (4, .int a4)] → W p l e (kr 1 60) s m (List.toArray [.ref (bs g 49), .int a1, .int a2, .int a3, .int a4]) below meth c H locs 0 0 Q (F0 m 35 ls [])) hf (fun σ_1 hf => ?_) (fun k_2 hk_2 hf => ?_)
  · intro H locs ls hW hS hl
    refine lv_aload_n hx hb dX1_note_35 rfl (lv_at hl 0 rfl) ?_
    refine gf_1_1 hx hb htg (htg _ lf_X1_15) hown hZ hW tz_49 dX1_note_36 ?_
    refine lv_iconst (v := 4) hx hb dX1_note_39 (by decide) ?_
    refine lv_imul hx hb dX1_note_40 ?_
    refine mnmi hf (fun (x_3 : Int32) hf => ?_)
    refine lv_istore (lv' := [(5, .int x_3), (0, .ref (bs g 49)), (1, .int a1), (2, .int a2), (3, .int a3), (4, .int a4)]) hx hb dX1_note_41 hl (by decide) rfl (fun ls hl => ?_)
    refine lv_aload_n hx hb dX1_note_43 rfl (lv_at hl 1 rfl) ?_
    refine gf_1_0 hx hb htg (htg _ lf_X1_11) hown hZ hW tz_49 dX1_note_44 ?_
    refine lv_iload hx hb dX1_note_47 (lv_at hl 0 rfl) ?_
    refine lv_iload_n hx hb dX1_note_49 rfl (lv_at hl 2 rfl) ?_
    refine mcv hf hS (fun τ h => va_runSN (As := [.ref (bs g (49 + 1)), .int x_3, .int a1]) (rest := []) ⟨hx, hb, hml, hown, hts⟩ (c_X12_set g l 0 81 σ_1 (49 + 1) x_3 a1 (tz_49.sub 20 1 so_1_20_1) τ h) (cl_X1_25 hts hZ ⟨Nat.le_of_ble_eq_true rfl, Nat.le_of_ble_eq_true rfl⟩) (mpS hZ hT hS hW _) rfl rfl hl.1 rfl (lv_room (Nat.le_of_ble_eq_true rfl)) dX1_note_50 ⟨Nat.zero_le _, Nat.zero_le _⟩) (fun σ_4 H locs hf hW hS => ?_)
    refine lv_aload_n hx hb dX1_note_53 rfl (lv_at hl 1 rfl) ?_
    refine gf_1_0 hx hb htg (htg _ lf_X1_11) hown hZ hW tz_49 dX1_note_54 ?_
    refine lv_iload hx hb dX1_note_57 (lv_at hl 0 rfl) ?_
    refine lv_iconst (v := 1) hx hb dX1_note_59 (by decide) ?_
    refine lv_iadd hx hb dX1_note_60 ?_
    refine lv_iload_n hx hb dX1_note_61 rfl (lv_at hl 3 rfl) ?_
    refine mcv hf hS (fun τ h => va_runSN (As := [.ref (bs g (49 + 1)), .int (x_3 + 1), .int a2]) (rest := []) ⟨hx, hb, hml, hown, hts⟩ (c_X12_set g l 0 81 σ_4 (49 + 1) (x_3 + 1) a2 (tz_49.sub 20 1 so_1_20_1) τ h) (cl_X1_25 hts hZ ⟨Nat.le_of_ble_eq_true rfl, Nat.le_of_ble_eq_true rfl⟩) (mpS hZ hT hS hW _) rfl rfl hl.1 rfl (lv_room (Nat.le_of_ble_eq_true rfl)) dX1_note_62 ⟨Nat.zero_le _, Nat.zero_le _⟩) (fun σ_5 H locs hf hW hS => ?_)
    refine lv_aload_n hx hb dX1_note_65 rfl (lv_at hl 1 rfl) ?_
    refine gf_1_0 hx hb htg (htg _ lf_X1_11) hown hZ hW tz_49 dX1_note_66 ?_
    refine lv_iload hx hb dX1_note_69 (lv_at hl 0 rfl) ?_
    refine lv_iconst (v := 2) hx hb dX1_note_71 (by decide) ?_
    refine lv_iadd hx hb dX1_note_72 ?_
    refine lv_iload_n hx hb dX1_note_73 rfl (lv_at hl 4 rfl) ?_
    refine mcv hf hS (fun τ h => va_runSN (As := [.ref (bs g (49 + 1)), .int (x_3 + 2), .int a3]) (rest := []) ⟨hx, hb, hml, hown, hts⟩ (c_X12_set g l 0 81 σ_5 (49 + 1) (x_3 + 2) a3 (tz_49.sub 20 1 so_1_20_1) τ h) (cl_X1_25 hts hZ ⟨Nat.le_of_ble_eq_true rfl, Nat.le_of_ble_eq_true rfl⟩) (mpS hZ hT hS hW _) rfl rfl hl.1 rfl (lv_room (Nat.le_of_ble_eq_true rfl)) dX1_note_74 ⟨Nat.zero_le _, Nat.zero_le _⟩) (fun σ_6 H locs hf hW hS => ?_)
    refine lv_aload_n hx hb dX1_note_77 rfl (lv_at hl 1 rfl) ?_
    refine gf_1_0 hx hb htg (htg _ lf_X1_11) hown hZ hW tz_49 dX1_note_78 ?_
    refine lv_iload hx hb dX1_note_81 (lv_at hl 0 rfl) ?_
    refine lv_iconst (v := 3) hx hb dX1_note_83 (by decide) ?_
    refine lv_iadd hx hb dX1_note_84 ?_
    refine lv_iload hx hb dX1_note_85 (lv_at hl 5 rfl) ?_
    refine mcv hf hS (fun τ h => va_runSN (As := [.ref (bs g (49 + 1)), .int (x_3 + 3), .int a4]) (rest := []) ⟨hx, hb, hml, hown, hts⟩ (c_X12_set g l 0 81 σ_6 (49 + 1) (x_3 + 3) a4 (tz_49.sub 20 1 so_1_20_1) τ h) (cl_X1_25 hts hZ ⟨Nat.le_of_ble_eq_true rfl, Nat.le_of_ble_eq_true rfl⟩) (mpS hZ hT hS hW _) rfl rfl hl.1 rfl (lv_room (Nat.le_of_ble_eq_true rfl)) dX1_note_87 ⟨Nat.zero_le _, Nat.zero_le _⟩) (fun σ_7 H locs hf hW hS => ?_)
    refine lv_aload_n hx hb dX1_note_90 rfl (lv_at hl 1 rfl) ?_
    refine lv_dup hx hb dX1_note_91 rfl ?_
    refine gf_1_1 hx hb htg (htg _ lf_X1_15) hown hZ hW tz_49 dX1_note_92 ?_
    refine lv_iconst (v := 1) hx hb dX1_note_95 (by decide) ?_
    refine lv_iadd hx hb dX1_note_96 ?_
    refine pf_1_1 hx hb htg (htg _ lf_X1_15) hown hZ hW hS tz_49 dX1_note_97 hf (fun σ_8 H locs hf hW hS => ?_)
    subst hQ
    exact mrv hx hb hr hlocks hZ hT hS hW (Option.some.inj hf) dX1_note_100
  · refine lv_icmp_lt (tgt := 35) hx hb dX1_note_6 (by decide) (fun hc => ?_) (fun hc => ?_)
    · have hf := ift hc hf
      exact hk_2 σ hf H locs ls hW hS (lv_sub hl [0, 1, 2, 3, 4] rfl)
    · have hf := iff_ hc hf
      refine lv_aload_n hx hb dX1_note_9 rfl (lv_at hl 0 rfl) ?_
      refine gf_1_0 hx hb htg (htg _ lf_X1_11) hown hZ hW tz_49 dX1_note_10 ?_
      refine lv_iconst (v := 4) hx hb dX1_note_13 (by decide) ?_
      refine lv_aload_n hx hb dX1_note_14 rfl (lv_at hl 0 rfl) ?_
      refine gf_1_0 hx hb htg (htg _ lf_X1_11) hown hZ hW tz_49 dX1_note_15 ?_
      refine lv_iconst (v := 0) hx hb dX1_note_18 (by decide) ?_
      refine lv_aload_n hx hb dX1_note_19 rfl (lv_at hl 0 rfl) ?_
      refine gf_1_0 hx hb htg (htg _ lf_X1_11) hown hZ hW tz_49 dX1_note_20 ?_
      refine mln_i hx hb hZ hW (tz_49.sub 20 1 so_1_20_1) dX1_note_23 ?_
      refine lv_iconst (v := 4) hx hb dX1_note_24 (by decide) ?_
      refine lv_isub hx hb dX1_note_25 ?_
      refine mcpy hx hb (hml.trans hl.1.symm) htg hown lm_X1_19 hZ hW hS (tz_49.sub 20 1 so_1_20_1) (tz_49.sub 20 1 so_1_20_1) hf (Nat.le_of_ble_eq_true rfl) (Nat.le_of_ble_eq_true rfl) dX1_note_26 (fun σ_9 H locs hf hW hS => ?_)
      refine lv_aload_n hx hb dX1_note_29 rfl (lv_at hl 0 rfl) ?_
      refine lv_bipush (v := 15) hx hb dX1_note_30 (by decide) ?_
      refine pf_1_1 hx hb htg (htg _ lf_X1_15) hown hZ hW hS tz_49 dX1_note_32 hf (fun σ_10 H locs hf hW hS => ?_)
      exact hk_2 σ_10 hf H locs ls hW hS (lv_sub hl [0, 1, 2, 3, 4] rfl)
def f_X12_get (σ : Mem) (p0 : Nat) (a1 : Int32) : Option (Int32) :=
  jn0 (some 0) (fun k_1 => (if a1 < 0 then k_1 else (if (nI (aln p0)) ≤ a1 then k_1 else ixd a1 (aln p0) (some (σ.1 p0 a1.toNatClampNeg)))))
set_option maxHeartbeats 4000000 in
set_option maxRecDepth 100000 in
theorem c_X12_get (g : XG) (l : Launch) (lo n : Nat) (σ : Mem) (p0 : Nat) (a1 : Int32) (t0 : tp 20 lo n p0) (r : Int32) (hf : f_X12_get σ p0 a1 = some r) : Met l yX12_get (wx (.code yX12_get cX12_get 2 (some .int))) (kr 0 0) (va_Pc [.ref (bs g p0), .int a1] (WS g lo n σ)) (Qi' g lo n r σ) 0 0 (Ag g lo) := by
  refine Met.ofW (cc := cX12_get) (maxL := 2) (ret := (some .int)) (by decide) rfl ?_
  intro p e s m args below meth c s₁ B hml hv
  obtain ⟨rfl, hZ, hT, hW⟩ := hv
  have hx := B.exec
  have hb := B.bytes
  have hr := B.returns
  have hts : ∀ w ∈ wx (.code yX12_get cX12_get 2 (some .int)), w.before _ s = true := atoms_spec B.pre
  have htg : ∀ w ∈ lwg, w.before _ s = true := fun w h => hts w (List.mem_cons_of_mem _ h)
  have hown : s.vm.findClass RX12 = some m.cls := findClass_of_methodNamed B.named
  have hlocks := B.notSynchronized
  change W p l e (kr 0 0) s m (List.toArray [.ref (bs g p0), .int a1]) below meth c s.heap [] 0 0 (MQ below (Qi' g lo n r σ) (List.toArray [.ref (bs g p0), .int a1]) s 0 0 (Ag g lo)) _
  generalize hQ : MQ below (Qi' g lo n r σ) (List.toArray [.ref (bs g p0), .int a1]) s 0 0 (Ag g lo) = Q
  have hS : va_S (Ag g lo) s.heap s.heap [] := va_S.rf
  have hl := lv_entry ([.ref (bs g p0), .int a1]) (n := 2) (Nat.le_of_ble_eq_true rfl)
  rw [lg_entry_eq]
  generalize (lg_sl ([.ref (bs g p0), .int a1]) ++ List.replicate (2 - (lg_sl ([.ref (bs g p0), .int a1])).length) Slot.unset).toArray = ls at hl ⊢
  have hl : lv_has ls 2 [(0, .ref (bs g p0)), (1, .int a1)] := hl
  delta f_X12_get at hf
  obtain ⟨H, hH⟩ : ∃ H, H = s.heap := ⟨_, rfl⟩
  obtain ⟨locs, hLc⟩ : ∃ z : List Loc, z = [] := ⟨_, rfl⟩
  have hS : va_S (Ag g lo) s.heap H locs := by rw [hH, hLc]; exact hS
  have hW : Wd g lo n σ H := by rw [hH]; exact hW
  suffices hG : W p l e (kr 0 0) s m (List.toArray [.ref (bs g p0), .int a1]) below meth c H locs 0 0 Q (F0 m 0 ls []) by rw [hH, hLc] at hG; exact hG
  clear hH hLc
  refine lv_iload_n hx hb dX12_get_0 rfl (lv_at hl 1 rfl) ?_
  refine jn0_W (∀ (H : Heap) (locs : List Loc) (ls : Array Slot), Wd g lo n σ H → va_S (Ag g lo) s.heap H locs → lv_has ls 2 [] → W p l e (kr 0 0) s m (List.toArray [.ref (bs g p0), .int a1]) below meth c H locs 0 0 Q (F0 m 16 ls [])) hf (fun  hf => ?_) (fun k_1 hk_1 hf => ?_)
  · intro H locs ls hW hS hl
    refine lv_iconst (v := 0) hx hb dX12_get_16 (by decide) ?_
    subst hQ
    exact mri hx hb hr hlocks hZ hT hS hW ⟨Option.some.inj hf, rfl⟩ dX12_get_17
  · refine lv_if_lt (tgt := 16) hx hb dX12_get_1 (by decide) (fun hc => ?_) (fun hc => ?_)
    · have hf := ift hc hf
      exact hk_1  hf H locs ls hW hS (lv_sub hl [] rfl)
    · have hf := iff_ hc hf
      refine lv_iload_n hx hb dX12_get_4 rfl (lv_at hl 1 rfl) ?_
      refine lv_aload_n hx hb dX12_get_5 rfl (lv_at hl 0 rfl) ?_
      refine mln_i hx hb hZ hW t0 dX12_get_6 ?_
      refine lv_icmp_ge (tgt := 16) hx hb dX12_get_7 (by decide) (fun hc => ?_) (fun hc => ?_)
      · have hf := ift hc hf
        exact hk_1  hf H locs ls hW hS (lv_sub hl [] rfl)
      · have hf := iff_ hc hf
        refine lv_aload_n hx hb dX12_get_10 rfl (lv_at hl 0 rfl) ?_
        refine lv_iload_n hx hb dX12_get_11 rfl (lv_at hl 1 rfl) ?_
        refine mld_i hx hb hZ hW t0 hf dX12_get_12 (fun hf => ?_)
        refine lv_goto (tgt := 17) hx hb dX12_get_13 (by decide) ?_
        subst hQ
        exact mri hx hb hr hlocks hZ hT hS hW ⟨Option.some.inj hf, rfl⟩ dX12_get_17
def f_X9_setVisitor (σ : Mem) (p0 : Nat) (a1 : Int32) (a2 : Int32) : Option (Mem) :=
  bd1 (f_X12_set σ (p0 + 1) a1 a2) (fun (σ_1 : Mem) => some σ_1)
set_option maxHeartbeats 4000000 in
set_option maxRecDepth 100000 in
theorem c_X9_setVisitor (g : XG) (l : Launch) (lo n : Nat) (σ : Mem) (p0 : Nat) (a1 : Int32) (a2 : Int32) (t0 : tp 9 lo n p0) (τ : Mem) (hf : f_X9_setVisitor σ p0 a1 a2 = some τ) : Met l yX9_setVisitor (wx (.code yX9_setVisitor cX9_setVisitor 3 none)) (kr 1 22) (va_Pc [.ref (bs g p0), .int a1, .int a2] (WS g lo n σ)) (Qv' g lo n τ) 0 0 (Ag g lo) := by
  refine Met.ofW (cc := cX9_setVisitor) (maxL := 3) (ret := none) (by decide) rfl ?_
  intro p e s m args below meth c s₁ B hml hv
  obtain ⟨rfl, hZ, hT, hW⟩ := hv
  have hx := B.exec
  have hb := B.bytes
  have hr := B.returns
  have hts : ∀ w ∈ wx (.code yX9_setVisitor cX9_setVisitor 3 none), w.before _ s = true := atoms_spec B.pre
  have htg : ∀ w ∈ lwg, w.before _ s = true := fun w h => hts w (List.mem_cons_of_mem _ h)
  have hown : s.vm.findClass RX9 = some m.cls := findClass_of_methodNamed B.named
  have hlocks := B.notSynchronized
  change W p l e (kr 1 22) s m (List.toArray [.ref (bs g p0), .int a1, .int a2]) below meth c s.heap [] 0 0 (MQ below (Qv' g lo n τ) (List.toArray [.ref (bs g p0), .int a1, .int a2]) s 0 0 (Ag g lo)) _
  generalize hQ : MQ below (Qv' g lo n τ) (List.toArray [.ref (bs g p0), .int a1, .int a2]) s 0 0 (Ag g lo) = Q
  have hS : va_S (Ag g lo) s.heap s.heap [] := va_S.rf
  have hl := lv_entry ([.ref (bs g p0), .int a1, .int a2]) (n := 3) (Nat.le_of_ble_eq_true rfl)
  rw [lg_entry_eq]
  generalize (lg_sl ([.ref (bs g p0), .int a1, .int a2]) ++ List.replicate (3 - (lg_sl ([.ref (bs g p0), .int a1, .int a2])).length) Slot.unset).toArray = ls at hl ⊢
  have hl : lv_has ls 3 [(0, .ref (bs g p0)), (1, .int a1), (2, .int a2)] := hl
  delta f_X9_setVisitor at hf
  obtain ⟨H, hH⟩ : ∃ H, H = s.heap := ⟨_, rfl⟩
  obtain ⟨locs, hLc⟩ : ∃ z : List Loc, z = [] := ⟨_, rfl⟩
  have hS : va_S (Ag g lo) s.heap H locs := by rw [hH, hLc]; exact hS
  have hW : Wd g lo n σ H := by rw [hH]; exact hW
  suffices hG : W p l e (kr 1 22) s m (List.toArray [.ref (bs g p0), .int a1, .int a2]) below meth c H locs 0 0 Q (F0 m 0 ls []) by rw [hH, hLc] at hG; exact hG
  clear hH hLc
  refine lv_aload_n hx hb dX9_setVisitor_0 rfl (lv_at hl 0 rfl) ?_
  refine gf_9_3 hx hb htg (htg _ lf_X9_9) hown hZ hW t0 dX9_setVisitor_1 ?_
  refine lv_iload_n hx hb dX9_setVisitor_4 rfl (lv_at hl 1 rfl) ?_
  refine lv_iload_n hx hb dX9_setVisitor_5 rfl (lv_at hl 2 rfl) ?_
  refine mcv hf hS (fun τ h => va_runSN (As := [.ref (bs g (p0 + 1)), .int a1, .int a2]) (rest := []) ⟨hx, hb, hml, hown, hts⟩ (c_X12_set g l lo n σ (p0 + 1) a1 a2 (t0.sub 20 1 so_9_20_1) τ h) (cl_X9_57 hts hZ ⟨Nat.le_of_ble_eq_true rfl, Nat.le_of_ble_eq_true rfl⟩) (mpS hZ hT hS hW _) rfl rfl hl.1 rfl (lv_room (Nat.le_of_ble_eq_true rfl)) dX9_setVisitor_6 ⟨Nat.zero_le _, Nat.zero_le _⟩) (fun σ_1 H locs hf hW hS => ?_)
  subst hQ
  exact mrv hx hb hr hlocks hZ hT hS hW (Option.some.inj hf) dX9_setVisitor_9
def f_X12_inside (a0 : Int32) (a1 : Int32) : Option (Int32) :=
  jn0 (some 0) (fun k_1 => (if a0 < 0 then k_1 else (if a1 ≤ a0 then k_1 else some 1)))
set_option maxHeartbeats 4000000 in
set_option maxRecDepth 100000 in
theorem c_X12_inside (g : XG) (l : Launch) (lo n : Nat) (σ : Mem) (a0 : Int32) (a1 : Int32) (r : Int32) (hf : f_X12_inside a0 a1 = some r) : Met l yX12_inside (wx (.code yX12_inside cX12_inside 2 (some .boolean))) (kr 0 0) (va_Pc [.int a0, .int a1] (WS g lo n σ)) (Qi' g lo n r σ) 0 0 (Ag g lo) := by
  refine Met.ofW (cc := cX12_inside) (maxL := 2) (ret := (some .boolean)) (by decide) rfl ?_
  intro p e s m args below meth c s₁ B hml hv
  obtain ⟨rfl, hZ, hT, hW⟩ := hv
  have hx := B.exec
  have hb := B.bytes
  have hr := B.returns
  have hts : ∀ w ∈ wx (.code yX12_inside cX12_inside 2 (some .boolean)), w.before _ s = true := atoms_spec B.pre
  have htg : ∀ w ∈ lwg, w.before _ s = true := fun w h => hts w (List.mem_cons_of_mem _ h)
  have hown : s.vm.findClass RX12 = some m.cls := findClass_of_methodNamed B.named
  have hlocks := B.notSynchronized
  change W p l e (kr 0 0) s m (List.toArray [.int a0, .int a1]) below meth c s.heap [] 0 0 (MQ below (Qi' g lo n r σ) (List.toArray [.int a0, .int a1]) s 0 0 (Ag g lo)) _
  generalize hQ : MQ below (Qi' g lo n r σ) (List.toArray [.int a0, .int a1]) s 0 0 (Ag g lo) = Q
  have hS : va_S (Ag g lo) s.heap s.heap [] := va_S.rf
  have hl := lv_entry ([.int a0, .int a1]) (n := 2) (Nat.le_of_ble_eq_true rfl)
  rw [lg_entry_eq]
  generalize (lg_sl ([.int a0, .int a1]) ++ List.replicate (2 - (lg_sl ([.int a0, .int a1])).length) Slot.unset).toArray = ls at hl ⊢
  have hl : lv_has ls 2 [(0, .int a0), (1, .int a1)] := hl
  delta f_X12_inside at hf
  obtain ⟨H, hH⟩ : ∃ H, H = s.heap := ⟨_, rfl⟩
  obtain ⟨locs, hLc⟩ : ∃ z : List Loc, z = [] := ⟨_, rfl⟩
  have hS : va_S (Ag g lo) s.heap H locs := by rw [hH, hLc]; exact hS
  have hW : Wd g lo n σ H := by rw [hH]; exact hW
  suffices hG : W p l e (kr 0 0) s m (List.toArray [.int a0, .int a1]) below meth c H locs 0 0 Q (F0 m 0 ls []) by rw [hH, hLc] at hG; exact hG
  clear hH hLc
  refine lv_iload_n hx hb dX12_inside_0 rfl (lv_at hl 0 rfl) ?_
  refine jn0_W (∀ (H : Heap) (locs : List Loc) (ls : Array Slot), Wd g lo n σ H → va_S (Ag g lo) s.heap H locs → lv_has ls 2 [] → W p l e (kr 0 0) s m (List.toArray [.int a0, .int a1]) below meth c H locs 0 0 Q (F0 m 13 ls [])) hf (fun  hf => ?_) (fun k_1 hk_1 hf => ?_)
  · intro H locs ls hW hS hl
    refine lv_iconst (v := 0) hx hb dX12_inside_13 (by decide) ?_
    subst hQ
    exact mrz hx hb hr hlocks hZ hT hS hW (by decide) ⟨Option.some.inj hf, rfl⟩ dX12_inside_14
  · refine lv_if_lt (tgt := 13) hx hb dX12_inside_1 (by decide) (fun hc => ?_) (fun hc => ?_)
    · have hf := ift hc hf
      exact hk_1  hf H locs ls hW hS (lv_sub hl [] rfl)
    · have hf := iff_ hc hf
      refine lv_iload_n hx hb dX12_inside_4 rfl (lv_at hl 0 rfl) ?_
      refine lv_iload_n hx hb dX12_inside_5 rfl (lv_at hl 1 rfl) ?_
      refine lv_icmp_ge (tgt := 13) hx hb dX12_inside_6 (by decide) (fun hc => ?_) (fun hc => ?_)
      · have hf := ift hc hf
        exact hk_1  hf H locs ls hW hS (lv_sub hl [] rfl)
      · have hf := iff_ hc hf
        refine lv_iconst (v := 1) hx hb dX12_inside_9 (by decide) ?_
        refine lv_goto (tgt := 14) hx hb dX12_inside_10 (by decide) ?_
        subst hQ
        exact mrz hx hb hr hlocks hZ hT hS hW (by decide) ⟨Option.some.inj hf, rfl⟩ dX12_inside_14
def f_X5_at (σ : Mem) (p0 : Nat) (a1 : Int32) (a2 : Int32) : Option (Int32) :=
  nm ((a1 * 30) + a2) (fun (x_1 : Int32) => jn0 (some 0) (fun k_2 => (if a2 < 0 then k_2 else (if 30 ≤ a2 then k_2 else (if x_1 < 0 then k_2 else (if (nI (aln (p0 + 1))) ≤ x_1 then k_2 else ixd x_1 (aln (p0 + 1)) (some (σ.1 (p0 + 1) x_1.toNatClampNeg))))))))
set_option maxHeartbeats 4000000 in
set_option maxRecDepth 100000 in
theorem c_X5_at (g : XG) (l : Launch) (lo n : Nat) (σ : Mem) (p0 : Nat) (a1 : Int32) (a2 : Int32) (t0 : tp 5 lo n p0) (r : Int32) (hf : f_X5_at σ p0 a1 a2 = some r) : Met l yX5_at (wx (.code yX5_at cX5_at 4 (some .int))) (kr 0 0) (va_Pc [.ref (bs g p0), .int a1, .int a2] (WS g lo n σ)) (Qi' g lo n r σ) 0 0 (Ag g lo) := by
  refine Met.ofW (cc := cX5_at) (maxL := 4) (ret := (some .int)) (by decide) rfl ?_
  intro p e s m args below meth c s₁ B hml hv
  obtain ⟨rfl, hZ, hT, hW⟩ := hv
  have hx := B.exec
  have hb := B.bytes
  have hr := B.returns
  have hts : ∀ w ∈ wx (.code yX5_at cX5_at 4 (some .int)), w.before _ s = true := atoms_spec B.pre
  have htg : ∀ w ∈ lwg, w.before _ s = true := fun w h => hts w (List.mem_cons_of_mem _ h)
  have hown : s.vm.findClass RX5 = some m.cls := findClass_of_methodNamed B.named
  have hlocks := B.notSynchronized
  change W p l e (kr 0 0) s m (List.toArray [.ref (bs g p0), .int a1, .int a2]) below meth c s.heap [] 0 0 (MQ below (Qi' g lo n r σ) (List.toArray [.ref (bs g p0), .int a1, .int a2]) s 0 0 (Ag g lo)) _
  generalize hQ : MQ below (Qi' g lo n r σ) (List.toArray [.ref (bs g p0), .int a1, .int a2]) s 0 0 (Ag g lo) = Q
  have hS : va_S (Ag g lo) s.heap s.heap [] := va_S.rf
  have hl := lv_entry ([.ref (bs g p0), .int a1, .int a2]) (n := 4) (Nat.le_of_ble_eq_true rfl)
  rw [lg_entry_eq]
  generalize (lg_sl ([.ref (bs g p0), .int a1, .int a2]) ++ List.replicate (4 - (lg_sl ([.ref (bs g p0), .int a1, .int a2])).length) Slot.unset).toArray = ls at hl ⊢
  have hl : lv_has ls 4 [(0, .ref (bs g p0)), (1, .int a1), (2, .int a2)] := hl
  delta f_X5_at at hf
  obtain ⟨H, hH⟩ : ∃ H, H = s.heap := ⟨_, rfl⟩
  obtain ⟨locs, hLc⟩ : ∃ z : List Loc, z = [] := ⟨_, rfl⟩
  have hS : va_S (Ag g lo) s.heap H locs := by rw [hH, hLc]; exact hS
  have hW : Wd g lo n σ H := by rw [hH]; exact hW
  suffices hG : W p l e (kr 0 0) s m (List.toArray [.ref (bs g p0), .int a1, .int a2]) below meth c H locs 0 0 Q (F0 m 0 ls []) by rw [hH, hLc] at hG; exact hG
  clear hH hLc
  refine lv_iload_n hx hb dX5_at_0 rfl (lv_at hl 1 rfl) ?_
  refine lv_bipush (v := 30) hx hb dX5_at_1 (by decide) ?_
  refine lv_imul hx hb dX5_at_3 ?_
  refine lv_iload_n hx hb dX5_at_4 rfl (lv_at hl 2 rfl) ?_
  refine lv_iadd hx hb dX5_at_5 ?_
  refine mnmi hf (fun (x_1 : Int32) hf => ?_)
  refine lv_istore_n (lv' := [(3, .int x_1), (0, .ref (bs g p0)), (1, .int a1), (2, .int a2)]) hx hb dX5_at_6 rfl hl (by decide) rfl (fun ls hl => ?_)
  refine lv_iload_n hx hb dX5_at_7 rfl (lv_at hl 3 rfl) ?_
  refine jn0_W (∀ (H : Heap) (locs : List Loc) (ls : Array Slot), Wd g lo n σ H → va_S (Ag g lo) s.heap H locs → lv_has ls 4 [] → W p l e (kr 0 0) s m (List.toArray [.ref (bs g p0), .int a1, .int a2]) below meth c H locs 0 0 Q (F0 m 39 ls [])) hf (fun  hf => ?_) (fun k_2 hk_2 hf => ?_)
  · intro H locs ls hW hS hl
    refine lv_iconst (v := 0) hx hb dX5_at_39 (by decide) ?_
    subst hQ
    exact mri hx hb hr hlocks hZ hT hS hW ⟨Option.some.inj hf, rfl⟩ dX5_at_40
  · refine lv_if_lt (tgt := 39) hx hb dX5_at_8 (by decide) (fun hc => ?_) (fun hc => ?_)
    · have hf := ift hc hf
      exact hk_2  hf H locs ls hW hS (lv_sub hl [] rfl)
    · have hf := iff_ hc hf
      refine lv_iload_n hx hb dX5_at_11 rfl (lv_at hl 3 rfl) ?_
      refine lv_bipush (v := 30) hx hb dX5_at_12 (by decide) ?_
      refine lv_icmp_ge (tgt := 39) hx hb dX5_at_14 (by decide) (fun hc => ?_) (fun hc => ?_)
      · have hf := ift hc hf
        exact hk_2  hf H locs ls hW hS (lv_sub hl [] rfl)
      · have hf := iff_ hc hf
        refine lv_iload_n hx hb dX5_at_17 rfl (lv_at hl 0 rfl) ?_
        refine lv_if_lt (tgt := 39) hx hb dX5_at_18 (by decide) (fun hc => ?_) (fun hc => ?_)
        · have hf := ift hc hf
          exact hk_2  hf H locs ls hW hS (lv_sub hl [] rfl)
        · have hf := iff_ hc hf
          refine lv_iload_n hx hb dX5_at_21 rfl (lv_at hl 0 rfl) ?_
          refine lv_aload_n hx hb dX5_at_22 rfl (lv_at hl 1 rfl) ?_
          refine gf_5_0 hx hb htg (htg _ lf_X5_9) hown hZ hW t0 dX5_at_23 ?_
          refine mln_i hx hb hZ hW (t0.sub 20 1 so_5_20_1) dX5_at_26 ?_
          refine lv_icmp_ge (tgt := 39) hx hb dX5_at_27 (by decide) (fun hc => ?_) (fun hc => ?_)
          · have hf := ift hc hf
            exact hk_2  hf H locs ls hW hS (lv_sub hl [] rfl)
          · have hf := iff_ hc hf
            refine lv_aload_n hx hb dX5_at_30 rfl (lv_at hl 1 rfl) ?_
            refine gf_5_0 hx hb htg (htg _ lf_X5_9) hown hZ hW t0 dX5_at_31 ?_
            refine lv_iload_n hx hb dX5_at_34 rfl (lv_at hl 0 rfl) ?_
            refine mld_i hx hb hZ hW (t0.sub 20 1 so_5_20_1) hf dX5_at_35 (fun hf => ?_)
            refine lv_goto (tgt := 40) hx hb dX5_at_36 (by decide) ?_
            subst hQ
            exact mri hx hb hr hlocks hZ hT hS hW ⟨Option.some.inj hf, rfl⟩ dX5_at_40
def f_X5_goneOn (a0 : Int32) (a1 : Int32) (a2 : Int32) : Option (Int32) :=
  nm (2 * (5 - a1)) (fun (x_1 : Int32) => nm (((a0 >>> (x_1 &&& 31)) + a2) &&& 3) (fun (x_2 : Int32) => some ((a0 &&& ((3 <<< (x_1 &&& 31)) ^^^ (-1))) ||| (x_2 <<< (x_1 &&& 31)))))
set_option maxHeartbeats 4000000 in
set_option maxRecDepth 100000 in
theorem c_X5_goneOn (g : XG) (l : Launch) (lo n : Nat) (σ : Mem) (a0 : Int32) (a1 : Int32) (a2 : Int32) (r : Int32) (hf : f_X5_goneOn a0 a1 a2 = some r) : Met l yX5_goneOn (wx (.code yX5_goneOn cX5_goneOn 5 (some .int))) (kr 0 0) (va_Pc [.int a0, .int a1, .int a2] (WS g lo n σ)) (Qi' g lo n r σ) 0 0 (Ag g lo) := by
  refine Met.ofW (cc := cX5_goneOn) (maxL := 5) (ret := (some .int)) (by decide) rfl ?_
  intro p e s m args below meth c s₁ B hml hv
  obtain ⟨rfl, hZ, hT, hW⟩ := hv
  have hx := B.exec
  have hb := B.bytes
  have hr := B.returns
  have hts : ∀ w ∈ wx (.code yX5_goneOn cX5_goneOn 5 (some .int)), w.before _ s = true := atoms_spec B.pre
  have htg : ∀ w ∈ lwg, w.before _ s = true := fun w h => hts w (List.mem_cons_of_mem _ h)
  have hown : s.vm.findClass RX5 = some m.cls := findClass_of_methodNamed B.named
  have hlocks := B.notSynchronized
  change W p l e (kr 0 0) s m (List.toArray [.int a0, .int a1, .int a2]) below meth c s.heap [] 0 0 (MQ below (Qi' g lo n r σ) (List.toArray [.int a0, .int a1, .int a2]) s 0 0 (Ag g lo)) _
  generalize hQ : MQ below (Qi' g lo n r σ) (List.toArray [.int a0, .int a1, .int a2]) s 0 0 (Ag g lo) = Q
  have hS : va_S (Ag g lo) s.heap s.heap [] := va_S.rf
  have hl := lv_entry ([.int a0, .int a1, .int a2]) (n := 5) (Nat.le_of_ble_eq_true rfl)
  rw [lg_entry_eq]
  generalize (lg_sl ([.int a0, .int a1, .int a2]) ++ List.replicate (5 - (lg_sl ([.int a0, .int a1, .int a2])).length) Slot.unset).toArray = ls at hl ⊢
  have hl : lv_has ls 5 [(0, .int a0), (1, .int a1), (2, .int a2)] := hl
  delta f_X5_goneOn at hf
  obtain ⟨H, hH⟩ : ∃ H, H = s.heap := ⟨_, rfl⟩
  obtain ⟨locs, hLc⟩ : ∃ z : List Loc, z = [] := ⟨_, rfl⟩
  have hS : va_S (Ag g lo) s.heap H locs := by rw [hH, hLc]; exact hS
  have hW : Wd g lo n σ H := by rw [hH]; exact hW
  suffices hG : W p l e (kr 0 0) s m (List.toArray [.int a0, .int a1, .int a2]) below meth c H locs 0 0 Q (F0 m 0 ls []) by rw [hH, hLc] at hG; exact hG
  clear hH hLc
  refine lv_iconst (v := 2) hx hb dX5_goneOn_0 (by decide) ?_
  refine lv_iconst (v := 5) hx hb dX5_goneOn_1 (by decide) ?_
  refine lv_iload_n hx hb dX5_goneOn_2 rfl (lv_at hl 1 rfl) ?_
  refine lv_isub hx hb dX5_goneOn_3 ?_
  refine lv_imul hx hb dX5_goneOn_4 ?_
  refine mnmi hf (fun (x_1 : Int32) hf => ?_)
  refine lv_istore_n (lv' := [(3, .int x_1), (0, .int a0), (1, .int a1), (2, .int a2)]) hx hb dX5_goneOn_5 rfl hl (by decide) rfl (fun ls hl => ?_)
  refine lv_iload_n hx hb dX5_goneOn_6 rfl (lv_at hl 1 rfl) ?_
  refine lv_iload_n hx hb dX5_goneOn_7 rfl (lv_at hl 0 rfl) ?_
  refine lv_ishr hx hb dX5_goneOn_8 ?_
  refine lv_iload_n hx hb dX5_goneOn_9 rfl (lv_at hl 3 rfl) ?_
  refine lv_iadd hx hb dX5_goneOn_10 ?_
  refine lv_iconst (v := 3) hx hb dX5_goneOn_11 (by decide) ?_
  refine lv_iand hx hb dX5_goneOn_12 ?_
  refine mnmi hf (fun (x_2 : Int32) hf => ?_)
  refine lv_istore (lv' := [(4, .int x_2), (3, .int x_1), (0, .int a0), (1, .int a1), (2, .int a2)]) hx hb dX5_goneOn_13 hl (by decide) rfl (fun ls hl => ?_)
  refine lv_iload_n hx hb dX5_goneOn_15 rfl (lv_at hl 2 rfl) ?_
  refine lv_iconst (v := 3) hx hb dX5_goneOn_16 (by decide) ?_
  refine lv_iload_n hx hb dX5_goneOn_17 rfl (lv_at hl 1 rfl) ?_
  refine lv_ishl hx hb dX5_goneOn_18 ?_
  refine lv_iconst (v := (-1)) hx hb dX5_goneOn_19 (by decide) ?_
  refine lv_ixor hx hb dX5_goneOn_20 ?_
  refine lv_iand hx hb dX5_goneOn_21 ?_
  refine lv_iload hx hb dX5_goneOn_22 (lv_at hl 0 rfl) ?_
  refine lv_iload_n hx hb dX5_goneOn_24 rfl (lv_at hl 1 rfl) ?_
  refine lv_ishl hx hb dX5_goneOn_25 ?_
  refine lv_ior hx hb dX5_goneOn_26 ?_
  subst hQ
  exact mri hx hb hr hlocks hZ hT hS hW ⟨Option.some.inj hf, rfl⟩ dX5_goneOn_27
def f_X5_goOn (σ : Mem) (p0 : Nat) (a1 : Int32) (a2 : Int32) (a3 : Int32) (a4 : Int32) : Option (Mem) :=
  nm (if a3 < 0 then 0 else a3) (fun (x_1 : Int32) => fx2 FU (fun k_4 (i_2 : Int32) (σ_3 : Mem) => (if 30 ≤ i_2 then some σ_3 else bd1 (f_X12_inside a1 5) (fun (r_5 : Int32) => (if r_5 = 0 then some σ_3 else bd1 (f_X5_at σ_3 p0 a1 i_2) (fun (r_6 : Int32) => bd1 (f_X5_goneOn r_6 a2 a4) (fun (r_7 : Int32) => bd1 (f_X12_set σ_3 (p0 + 1) ((a1 * 30) + i_2) r_7) (fun (σ_8 : Mem) => nm (i_2 + 1) (fun (x_9 : Int32) => k_4 x_9 σ_8)))))))) x_1 σ)
set_option maxHeartbeats 4000000 in
set_option maxRecDepth 100000 in
theorem c_X5_goOn (g : XG) (l : Launch) (lo n : Nat) (σ : Mem) (p0 : Nat) (a1 : Int32) (a2 : Int32) (a3 : Int32) (a4 : Int32) (t0 : tp 5 lo n p0) (τ : Mem) (hf : f_X5_goOn σ p0 a1 a2 a3 a4 = some τ) : Met l yX5_goOn (wx (.code yX5_goOn cX5_goOn 6 none)) (kr 1 60) (va_Pc [.ref (bs g p0), .int a1, .int a2, .int a3, .int a4] (WS g lo n σ)) (Qv' g lo n τ) 0 0 (Ag g lo) := by
  refine Met.ofW (cc := cX5_goOn) (maxL := 6) (ret := none) (by decide) rfl ?_
  intro p e s m args below meth c s₁ B hml hv
  obtain ⟨rfl, hZ, hT, hW⟩ := hv
  have hx := B.exec
  have hb := B.bytes
  have hr := B.returns
  have hts : ∀ w ∈ wx (.code yX5_goOn cX5_goOn 6 none), w.before _ s = true := atoms_spec B.pre
  have htg : ∀ w ∈ lwg, w.before _ s = true := fun w h => hts w (List.mem_cons_of_mem _ h)
  have hown : s.vm.findClass RX5 = some m.cls := findClass_of_methodNamed B.named
  have hlocks := B.notSynchronized
  change W p l e (kr 1 60) s m (List.toArray [.ref (bs g p0), .int a1, .int a2, .int a3, .int a4]) below meth c s.heap [] 0 0 (MQ below (Qv' g lo n τ) (List.toArray [.ref (bs g p0), .int a1, .int a2, .int a3, .int a4]) s 0 0 (Ag g lo)) _
  generalize hQ : MQ below (Qv' g lo n τ) (List.toArray [.ref (bs g p0), .int a1, .int a2, .int a3, .int a4]) s 0 0 (Ag g lo) = Q
  have hS : va_S (Ag g lo) s.heap s.heap [] := va_S.rf
  have hl := lv_entry ([.ref (bs g p0), .int a1, .int a2, .int a3, .int a4]) (n := 6) (Nat.le_of_ble_eq_true rfl)
  rw [lg_entry_eq]
  generalize (lg_sl ([.ref (bs g p0), .int a1, .int a2, .int a3, .int a4]) ++ List.replicate (6 - (lg_sl ([.ref (bs g p0), .int a1, .int a2, .int a3, .int a4])).length) Slot.unset).toArray = ls at hl ⊢
  have hl : lv_has ls 6 [(0, .ref (bs g p0)), (1, .int a1), (2, .int a2), (3, .int a3), (4, .int a4)] := hl
  delta f_X5_goOn at hf
  obtain ⟨H, hH⟩ : ∃ H, H = s.heap := ⟨_, rfl⟩
  obtain ⟨locs, hLc⟩ : ∃ z : List Loc, z = [] := ⟨_, rfl⟩
  have hS : va_S (Ag g lo) s.heap H locs := by rw [hH, hLc]; exact hS
  have hW : Wd g lo n σ H := by rw [hH]; exact hW
  suffices hG : W p l e (kr 1 60) s m (List.toArray [.ref (bs g p0), .int a1, .int a2, .int a3, .int a4]) below meth c H locs 0 0 Q (F0 m 0 ls []) by rw [hH, hLc] at hG; exact hG
  clear hH hLc
  refine lv_iload_n hx hb dX5_goOn_0 rfl (lv_at hl 3 rfl) ?_
  refine lv_iconst (v := 0) hx hb dX5_goOn_1 (by decide) ?_
  refine va_mmax hx hb (hml.trans hl.1.symm) hown (htg _ lm_X5_23) (htg _ lst_Math_max) (htg _ ini_Math) (htg _ lc_Math_max) (Nat.le_of_ble_eq_true rfl) (Nat.le_of_ble_eq_true rfl) (Nat.zero_le _) (Nat.zero_le _) dX5_goOn_2 ?_
  refine mnmi hf (fun (x_1 : Int32) hf => ?_)
  refine lv_istore (lv' := [(5, .int x_1), (0, .ref (bs g p0)), (1, .int a1), (2, .int a2), (3, .int a3), (4, .int a4)]) hx hb dX5_goOn_5 hl (by decide) rfl (fun ls hl => ?_)
  refine fx2_W (fun (i_2 : Int32) (σ_3 : Mem) => ∀ (H : Heap) (locs : List Loc) (ls : Array Slot), Wd g lo n σ_3 H → va_S (Ag g lo) s.heap H locs → lv_has ls 6 [(0, .ref (bs g p0)), (1, .int a1), (2, .int a2), (4, .int a4), (5, .int i_2)] → W p l e (kr 1 60) s m (List.toArray [.ref (bs g p0), .int a1, .int a2, .int a3, .int a4]) below meth c H locs 0 0 Q (F0 m 7 ls [])) (fun k_4 hk_4 i_2 σ_3 hf => ?_) FU x_1 σ hf H locs ls hW hS (lv_sub hl [1, 2, 3, 5, 0] rfl)
  intro H locs ls hW hS hl
  refine lv_iload hx hb dX5_goOn_7 (lv_at hl 4 rfl) ?_
  refine lv_bipush (v := 30) hx hb dX5_goOn_9 (by decide) ?_
  refine lv_icmp_ge (tgt := 55) hx hb dX5_goOn_11 (by decide) (fun hc => ?_) (fun hc => ?_)
  · have hf := ift hc hf
    subst hQ
    exact mrv hx hb hr hlocks hZ hT hS hW (Option.some.inj hf) dX5_goOn_55
  · have hf := iff_ hc hf
    refine lv_iload_n hx hb dX5_goOn_14 rfl (lv_at hl 1 rfl) ?_
    refine lv_iconst (v := 5) hx hb dX5_goOn_15 (by decide) ?_
    refine mcip hf hS (fun r h => va_runSN (As := [.int a1, .int 5]) (rest := []) ⟨hx, hb, hml, hown, hts⟩ (c_X12_inside g l lo n σ_3 a1 5 r h) (cl_X5_15 hts hZ ⟨Nat.le_of_ble_eq_true rfl, Nat.le_of_ble_eq_true rfl⟩) (mpS hZ hT hS hW _) rfl rfl hl.1 rfl (lv_room (Nat.le_of_ble_eq_true rfl)) dX5_goOn_16 ⟨Nat.zero_le _, Nat.zero_le _⟩) (fun r_5 H locs hf hW hS => ?_)
    refine lv_if_eq (tgt := 55) hx hb dX5_goOn_19 (by decide) (fun hc => ?_) (fun hc => ?_)
    · have hf := ift hc hf
      subst hQ
      exact mrv hx hb hr hlocks hZ hT hS hW (Option.some.inj hf) dX5_goOn_55
    · have hf := iff_ hc hf
      refine lv_aload_n hx hb dX5_goOn_22 rfl (lv_at hl 0 rfl) ?_
      refine gf_5_0 hx hb htg (htg _ lf_X5_9) hown hZ hW t0 dX5_goOn_23 ?_
      refine lv_iload_n hx hb dX5_goOn_26 rfl (lv_at hl 1 rfl) ?_
      refine lv_bipush (v := 30) hx hb dX5_goOn_27 (by decide) ?_
      refine lv_imul hx hb dX5_goOn_29 ?_
      refine lv_iload hx hb dX5_goOn_30 (lv_at hl 4 rfl) ?_
      refine lv_iadd hx hb dX5_goOn_32 ?_
      refine lv_aload_n hx hb dX5_goOn_33 rfl (lv_at hl 0 rfl) ?_
      refine lv_iload_n hx hb dX5_goOn_34 rfl (lv_at hl 1 rfl) ?_
      refine lv_iload hx hb dX5_goOn_35 (lv_at hl 4 rfl) ?_
      refine mcip hf hS (fun r h => va_runV (As := [.int a1, .int i_2]) (rest := [.int ((a1 * 30) + i_2), .ref (bs g (p0 + 1))]) ⟨hx, hb, hml, hown, hts⟩ (c_X5_at g l lo n σ_3 p0 a1 i_2 t0 r h) (cl_X5_29 hts ⟨Nat.le_of_ble_eq_true rfl, Nat.le_of_ble_eq_true rfl⟩) (mpV_5 hZ hT hS hW t0 _) rfl rfl hl.1 rfl (lv_room (Nat.le_of_ble_eq_true rfl)) dX5_goOn_37 ⟨Nat.zero_le _, Nat.zero_le _⟩) (fun r_6 H locs hf hW hS => ?_)
      refine lv_iload_n hx hb dX5_goOn_40 rfl (lv_at hl 2 rfl) ?_
      refine lv_iload hx hb dX5_goOn_41 (lv_at hl 3 rfl) ?_
      refine mcip hf hS (fun r h => va_runS (As := [.int r_6, .int a2, .int a4]) (rest := [.int ((a1 * 30) + i_2), .ref (bs g (p0 + 1))]) ⟨hx, hb, hml, hown, hts⟩ (c_X5_goneOn g l lo n σ_3 r_6 a2 a4 r h) (cl_X5_32 hts ⟨Nat.le_of_ble_eq_true rfl, Nat.le_of_ble_eq_true rfl⟩) (mpS hZ hT hS hW _) rfl rfl hl.1 rfl (lv_room (Nat.le_of_ble_eq_true rfl)) dX5_goOn_43 ⟨Nat.zero_le _, Nat.zero_le _⟩) (fun r_7 H locs hf hW hS => ?_)
      refine mcv hf hS (fun τ h => va_runSN (As := [.ref (bs g (p0 + 1)), .int ((a1 * 30) + i_2), .int r_7]) (rest := []) ⟨hx, hb, hml, hown, hts⟩ (c_X12_set g l lo n σ_3 (p0 + 1) ((a1 * 30) + i_2) r_7 (t0.sub 20 1 so_5_20_1) τ h) (cl_X5_19 hts hZ ⟨Nat.le_of_ble_eq_true rfl, Nat.le_of_ble_eq_true rfl⟩) (mpS hZ hT hS hW _) rfl rfl hl.1 rfl (lv_room (Nat.le_of_ble_eq_true rfl)) dX5_goOn_46 ⟨Nat.zero_le _, Nat.zero_le _⟩) (fun σ_8 H locs hf hW hS => ?_)
      obtain ⟨x_9, e_10, hf⟩ := nm_s hf
      refine lv_iinc (v := x_9) (lv' := [(5, .int x_9), (0, .ref (bs g p0)), (1, .int a1), (2, .int a2), (4, .int a4)]) hx hb dX5_goOn_49 hl (k := 4) rfl (by rw [e_10]; rfl) (by decide) rfl (fun ls hl => ?_)
      refine lv_goto (tgt := 7) hx hb dX5_goOn_52 (by decide) ?_
      exact hk_4 x_9 σ_8 hf H locs ls hW hS (lv_sub hl [1, 2, 3, 4, 0] rfl)
def f_X1_takeBack (σ : Mem) (p1 : Nat) : Option (Mem) :=
  nm (sI σ 49 1 ((σ.1 49 1) - 1)) (fun (σ_1 : Mem) => nm ((σ_1.1 49 1) * 4) (fun (x_2 : Int32) => bd1 (f_X12_get σ_1 (49 + 1) (x_2 + 1)) (fun (r_3 : Int32) => bd1 (f_X12_get σ_1 (49 + 1) (x_2 + 2)) (fun (r_4 : Int32) => bd1 (f_X12_get σ_1 (49 + 1) x_2) (fun (r_5 : Int32) => (if r_5 = 0 then bd1 (f_X9_setVisitor σ_1 p1 r_3 (-2)) (fun (σ_11 : Mem) => some σ_11) else (if r_5 = 1 then bd1 (f_X9_setVisitor σ_1 p1 r_3 r_4) (fun (σ_10 : Mem) => some σ_10) else (if r_5 = 2 then bd1 (f_X12_get σ_1 (49 + 1) (x_2 + 3)) (fun (r_7 : Int32) => bd1 (f_X5_goOn σ_1 (p1 + 2) r_3 r_4 (σ_1.1 p1 1) (4 - r_7)) (fun (σ_8 : Mem) => nm (sI σ_8 p1 2 ((σ_8.1 p1 2) - 1)) (fun (σ_9 : Mem) => some σ_9))) else nm (sI σ_1 p1 1 ((σ_1.1 p1 1) - r_3)) (fun (σ_6 : Mem) => some σ_6)))))))))
set_option maxHeartbeats 4000000 in
set_option maxRecDepth 100000 in
theorem c_X1_takeBack (g : XG) (l : Launch) (σ : Mem) (p1 : Nat) (t1 : tp 9 0 81 p1) (τ : Mem) (hf : f_X1_takeBack σ p1 = some τ) : Met l yX1_takeBack (wx (.code yX1_takeBack cX1_takeBack 5 none)) (kr 2 85) (va_Pc [.ref (bs g 49), .ref (bs g p1)] (WS g 0 81 σ)) (Qv' g 0 81 τ) 0 0 (Ag g 0) := by
  refine Met.ofW (cc := cX1_takeBack) (maxL := 5) (ret := none) (by decide) rfl ?_
  intro p e s m args below meth c s₁ B hml hv
  obtain ⟨rfl, hZ, hT, hW⟩ := hv
  have hx := B.exec
  have hb := B.bytes
  have hr := B.returns
  have hts : ∀ w ∈ wx (.code yX1_takeBack cX1_takeBack 5 none), w.before _ s = true := atoms_spec B.pre
  have htg : ∀ w ∈ lwg, w.before _ s = true := fun w h => hts w (List.mem_cons_of_mem _ h)
  have hown : s.vm.findClass RX1 = some m.cls := findClass_of_methodNamed B.named
  have hlocks := B.notSynchronized
  change W p l e (kr 2 85) s m (List.toArray [.ref (bs g 49), .ref (bs g p1)]) below meth c s.heap [] 0 0 (MQ below (Qv' g 0 81 τ) (List.toArray [.ref (bs g 49), .ref (bs g p1)]) s 0 0 (Ag g 0)) _
  generalize hQ : MQ below (Qv' g 0 81 τ) (List.toArray [.ref (bs g 49), .ref (bs g p1)]) s 0 0 (Ag g 0) = Q
  have hS : va_S (Ag g 0) s.heap s.heap [] := va_S.rf
  have hl := lv_entry ([.ref (bs g 49), .ref (bs g p1)]) (n := 5) (Nat.le_of_ble_eq_true rfl)
  rw [lg_entry_eq]
  generalize (lg_sl ([.ref (bs g 49), .ref (bs g p1)]) ++ List.replicate (5 - (lg_sl ([.ref (bs g 49), .ref (bs g p1)])).length) Slot.unset).toArray = ls at hl ⊢
  have hl : lv_has ls 5 [(0, .ref (bs g 49)), (1, .ref (bs g p1))] := hl
  delta f_X1_takeBack at hf
  obtain ⟨H, hH⟩ : ∃ H, H = s.heap := ⟨_, rfl⟩
  obtain ⟨locs, hLc⟩ : ∃ z : List Loc, z = [] := ⟨_, rfl⟩
  have hS : va_S (Ag g 0) s.heap H locs := by rw [hH, hLc]; exact hS
  have hW : Wd g 0 81 σ H := by rw [hH]; exact hW
  suffices hG : W p l e (kr 2 85) s m (List.toArray [.ref (bs g 49), .ref (bs g p1)]) below meth c H locs 0 0 Q (F0 m 0 ls []) by rw [hH, hLc] at hG; exact hG
  clear hH hLc
  refine lv_aload_n hx hb dX1_takeBack_0 rfl (lv_at hl 0 rfl) ?_
  refine lv_dup hx hb dX1_takeBack_1 rfl ?_
  refine gf_1_1 hx hb htg (htg _ lf_X1_15) hown hZ hW tz_49 dX1_takeBack_2 ?_
  refine lv_iconst (v := 1) hx hb dX1_takeBack_5 (by decide) ?_
  refine lv_isub hx hb dX1_takeBack_6 ?_
  refine pf_1_1 hx hb htg (htg _ lf_X1_15) hown hZ hW hS tz_49 dX1_takeBack_7 hf (fun σ_1 H locs hf hW hS => ?_)
  refine lv_aload_n hx hb dX1_takeBack_10 rfl (lv_at hl 0 rfl) ?_
  refine gf_1_1 hx hb htg (htg _ lf_X1_15) hown hZ hW tz_49 dX1_takeBack_11 ?_
  refine lv_iconst (v := 4) hx hb dX1_takeBack_14 (by decide) ?_
  refine lv_imul hx hb dX1_takeBack_15 ?_
  refine mnmi hf (fun (x_2 : Int32) hf => ?_)
  refine lv_istore_n (lv' := [(2, .int x_2), (0, .ref (bs g 49)), (1, .ref (bs g p1))]) hx hb dX1_takeBack_16 rfl hl (by decide) rfl (fun ls hl => ?_)
  refine lv_aload_n hx hb dX1_takeBack_17 rfl (lv_at hl 1 rfl) ?_
  refine gf_1_0 hx hb htg (htg _ lf_X1_11) hown hZ hW tz_49 dX1_takeBack_18 ?_
  refine lv_iload_n hx hb dX1_takeBack_21 rfl (lv_at hl 0 rfl) ?_
  refine lv_iconst (v := 1) hx hb dX1_takeBack_22 (by decide) ?_
  refine lv_iadd hx hb dX1_takeBack_23 ?_
  refine mcip hf hS (fun r h => va_runSN (As := [.ref (bs g (49 + 1)), .int (x_2 + 1)]) (rest := []) ⟨hx, hb, hml, hown, hts⟩ (c_X12_get g l 0 81 σ_1 (49 + 1) (x_2 + 1) (tz_49.sub 20 1 so_1_20_1) r h) (cl_X1_29 hts hZ ⟨Nat.le_of_ble_eq_true rfl, Nat.le_of_ble_eq_true rfl⟩) (mpS hZ hT hS hW _) rfl rfl hl.1 rfl (lv_room (Nat.le_of_ble_eq_true rfl)) dX1_takeBack_24 ⟨Nat.zero_le _, Nat.zero_le _⟩) (fun r_3 H locs hf hW hS => ?_)
  refine lv_istore_n (lv' := [(3, .int r_3), (2, .int x_2), (0, .ref (bs g 49)), (1, .ref (bs g p1))]) hx hb dX1_takeBack_27 rfl hl (by decide) rfl (fun ls hl => ?_)
  refine lv_aload_n hx hb dX1_takeBack_28 rfl (lv_at hl 2 rfl) ?_
  refine gf_1_0 hx hb htg (htg _ lf_X1_11) hown hZ hW tz_49 dX1_takeBack_29 ?_
  refine lv_iload_n hx hb dX1_takeBack_32 rfl (lv_at hl 1 rfl) ?_
  refine lv_iconst (v := 2) hx hb dX1_takeBack_33 (by decide) ?_
  refine lv_iadd hx hb dX1_takeBack_34 ?_
  refine mcip hf hS (fun r h => va_runSN (As := [.ref (bs g (49 + 1)), .int (x_2 + 2)]) (rest := []) ⟨hx, hb, hml, hown, hts⟩ (c_X12_get g l 0 81 σ_1 (49 + 1) (x_2 + 2) (tz_49.sub 20 1 so_1_20_1) r h) (cl_X1_29 hts hZ ⟨Nat.le_of_ble_eq_true rfl, Nat.le_of_ble_eq_true rfl⟩) (mpS hZ hT hS hW _) rfl rfl hl.1 rfl (lv_room (Nat.le_of_ble_eq_true rfl)) dX1_takeBack_35 ⟨Nat.zero_le _, Nat.zero_le _⟩) (fun r_4 H locs hf hW hS => ?_)
  refine lv_istore (lv' := [(4, .int r_4), (3, .int r_3), (2, .int x_2), (0, .ref (bs g 49)), (1, .ref (bs g p1))]) hx hb dX1_takeBack_38 hl (by decide) rfl (fun ls hl => ?_)
  refine lv_aload_n hx hb dX1_takeBack_40 rfl (lv_at hl 3 rfl) ?_
  refine gf_1_0 hx hb htg (htg _ lf_X1_11) hown hZ hW tz_49 dX1_takeBack_41 ?_
  refine lv_iload_n hx hb dX1_takeBack_44 rfl (lv_at hl 2 rfl) ?_
  refine mcip hf hS (fun r h => va_runSN (As := [.ref (bs g (49 + 1)), .int x_2]) (rest := []) ⟨hx, hb, hml, hown, hts⟩ (c_X12_get g l 0 81 σ_1 (49 + 1) x_2 (tz_49.sub 20 1 so_1_20_1) r h) (cl_X1_29 hts hZ ⟨Nat.le_of_ble_eq_true rfl, Nat.le_of_ble_eq_true rfl⟩) (mpS hZ hT hS hW _) rfl rfl hl.1 rfl (lv_room (Nat.le_of_ble_eq_true rfl)) dX1_takeBack_45 ⟨Nat.zero_le _, Nat.zero_le _⟩) (fun r_5 H locs hf hW hS => ?_)
  by_cases hn0 : r_5 = 0
  · have hf := ift hn0 hf
    refine lv_tableIn (off := 28) (tgt := 76) hx hb dX1_takeBack_48 (by rw [hn0]; decide) (by rw [hn0]; decide) (by rw [hn0]; decide) (by decide) ?_
    refine lv_aload_n hx hb dX1_takeBack_76 rfl (lv_at hl 4 rfl) ?_
    refine lv_iload_n hx hb dX1_takeBack_77 rfl (lv_at hl 1 rfl) ?_
    refine lv_bipush (v := (-2)) hx hb dX1_takeBack_78 (by decide) ?_
    refine mcv hf hS (fun τ h => va_runV (As := [.int r_3, .int (-2)]) (rest := []) ⟨hx, hb, hml, hown, hts⟩ (c_X9_setVisitor g l 0 81 σ_1 p1 r_3 (-2) t1 τ h) (cl_X1_33 hts ⟨Nat.le_of_ble_eq_true rfl, Nat.le_of_ble_eq_true rfl⟩) (mpV_9 hZ hT hS hW t1 _) rfl rfl hl.1 rfl (lv_room (Nat.le_of_ble_eq_true rfl)) dX1_takeBack_80 ⟨Nat.zero_le _, Nat.zero_le _⟩) (fun σ_11 H locs hf hW hS => ?_)
    refine lv_goto (tgt := 145) hx hb dX1_takeBack_83 (by decide) ?_
    subst hQ
    exact mrv hx hb hr hlocks hZ hT hS hW (Option.some.inj hf) dX1_takeBack_145
  have hf := iff_ hn0 hf
  by_cases hn1 : r_5 = 1
  · have hf := ift hn1 hf
    refine lv_tableIn (off := 38) (tgt := 86) hx hb dX1_takeBack_48 (by rw [hn1]; decide) (by rw [hn1]; decide) (by rw [hn1]; decide) (by decide) ?_
    refine lv_aload_n hx hb dX1_takeBack_86 rfl (lv_at hl 4 rfl) ?_
    refine lv_iload_n hx hb dX1_takeBack_87 rfl (lv_at hl 1 rfl) ?_
    refine lv_iload hx hb dX1_takeBack_88 (lv_at hl 0 rfl) ?_
    refine mcv hf hS (fun τ h => va_runV (As := [.int r_3, .int r_4]) (rest := []) ⟨hx, hb, hml, hown, hts⟩ (c_X9_setVisitor g l 0 81 σ_1 p1 r_3 r_4 t1 τ h) (cl_X1_33 hts ⟨Nat.le_of_ble_eq_true rfl, Nat.le_of_ble_eq_true rfl⟩) (mpV_9 hZ hT hS hW t1 _) rfl rfl hl.1 rfl (lv_room (Nat.le_of_ble_eq_true rfl)) dX1_takeBack_90 ⟨Nat.zero_le _, Nat.zero_le _⟩) (fun σ_10 H locs hf hW hS => ?_)
    refine lv_goto (tgt := 145) hx hb dX1_takeBack_93 (by decide) ?_
    subst hQ
    exact mrv hx hb hr hlocks hZ hT hS hW (Option.some.inj hf) dX1_takeBack_145
  have hf := iff_ hn1 hf
  by_cases hn2 : r_5 = 2
  · have hf := ift hn2 hf
    refine lv_tableIn (off := 48) (tgt := 96) hx hb dX1_takeBack_48 (by rw [hn2]; decide) (by rw [hn2]; decide) (by rw [hn2]; decide) (by decide) ?_
    refine lv_aload_n hx hb dX1_takeBack_96 rfl (lv_at hl 4 rfl) ?_
    refine gfN_9_4 hx hb htg ln_X1_39 hown hZ hW t1 dX1_takeBack_97 ?_
    refine lv_iload_n hx hb dX1_takeBack_100 rfl (lv_at hl 1 rfl) ?_
    refine lv_iload hx hb dX1_takeBack_101 (lv_at hl 0 rfl) ?_
    refine lv_aload_n hx hb dX1_takeBack_103 rfl (lv_at hl 4 rfl) ?_
    refine gfN_9_1 hx hb htg ln_X1_43 hown hZ hW t1 dX1_takeBack_104 ?_
    refine lv_iconst (v := 4) hx hb dX1_takeBack_107 (by decide) ?_
    refine lv_aload_n hx hb dX1_takeBack_108 rfl (lv_at hl 3 rfl) ?_
    refine gf_1_0 hx hb htg (htg _ lf_X1_11) hown hZ hW tz_49 dX1_takeBack_109 ?_
    refine lv_iload_n hx hb dX1_takeBack_112 rfl (lv_at hl 2 rfl) ?_
    refine lv_iconst (v := 3) hx hb dX1_takeBack_113 (by decide) ?_
    refine lv_iadd hx hb dX1_takeBack_114 ?_
    refine mcip hf hS (fun r h => va_runSN (As := [.ref (bs g (49 + 1)), .int (x_2 + 3)]) (rest := [.int 4, .int (σ_1.1 p1 1), .int r_4, .int r_3, .ref (bs g (p1 + 2))]) ⟨hx, hb, hml, hown, hts⟩ (c_X12_get g l 0 81 σ_1 (49 + 1) (x_2 + 3) (tz_49.sub 20 1 so_1_20_1) r h) (cl_X1_29 hts hZ ⟨Nat.le_of_ble_eq_true rfl, Nat.le_of_ble_eq_true rfl⟩) (mpS hZ hT hS hW _) rfl rfl hl.1 rfl (lv_room (Nat.le_of_ble_eq_true rfl)) dX1_takeBack_115 ⟨Nat.zero_le _, Nat.zero_le _⟩) (fun r_7 H locs hf hW hS => ?_)
    refine lv_isub hx hb dX1_takeBack_118 ?_
    refine mcv hf hS (fun τ h => va_runV (As := [.int r_3, .int r_4, .int (σ_1.1 p1 1), .int (4 - r_7)]) (rest := []) ⟨hx, hb, hml, hown, hts⟩ (c_X5_goOn g l 0 81 σ_1 (p1 + 2) r_3 r_4 (σ_1.1 p1 1) (4 - r_7) (t1.sub 5 2 so_9_5_2) τ h) (cl_X1_46 hts ⟨Nat.le_of_ble_eq_true rfl, Nat.le_of_ble_eq_true rfl⟩) (mpV_5 hZ hT hS hW (t1.sub 5 2 so_9_5_2) _) rfl rfl hl.1 rfl (lv_room (Nat.le_of_ble_eq_true rfl)) dX1_takeBack_119 ⟨Nat.zero_le _, Nat.zero_le _⟩) (fun σ_8 H locs hf hW hS => ?_)
    refine lv_aload_n hx hb dX1_takeBack_122 rfl (lv_at hl 4 rfl) ?_
    refine lv_dup hx hb dX1_takeBack_123 rfl ?_
    refine gfN_9_2 hx hb htg ln_X1_52 hown hZ hW t1 dX1_takeBack_124 ?_
    refine lv_iconst (v := 1) hx hb dX1_takeBack_127 (by decide) ?_
    refine lv_isub hx hb dX1_takeBack_128 ?_
    refine pfN_9_2 hx hb htg ln_X1_52 hown hZ hW hS t1 dX1_takeBack_129 hf (fun σ_9 H locs hf hW hS => ?_)
    refine lv_goto (tgt := 145) hx hb dX1_takeBack_132 (by decide) ?_
    subst hQ
    exact mrv hx hb hr hlocks hZ hT hS hW (Option.some.inj hf) dX1_takeBack_145
  have hf := iff_ hn2 hf
  refine lv_tableOut (tgt := 135) hx hb dX1_takeBack_48 (tsw_0_2 hn0 hn1 hn2) (by decide) ?_
  refine lv_aload_n hx hb dX1_takeBack_135 rfl (lv_at hl 4 rfl) ?_
  refine lv_dup hx hb dX1_takeBack_136 rfl ?_
  refine gfN_9_1 hx hb htg ln_X1_43 hown hZ hW t1 dX1_takeBack_137 ?_
  refine lv_iload_n hx hb dX1_takeBack_140 rfl (lv_at hl 1 rfl) ?_
  refine lv_isub hx hb dX1_takeBack_141 ?_
  refine pfN_9_1 hx hb htg ln_X1_43 hown hZ hW hS t1 dX1_takeBack_142 hf (fun σ_6 H locs hf hW hS => ?_)
  subst hQ
  exact mrv hx hb hr hlocks hZ hT hS hW (Option.some.inj hf) dX1_takeBack_145
def f_X11_people (σ : Mem) (p0 : Nat) : Option (Int32) :=
  bd1 (f_X12_get σ (p0 + 1) (lnNum.getD 1 0)) (fun (r_1 : Int32) => some r_1)
set_option maxHeartbeats 4000000 in
set_option maxRecDepth 100000 in
theorem c_X11_people (g : XG) (l : Launch) (lo n : Nat) (σ : Mem) (p0 : Nat) (t0 : tp 11 lo n p0) (r : Int32) (hf : f_X11_people σ p0 = some r) : Met l yX11_people (wx (.code yX11_people cX11_people 1 (some .int))) (kr 1 21) (va_Pc [.ref (bs g p0)] (WS g lo n σ)) (Qi' g lo n r σ) 0 0 (Ag g lo) := by
  refine Met.ofW (cc := cX11_people) (maxL := 1) (ret := (some .int)) (by decide) rfl ?_
  intro p e s m args below meth c s₁ B hml hv
  obtain ⟨rfl, hZ, hT, hW⟩ := hv
  have hx := B.exec
  have hb := B.bytes
  have hr := B.returns
  have hts : ∀ w ∈ wx (.code yX11_people cX11_people 1 (some .int)), w.before _ s = true := atoms_spec B.pre
  have htg : ∀ w ∈ lwg, w.before _ s = true := fun w h => hts w (List.mem_cons_of_mem _ h)
  have hown : s.vm.findClass RX11 = some m.cls := findClass_of_methodNamed B.named
  have hlocks := B.notSynchronized
  change W p l e (kr 1 21) s m (List.toArray [.ref (bs g p0)]) below meth c s.heap [] 0 0 (MQ below (Qi' g lo n r σ) (List.toArray [.ref (bs g p0)]) s 0 0 (Ag g lo)) _
  generalize hQ : MQ below (Qi' g lo n r σ) (List.toArray [.ref (bs g p0)]) s 0 0 (Ag g lo) = Q
  have hS : va_S (Ag g lo) s.heap s.heap [] := va_S.rf
  have hl := lv_entry ([.ref (bs g p0)]) (n := 1) (Nat.le_of_ble_eq_true rfl)
  rw [lg_entry_eq]
  generalize (lg_sl ([.ref (bs g p0)]) ++ List.replicate (1 - (lg_sl ([.ref (bs g p0)])).length) Slot.unset).toArray = ls at hl ⊢
  have hl : lv_has ls 1 [(0, .ref (bs g p0))] := hl
  delta f_X11_people at hf
  obtain ⟨H, hH⟩ : ∃ H, H = s.heap := ⟨_, rfl⟩
  obtain ⟨locs, hLc⟩ : ∃ z : List Loc, z = [] := ⟨_, rfl⟩
  have hS : va_S (Ag g lo) s.heap H locs := by rw [hH, hLc]; exact hS
  have hW : Wd g lo n σ H := by rw [hH]; exact hW
  suffices hG : W p l e (kr 1 21) s m (List.toArray [.ref (bs g p0)]) below meth c H locs 0 0 Q (F0 m 0 ls []) by rw [hH, hLc] at hG; exact hG
  clear hH hLc
  refine lv_aload_n hx hb dX11_people_0 rfl (lv_at hl 0 rfl) ?_
  refine gf_11_4 hx hb htg (htg _ lf_X11_13) hown hZ hW t0 dX11_people_1 ?_
  refine va_gets hx hb ((hT.1.1.1 1 (by decide)).1.narrow (fun q h => ag_a0 g lo q h)) hS hown (htg _ lf_X11_88) (fun _ h => h) dX11_people_4 ?_
  refine gEN_number hx hb ln_X11_71 hown hZ hT hS (show 1 < 7 by decide) dX11_people_7 ?_
  refine mcip hf hS (fun r h => va_runSN (As := [.ref (bs g (p0 + 1)), .int (lnNum.getD 1 0)]) (rest := []) ⟨hx, hb, hml, hown, hts⟩ (c_X12_get g l lo n σ (p0 + 1) (lnNum.getD 1 0) (t0.sub 20 1 so_11_20_1) r h) (cl_X11_76 hts hZ ⟨Nat.le_of_ble_eq_true rfl, Nat.le_of_ble_eq_true rfl⟩) (mpS hZ hT hS hW _) rfl rfl hl.1 rfl (lv_room (Nat.le_of_ble_eq_true rfl)) dX11_people_10 ⟨Nat.zero_le _, Nat.zero_le _⟩) (fun r_1 H locs hf hW hS => ?_)
  subst hQ
  exact mri hx hb hr hlocks hZ hT hS hW ⟨Option.some.inj hf, rfl⟩ dX11_people_13
def f_X11_oddsOf (σ : Mem) (p0 : Nat) (a1 : Int32) (a2 : Int32) : Option (Int32) :=
  bd1 (f_X11_people σ p0) (fun (r_1 : Int32) => bd1 (f_X12_inside a1 r_1) (fun (r_2 : Int32) => jn0 (some (-2)) (fun k_3 => (if r_2 = 0 then k_3 else bd1 (f_X11_people σ p0) (fun (r_4 : Int32) => bd1 (f_X12_inside a2 r_4) (fun (r_5 : Int32) => (if r_5 = 0 then k_3 else bd1 (f_X12_get σ (p0 + 10) ((a1 * 5) + a2)) (fun (r_6 : Int32) => some r_6))))))))
set_option maxHeartbeats 4000000 in
set_option maxRecDepth 100000 in
theorem c_X11_oddsOf (g : XG) (l : Launch) (lo n : Nat) (σ : Mem) (p0 : Nat) (a1 : Int32) (a2 : Int32) (t0 : tp 11 lo n p0) (r : Int32) (hf : f_X11_oddsOf σ p0 a1 a2 = some r) : Met l yX11_oddsOf (wx (.code yX11_oddsOf cX11_oddsOf 3 (some .int))) (kr 2 41) (va_Pc [.ref (bs g p0), .int a1, .int a2] (WS g lo n σ)) (Qi' g lo n r σ) 0 0 (Ag g lo) := by
  refine Met.ofW (cc := cX11_oddsOf) (maxL := 3) (ret := (some .int)) (by decide) rfl ?_
  intro p e s m args below meth c s₁ B hml hv
  obtain ⟨rfl, hZ, hT, hW⟩ := hv
  have hx := B.exec
  have hb := B.bytes
  have hr := B.returns
  have hts : ∀ w ∈ wx (.code yX11_oddsOf cX11_oddsOf 3 (some .int)), w.before _ s = true := atoms_spec B.pre
  have htg : ∀ w ∈ lwg, w.before _ s = true := fun w h => hts w (List.mem_cons_of_mem _ h)
  have hown : s.vm.findClass RX11 = some m.cls := findClass_of_methodNamed B.named
  have hlocks := B.notSynchronized
  change W p l e (kr 2 41) s m (List.toArray [.ref (bs g p0), .int a1, .int a2]) below meth c s.heap [] 0 0 (MQ below (Qi' g lo n r σ) (List.toArray [.ref (bs g p0), .int a1, .int a2]) s 0 0 (Ag g lo)) _
  generalize hQ : MQ below (Qi' g lo n r σ) (List.toArray [.ref (bs g p0), .int a1, .int a2]) s 0 0 (Ag g lo) = Q
  have hS : va_S (Ag g lo) s.heap s.heap [] := va_S.rf
  have hl := lv_entry ([.ref (bs g p0), .int a1, .int a2]) (n := 3) (Nat.le_of_ble_eq_true rfl)
  rw [lg_entry_eq]
  generalize (lg_sl ([.ref (bs g p0), .int a1, .int a2]) ++ List.replicate (3 - (lg_sl ([.ref (bs g p0), .int a1, .int a2])).length) Slot.unset).toArray = ls at hl ⊢
  have hl : lv_has ls 3 [(0, .ref (bs g p0)), (1, .int a1), (2, .int a2)] := hl
  delta f_X11_oddsOf at hf
  obtain ⟨H, hH⟩ : ∃ H, H = s.heap := ⟨_, rfl⟩
  obtain ⟨locs, hLc⟩ : ∃ z : List Loc, z = [] := ⟨_, rfl⟩
  have hS : va_S (Ag g lo) s.heap H locs := by rw [hH, hLc]; exact hS
  have hW : Wd g lo n σ H := by rw [hH]; exact hW
  suffices hG : W p l e (kr 2 41) s m (List.toArray [.ref (bs g p0), .int a1, .int a2]) below meth c H locs 0 0 Q (F0 m 0 ls []) by rw [hH, hLc] at hG; exact hG
  clear hH hLc
  refine lv_iload_n hx hb dX11_oddsOf_0 rfl (lv_at hl 1 rfl) ?_
  refine lv_aload_n hx hb dX11_oddsOf_1 rfl (lv_at hl 0 rfl) ?_
  refine mcip hf hS (fun r h => va_runV (As := []) (rest := [.int a1]) ⟨hx, hb, hml, hown, hts⟩ (c_X11_people g l lo n σ p0 t0 r h) (cl_X11_95 hts ⟨Nat.le_of_ble_eq_true rfl, Nat.le_of_ble_eq_true rfl⟩) (mpV_11 hZ hT hS hW t0 _) rfl rfl hl.1 rfl (lv_room (Nat.le_of_ble_eq_true rfl)) dX11_oddsOf_2 ⟨Nat.zero_le _, Nat.zero_le _⟩) (fun r_1 H locs hf hW hS => ?_)
  refine mcip hf hS (fun r h => va_runSN (As := [.int a1, .int r_1]) (rest := []) ⟨hx, hb, hml, hown, hts⟩ (c_X12_inside g l lo n σ a1 r_1 r h) (cl_X11_99 hts hZ ⟨Nat.le_of_ble_eq_true rfl, Nat.le_of_ble_eq_true rfl⟩) (mpS hZ hT hS hW _) rfl rfl hl.1 rfl (lv_room (Nat.le_of_ble_eq_true rfl)) dX11_oddsOf_5 ⟨Nat.zero_le _, Nat.zero_le _⟩) (fun r_2 H locs hf hW hS => ?_)
  refine jn0_W (∀ (H : Heap) (locs : List Loc) (ls : Array Slot), Wd g lo n σ H → va_S (Ag g lo) s.heap H locs → lv_has ls 3 [] → W p l e (kr 2 41) s m (List.toArray [.ref (bs g p0), .int a1, .int a2]) below meth c H locs 0 0 Q (F0 m 37 ls [])) hf (fun  hf => ?_) (fun k_3 hk_3 hf => ?_)
  · intro H locs ls hW hS hl
    refine lv_bipush (v := (-2)) hx hb dX11_oddsOf_37 (by decide) ?_
    subst hQ
    exact mri hx hb hr hlocks hZ hT hS hW ⟨Option.some.inj hf, rfl⟩ dX11_oddsOf_39
  · refine lv_if_eq (tgt := 37) hx hb dX11_oddsOf_8 (by decide) (fun hc => ?_) (fun hc => ?_)
    · have hf := ift hc hf
      exact hk_3  hf H locs ls hW hS (lv_sub hl [] rfl)
    · have hf := iff_ hc hf
      refine lv_iload_n hx hb dX11_oddsOf_11 rfl (lv_at hl 2 rfl) ?_
      refine lv_aload_n hx hb dX11_oddsOf_12 rfl (lv_at hl 0 rfl) ?_
      refine mcip hf hS (fun r h => va_runV (As := []) (rest := [.int a2]) ⟨hx, hb, hml, hown, hts⟩ (c_X11_people g l lo n σ p0 t0 r h) (cl_X11_95 hts ⟨Nat.le_of_ble_eq_true rfl, Nat.le_of_ble_eq_true rfl⟩) (mpV_11 hZ hT hS hW t0 _) rfl rfl hl.1 rfl (lv_room (Nat.le_of_ble_eq_true rfl)) dX11_oddsOf_13 ⟨Nat.zero_le _, Nat.zero_le _⟩) (fun r_4 H locs hf hW hS => ?_)
      refine mcip hf hS (fun r h => va_runSN (As := [.int a2, .int r_4]) (rest := []) ⟨hx, hb, hml, hown, hts⟩ (c_X12_inside g l lo n σ a2 r_4 r h) (cl_X11_99 hts hZ ⟨Nat.le_of_ble_eq_true rfl, Nat.le_of_ble_eq_true rfl⟩) (mpS hZ hT hS hW _) rfl rfl hl.1 rfl (lv_room (Nat.le_of_ble_eq_true rfl)) dX11_oddsOf_16 ⟨Nat.zero_le _, Nat.zero_le _⟩) (fun r_5 H locs hf hW hS => ?_)
      refine lv_if_eq (tgt := 37) hx hb dX11_oddsOf_19 (by decide) (fun hc => ?_) (fun hc => ?_)
      · have hf := ift hc hf
        exact hk_3  hf H locs ls hW hS (lv_sub hl [] rfl)
      · have hf := iff_ hc hf
        refine lv_aload_n hx hb dX11_oddsOf_22 rfl (lv_at hl 0 rfl) ?_
        refine gf_11_12 hx hb htg (htg _ lf_X11_45) hown hZ hW t0 dX11_oddsOf_23 ?_
        refine lv_iload_n hx hb dX11_oddsOf_26 rfl (lv_at hl 1 rfl) ?_
        refine lv_iconst (v := 5) hx hb dX11_oddsOf_27 (by decide) ?_
        refine lv_imul hx hb dX11_oddsOf_28 ?_
        refine lv_iload_n hx hb dX11_oddsOf_29 rfl (lv_at hl 2 rfl) ?_
        refine lv_iadd hx hb dX11_oddsOf_30 ?_
        refine mcip hf hS (fun r h => va_runSN (As := [.ref (bs g (p0 + 10)), .int ((a1 * 5) + a2)]) (rest := []) ⟨hx, hb, hml, hown, hts⟩ (c_X12_get g l lo n σ (p0 + 10) ((a1 * 5) + a2) (t0.sub 20 10 so_11_20_10) r h) (cl_X11_76 hts hZ ⟨Nat.le_of_ble_eq_true rfl, Nat.le_of_ble_eq_true rfl⟩) (mpS hZ hT hS hW _) rfl rfl hl.1 rfl (lv_room (Nat.le_of_ble_eq_true rfl)) dX11_oddsOf_31 ⟨Nat.zero_le _, Nat.zero_le _⟩) (fun r_6 H locs hf hW hS => ?_)
        refine lv_goto (tgt := 39) hx hb dX11_oddsOf_34 (by decide) ?_
        subst hQ
        exact mri hx hb hr hlocks hZ hT hS hW ⟨Option.some.inj hf, rfl⟩ dX11_oddsOf_39
def f_X11_asks (σ : Mem) (p0 : Nat) (a1 : Int32) (a2 : Int32) : Option (Int32) :=
  bd1 (f_X11_oddsOf σ p0 a1 a2) (fun (r_1 : Int32) => (if r_1 < 0 then some 0 else some 1))
set_option maxHeartbeats 4000000 in
set_option maxRecDepth 100000 in
theorem c_X11_asks (g : XG) (l : Launch) (lo n : Nat) (σ : Mem) (p0 : Nat) (a1 : Int32) (a2 : Int32) (t0 : tp 11 lo n p0) (r : Int32) (hf : f_X11_asks σ p0 a1 a2 = some r) : Met l yX11_asks (wx (.code yX11_asks cX11_asks 3 (some .boolean))) (kr 3 63) (va_Pc [.ref (bs g p0), .int a1, .int a2] (WS g lo n σ)) (Qi' g lo n r σ) 0 0 (Ag g lo) := by
  refine Met.ofW (cc := cX11_asks) (maxL := 3) (ret := (some .boolean)) (by decide) rfl ?_
  intro p e s m args below meth c s₁ B hml hv
  obtain ⟨rfl, hZ, hT, hW⟩ := hv
  have hx := B.exec
  have hb := B.bytes
  have hr := B.returns
  have hts : ∀ w ∈ wx (.code yX11_asks cX11_asks 3 (some .boolean)), w.before _ s = true := atoms_spec B.pre
  have htg : ∀ w ∈ lwg, w.before _ s = true := fun w h => hts w (List.mem_cons_of_mem _ h)
  have hown : s.vm.findClass RX11 = some m.cls := findClass_of_methodNamed B.named
  have hlocks := B.notSynchronized
  change W p l e (kr 3 63) s m (List.toArray [.ref (bs g p0), .int a1, .int a2]) below meth c s.heap [] 0 0 (MQ below (Qi' g lo n r σ) (List.toArray [.ref (bs g p0), .int a1, .int a2]) s 0 0 (Ag g lo)) _
  generalize hQ : MQ below (Qi' g lo n r σ) (List.toArray [.ref (bs g p0), .int a1, .int a2]) s 0 0 (Ag g lo) = Q
  have hS : va_S (Ag g lo) s.heap s.heap [] := va_S.rf
  have hl := lv_entry ([.ref (bs g p0), .int a1, .int a2]) (n := 3) (Nat.le_of_ble_eq_true rfl)
  rw [lg_entry_eq]
  generalize (lg_sl ([.ref (bs g p0), .int a1, .int a2]) ++ List.replicate (3 - (lg_sl ([.ref (bs g p0), .int a1, .int a2])).length) Slot.unset).toArray = ls at hl ⊢
  have hl : lv_has ls 3 [(0, .ref (bs g p0)), (1, .int a1), (2, .int a2)] := hl
  delta f_X11_asks at hf
  obtain ⟨H, hH⟩ : ∃ H, H = s.heap := ⟨_, rfl⟩
  obtain ⟨locs, hLc⟩ : ∃ z : List Loc, z = [] := ⟨_, rfl⟩
  have hS : va_S (Ag g lo) s.heap H locs := by rw [hH, hLc]; exact hS
  have hW : Wd g lo n σ H := by rw [hH]; exact hW
  suffices hG : W p l e (kr 3 63) s m (List.toArray [.ref (bs g p0), .int a1, .int a2]) below meth c H locs 0 0 Q (F0 m 0 ls []) by rw [hH, hLc] at hG; exact hG
  clear hH hLc
  refine lv_aload_n hx hb dX11_asks_0 rfl (lv_at hl 0 rfl) ?_
  refine lv_iload_n hx hb dX11_asks_1 rfl (lv_at hl 1 rfl) ?_
  refine lv_iload_n hx hb dX11_asks_2 rfl (lv_at hl 2 rfl) ?_
  refine mcip hf hS (fun r h => va_runV (As := [.int a1, .int a2]) (rest := []) ⟨hx, hb, hml, hown, hts⟩ (c_X11_oddsOf g l lo n σ p0 a1 a2 t0 r h) (cl_X11_118 hts ⟨Nat.le_of_ble_eq_true rfl, Nat.le_of_ble_eq_true rfl⟩) (mpV_11 hZ hT hS hW t0 _) rfl rfl hl.1 rfl (lv_room (Nat.le_of_ble_eq_true rfl)) dX11_asks_3 ⟨Nat.zero_le _, Nat.zero_le _⟩) (fun r_1 H locs hf hW hS => ?_)
  refine lv_if_lt (tgt := 13) hx hb dX11_asks_6 (by decide) (fun hc => ?_) (fun hc => ?_)
  · have hf := ift hc hf
    refine lv_iconst (v := 0) hx hb dX11_asks_13 (by decide) ?_
    subst hQ
    exact mrz hx hb hr hlocks hZ hT hS hW (by decide) ⟨Option.some.inj hf, rfl⟩ dX11_asks_14
  · have hf := iff_ hc hf
    refine lv_iconst (v := 1) hx hb dX11_asks_9 (by decide) ?_
    refine lv_goto (tgt := 14) hx hb dX11_asks_10 (by decide) ?_
    subst hQ
    exact mrz hx hb hr hlocks hZ hT hS hW (by decide) ⟨Option.some.inj hf, rfl⟩ dX11_asks_14
def f_X2_askedBy (σ : Mem) (p0 : Nat) (a1 : Int32) : Option (Int32) :=
  fx2 FU (fun k_3 (i_1 : Int32) (i_2 : Int32) => bd1 (f_X11_people σ p0) (fun (r_4 : Int32) => (if r_4 ≤ i_2 then some i_1 else bd1 (f_X11_asks σ p0 a1 i_2) (fun (r_5 : Int32) => jn1 (fun (i_6 : Int32) => nm (i_1 ||| i_6) (fun (x_8 : Int32) => nm (i_2 + 1) (fun (x_9 : Int32) => k_3 x_8 x_9))) (fun k_7 => (if r_5 = 0 then k_7 0 else k_7 (1 <<< (i_2 &&& 31)))))))) 0 0
set_option maxHeartbeats 4000000 in
set_option maxRecDepth 100000 in
theorem c_X2_askedBy (g : XG) (l : Launch) (lo n : Nat) (σ : Mem) (p0 : Nat) (a1 : Int32) (t0 : tp 11 lo n p0) (r : Int32) (hf : f_X2_askedBy σ p0 a1 = some r) : Met l yX2_askedBy (wx (.code yX2_askedBy cX2_askedBy 4 (some .int))) (kr 4 85) (va_Pc [.ref (bs g p0), .int a1] (WS g lo n σ)) (Qi' g lo n r σ) 0 0 (Ag g lo) := by
  refine Met.ofW (cc := cX2_askedBy) (maxL := 4) (ret := (some .int)) (by decide) rfl ?_
  intro p e s m args below meth c s₁ B hml hv
  obtain ⟨rfl, hZ, hT, hW⟩ := hv
  have hx := B.exec
  have hb := B.bytes
  have hr := B.returns
  have hts : ∀ w ∈ wx (.code yX2_askedBy cX2_askedBy 4 (some .int)), w.before _ s = true := atoms_spec B.pre
  have htg : ∀ w ∈ lwg, w.before _ s = true := fun w h => hts w (List.mem_cons_of_mem _ h)
  have hown : s.vm.findClass RX2 = some m.cls := findClass_of_methodNamed B.named
  have hlocks := B.notSynchronized
  change W p l e (kr 4 85) s m (List.toArray [.ref (bs g p0), .int a1]) below meth c s.heap [] 0 0 (MQ below (Qi' g lo n r σ) (List.toArray [.ref (bs g p0), .int a1]) s 0 0 (Ag g lo)) _
  generalize hQ : MQ below (Qi' g lo n r σ) (List.toArray [.ref (bs g p0), .int a1]) s 0 0 (Ag g lo) = Q
  have hS : va_S (Ag g lo) s.heap s.heap [] := va_S.rf
  have hl := lv_entry ([.ref (bs g p0), .int a1]) (n := 4) (Nat.le_of_ble_eq_true rfl)
  rw [lg_entry_eq]
  generalize (lg_sl ([.ref (bs g p0), .int a1]) ++ List.replicate (4 - (lg_sl ([.ref (bs g p0), .int a1])).length) Slot.unset).toArray = ls at hl ⊢
  have hl : lv_has ls 4 [(0, .ref (bs g p0)), (1, .int a1)] := hl
  delta f_X2_askedBy at hf
  obtain ⟨H, hH⟩ : ∃ H, H = s.heap := ⟨_, rfl⟩
  obtain ⟨locs, hLc⟩ : ∃ z : List Loc, z = [] := ⟨_, rfl⟩
  have hS : va_S (Ag g lo) s.heap H locs := by rw [hH, hLc]; exact hS
  have hW : Wd g lo n σ H := by rw [hH]; exact hW
  suffices hG : W p l e (kr 4 85) s m (List.toArray [.ref (bs g p0), .int a1]) below meth c H locs 0 0 Q (F0 m 0 ls []) by rw [hH, hLc] at hG; exact hG
  clear hH hLc
  refine lv_iconst (v := 0) hx hb dX2_askedBy_0 (by decide) ?_
  refine lv_istore_n (lv' := [(2, .int 0), (0, .ref (bs g p0)), (1, .int a1)]) hx hb dX2_askedBy_1 rfl hl (by decide) rfl (fun ls hl => ?_)
  refine lv_iconst (v := 0) hx hb dX2_askedBy_2 (by decide) ?_
  refine lv_istore_n (lv' := [(3, .int 0), (2, .int 0), (0, .ref (bs g p0)), (1, .int a1)]) hx hb dX2_askedBy_3 rfl hl (by decide) rfl (fun ls hl => ?_)
  refine fx2_W (fun (i_1 : Int32) (i_2 : Int32) => ∀ (H : Heap) (locs : List Loc) (ls : Array Slot), Wd g lo n σ H → va_S (Ag g lo) s.heap H locs → lv_has ls 4 [(0, .ref (bs g p0)), (1, .int a1), (2, .int i_1), (3, .int i_2)] → W p l e (kr 4 85) s m (List.toArray [.ref (bs g p0), .int a1]) below meth c H locs 0 0 Q (F0 m 4 ls [])) (fun k_3 hk_3 i_1 i_2 hf => ?_) FU 0 0 hf H locs ls hW hS (lv_sub hl [2, 3, 1, 0] rfl)
  intro H locs ls hW hS hl
  refine lv_iload_n hx hb dX2_askedBy_4 rfl (lv_at hl 3 rfl) ?_
  refine lv_aload_n hx hb dX2_askedBy_5 rfl (lv_at hl 0 rfl) ?_
  refine mcip hf hS (fun r h => va_runV (As := []) (rest := [.int i_2]) ⟨hx, hb, hml, hown, hts⟩ (c_X11_people g l lo n σ p0 t0 r h) (cl_X2_31 hts ⟨Nat.le_of_ble_eq_true rfl, Nat.le_of_ble_eq_true rfl⟩) (mpV_11 hZ hT hS hW t0 _) rfl rfl hl.1 rfl (lv_room (Nat.le_of_ble_eq_true rfl)) dX2_askedBy_6 ⟨Nat.zero_le _, Nat.zero_le _⟩) (fun r_4 H locs hf hW hS => ?_)
  refine lv_icmp_ge (tgt := 37) hx hb dX2_askedBy_9 (by decide) (fun hc => ?_) (fun hc => ?_)
  · have hf := ift hc hf
    refine lv_iload_n hx hb dX2_askedBy_37 rfl (lv_at hl 2 rfl) ?_
    subst hQ
    exact mri hx hb hr hlocks hZ hT hS hW ⟨Option.some.inj hf, rfl⟩ dX2_askedBy_38
  · have hf := iff_ hc hf
    refine lv_iload_n hx hb dX2_askedBy_12 rfl (lv_at hl 2 rfl) ?_
    refine lv_aload_n hx hb dX2_askedBy_13 rfl (lv_at hl 0 rfl) ?_
    refine lv_iload_n hx hb dX2_askedBy_14 rfl (lv_at hl 1 rfl) ?_
    refine lv_iload_n hx hb dX2_askedBy_15 rfl (lv_at hl 3 rfl) ?_
    refine mcip hf hS (fun r h => va_runV (As := [.int a1, .int i_2]) (rest := [.int i_1]) ⟨hx, hb, hml, hown, hts⟩ (c_X11_asks g l lo n σ p0 a1 i_2 t0 r h) (cl_X2_37 hts ⟨Nat.le_of_ble_eq_true rfl, Nat.le_of_ble_eq_true rfl⟩) (mpV_11 hZ hT hS hW t0 _) rfl rfl hl.1 rfl (lv_room (Nat.le_of_ble_eq_true rfl)) dX2_askedBy_16 ⟨Nat.zero_le _, Nat.zero_le _⟩) (fun r_5 H locs hf hW hS => ?_)
    refine jn1_W (fun (i_6 : Int32) => ∀ (H : Heap) (locs : List Loc) (ls : Array Slot), Wd g lo n σ H → va_S (Ag g lo) s.heap H locs → lv_has ls 4 [(0, .ref (bs g p0)), (1, .int a1), (3, .int i_2)] → W p l e (kr 4 85) s m (List.toArray [.ref (bs g p0), .int a1]) below meth c H locs 0 0 Q (F0 m 29 ls [.int i_6, .int i_1])) hf (fun i_6 hf => ?_) (fun k_7 hk_7 hf => ?_)
    · intro H locs ls hW hS hl
      refine lv_ior hx hb dX2_askedBy_29 ?_
      refine mnmi hf (fun (x_8 : Int32) hf => ?_)
      refine lv_istore_n (lv' := [(2, .int x_8), (0, .ref (bs g p0)), (1, .int a1), (3, .int i_2)]) hx hb dX2_askedBy_30 rfl hl (by decide) rfl (fun ls hl => ?_)
      obtain ⟨x_9, e_10, hf⟩ := nm_s hf
      refine lv_iinc (v := x_9) (lv' := [(3, .int x_9), (2, .int x_8), (0, .ref (bs g p0)), (1, .int a1)]) hx hb dX2_askedBy_31 hl (k := 3) rfl (by rw [e_10]; rfl) (by decide) rfl (fun ls hl => ?_)
      refine lv_goto (tgt := 4) hx hb dX2_askedBy_34 (by decide) ?_
      exact hk_3 x_8 x_9 hf H locs ls hW hS (lv_sub hl [2, 3, 1, 0] rfl)
    · refine lv_if_eq (tgt := 28) hx hb dX2_askedBy_19 (by decide) (fun hc => ?_) (fun hc => ?_)
      · have hf := ift hc hf
        refine lv_iconst (v := 0) hx hb dX2_askedBy_28 (by decide) ?_
        exact hk_7 0 hf H locs ls hW hS (lv_sub hl [0, 1, 3] rfl)
      · have hf := iff_ hc hf
        refine lv_iconst (v := 1) hx hb dX2_askedBy_22 (by decide) ?_
        refine lv_iload_n hx hb dX2_askedBy_23 rfl (lv_at hl 3 rfl) ?_
        refine lv_ishl hx hb dX2_askedBy_24 ?_
        refine lv_goto (tgt := 29) hx hb dX2_askedBy_25 (by decide) ?_
        exact hk_7 (1 <<< (i_2 &&& 31)) hf H locs ls hW hS (lv_sub hl [0, 1, 3] rfl)
def f_J6_bitCount_0f7a4 (a0 : Int32) : Option (Int32) :=
  nm (a0 - (((a0.toUInt32 >>> ((1 : Int32).toUInt32 &&& Int32.toUInt32 31)).toInt32) &&& 1431655765)) (fun (x_1 : Int32) => nm ((x_1 &&& 858993459) + (((x_1.toUInt32 >>> ((2 : Int32).toUInt32 &&& Int32.toUInt32 31)).toInt32) &&& 858993459)) (fun (x_2 : Int32) => nm ((x_2 + ((x_2.toUInt32 >>> ((4 : Int32).toUInt32 &&& Int32.toUInt32 31)).toInt32)) &&& 252645135) (fun (x_3 : Int32) => nm (x_3 + ((x_3.toUInt32 >>> ((8 : Int32).toUInt32 &&& Int32.toUInt32 31)).toInt32)) (fun (x_4 : Int32) => nm (x_4 + ((x_4.toUInt32 >>> ((16 : Int32).toUInt32 &&& Int32.toUInt32 31)).toInt32)) (fun (x_5 : Int32) => some (x_5 &&& 63))))))
set_option maxHeartbeats 4000000 in
set_option maxRecDepth 100000 in
theorem c_J6_bitCount_0f7a4 (g : XG) (l : Launch) (lo n : Nat) (σ : Mem) (a0 : Int32) (r : Int32) (hf : f_J6_bitCount_0f7a4 a0 = some r) : Met l yJ6_bitCount_0f7a4 (wx (.code yJ6_bitCount_0f7a4 cJ6_bitCount_0f7a4 1 (some .int))) (kr 0 0) (va_Pc [.int a0] (WS g lo n σ)) (Qi' g lo n r σ) 0 0 (Ag g lo) := by
  refine Met.ofW (cc := cJ6_bitCount_0f7a4) (maxL := 1) (ret := (some .int)) (by decide) rfl ?_
  intro p e s m args below meth c s₁ B hml hv
  obtain ⟨rfl, hZ, hT, hW⟩ := hv
  have hx := B.exec
  have hb := B.bytes
  have hr := B.returns
  have hts : ∀ w ∈ wx (.code yJ6_bitCount_0f7a4 cJ6_bitCount_0f7a4 1 (some .int)), w.before _ s = true := atoms_spec B.pre
  have htg : ∀ w ∈ lwg, w.before _ s = true := fun w h => hts w (List.mem_cons_of_mem _ h)
  have hown : s.vm.findClass RJ6 = some m.cls := findClass_of_methodNamed B.named
  have hlocks := B.notSynchronized
  change W p l e (kr 0 0) s m (List.toArray [.int a0]) below meth c s.heap [] 0 0 (MQ below (Qi' g lo n r σ) (List.toArray [.int a0]) s 0 0 (Ag g lo)) _
  generalize hQ : MQ below (Qi' g lo n r σ) (List.toArray [.int a0]) s 0 0 (Ag g lo) = Q
  have hS : va_S (Ag g lo) s.heap s.heap [] := va_S.rf
  have hl := lv_entry ([.int a0]) (n := 1) (Nat.le_of_ble_eq_true rfl)
  rw [lg_entry_eq]
  generalize (lg_sl ([.int a0]) ++ List.replicate (1 - (lg_sl ([.int a0])).length) Slot.unset).toArray = ls at hl ⊢
  have hl : lv_has ls 1 [(0, .int a0)] := hl
  delta f_J6_bitCount_0f7a4 at hf
  obtain ⟨H, hH⟩ : ∃ H, H = s.heap := ⟨_, rfl⟩
  obtain ⟨locs, hLc⟩ : ∃ z : List Loc, z = [] := ⟨_, rfl⟩
  have hS : va_S (Ag g lo) s.heap H locs := by rw [hH, hLc]; exact hS
  have hW : Wd g lo n σ H := by rw [hH]; exact hW
  suffices hG : W p l e (kr 0 0) s m (List.toArray [.int a0]) below meth c H locs 0 0 Q (F0 m 0 ls []) by rw [hH, hLc] at hG; exact hG
  clear hH hLc
  refine lv_iload_n hx hb dJ6_bitCount_0f7a4_0 rfl (lv_at hl 0 rfl) ?_
  refine lv_iload_n hx hb dJ6_bitCount_0f7a4_1 rfl (lv_at hl 0 rfl) ?_
  refine lv_iconst (v := 1) hx hb dJ6_bitCount_0f7a4_2 (by decide) ?_
  refine lv_iushr (v := (a0.toUInt32 >>> ((1 : Int32).toUInt32 &&& Int32.toUInt32 31)).toInt32) hx hb dJ6_bitCount_0f7a4_3 rfl ?_
  refine lv_ldcw (v := 1431655765) hx hb hown (htg _ lk_J6_265) dJ6_bitCount_0f7a4_4 ?_
  refine lv_iand hx hb dJ6_bitCount_0f7a4_7 ?_
  refine lv_isub hx hb dJ6_bitCount_0f7a4_8 ?_
  refine mnmi hf (fun (x_1 : Int32) hf => ?_)
  refine lv_istore_n (lv' := [(0, .int x_1)]) hx hb dJ6_bitCount_0f7a4_9 rfl hl (by decide) rfl (fun ls hl => ?_)
  refine lv_iload_n hx hb dJ6_bitCount_0f7a4_10 rfl (lv_at hl 0 rfl) ?_
  refine lv_ldcw (v := 858993459) hx hb hown (htg _ lk_J6_266) dJ6_bitCount_0f7a4_11 ?_
  refine lv_iand hx hb dJ6_bitCount_0f7a4_14 ?_
  refine lv_iload_n hx hb dJ6_bitCount_0f7a4_15 rfl (lv_at hl 0 rfl) ?_
  refine lv_iconst (v := 2) hx hb dJ6_bitCount_0f7a4_16 (by decide) ?_
  refine lv_iushr (v := (x_1.toUInt32 >>> ((2 : Int32).toUInt32 &&& Int32.toUInt32 31)).toInt32) hx hb dJ6_bitCount_0f7a4_17 rfl ?_
  refine lv_ldcw (v := 858993459) hx hb hown (htg _ lk_J6_266) dJ6_bitCount_0f7a4_18 ?_
  refine lv_iand hx hb dJ6_bitCount_0f7a4_21 ?_
  refine lv_iadd hx hb dJ6_bitCount_0f7a4_22 ?_
  refine mnmi hf (fun (x_2 : Int32) hf => ?_)
  refine lv_istore_n (lv' := [(0, .int x_2)]) hx hb dJ6_bitCount_0f7a4_23 rfl hl (by decide) rfl (fun ls hl => ?_)
  refine lv_iload_n hx hb dJ6_bitCount_0f7a4_24 rfl (lv_at hl 0 rfl) ?_
  refine lv_iload_n hx hb dJ6_bitCount_0f7a4_25 rfl (lv_at hl 0 rfl) ?_
  refine lv_iconst (v := 4) hx hb dJ6_bitCount_0f7a4_26 (by decide) ?_
  refine lv_iushr (v := (x_2.toUInt32 >>> ((4 : Int32).toUInt32 &&& Int32.toUInt32 31)).toInt32) hx hb dJ6_bitCount_0f7a4_27 rfl ?_
  refine lv_iadd hx hb dJ6_bitCount_0f7a4_28 ?_
  refine lv_ldcw (v := 252645135) hx hb hown (htg _ lk_J6_267) dJ6_bitCount_0f7a4_29 ?_
  refine lv_iand hx hb dJ6_bitCount_0f7a4_32 ?_
  refine mnmi hf (fun (x_3 : Int32) hf => ?_)
  refine lv_istore_n (lv' := [(0, .int x_3)]) hx hb dJ6_bitCount_0f7a4_33 rfl hl (by decide) rfl (fun ls hl => ?_)
  refine lv_iload_n hx hb dJ6_bitCount_0f7a4_34 rfl (lv_at hl 0 rfl) ?_
  refine lv_iload_n hx hb dJ6_bitCount_0f7a4_35 rfl (lv_at hl 0 rfl) ?_
  refine lv_bipush (v := 8) hx hb dJ6_bitCount_0f7a4_36 (by decide) ?_
  refine lv_iushr (v := (x_3.toUInt32 >>> ((8 : Int32).toUInt32 &&& Int32.toUInt32 31)).toInt32) hx hb dJ6_bitCount_0f7a4_38 rfl ?_
  refine lv_iadd hx hb dJ6_bitCount_0f7a4_39 ?_
  refine mnmi hf (fun (x_4 : Int32) hf => ?_)
  refine lv_istore_n (lv' := [(0, .int x_4)]) hx hb dJ6_bitCount_0f7a4_40 rfl hl (by decide) rfl (fun ls hl => ?_)
  refine lv_iload_n hx hb dJ6_bitCount_0f7a4_41 rfl (lv_at hl 0 rfl) ?_
  refine lv_iload_n hx hb dJ6_bitCount_0f7a4_42 rfl (lv_at hl 0 rfl) ?_
  refine lv_bipush (v := 16) hx hb dJ6_bitCount_0f7a4_43 (by decide) ?_
  refine lv_iushr (v := (x_4.toUInt32 >>> ((16 : Int32).toUInt32 &&& Int32.toUInt32 31)).toInt32) hx hb dJ6_bitCount_0f7a4_45 rfl ?_
  refine lv_iadd hx hb dJ6_bitCount_0f7a4_46 ?_
  refine mnmi hf (fun (x_5 : Int32) hf => ?_)
  refine lv_istore_n (lv' := [(0, .int x_5)]) hx hb dJ6_bitCount_0f7a4_47 rfl hl (by decide) rfl (fun ls hl => ?_)
  refine lv_iload_n hx hb dJ6_bitCount_0f7a4_48 rfl (lv_at hl 0 rfl) ?_
  refine lv_bipush (v := 63) hx hb dJ6_bitCount_0f7a4_49 (by decide) ?_
  refine lv_iand hx hb dJ6_bitCount_0f7a4_51 ?_
  subst hQ
  exact mri hx hb hr hlocks hZ hT hS hW ⟨Option.some.inj hf, rfl⟩ dJ6_bitCount_0f7a4_52
def f_X2_tellBy (σ : Mem) (a1 : Int32) : Option (Mem) :=
  nm ((nI (aln (59 + 1))) - 1) (fun (x_1 : Int32) => fx2 FU (fun k_4 (i_2 : Int32) (σ_3 : Mem) => (if i_2 ≤ 0 then (if (nI (aln (59 + 1))) ≤ 0 then some σ_3 else ixd 0 (aln (59 + 1)) (dvl 100 (ixd 0 (aln (59 + 1)) (nm (sL σ_3 (59 + 1) (0 : Int32).toNatClampNeg (((σ_3.2.1 (59 + 1) (0 : Int32).toNatClampNeg) * ((100 - a1).toInt64)) / 100)) (fun (σ_5 : Mem) => some σ_5))))) else ixd i_2 (aln (59 + 1)) (ixd (i_2 - 1) (aln (59 + 1)) (dvl 100 (ixd i_2 (aln (59 + 1)) (nm (sL σ_3 (59 + 1) i_2.toNatClampNeg ((((σ_3.2.1 (59 + 1) i_2.toNatClampNeg) * ((100 - a1).toInt64)) + ((σ_3.2.1 (59 + 1) (i_2 - 1).toNatClampNeg) * (a1.toInt64))) / 100)) (fun (σ_6 : Mem) => nm (i_2 + (-1)) (fun (x_7 : Int32) => k_4 x_7 σ_6)))))))) x_1 σ)
set_option maxHeartbeats 4000000 in
set_option maxRecDepth 100000 in
theorem c_X2_tellBy (g : XG) (l : Launch) (σ : Mem) (a1 : Int32) (τ : Mem) (hf : f_X2_tellBy σ a1 = some τ) : Met l yX2_tellBy (wx (.code yX2_tellBy cX2_tellBy 3 none)) (kr 0 0) (va_Pc [.ref (bs g 59), .int a1] (WS g 0 81 σ)) (Qv' g 0 81 τ) 0 0 (Ag g 0) := by
  refine Met.ofW (cc := cX2_tellBy) (maxL := 3) (ret := none) (by decide) rfl ?_
  intro p e s m args below meth c s₁ B hml hv
  obtain ⟨rfl, hZ, hT, hW⟩ := hv
  have hx := B.exec
  have hb := B.bytes
  have hr := B.returns
  have hts : ∀ w ∈ wx (.code yX2_tellBy cX2_tellBy 3 none), w.before _ s = true := atoms_spec B.pre
  have htg : ∀ w ∈ lwg, w.before _ s = true := fun w h => hts w (List.mem_cons_of_mem _ h)
  have hown : s.vm.findClass RX2 = some m.cls := findClass_of_methodNamed B.named
  have hlocks := B.notSynchronized
  change W p l e (kr 0 0) s m (List.toArray [.ref (bs g 59), .int a1]) below meth c s.heap [] 0 0 (MQ below (Qv' g 0 81 τ) (List.toArray [.ref (bs g 59), .int a1]) s 0 0 (Ag g 0)) _
  generalize hQ : MQ below (Qv' g 0 81 τ) (List.toArray [.ref (bs g 59), .int a1]) s 0 0 (Ag g 0) = Q
  have hS : va_S (Ag g 0) s.heap s.heap [] := va_S.rf
  have hl := lv_entry ([.ref (bs g 59), .int a1]) (n := 3) (Nat.le_of_ble_eq_true rfl)
  rw [lg_entry_eq]
  generalize (lg_sl ([.ref (bs g 59), .int a1]) ++ List.replicate (3 - (lg_sl ([.ref (bs g 59), .int a1])).length) Slot.unset).toArray = ls at hl ⊢
  have hl : lv_has ls 3 [(0, .ref (bs g 59)), (1, .int a1)] := hl
  delta f_X2_tellBy at hf
  obtain ⟨H, hH⟩ : ∃ H, H = s.heap := ⟨_, rfl⟩
  obtain ⟨locs, hLc⟩ : ∃ z : List Loc, z = [] := ⟨_, rfl⟩
  have hS : va_S (Ag g 0) s.heap H locs := by rw [hH, hLc]; exact hS
  have hW : Wd g 0 81 σ H := by rw [hH]; exact hW
  suffices hG : W p l e (kr 0 0) s m (List.toArray [.ref (bs g 59), .int a1]) below meth c H locs 0 0 Q (F0 m 0 ls []) by rw [hH, hLc] at hG; exact hG
  clear hH hLc
  refine lv_aload_n hx hb dX2_tellBy_0 rfl (lv_at hl 0 rfl) ?_
  refine gf_2_0 hx hb htg (htg _ lf_X2_9) hown hZ hW tz_59 dX2_tellBy_1 ?_
  refine mln_l hx hb hZ hW (tz_59.sub 22 1 so_2_22_1) dX2_tellBy_4 ?_
  refine lv_iconst (v := 1) hx hb dX2_tellBy_5 (by decide) ?_
  refine lv_isub hx hb dX2_tellBy_6 ?_
  refine mnmi hf (fun (x_1 : Int32) hf => ?_)
  refine lv_istore_n (lv' := [(2, .int x_1), (0, .ref (bs g 59)), (1, .int a1)]) hx hb dX2_tellBy_7 rfl hl (by decide) rfl (fun ls hl => ?_)
  refine fx2_W (fun (i_2 : Int32) (σ_3 : Mem) => ∀ (H : Heap) (locs : List Loc) (ls : Array Slot), Wd g 0 81 σ_3 H → va_S (Ag g 0) s.heap H locs → lv_has ls 3 [(0, .ref (bs g 59)), (1, .int a1), (2, .int i_2)] → W p l e (kr 0 0) s m (List.toArray [.ref (bs g 59), .int a1]) below meth c H locs 0 0 Q (F0 m 8 ls [])) (fun k_4 hk_4 i_2 σ_3 hf => ?_) FU x_1 σ hf H locs ls hW hS (lv_sub hl [1, 2, 0] rfl)
  intro H locs ls hW hS hl
  refine lv_iload_n hx hb dX2_tellBy_8 rfl (lv_at hl 2 rfl) ?_
  refine lv_if_le (tgt := 52) hx hb dX2_tellBy_9 (by decide) (fun hc => ?_) (fun hc => ?_)
  · have hf := ift hc hf
    refine lv_aload_n hx hb dX2_tellBy_52 rfl (lv_at hl 0 rfl) ?_
    refine gf_2_0 hx hb htg (htg _ lf_X2_9) hown hZ hW tz_59 dX2_tellBy_53 ?_
    refine mln_l hx hb hZ hW (tz_59.sub 22 1 so_2_22_1) dX2_tellBy_56 ?_
    refine lv_if_le (tgt := 82) hx hb dX2_tellBy_57 (by decide) (fun hc => ?_) (fun hc => ?_)
    · have hf := ift hc hf
      subst hQ
      exact mrv hx hb hr hlocks hZ hT hS hW (Option.some.inj hf) dX2_tellBy_82
    · have hf := iff_ hc hf
      refine lv_aload_n hx hb dX2_tellBy_60 rfl (lv_at hl 0 rfl) ?_
      refine gf_2_0 hx hb htg (htg _ lf_X2_9) hown hZ hW tz_59 dX2_tellBy_61 ?_
      refine lv_iconst (v := 0) hx hb dX2_tellBy_64 (by decide) ?_
      refine lv_aload_n hx hb dX2_tellBy_65 rfl (lv_at hl 0 rfl) ?_
      refine gf_2_0 hx hb htg (htg _ lf_X2_9) hown hZ hW tz_59 dX2_tellBy_66 ?_
      refine lv_iconst (v := 0) hx hb dX2_tellBy_69 (by decide) ?_
      refine mld_l hx hb hZ hW (tz_59.sub 22 1 so_2_22_1) hf dX2_tellBy_70 (fun hf => ?_)
      refine lv_bipush (v := 100) hx hb dX2_tellBy_71 (by decide) ?_
      refine lv_iload_n hx hb dX2_tellBy_73 rfl (lv_at hl 1 rfl) ?_
      refine lv_isub hx hb dX2_tellBy_74 ?_
      refine lv_i2l (v := (100 - a1).toInt64) hx hb dX2_tellBy_75 rfl ?_
      refine lv_lmul hx hb dX2_tellBy_76 ?_
      refine lv_ldc2 (v := 100) hx hb hown (htg _ lk_X2_51) dX2_tellBy_77 ?_
      obtain ⟨hd, hf⟩ := dvl_s hf
      refine lv_ldiv hx hb dX2_tellBy_80 hd ?_
      refine mst_l hx hb hZ hW hS (tz_59.sub 22 1 so_2_22_1) hf dX2_tellBy_81 (fun σ_5 H locs hf hW hS => ?_)
      subst hQ
      exact mrv hx hb hr hlocks hZ hT hS hW (Option.some.inj hf) dX2_tellBy_82
  · have hf := iff_ hc hf
    refine lv_aload_n hx hb dX2_tellBy_12 rfl (lv_at hl 0 rfl) ?_
    refine gf_2_0 hx hb htg (htg _ lf_X2_9) hown hZ hW tz_59 dX2_tellBy_13 ?_
    refine lv_iload_n hx hb dX2_tellBy_16 rfl (lv_at hl 2 rfl) ?_
    refine lv_aload_n hx hb dX2_tellBy_17 rfl (lv_at hl 0 rfl) ?_
    refine gf_2_0 hx hb htg (htg _ lf_X2_9) hown hZ hW tz_59 dX2_tellBy_18 ?_
    refine lv_iload_n hx hb dX2_tellBy_21 rfl (lv_at hl 2 rfl) ?_
    refine mld_l hx hb hZ hW (tz_59.sub 22 1 so_2_22_1) hf dX2_tellBy_22 (fun hf => ?_)
    refine lv_bipush (v := 100) hx hb dX2_tellBy_23 (by decide) ?_
    refine lv_iload_n hx hb dX2_tellBy_25 rfl (lv_at hl 1 rfl) ?_
    refine lv_isub hx hb dX2_tellBy_26 ?_
    refine lv_i2l (v := (100 - a1).toInt64) hx hb dX2_tellBy_27 rfl ?_
    refine lv_lmul hx hb dX2_tellBy_28 ?_
    refine lv_aload_n hx hb dX2_tellBy_29 rfl (lv_at hl 0 rfl) ?_
    refine gf_2_0 hx hb htg (htg _ lf_X2_9) hown hZ hW tz_59 dX2_tellBy_30 ?_
    refine lv_iload_n hx hb dX2_tellBy_33 rfl (lv_at hl 2 rfl) ?_
    refine lv_iconst (v := 1) hx hb dX2_tellBy_34 (by decide) ?_
    refine lv_isub hx hb dX2_tellBy_35 ?_
    refine mld_l hx hb hZ hW (tz_59.sub 22 1 so_2_22_1) hf dX2_tellBy_36 (fun hf => ?_)
    refine lv_iload_n hx hb dX2_tellBy_37 rfl (lv_at hl 1 rfl) ?_
    refine lv_i2l (v := a1.toInt64) hx hb dX2_tellBy_38 rfl ?_
    refine lv_lmul hx hb dX2_tellBy_39 ?_
    refine lv_ladd hx hb dX2_tellBy_40 ?_
    refine lv_ldc2 (v := 100) hx hb hown (htg _ lk_X2_51) dX2_tellBy_41 ?_
    obtain ⟨hd, hf⟩ := dvl_s hf
    refine lv_ldiv hx hb dX2_tellBy_44 hd ?_
    refine mst_l hx hb hZ hW hS (tz_59.sub 22 1 so_2_22_1) hf dX2_tellBy_45 (fun σ_6 H locs hf hW hS => ?_)
    obtain ⟨x_7, e_8, hf⟩ := nm_s hf
    refine lv_iinc (v := x_7) (lv' := [(2, .int x_7), (0, .ref (bs g 59)), (1, .int a1)]) hx hb dX2_tellBy_46 hl (k := 2) rfl (by rw [e_8]; rfl) (by decide) rfl (fun ls hl => ?_)
    refine lv_goto (tgt := 8) hx hb dX2_tellBy_49 (by decide) ?_
    exact hk_4 x_7 σ_6 hf H locs ls hW hS (lv_sub hl [1, 2, 0] rfl)
def f_X2_chanceOfMost (σ : Mem) (p1 : Nat) (a2 : Int32) (a3 : Int32) : Option (Int64 × Mem) :=
  fx2 FU (fun k_3 (i_1 : Int32) (σ_2 : Mem) => (if (nI (aln (59 + 1))) ≤ i_1 then fx2 FU (fun k_6 (i_4 : Int32) (σ_5 : Mem) => bd1 (f_X11_people σ_5 p1) (fun (r_7 : Int32) => (if r_7 ≤ i_4 then fx2 FU (fun k_10 (j_8 : Int64) (i_9 : Int32) => (if (nI (aln (59 + 1))) ≤ i_9 then some (j_8, σ_5) else bd1 (f_J6_bitCount_0f7a4 a3) (fun (r_11 : Int32) => jn1 (fun (j_12 : Int64) => nm (j_8 + j_12) (fun (x_14 : Int64) => nm (i_9 + 1) (fun (x_15 : Int32) => k_10 x_14 x_15))) (fun k_13 => (if (2 * i_9) ≤ r_11 then k_13 0 else ixd i_9 (aln (59 + 1)) (k_13 (σ_5.2.1 (59 + 1) i_9.toNatClampNeg))))))) 0 1 else jn1 (fun (σ_17 : Mem) => nm (i_4 + 1) (fun (x_19 : Int32) => k_6 x_19 σ_17)) (fun k_18 => (if ((a3 >>> (i_4 &&& 31)) &&& 1) = 1 then bd1 (f_X11_oddsOf σ_5 p1 a2 i_4) (fun (r_21 : Int32) => bd1 (f_X2_tellBy σ_5 r_21) (fun (σ_22 : Mem) => k_18 σ_22)) else k_18 σ_5))))) 0 σ_2 else jn1 (fun (j_23 : Int64) => ixd i_1 (aln (59 + 1)) (nm (sL σ_2 (59 + 1) i_1.toNatClampNeg j_23) (fun (σ_25 : Mem) => nm (i_1 + 1) (fun (x_26 : Int32) => k_3 x_26 σ_25)))) (fun k_24 => (if i_1 = 0 then k_24 10000000000 else k_24 0)))) 0 σ
set_option maxHeartbeats 4000000 in
set_option maxRecDepth 100000 in
theorem c_X2_chanceOfMost (g : XG) (l : Launch) (σ : Mem) (p1 : Nat) (a2 : Int32) (a3 : Int32) (t1 : tp 11 0 81 p1) (r : Int64) (τ : Mem) (hf : f_X2_chanceOfMost σ p1 a2 a3 = some (r, τ)) : Met l yX2_chanceOfMost (wx (.code yX2_chanceOfMost cX2_chanceOfMost 7 (some .long))) (kr 3 63) (va_Pc [.ref (bs g 59), .ref (bs g p1), .int a2, .int a3] (WS g 0 81 σ)) (Ql' g 0 81 r τ) 0 0 (Ag g 0) := by
  refine Met.ofW (cc := cX2_chanceOfMost) (maxL := 7) (ret := (some .long)) (by decide) rfl ?_
  intro p e s m args below meth c s₁ B hml hv
  obtain ⟨rfl, hZ, hT, hW⟩ := hv
  have hx := B.exec
  have hb := B.bytes
  have hr := B.returns
  have hts : ∀ w ∈ wx (.code yX2_chanceOfMost cX2_chanceOfMost 7 (some .long)), w.before _ s = true := atoms_spec B.pre
  have htg : ∀ w ∈ lwg, w.before _ s = true := fun w h => hts w (List.mem_cons_of_mem _ h)
  have hown : s.vm.findClass RX2 = some m.cls := findClass_of_methodNamed B.named
  have hlocks := B.notSynchronized
  change W p l e (kr 3 63) s m (List.toArray [.ref (bs g 59), .ref (bs g p1), .int a2, .int a3]) below meth c s.heap [] 0 0 (MQ below (Ql' g 0 81 r τ) (List.toArray [.ref (bs g 59), .ref (bs g p1), .int a2, .int a3]) s 0 0 (Ag g 0)) _
  generalize hQ : MQ below (Ql' g 0 81 r τ) (List.toArray [.ref (bs g 59), .ref (bs g p1), .int a2, .int a3]) s 0 0 (Ag g 0) = Q
  have hS : va_S (Ag g 0) s.heap s.heap [] := va_S.rf
  have hl := lv_entry ([.ref (bs g 59), .ref (bs g p1), .int a2, .int a3]) (n := 7) (Nat.le_of_ble_eq_true rfl)
  rw [lg_entry_eq]
  generalize (lg_sl ([.ref (bs g 59), .ref (bs g p1), .int a2, .int a3]) ++ List.replicate (7 - (lg_sl ([.ref (bs g 59), .ref (bs g p1), .int a2, .int a3])).length) Slot.unset).toArray = ls at hl ⊢
  have hl : lv_has ls 7 [(0, .ref (bs g 59)), (1, .ref (bs g p1)), (2, .int a2), (3, .int a3)] := hl
  delta f_X2_chanceOfMost at hf
  obtain ⟨H, hH⟩ : ∃ H, H = s.heap := ⟨_, rfl⟩
  obtain ⟨locs, hLc⟩ : ∃ z : List Loc, z = [] := ⟨_, rfl⟩
  have hS : va_S (Ag g 0) s.heap H locs := by rw [hH, hLc]; exact hS
  have hW : Wd g 0 81 σ H := by rw [hH]; exact hW
  suffices hG : W p l e (kr 3 63) s m (List.toArray [.ref (bs g 59), .ref (bs g p1), .int a2, .int a3]) below meth c H locs 0 0 Q (F0 m 0 ls []) by rw [hH, hLc] at hG; exact hG
  clear hH hLc
  refine lv_iconst (v := 0) hx hb dX2_chanceOfMost_0 (by decide) ?_
  refine lv_istore (lv' := [(4, .int 0), (0, .ref (bs g 59)), (1, .ref (bs g p1)), (2, .int a2), (3, .int a3)]) hx hb dX2_chanceOfMost_1 hl (by decide) rfl (fun ls hl => ?_)
  refine fx2_W (fun (i_1 : Int32) (σ_2 : Mem) => ∀ (H : Heap) (locs : List Loc) (ls : Array Slot), Wd g 0 81 σ_2 H → va_S (Ag g 0) s.heap H locs → lv_has ls 7 [(0, .ref (bs g 59)), (1, .ref (bs g p1)), (2, .int a2), (3, .int a3), (4, .int i_1)] → W p l e (kr 3 63) s m (List.toArray [.ref (bs g 59), .ref (bs g p1), .int a2, .int a3]) below meth c H locs 0 0 Q (F0 m 3 ls [])) (fun k_3 hk_3 i_1 σ_2 hf => ?_) FU 0 σ hf H locs ls hW hS (lv_sub hl [1, 2, 3, 4, 0] rfl)
  intro H locs ls hW hS hl
  refine lv_iload hx hb dX2_chanceOfMost_3 (lv_at hl 4 rfl) ?_
  refine lv_aload_n hx hb dX2_chanceOfMost_5 rfl (lv_at hl 0 rfl) ?_
  refine gf_2_0 hx hb htg (htg _ lf_X2_9) hown hZ hW tz_59 dX2_chanceOfMost_6 ?_
  refine mln_l hx hb hZ hW (tz_59.sub 22 1 so_2_22_1) dX2_chanceOfMost_9 ?_
  refine lv_icmp_ge (tgt := 38) hx hb dX2_chanceOfMost_10 (by decide) (fun hc => ?_) (fun hc => ?_)
  · have hf := ift hc hf
    refine lv_iconst (v := 0) hx hb dX2_chanceOfMost_38 (by decide) ?_
    refine lv_istore (lv' := [(4, .int 0), (0, .ref (bs g 59)), (1, .ref (bs g p1)), (2, .int a2), (3, .int a3)]) hx hb dX2_chanceOfMost_39 hl (by decide) rfl (fun ls hl => ?_)
    refine fx2_W (fun (i_4 : Int32) (σ_5 : Mem) => ∀ (H : Heap) (locs : List Loc) (ls : Array Slot), Wd g 0 81 σ_5 H → va_S (Ag g 0) s.heap H locs → lv_has ls 7 [(0, .ref (bs g 59)), (1, .ref (bs g p1)), (2, .int a2), (3, .int a3), (4, .int i_4)] → W p l e (kr 3 63) s m (List.toArray [.ref (bs g 59), .ref (bs g p1), .int a2, .int a3]) below meth c H locs 0 0 Q (F0 m 41 ls [])) (fun k_6 hk_6 i_4 σ_5 hf => ?_) FU 0 σ_2 hf H locs ls hW hS (lv_sub hl [1, 2, 3, 4, 0] rfl)
    intro H locs ls hW hS hl
    refine lv_iload hx hb dX2_chanceOfMost_41 (lv_at hl 4 rfl) ?_
    refine lv_aload_n hx hb dX2_chanceOfMost_43 rfl (lv_at hl 1 rfl) ?_
    refine mcip hf hS (fun r h => va_runV (As := []) (rest := [.int i_4]) ⟨hx, hb, hml, hown, hts⟩ (c_X11_people g l 0 81 σ_5 p1 t1 r h) (cl_X2_31 hts ⟨Nat.le_of_ble_eq_true rfl, Nat.le_of_ble_eq_true rfl⟩) (mpV_11 hZ hT hS hW t1 _) rfl rfl hl.1 rfl (lv_room (Nat.le_of_ble_eq_true rfl)) dX2_chanceOfMost_44 ⟨Nat.zero_le _, Nat.zero_le _⟩) (fun r_7 H locs hf hW hS => ?_)
    refine lv_icmp_ge (tgt := 77) hx hb dX2_chanceOfMost_47 (by decide) (fun hc => ?_) (fun hc => ?_)
    · have hf := ift hc hf
      refine lv_lconst (v := 0) hx hb dX2_chanceOfMost_77 (by decide) ?_
      refine lv_lstore (lv' := [(4, .long 0), (0, .ref (bs g 59)), (1, .ref (bs g p1)), (2, .int a2), (3, .int a3)]) hx hb dX2_chanceOfMost_78 hl (by decide) rfl (fun ls hl => ?_)
      refine lv_iconst (v := 1) hx hb dX2_chanceOfMost_80 (by decide) ?_
      refine lv_istore (lv' := [(6, .int 1), (4, .long 0), (0, .ref (bs g 59)), (1, .ref (bs g p1)), (2, .int a2), (3, .int a3)]) hx hb dX2_chanceOfMost_81 hl (by decide) rfl (fun ls hl => ?_)
      refine fx2_W (fun (j_8 : Int64) (i_9 : Int32) => ∀ (H : Heap) (locs : List Loc) (ls : Array Slot), Wd g 0 81 σ_5 H → va_S (Ag g 0) s.heap H locs → lv_has ls 7 [(0, .ref (bs g 59)), (3, .int a3), (4, .long j_8), (6, .int i_9)] → W p l e (kr 3 63) s m (List.toArray [.ref (bs g 59), .ref (bs g p1), .int a2, .int a3]) below meth c H locs 0 0 Q (F0 m 83 ls [])) (fun k_10 hk_10 j_8 i_9 hf => ?_) FU 0 1 hf H locs ls hW hS (lv_sub hl [2, 5, 1, 0] rfl)
      intro H locs ls hW hS hl
      refine lv_iload hx hb dX2_chanceOfMost_83 (lv_at hl 3 rfl) ?_
      refine lv_aload_n hx hb dX2_chanceOfMost_85 rfl (lv_at hl 0 rfl) ?_
      refine gf_2_0 hx hb htg (htg _ lf_X2_9) hown hZ hW tz_59 dX2_chanceOfMost_86 ?_
      refine mln_l hx hb hZ hW (tz_59.sub 22 1 so_2_22_1) dX2_chanceOfMost_89 ?_
      refine lv_icmp_ge (tgt := 126) hx hb dX2_chanceOfMost_90 (by decide) (fun hc => ?_) (fun hc => ?_)
      · have hf := ift hc hf
        refine lv_lload hx hb dX2_chanceOfMost_126 (lv_at hl 2 rfl) ?_
        subst hQ
        exact mrl hx hb hr hlocks hZ hT hS hW (pr1 hf) dX2_chanceOfMost_128
      · have hf := iff_ hc hf
        refine lv_lload hx hb dX2_chanceOfMost_93 (lv_at hl 2 rfl) ?_
        refine lv_iconst (v := 2) hx hb dX2_chanceOfMost_95 (by decide) ?_
        refine lv_iload hx hb dX2_chanceOfMost_96 (lv_at hl 3 rfl) ?_
        refine lv_imul hx hb dX2_chanceOfMost_98 ?_
        refine lv_iload_n hx hb dX2_chanceOfMost_99 rfl (lv_at hl 1 rfl) ?_
        refine mcip hf hS (fun r h => va_runS (As := [.int a3]) (rest := [.int (2 * i_9), .long j_8]) ⟨hx, hb, hml, hown, hts⟩ (c_J6_bitCount_0f7a4 g l 0 81 σ_5 a3 r h) (cl_X2_21 hts ⟨Nat.le_of_ble_eq_true rfl, Nat.le_of_ble_eq_true rfl⟩) (mpS hZ hT hS hW _) rfl rfl hl.1 rfl (lv_room (Nat.le_of_ble_eq_true rfl)) dX2_chanceOfMost_100 ⟨Nat.zero_le _, Nat.zero_le _⟩) (fun r_11 H locs hf hW hS => ?_)
        refine jn1_W (fun (j_12 : Int64) => ∀ (H : Heap) (locs : List Loc) (ls : Array Slot), Wd g 0 81 σ_5 H → va_S (Ag g 0) s.heap H locs → lv_has ls 7 [(0, .ref (bs g 59)), (3, .int a3), (6, .int i_9)] → W p l e (kr 3 63) s m (List.toArray [.ref (bs g 59), .ref (bs g p1), .int a2, .int a3]) below meth c H locs 0 0 Q (F0 m 117 ls [.long j_12, .long j_8])) hf (fun j_12 hf => ?_) (fun k_13 hk_13 hf => ?_)
        · intro H locs ls hW hS hl
          refine lv_ladd hx hb dX2_chanceOfMost_117 ?_
          refine mnml hf (fun (x_14 : Int64) hf => ?_)
          refine lv_lstore (lv' := [(4, .long x_14), (0, .ref (bs g 59)), (3, .int a3), (6, .int i_9)]) hx hb dX2_chanceOfMost_118 hl (by decide) rfl (fun ls hl => ?_)
          obtain ⟨x_15, e_16, hf⟩ := nm_s hf
          refine lv_iinc (v := x_15) (lv' := [(6, .int x_15), (4, .long x_14), (0, .ref (bs g 59)), (3, .int a3)]) hx hb dX2_chanceOfMost_120 hl (k := 3) rfl (by rw [e_16]; rfl) (by decide) rfl (fun ls hl => ?_)
          refine lv_goto (tgt := 83) hx hb dX2_chanceOfMost_123 (by decide) ?_
          exact hk_10 x_14 x_15 hf H locs ls hW hS (lv_sub hl [2, 3, 1, 0] rfl)
        · refine lv_icmp_le (tgt := 116) hx hb dX2_chanceOfMost_103 (by decide) (fun hc => ?_) (fun hc => ?_)
          · have hf := ift hc hf
            refine lv_lconst (v := 0) hx hb dX2_chanceOfMost_116 (by decide) ?_
            exact hk_13 0 hf H locs ls hW hS (lv_sub hl [0, 1, 3] rfl)
          · have hf := iff_ hc hf
            refine lv_aload_n hx hb dX2_chanceOfMost_106 rfl (lv_at hl 0 rfl) ?_
            refine gf_2_0 hx hb htg (htg _ lf_X2_9) hown hZ hW tz_59 dX2_chanceOfMost_107 ?_
            refine lv_iload hx hb dX2_chanceOfMost_110 (lv_at hl 3 rfl) ?_
            refine mld_l hx hb hZ hW (tz_59.sub 22 1 so_2_22_1) hf dX2_chanceOfMost_112 (fun hf => ?_)
            refine lv_goto (tgt := 117) hx hb dX2_chanceOfMost_113 (by decide) ?_
            exact hk_13 (σ_5.2.1 (59 + 1) i_9.toNatClampNeg) hf H locs ls hW hS (lv_sub hl [0, 1, 3] rfl)
    · have hf := iff_ hc hf
      refine lv_iload_n hx hb dX2_chanceOfMost_50 rfl (lv_at hl 3 rfl) ?_
      refine lv_iload hx hb dX2_chanceOfMost_51 (lv_at hl 4 rfl) ?_
      refine lv_ishr hx hb dX2_chanceOfMost_53 ?_
      refine lv_iconst (v := 1) hx hb dX2_chanceOfMost_54 (by decide) ?_
      refine lv_iand hx hb dX2_chanceOfMost_55 ?_
      refine lv_iconst (v := 1) hx hb dX2_chanceOfMost_56 (by decide) ?_
      refine jn1_W (fun (σ_17 : Mem) => ∀ (H : Heap) (locs : List Loc) (ls : Array Slot), Wd g 0 81 σ_17 H → va_S (Ag g 0) s.heap H locs → lv_has ls 7 [(0, .ref (bs g 59)), (1, .ref (bs g p1)), (2, .int a2), (3, .int a3), (4, .int i_4)] → W p l e (kr 3 63) s m (List.toArray [.ref (bs g 59), .ref (bs g p1), .int a2, .int a3]) below meth c H locs 0 0 Q (F0 m 71 ls [])) hf (fun σ_17 hf => ?_) (fun k_18 hk_18 hf => ?_)
      · intro H locs ls hW hS hl
        obtain ⟨x_19, e_20, hf⟩ := nm_s hf
        refine lv_iinc (v := x_19) (lv' := [(4, .int x_19), (0, .ref (bs g 59)), (1, .ref (bs g p1)), (2, .int a2), (3, .int a3)]) hx hb dX2_chanceOfMost_71 hl (k := 4) rfl (by rw [e_20]; rfl) (by decide) rfl (fun ls hl => ?_)
        refine lv_goto (tgt := 41) hx hb dX2_chanceOfMost_74 (by decide) ?_
        exact hk_6 x_19 σ_17 hf H locs ls hW hS (lv_sub hl [1, 2, 3, 4, 0] rfl)
      · refine lv_icmp_ne (tgt := 71) hx hb dX2_chanceOfMost_57 (by decide) (fun hc => ?_) (fun hc => ?_)
        · have hf := iff_ hc hf
          exact hk_18 σ_5 hf H locs ls hW hS (lv_sub hl [0, 1, 2, 3, 4] rfl)
        · have hf := ift hc hf
          refine lv_aload_n hx hb dX2_chanceOfMost_60 rfl (lv_at hl 0 rfl) ?_
          refine lv_aload_n hx hb dX2_chanceOfMost_61 rfl (lv_at hl 1 rfl) ?_
          refine lv_iload_n hx hb dX2_chanceOfMost_62 rfl (lv_at hl 2 rfl) ?_
          refine lv_iload hx hb dX2_chanceOfMost_63 (lv_at hl 4 rfl) ?_
          refine mcip hf hS (fun r h => va_runV (As := [.int a2, .int i_4]) (rest := [.ref (bs g 59)]) ⟨hx, hb, hml, hown, hts⟩ (c_X11_oddsOf g l 0 81 σ_5 p1 a2 i_4 t1 r h) (cl_X2_43 hts ⟨Nat.le_of_ble_eq_true rfl, Nat.le_of_ble_eq_true rfl⟩) (mpV_11 hZ hT hS hW t1 _) rfl rfl hl.1 rfl (lv_room (Nat.le_of_ble_eq_true rfl)) dX2_chanceOfMost_65 ⟨Nat.zero_le _, Nat.zero_le _⟩) (fun r_21 H locs hf hW hS => ?_)
          refine mcv hf hS (fun τ h => va_runV (As := [.int r_21]) (rest := []) ⟨hx, hb, hml, hown, hts⟩ (c_X2_tellBy g l σ_5 r_21 τ h) (cl_X2_47 hts ⟨Nat.le_of_ble_eq_true rfl, Nat.le_of_ble_eq_true rfl⟩) (mpV_2 hZ hT hS hW tz_59 _) rfl rfl hl.1 rfl (lv_room (Nat.le_of_ble_eq_true rfl)) dX2_chanceOfMost_68 ⟨Nat.zero_le _, Nat.zero_le _⟩) (fun σ_22 H locs hf hW hS => ?_)
          exact hk_18 σ_22 hf H locs ls hW hS (lv_sub hl [0, 1, 2, 3, 4] rfl)
  · have hf := iff_ hc hf
    refine lv_aload_n hx hb dX2_chanceOfMost_13 rfl (lv_at hl 0 rfl) ?_
    refine gf_2_0 hx hb htg (htg _ lf_X2_9) hown hZ hW tz_59 dX2_chanceOfMost_14 ?_
    refine lv_iload hx hb dX2_chanceOfMost_17 (lv_at hl 4 rfl) ?_
    refine lv_iload hx hb dX2_chanceOfMost_19 (lv_at hl 4 rfl) ?_
    refine jn1_W (fun (j_23 : Int64) => ∀ (H : Heap) (locs : List Loc) (ls : Array Slot), Wd g 0 81 σ_2 H → va_S (Ag g 0) s.heap H locs → lv_has ls 7 [(0, .ref (bs g 59)), (1, .ref (bs g p1)), (2, .int a2), (3, .int a3), (4, .int i_1)] → W p l e (kr 3 63) s m (List.toArray [.ref (bs g 59), .ref (bs g p1), .int a2, .int a3]) below meth c H locs 0 0 Q (F0 m 31 ls [.long j_23, .int i_1, .ref (bs g (59 + 1))])) hf (fun j_23 hf => ?_) (fun k_24 hk_24 hf => ?_)
    · intro H locs ls hW hS hl
      refine mst_l hx hb hZ hW hS (tz_59.sub 22 1 so_2_22_1) hf dX2_chanceOfMost_31 (fun σ_25 H locs hf hW hS => ?_)
      obtain ⟨x_26, e_27, hf⟩ := nm_s hf
      refine lv_iinc (v := x_26) (lv' := [(4, .int x_26), (0, .ref (bs g 59)), (1, .ref (bs g p1)), (2, .int a2), (3, .int a3)]) hx hb dX2_chanceOfMost_32 hl (k := 4) rfl (by rw [e_27]; rfl) (by decide) rfl (fun ls hl => ?_)
      refine lv_goto (tgt := 3) hx hb dX2_chanceOfMost_35 (by decide) ?_
      exact hk_3 x_26 σ_25 hf H locs ls hW hS (lv_sub hl [1, 2, 3, 4, 0] rfl)
    · refine lv_if_ne (tgt := 30) hx hb dX2_chanceOfMost_21 (by decide) (fun hc => ?_) (fun hc => ?_)
      · have hf := iff_ hc hf
        refine lv_lconst (v := 0) hx hb dX2_chanceOfMost_30 (by decide) ?_
        exact hk_24 0 hf H locs ls hW hS (lv_sub hl [0, 1, 2, 3, 4] rfl)
      · have hf := ift hc hf
        refine lv_ldc2 (v := 10000000000) hx hb hown (htg _ lk_X2_41) dX2_chanceOfMost_24 ?_
        refine lv_goto (tgt := 31) hx hb dX2_chanceOfMost_27 (by decide) ?_
        exact hk_24 10000000000 hf H locs ls hW hS (lv_sub hl [0, 1, 2, 3, 4] rfl)
def f_X2_bestToAsk (σ : Mem) (p1 : Nat) (a2 : Int32) : Option (Int32 × Mem) :=
  bd1 (f_X2_askedBy σ p1 a2) (fun (r_1 : Int32) => nm (-1) (fun (x_2 : Int64) => fx4 FU (fun k_7 (i_3 : Int32) (j_4 : Int64) (i_5 : Int32) (σ_6 : Mem) => (if r_1 < i_5 then some (i_3, σ_6) else jn3 (fun (i_8 : Int32) (j_9 : Int64) (σ_10 : Mem) => nm (i_5 + 1) (fun (x_12 : Int32) => k_7 i_8 j_9 x_12 σ_10)) (fun k_11 => (if (i_5 &&& (r_1 ^^^ (-1))) = 0 then bd1 (f_J6_bitCount_0f7a4 i_5) (fun (r_14 : Int32) => dvd 2 ((if (r_14 - r_14 / 2 * 2) = 1 then bd2 (f_X2_chanceOfMost σ_6 p1 a2 i_5) (fun (r_15 : Int64) (σ_16 : Mem) => bd1 (f_J6_bitCount_0f7a4 i_5) (fun (r_17 : Int32) => bd1 (f_J6_bitCount_0f7a4 i_3) (fun (r_18 : Int32) => jn1 (fun (i_19 : Int32) => jn0 (k_11 i_5 r_15 σ_16) (fun k_21 => (if 0 < (lg_cmp r_15 j_4) then k_21 else (if (lg_cmp r_15 j_4) = 0 then (if i_19 = 0 then k_11 i_3 j_4 σ_16 else k_21) else k_11 i_3 j_4 σ_16)))) (fun k_20 => (if r_18 ≤ r_17 then k_20 0 else k_20 1))))) else k_11 i_3 j_4 σ_6))) else k_11 i_3 j_4 σ_6)))) 0 x_2 1 σ))
set_option maxHeartbeats 4000000 in
set_option maxRecDepth 100000 in
theorem c_X2_bestToAsk (g : XG) (l : Launch) (σ : Mem) (p1 : Nat) (a2 : Int32) (t1 : tp 11 0 81 p1) (r : Int32) (τ : Mem) (hf : f_X2_bestToAsk σ p1 a2 = some (r, τ)) : Met l yX2_bestToAsk (wx (.code yX2_bestToAsk cX2_bestToAsk 11 (some .int))) (kr 5 108) (va_Pc [.ref (bs g 59), .ref (bs g p1), .int a2] (WS g 0 81 σ)) (Qi' g 0 81 r τ) 0 0 (Ag g 0) := by
  refine Met.ofW (cc := cX2_bestToAsk) (maxL := 11) (ret := (some .int)) (by decide) rfl ?_
  intro p e s m args below meth c s₁ B hml hv
  obtain ⟨rfl, hZ, hT, hW⟩ := hv
  have hx := B.exec
  have hb := B.bytes
  have hr := B.returns
  have hts : ∀ w ∈ wx (.code yX2_bestToAsk cX2_bestToAsk 11 (some .int)), w.before _ s = true := atoms_spec B.pre
  have htg : ∀ w ∈ lwg, w.before _ s = true := fun w h => hts w (List.mem_cons_of_mem _ h)
  have hown : s.vm.findClass RX2 = some m.cls := findClass_of_methodNamed B.named
  have hlocks := B.notSynchronized
  change W p l e (kr 5 108) s m (List.toArray [.ref (bs g 59), .ref (bs g p1), .int a2]) below meth c s.heap [] 0 0 (MQ below (Qi' g 0 81 r τ) (List.toArray [.ref (bs g 59), .ref (bs g p1), .int a2]) s 0 0 (Ag g 0)) _
  generalize hQ : MQ below (Qi' g 0 81 r τ) (List.toArray [.ref (bs g 59), .ref (bs g p1), .int a2]) s 0 0 (Ag g 0) = Q
  have hS : va_S (Ag g 0) s.heap s.heap [] := va_S.rf
  have hl := lv_entry ([.ref (bs g 59), .ref (bs g p1), .int a2]) (n := 11) (Nat.le_of_ble_eq_true rfl)
  rw [lg_entry_eq]
  generalize (lg_sl ([.ref (bs g 59), .ref (bs g p1), .int a2]) ++ List.replicate (11 - (lg_sl ([.ref (bs g 59), .ref (bs g p1), .int a2])).length) Slot.unset).toArray = ls at hl ⊢
  have hl : lv_has ls 11 [(0, .ref (bs g 59)), (1, .ref (bs g p1)), (2, .int a2)] := hl
  delta f_X2_bestToAsk at hf
  obtain ⟨H, hH⟩ : ∃ H, H = s.heap := ⟨_, rfl⟩
  obtain ⟨locs, hLc⟩ : ∃ z : List Loc, z = [] := ⟨_, rfl⟩
  have hS : va_S (Ag g 0) s.heap H locs := by rw [hH, hLc]; exact hS
  have hW : Wd g 0 81 σ H := by rw [hH]; exact hW
  suffices hG : W p l e (kr 5 108) s m (List.toArray [.ref (bs g 59), .ref (bs g p1), .int a2]) below meth c H locs 0 0 Q (F0 m 0 ls []) by rw [hH, hLc] at hG; exact hG
  clear hH hLc
  refine lv_aload_n hx hb dX2_bestToAsk_0 rfl (lv_at hl 1 rfl) ?_
  refine lv_iload_n hx hb dX2_bestToAsk_1 rfl (lv_at hl 2 rfl) ?_
  refine mcip hf hS (fun r h => va_runS (As := [.ref (bs g p1), .int a2]) (rest := []) ⟨hx, hb, hml, hown, hts⟩ (c_X2_askedBy g l 0 81 σ p1 a2 t1 r h) (cl_X2_15 hts ⟨Nat.le_of_ble_eq_true rfl, Nat.le_of_ble_eq_true rfl⟩) (mpS hZ hT hS hW _) rfl rfl hl.1 rfl (lv_room (Nat.le_of_ble_eq_true rfl)) dX2_bestToAsk_2 ⟨Nat.zero_le _, Nat.zero_le _⟩) (fun r_1 H locs hf hW hS => ?_)
  refine lv_istore_n (lv' := [(3, .int r_1), (0, .ref (bs g 59)), (1, .ref (bs g p1)), (2, .int a2)]) hx hb dX2_bestToAsk_5 rfl hl (by decide) rfl (fun ls hl => ?_)
  refine lv_iconst (v := 0) hx hb dX2_bestToAsk_6 (by decide) ?_
  refine lv_istore (lv' := [(4, .int 0), (3, .int r_1), (0, .ref (bs g 59)), (1, .ref (bs g p1)), (2, .int a2)]) hx hb dX2_bestToAsk_7 hl (by decide) rfl (fun ls hl => ?_)
  refine lv_ldc2 (v := -1) hx hb hown (htg _ lk_X2_19) dX2_bestToAsk_9 ?_
  refine mnml hf (fun (x_2 : Int64) hf => ?_)
  refine lv_lstore (lv' := [(5, .long x_2), (4, .int 0), (3, .int r_1), (0, .ref (bs g 59)), (1, .ref (bs g p1)), (2, .int a2)]) hx hb dX2_bestToAsk_12 hl (by decide) rfl (fun ls hl => ?_)
  refine lv_iconst (v := 1) hx hb dX2_bestToAsk_14 (by decide) ?_
  refine lv_istore (lv' := [(7, .int 1), (5, .long x_2), (4, .int 0), (3, .int r_1), (0, .ref (bs g 59)), (1, .ref (bs g p1)), (2, .int a2)]) hx hb dX2_bestToAsk_15 hl (by decide) rfl (fun ls hl => ?_)
  refine fx4_W (fun (i_3 : Int32) (j_4 : Int64) (i_5 : Int32) (σ_6 : Mem) => ∀ (H : Heap) (locs : List Loc) (ls : Array Slot), Wd g 0 81 σ_6 H → va_S (Ag g 0) s.heap H locs → lv_has ls 11 [(0, .ref (bs g 59)), (1, .ref (bs g p1)), (2, .int a2), (3, .int r_1), (4, .int i_3), (5, .long j_4), (7, .int i_5)] → W p l e (kr 5 108) s m (List.toArray [.ref (bs g 59), .ref (bs g p1), .int a2]) below meth c H locs 0 0 Q (F0 m 17 ls [])) (fun k_7 hk_7 i_3 j_4 i_5 σ_6 hf => ?_) FU 0 x_2 1 σ hf H locs ls hW hS (lv_sub hl [4, 5, 6, 3, 2, 1, 0] rfl)
  intro H locs ls hW hS hl
  refine lv_iload hx hb dX2_bestToAsk_17 (lv_at hl 6 rfl) ?_
  refine lv_iload_n hx hb dX2_bestToAsk_19 rfl (lv_at hl 3 rfl) ?_
  refine lv_icmp_gt (tgt := 108) hx hb dX2_bestToAsk_20 (by decide) (fun hc => ?_) (fun hc => ?_)
  · have hf := ift hc hf
    refine lv_iload hx hb dX2_bestToAsk_108 (lv_at hl 4 rfl) ?_
    subst hQ
    exact mri hx hb hr hlocks hZ hT hS hW (pr1 hf) dX2_bestToAsk_110
  · have hf := iff_ hc hf
    refine lv_iload hx hb dX2_bestToAsk_23 (lv_at hl 6 rfl) ?_
    refine lv_iload_n hx hb dX2_bestToAsk_25 rfl (lv_at hl 3 rfl) ?_
    refine lv_iconst (v := (-1)) hx hb dX2_bestToAsk_26 (by decide) ?_
    refine lv_ixor hx hb dX2_bestToAsk_27 ?_
    refine lv_iand hx hb dX2_bestToAsk_28 ?_
    refine jn3_W (fun (i_8 : Int32) (j_9 : Int64) (σ_10 : Mem) => ∀ (H : Heap) (locs : List Loc) (ls : Array Slot), Wd g 0 81 σ_10 H → va_S (Ag g 0) s.heap H locs → lv_has ls 11 [(0, .ref (bs g 59)), (1, .ref (bs g p1)), (2, .int a2), (3, .int r_1), (4, .int i_8), (5, .long j_9), (7, .int i_5)] → W p l e (kr 5 108) s m (List.toArray [.ref (bs g 59), .ref (bs g p1), .int a2]) below meth c H locs 0 0 Q (F0 m 102 ls [])) hf (fun i_8 j_9 σ_10 hf => ?_) (fun k_11 hk_11 hf => ?_)
    · intro H locs ls hW hS hl
      obtain ⟨x_12, e_13, hf⟩ := nm_s hf
      refine lv_iinc (v := x_12) (lv' := [(7, .int x_12), (0, .ref (bs g 59)), (1, .ref (bs g p1)), (2, .int a2), (3, .int r_1), (4, .int i_8), (5, .long j_9)]) hx hb dX2_bestToAsk_102 hl (k := 6) rfl (by rw [e_13]; rfl) (by decide) rfl (fun ls hl => ?_)
      refine lv_goto (tgt := 17) hx hb dX2_bestToAsk_105 (by decide) ?_
      exact hk_7 i_8 j_9 x_12 σ_10 hf H locs ls hW hS (lv_sub hl [1, 2, 3, 4, 5, 6, 0] rfl)
    · refine lv_if_ne (tgt := 102) hx hb dX2_bestToAsk_29 (by decide) (fun hc => ?_) (fun hc => ?_)
      · have hf := iff_ hc hf
        exact hk_11 i_3 j_4 σ_6 hf H locs ls hW hS (lv_sub hl [0, 1, 2, 3, 4, 5, 6] rfl)
      · have hf := ift hc hf
        refine lv_iload hx hb dX2_bestToAsk_32 (lv_at hl 6 rfl) ?_
        refine mcip hf hS (fun r h => va_runS (As := [.int i_5]) (rest := []) ⟨hx, hb, hml, hown, hts⟩ (c_J6_bitCount_0f7a4 g l 0 81 σ_6 i_5 r h) (cl_X2_21 hts ⟨Nat.le_of_ble_eq_true rfl, Nat.le_of_ble_eq_true rfl⟩) (mpS hZ hT hS hW _) rfl rfl hl.1 rfl (lv_room (Nat.le_of_ble_eq_true rfl)) dX2_bestToAsk_34 ⟨Nat.zero_le _, Nat.zero_le _⟩) (fun r_14 H locs hf hW hS => ?_)
        refine lv_iconst (v := 2) hx hb dX2_bestToAsk_37 (by decide) ?_
        obtain ⟨hd, hf⟩ := dvd_s hf
        refine lv_irem hx hb dX2_bestToAsk_38 hd ?_
        refine lv_iconst (v := 1) hx hb dX2_bestToAsk_39 (by decide) ?_
        refine lv_icmp_ne (tgt := 102) hx hb dX2_bestToAsk_40 (by decide) (fun hc => ?_) (fun hc => ?_)
        · have hf := iff_ hc hf
          exact hk_11 i_3 j_4 σ_6 hf H locs ls hW hS (lv_sub hl [0, 1, 2, 3, 4, 5, 6] rfl)
        · have hf := ift hc hf
          refine lv_aload_n hx hb dX2_bestToAsk_43 rfl (lv_at hl 0 rfl) ?_
          refine lv_aload_n hx hb dX2_bestToAsk_44 rfl (lv_at hl 1 rfl) ?_
          refine lv_iload_n hx hb dX2_bestToAsk_45 rfl (lv_at hl 2 rfl) ?_
          refine lv_iload hx hb dX2_bestToAsk_46 (lv_at hl 6 rfl) ?_
          refine mcl hf hS (fun r τ h => va_runV (As := [.ref (bs g p1), .int a2, .int i_5]) (rest := []) ⟨hx, hb, hml, hown, hts⟩ (c_X2_chanceOfMost g l σ_6 p1 a2 i_5 t1 r τ h) (cl_X2_27 hts ⟨Nat.le_of_ble_eq_true rfl, Nat.le_of_ble_eq_true rfl⟩) (mpV_2 hZ hT hS hW tz_59 _) rfl rfl hl.1 rfl (lv_room (Nat.le_of_ble_eq_true rfl)) dX2_bestToAsk_48 ⟨Nat.zero_le _, Nat.zero_le _⟩) (fun r_15 σ_16 H locs hf hW hS => ?_)
          refine lv_lstore (lv' := [(8, .long r_15), (0, .ref (bs g 59)), (1, .ref (bs g p1)), (2, .int a2), (3, .int r_1), (4, .int i_3), (5, .long j_4), (7, .int i_5)]) hx hb dX2_bestToAsk_51 hl (by decide) rfl (fun ls hl => ?_)
          refine lv_iload hx hb dX2_bestToAsk_53 (lv_at hl 7 rfl) ?_
          refine mcip hf hS (fun r h => va_runS (As := [.int i_5]) (rest := []) ⟨hx, hb, hml, hown, hts⟩ (c_J6_bitCount_0f7a4 g l 0 81 σ_16 i_5 r h) (cl_X2_21 hts ⟨Nat.le_of_ble_eq_true rfl, Nat.le_of_ble_eq_true rfl⟩) (mpS hZ hT hS hW _) rfl rfl hl.1 rfl (lv_room (Nat.le_of_ble_eq_true rfl)) dX2_bestToAsk_55 ⟨Nat.zero_le _, Nat.zero_le _⟩) (fun r_17 H locs hf hW hS => ?_)
          refine lv_iload hx hb dX2_bestToAsk_58 (lv_at hl 5 rfl) ?_
          refine mcip hf hS (fun r h => va_runS (As := [.int i_3]) (rest := [.int r_17]) ⟨hx, hb, hml, hown, hts⟩ (c_J6_bitCount_0f7a4 g l 0 81 σ_16 i_3 r h) (cl_X2_21 hts ⟨Nat.le_of_ble_eq_true rfl, Nat.le_of_ble_eq_true rfl⟩) (mpS hZ hT hS hW _) rfl rfl hl.1 rfl (lv_room (Nat.le_of_ble_eq_true rfl)) dX2_bestToAsk_60 ⟨Nat.zero_le _, Nat.zero_le _⟩) (fun r_18 H locs hf hW hS => ?_)
          refine jn1_W (fun (i_19 : Int32) => ∀ (H : Heap) (locs : List Loc) (ls : Array Slot), Wd g 0 81 σ_16 H → va_S (Ag g 0) s.heap H locs → lv_has ls 11 [(0, .ref (bs g 59)), (1, .ref (bs g p1)), (2, .int a2), (3, .int r_1), (4, .int i_3), (5, .long j_4), (7, .int i_5), (8, .long r_15)] → W p l e (kr 5 108) s m (List.toArray [.ref (bs g 59), .ref (bs g p1), .int a2]) below meth c H locs 0 0 Q (F0 m 71 ls [.int i_19])) hf (fun i_19 hf => ?_) (fun k_20 hk_20 hf => ?_)
          · intro H locs ls hW hS hl
            refine lv_istore (lv' := [(10, .int i_19), (0, .ref (bs g 59)), (1, .ref (bs g p1)), (2, .int a2), (3, .int r_1), (4, .int i_3), (5, .long j_4), (7, .int i_5), (8, .long r_15)]) hx hb dX2_bestToAsk_71 hl (by decide) rfl (fun ls hl => ?_)
            refine lv_lload hx hb dX2_bestToAsk_73 (lv_at hl 8 rfl) ?_
            refine lv_lload hx hb dX2_bestToAsk_75 (lv_at hl 6 rfl) ?_
            refine W.lcmp hx hb dX2_bestToAsk_77 ?_
            refine jn0_W (∀ (H : Heap) (locs : List Loc) (ls : Array Slot), Wd g 0 81 σ_16 H → va_S (Ag g 0) s.heap H locs → lv_has ls 11 [(0, .ref (bs g 59)), (1, .ref (bs g p1)), (2, .int a2), (3, .int r_1), (7, .int i_5), (8, .long r_15)] → W p l e (kr 5 108) s m (List.toArray [.ref (bs g 59), .ref (bs g p1), .int a2]) below meth c H locs 0 0 Q (F0 m 94 ls [])) hf (fun  hf => ?_) (fun k_21 hk_21 hf => ?_)
            · intro H locs ls hW hS hl
              refine lv_iload hx hb dX2_bestToAsk_94 (lv_at hl 4 rfl) ?_
              refine lv_istore (lv' := [(4, .int i_5), (0, .ref (bs g 59)), (1, .ref (bs g p1)), (2, .int a2), (3, .int r_1), (7, .int i_5), (8, .long r_15)]) hx hb dX2_bestToAsk_96 hl (by decide) rfl (fun ls hl => ?_)
              refine lv_lload hx hb dX2_bestToAsk_98 (lv_at hl 6 rfl) ?_
              refine lv_lstore (lv' := [(5, .long r_15), (4, .int i_5), (0, .ref (bs g 59)), (1, .ref (bs g p1)), (2, .int a2), (3, .int r_1), (7, .int i_5), (8, .long r_15)]) hx hb dX2_bestToAsk_100 hl (by decide) rfl (fun ls hl => ?_)
              exact hk_11 i_5 r_15 σ_16 hf H locs ls hW hS (lv_sub hl [2, 3, 4, 5, 1, 0, 6] rfl)
            · refine lv_if_gt (tgt := 94) hx hb dX2_bestToAsk_78 (by decide) (fun hc => ?_) (fun hc => ?_)
              · have hf := ift hc hf
                exact hk_21  hf H locs ls hW hS (lv_sub hl [1, 2, 3, 4, 7, 8] rfl)
              · have hf := iff_ hc hf
                refine lv_lload hx hb dX2_bestToAsk_81 (lv_at hl 8 rfl) ?_
                refine lv_lload hx hb dX2_bestToAsk_83 (lv_at hl 6 rfl) ?_
                refine W.lcmp hx hb dX2_bestToAsk_85 ?_
                refine lv_if_ne (tgt := 102) hx hb dX2_bestToAsk_86 (by decide) (fun hc => ?_) (fun hc => ?_)
                · have hf := iff_ hc hf
                  exact hk_11 i_3 j_4 σ_16 hf H locs ls hW hS (lv_sub hl [1, 2, 3, 4, 5, 6, 7] rfl)
                · have hf := ift hc hf
                  refine lv_iload hx hb dX2_bestToAsk_89 (lv_at hl 0 rfl) ?_
                  refine lv_if_eq (tgt := 102) hx hb dX2_bestToAsk_91 (by decide) (fun hc => ?_) (fun hc => ?_)
                  · have hf := ift hc hf
                    exact hk_11 i_3 j_4 σ_16 hf H locs ls hW hS (lv_sub hl [1, 2, 3, 4, 5, 6, 7] rfl)
                  · have hf := iff_ hc hf
                    exact hk_21  hf H locs ls hW hS (lv_sub hl [1, 2, 3, 4, 7, 8] rfl)
          · refine lv_icmp_ge (tgt := 70) hx hb dX2_bestToAsk_63 (by decide) (fun hc => ?_) (fun hc => ?_)
            · have hf := ift hc hf
              refine lv_iconst (v := 0) hx hb dX2_bestToAsk_70 (by decide) ?_
              exact hk_20 0 hf H locs ls hW hS (lv_sub hl [1, 2, 3, 4, 5, 6, 7, 0] rfl)
            · have hf := iff_ hc hf
              refine lv_iconst (v := 1) hx hb dX2_bestToAsk_66 (by decide) ?_
              refine lv_goto (tgt := 71) hx hb dX2_bestToAsk_67 (by decide) ?_
              exact hk_20 1 hf H locs ls hW hS (lv_sub hl [1, 2, 3, 4, 5, 6, 7, 0] rfl)
def f_X2_chanceOfAll (σ : Mem) (p0 : Nat) (a1 : Int32) : Option (Int64) :=
  fx2 FU (fun k_3 (j_1 : Int64) (i_2 : Int32) => bd1 (f_X11_people σ p0) (fun (r_4 : Int32) => (if r_4 ≤ i_2 then some j_1 else bd1 (f_X11_asks σ p0 a1 i_2) (fun (r_5 : Int32) => jn1 (fun (j_6 : Int64) => nm (i_2 + 1) (fun (x_8 : Int32) => k_3 j_6 x_8)) (fun k_7 => (if r_5 = 0 then k_7 j_1 else bd1 (f_X11_oddsOf σ p0 a1 i_2) (fun (r_10 : Int32) => dvl 100 (nm ((j_1 * (r_10.toInt64)) / 100) (fun (x_11 : Int64) => k_7 x_11))))))))) 10000000000 0
set_option maxHeartbeats 4000000 in
set_option maxRecDepth 100000 in
theorem c_X2_chanceOfAll (g : XG) (l : Launch) (lo n : Nat) (σ : Mem) (p0 : Nat) (a1 : Int32) (t0 : tp 11 lo n p0) (r : Int64) (hf : f_X2_chanceOfAll σ p0 a1 = some r) : Met l yX2_chanceOfAll (wx (.code yX2_chanceOfAll cX2_chanceOfAll 5 (some .long))) (kr 4 85) (va_Pc [.ref (bs g p0), .int a1] (WS g lo n σ)) (Ql' g lo n r σ) 0 0 (Ag g lo) := by
  refine Met.ofW (cc := cX2_chanceOfAll) (maxL := 5) (ret := (some .long)) (by decide) rfl ?_
  intro p e s m args below meth c s₁ B hml hv
  obtain ⟨rfl, hZ, hT, hW⟩ := hv
  have hx := B.exec
  have hb := B.bytes
  have hr := B.returns
  have hts : ∀ w ∈ wx (.code yX2_chanceOfAll cX2_chanceOfAll 5 (some .long)), w.before _ s = true := atoms_spec B.pre
  have htg : ∀ w ∈ lwg, w.before _ s = true := fun w h => hts w (List.mem_cons_of_mem _ h)
  have hown : s.vm.findClass RX2 = some m.cls := findClass_of_methodNamed B.named
  have hlocks := B.notSynchronized
  change W p l e (kr 4 85) s m (List.toArray [.ref (bs g p0), .int a1]) below meth c s.heap [] 0 0 (MQ below (Ql' g lo n r σ) (List.toArray [.ref (bs g p0), .int a1]) s 0 0 (Ag g lo)) _
  generalize hQ : MQ below (Ql' g lo n r σ) (List.toArray [.ref (bs g p0), .int a1]) s 0 0 (Ag g lo) = Q
  have hS : va_S (Ag g lo) s.heap s.heap [] := va_S.rf
  have hl := lv_entry ([.ref (bs g p0), .int a1]) (n := 5) (Nat.le_of_ble_eq_true rfl)
  rw [lg_entry_eq]
  generalize (lg_sl ([.ref (bs g p0), .int a1]) ++ List.replicate (5 - (lg_sl ([.ref (bs g p0), .int a1])).length) Slot.unset).toArray = ls at hl ⊢
  have hl : lv_has ls 5 [(0, .ref (bs g p0)), (1, .int a1)] := hl
  delta f_X2_chanceOfAll at hf
  obtain ⟨H, hH⟩ : ∃ H, H = s.heap := ⟨_, rfl⟩
  obtain ⟨locs, hLc⟩ : ∃ z : List Loc, z = [] := ⟨_, rfl⟩
  have hS : va_S (Ag g lo) s.heap H locs := by rw [hH, hLc]; exact hS
  have hW : Wd g lo n σ H := by rw [hH]; exact hW
  suffices hG : W p l e (kr 4 85) s m (List.toArray [.ref (bs g p0), .int a1]) below meth c H locs 0 0 Q (F0 m 0 ls []) by rw [hH, hLc] at hG; exact hG
  clear hH hLc
  refine lv_ldc2 (v := 10000000000) hx hb hown (htg _ lk_X2_41) dX2_chanceOfAll_0 ?_
  refine lv_lstore_n (lv' := [(2, .long 10000000000), (0, .ref (bs g p0)), (1, .int a1)]) hx hb dX2_chanceOfAll_3 rfl hl (by decide) rfl (fun ls hl => ?_)
  refine lv_iconst (v := 0) hx hb dX2_chanceOfAll_4 (by decide) ?_
  refine lv_istore (lv' := [(4, .int 0), (2, .long 10000000000), (0, .ref (bs g p0)), (1, .int a1)]) hx hb dX2_chanceOfAll_5 hl (by decide) rfl (fun ls hl => ?_)
  refine fx2_W (fun (j_1 : Int64) (i_2 : Int32) => ∀ (H : Heap) (locs : List Loc) (ls : Array Slot), Wd g lo n σ H → va_S (Ag g lo) s.heap H locs → lv_has ls 5 [(0, .ref (bs g p0)), (1, .int a1), (2, .long j_1), (4, .int i_2)] → W p l e (kr 4 85) s m (List.toArray [.ref (bs g p0), .int a1]) below meth c H locs 0 0 Q (F0 m 7 ls [])) (fun k_3 hk_3 j_1 i_2 hf => ?_) FU 10000000000 0 hf H locs ls hW hS (lv_sub hl [2, 3, 1, 0] rfl)
  intro H locs ls hW hS hl
  refine lv_iload hx hb dX2_chanceOfAll_7 (lv_at hl 3 rfl) ?_
  refine lv_aload_n hx hb dX2_chanceOfAll_9 rfl (lv_at hl 0 rfl) ?_
  refine mcip hf hS (fun r h => va_runV (As := []) (rest := [.int i_2]) ⟨hx, hb, hml, hown, hts⟩ (c_X11_people g l lo n σ p0 t0 r h) (cl_X2_31 hts ⟨Nat.le_of_ble_eq_true rfl, Nat.le_of_ble_eq_true rfl⟩) (mpV_11 hZ hT hS hW t0 _) rfl rfl hl.1 rfl (lv_room (Nat.le_of_ble_eq_true rfl)) dX2_chanceOfAll_10 ⟨Nat.zero_le _, Nat.zero_le _⟩) (fun r_4 H locs hf hW hS => ?_)
  refine lv_icmp_ge (tgt := 47) hx hb dX2_chanceOfAll_13 (by decide) (fun hc => ?_) (fun hc => ?_)
  · have hf := ift hc hf
    refine lv_lload_n hx hb dX2_chanceOfAll_47 rfl (lv_at hl 2 rfl) ?_
    subst hQ
    exact mrl hx hb hr hlocks hZ hT hS hW ⟨Option.some.inj hf, rfl⟩ dX2_chanceOfAll_48
  · have hf := iff_ hc hf
    refine lv_aload_n hx hb dX2_chanceOfAll_16 rfl (lv_at hl 0 rfl) ?_
    refine lv_iload_n hx hb dX2_chanceOfAll_17 rfl (lv_at hl 1 rfl) ?_
    refine lv_iload hx hb dX2_chanceOfAll_18 (lv_at hl 3 rfl) ?_
    refine mcip hf hS (fun r h => va_runV (As := [.int a1, .int i_2]) (rest := []) ⟨hx, hb, hml, hown, hts⟩ (c_X11_asks g l lo n σ p0 a1 i_2 t0 r h) (cl_X2_37 hts ⟨Nat.le_of_ble_eq_true rfl, Nat.le_of_ble_eq_true rfl⟩) (mpV_11 hZ hT hS hW t0 _) rfl rfl hl.1 rfl (lv_room (Nat.le_of_ble_eq_true rfl)) dX2_chanceOfAll_20 ⟨Nat.zero_le _, Nat.zero_le _⟩) (fun r_5 H locs hf hW hS => ?_)
    refine jn1_W (fun (j_6 : Int64) => ∀ (H : Heap) (locs : List Loc) (ls : Array Slot), Wd g lo n σ H → va_S (Ag g lo) s.heap H locs → lv_has ls 5 [(0, .ref (bs g p0)), (1, .int a1), (2, .long j_6), (4, .int i_2)] → W p l e (kr 4 85) s m (List.toArray [.ref (bs g p0), .int a1]) below meth c H locs 0 0 Q (F0 m 41 ls [])) hf (fun j_6 hf => ?_) (fun k_7 hk_7 hf => ?_)
    · intro H locs ls hW hS hl
      obtain ⟨x_8, e_9, hf⟩ := nm_s hf
      refine lv_iinc (v := x_8) (lv' := [(4, .int x_8), (0, .ref (bs g p0)), (1, .int a1), (2, .long j_6)]) hx hb dX2_chanceOfAll_41 hl (k := 3) rfl (by rw [e_9]; rfl) (by decide) rfl (fun ls hl => ?_)
      refine lv_goto (tgt := 7) hx hb dX2_chanceOfAll_44 (by decide) ?_
      exact hk_3 j_6 x_8 hf H locs ls hW hS (lv_sub hl [1, 2, 3, 0] rfl)
    · refine lv_if_eq (tgt := 41) hx hb dX2_chanceOfAll_23 (by decide) (fun hc => ?_) (fun hc => ?_)
      · have hf := ift hc hf
        exact hk_7 j_1 hf H locs ls hW hS (lv_sub hl [0, 1, 2, 3] rfl)
      · have hf := iff_ hc hf
        refine lv_lload_n hx hb dX2_chanceOfAll_26 rfl (lv_at hl 2 rfl) ?_
        refine lv_aload_n hx hb dX2_chanceOfAll_27 rfl (lv_at hl 0 rfl) ?_
        refine lv_iload_n hx hb dX2_chanceOfAll_28 rfl (lv_at hl 1 rfl) ?_
        refine lv_iload hx hb dX2_chanceOfAll_29 (lv_at hl 3 rfl) ?_
        refine mcip hf hS (fun r h => va_runV (As := [.int a1, .int i_2]) (rest := [.long j_1]) ⟨hx, hb, hml, hown, hts⟩ (c_X11_oddsOf g l lo n σ p0 a1 i_2 t0 r h) (cl_X2_43 hts ⟨Nat.le_of_ble_eq_true rfl, Nat.le_of_ble_eq_true rfl⟩) (mpV_11 hZ hT hS hW t0 _) rfl rfl hl.1 rfl (lv_room (Nat.le_of_ble_eq_true rfl)) dX2_chanceOfAll_31 ⟨Nat.zero_le _, Nat.zero_le _⟩) (fun r_10 H locs hf hW hS => ?_)
        refine lv_i2l (v := r_10.toInt64) hx hb dX2_chanceOfAll_34 rfl ?_
        refine lv_lmul hx hb dX2_chanceOfAll_35 ?_
        refine lv_ldc2 (v := 100) hx hb hown (htg _ lk_X2_51) dX2_chanceOfAll_36 ?_
        obtain ⟨hd, hf⟩ := dvl_s hf
        refine lv_ldiv hx hb dX2_chanceOfAll_39 hd ?_
        refine mnml hf (fun (x_11 : Int64) hf => ?_)
        refine lv_lstore_n (lv' := [(2, .long x_11), (0, .ref (bs g p0)), (1, .int a1), (4, .int i_2)]) hx hb dX2_chanceOfAll_40 rfl hl (by decide) rfl (fun ls hl => ?_)
        exact hk_7 x_11 hf H locs ls hW hS (lv_sub hl [1, 2, 0, 3] rfl)
def f_X2_lowestTerm (a0 : Int64) (a2 : Int32) : Option (Int64) :=
  fx3 FU (fun k_4 (j_1 : Int64) (j_2 : Int64) (i_3 : Int32) => jn0 ((if (lg_cmp j_1 0) ≤ 0 then some 0 else jn1 (fun (j_6 : Int64) => dvl j_1 (some (j_6 / j_1))) (fun k_7 => (if a2 = 0 then k_7 a0 else k_7 10000000000)))) (fun k_5 => (if 100 ≤ i_3 then k_5 else (if (lg_cmp j_2 0) = 0 then k_5 else dvl j_2 (nm (j_1 - j_1 / j_2 * j_2) (fun (x_8 : Int64) => nm (i_3 + 1) (fun (x_9 : Int32) => k_4 j_2 x_8 x_9))))))) a0 10000000000 0
set_option maxHeartbeats 4000000 in
set_option maxRecDepth 100000 in
theorem c_X2_lowestTerm (g : XG) (l : Launch) (lo n : Nat) (σ : Mem) (a0 : Int64) (a2 : Int32) (r : Int64) (hf : f_X2_lowestTerm a0 a2 = some r) : Met l yX2_lowestTerm (wx (.code yX2_lowestTerm cX2_lowestTerm 10 (some .long))) (kr 0 0) (va_Pc [.long a0, .int a2] (WS g lo n σ)) (Ql' g lo n r σ) 0 0 (Ag g lo) := by
  refine Met.ofW (cc := cX2_lowestTerm) (maxL := 10) (ret := (some .long)) (by decide) rfl ?_
  intro p e s m args below meth c s₁ B hml hv
  obtain ⟨rfl, hZ, hT, hW⟩ := hv
  have hx := B.exec
  have hb := B.bytes
  have hr := B.returns
  have hts : ∀ w ∈ wx (.code yX2_lowestTerm cX2_lowestTerm 10 (some .long)), w.before _ s = true := atoms_spec B.pre
  have htg : ∀ w ∈ lwg, w.before _ s = true := fun w h => hts w (List.mem_cons_of_mem _ h)
  have hown : s.vm.findClass RX2 = some m.cls := findClass_of_methodNamed B.named
  have hlocks := B.notSynchronized
  change W p l e (kr 0 0) s m (List.toArray [.long a0, .int a2]) below meth c s.heap [] 0 0 (MQ below (Ql' g lo n r σ) (List.toArray [.long a0, .int a2]) s 0 0 (Ag g lo)) _
  generalize hQ : MQ below (Ql' g lo n r σ) (List.toArray [.long a0, .int a2]) s 0 0 (Ag g lo) = Q
  have hS : va_S (Ag g lo) s.heap s.heap [] := va_S.rf
  have hl := lv_entry ([.long a0, .int a2]) (n := 10) (Nat.le_of_ble_eq_true rfl)
  rw [lg_entry_eq]
  generalize (lg_sl ([.long a0, .int a2]) ++ List.replicate (10 - (lg_sl ([.long a0, .int a2])).length) Slot.unset).toArray = ls at hl ⊢
  have hl : lv_has ls 10 [(0, .long a0), (2, .int a2)] := hl
  delta f_X2_lowestTerm at hf
  obtain ⟨H, hH⟩ : ∃ H, H = s.heap := ⟨_, rfl⟩
  obtain ⟨locs, hLc⟩ : ∃ z : List Loc, z = [] := ⟨_, rfl⟩
  have hS : va_S (Ag g lo) s.heap H locs := by rw [hH, hLc]; exact hS
  have hW : Wd g lo n σ H := by rw [hH]; exact hW
  suffices hG : W p l e (kr 0 0) s m (List.toArray [.long a0, .int a2]) below meth c H locs 0 0 Q (F0 m 0 ls []) by rw [hH, hLc] at hG; exact hG
  clear hH hLc
  refine lv_lload_n hx hb dX2_lowestTerm_0 rfl (lv_at hl 0 rfl) ?_
  refine lv_lstore_n (lv' := [(3, .long a0), (0, .long a0), (2, .int a2)]) hx hb dX2_lowestTerm_1 rfl hl (by decide) rfl (fun ls hl => ?_)
  refine lv_ldc2 (v := 10000000000) hx hb hown (htg _ lk_X2_41) dX2_lowestTerm_2 ?_
  refine lv_lstore (lv' := [(5, .long 10000000000), (3, .long a0), (0, .long a0), (2, .int a2)]) hx hb dX2_lowestTerm_5 hl (by decide) rfl (fun ls hl => ?_)
  refine lv_iconst (v := 0) hx hb dX2_lowestTerm_7 (by decide) ?_
  refine lv_istore (lv' := [(7, .int 0), (5, .long 10000000000), (3, .long a0), (0, .long a0), (2, .int a2)]) hx hb dX2_lowestTerm_8 hl (by decide) rfl (fun ls hl => ?_)
  refine fx3_W (fun (j_1 : Int64) (j_2 : Int64) (i_3 : Int32) => ∀ (H : Heap) (locs : List Loc) (ls : Array Slot), Wd g lo n σ H → va_S (Ag g lo) s.heap H locs → lv_has ls 10 [(0, .long a0), (2, .int a2), (3, .long j_1), (5, .long j_2), (7, .int i_3)] → W p l e (kr 0 0) s m (List.toArray [.long a0, .int a2]) below meth c H locs 0 0 Q (F0 m 10 ls [])) (fun k_4 hk_4 j_1 j_2 i_3 hf => ?_) FU a0 10000000000 0 hf H locs ls hW hS (lv_sub hl [3, 4, 2, 1, 0] rfl)
  intro H locs ls hW hS hl
  refine lv_iload hx hb dX2_lowestTerm_10 (lv_at hl 4 rfl) ?_
  refine lv_bipush (v := 100) hx hb dX2_lowestTerm_12 (by decide) ?_
  refine jn0_W (∀ (H : Heap) (locs : List Loc) (ls : Array Slot), Wd g lo n σ H → va_S (Ag g lo) s.heap H locs → lv_has ls 10 [(0, .long a0), (2, .int a2), (3, .long j_1)] → W p l e (kr 0 0) s m (List.toArray [.long a0, .int a2]) below meth c H locs 0 0 Q (F0 m 43 ls [])) hf (fun  hf => ?_) (fun k_5 hk_5 hf => ?_)
  · intro H locs ls hW hS hl
    refine lv_lload_n hx hb dX2_lowestTerm_43 rfl (lv_at hl 2 rfl) ?_
    refine lv_lconst (v := 0) hx hb dX2_lowestTerm_44 (by decide) ?_
    refine W.lcmp hx hb dX2_lowestTerm_45 ?_
    refine lv_if_le (tgt := 65) hx hb dX2_lowestTerm_46 (by decide) (fun hc => ?_) (fun hc => ?_)
    · have hf := ift hc hf
      refine lv_lconst (v := 0) hx hb dX2_lowestTerm_65 (by decide) ?_
      subst hQ
      exact mrl hx hb hr hlocks hZ hT hS hW ⟨Option.some.inj hf, rfl⟩ dX2_lowestTerm_66
    · have hf := iff_ hc hf
      refine lv_iload_n hx hb dX2_lowestTerm_49 rfl (lv_at hl 1 rfl) ?_
      refine jn1_W (fun (j_6 : Int64) => ∀ (H : Heap) (locs : List Loc) (ls : Array Slot), Wd g lo n σ H → va_S (Ag g lo) s.heap H locs → lv_has ls 10 [(3, .long j_1)] → W p l e (kr 0 0) s m (List.toArray [.long a0, .int a2]) below meth c H locs 0 0 Q (F0 m 60 ls [.long j_6])) hf (fun j_6 hf => ?_) (fun k_7 hk_7 hf => ?_)
      · intro H locs ls hW hS hl
        refine lv_lload_n hx hb dX2_lowestTerm_60 rfl (lv_at hl 0 rfl) ?_
        obtain ⟨hd, hf⟩ := dvl_s hf
        refine lv_ldiv hx hb dX2_lowestTerm_61 hd ?_
        refine lv_goto (tgt := 66) hx hb dX2_lowestTerm_62 (by decide) ?_
        subst hQ
        exact mrl hx hb hr hlocks hZ hT hS hW ⟨Option.some.inj hf, rfl⟩ dX2_lowestTerm_66
      · refine lv_if_eq (tgt := 59) hx hb dX2_lowestTerm_50 (by decide) (fun hc => ?_) (fun hc => ?_)
        · have hf := ift hc hf
          refine lv_lload_n hx hb dX2_lowestTerm_59 rfl (lv_at hl 0 rfl) ?_
          exact hk_7 a0 hf H locs ls hW hS (lv_sub hl [2] rfl)
        · have hf := iff_ hc hf
          refine lv_ldc2 (v := 10000000000) hx hb hown (htg _ lk_X2_41) dX2_lowestTerm_53 ?_
          refine lv_goto (tgt := 60) hx hb dX2_lowestTerm_56 (by decide) ?_
          exact hk_7 10000000000 hf H locs ls hW hS (lv_sub hl [2] rfl)
  · refine lv_icmp_ge (tgt := 43) hx hb dX2_lowestTerm_14 (by decide) (fun hc => ?_) (fun hc => ?_)
    · have hf := ift hc hf
      exact hk_5  hf H locs ls hW hS (lv_sub hl [0, 1, 2] rfl)
    · have hf := iff_ hc hf
      refine lv_lload hx hb dX2_lowestTerm_17 (lv_at hl 3 rfl) ?_
      refine lv_lconst (v := 0) hx hb dX2_lowestTerm_19 (by decide) ?_
      refine W.lcmp hx hb dX2_lowestTerm_20 ?_
      refine lv_if_eq (tgt := 43) hx hb dX2_lowestTerm_21 (by decide) (fun hc => ?_) (fun hc => ?_)
      · have hf := ift hc hf
        exact hk_5  hf H locs ls hW hS (lv_sub hl [0, 1, 2] rfl)
      · have hf := iff_ hc hf
        refine lv_lload_n hx hb dX2_lowestTerm_24 rfl (lv_at hl 2 rfl) ?_
        refine lv_lload hx hb dX2_lowestTerm_25 (lv_at hl 3 rfl) ?_
        obtain ⟨hd, hf⟩ := dvl_s hf
        refine lv_lrem hx hb dX2_lowestTerm_27 hd ?_
        refine mnml hf (fun (x_8 : Int64) hf => ?_)
        refine lv_lstore (lv' := [(8, .long x_8), (0, .long a0), (2, .int a2), (3, .long j_1), (5, .long j_2), (7, .int i_3)]) hx hb dX2_lowestTerm_28 hl (by decide) rfl (fun ls hl => ?_)
        refine lv_lload hx hb dX2_lowestTerm_30 (lv_at hl 4 rfl) ?_
        refine lv_lstore_n (lv' := [(3, .long j_2), (8, .long x_8), (0, .long a0), (2, .int a2), (5, .long j_2), (7, .int i_3)]) hx hb dX2_lowestTerm_32 rfl hl (by decide) rfl (fun ls hl => ?_)
        refine lv_lload hx hb dX2_lowestTerm_33 (lv_at hl 1 rfl) ?_
        refine lv_lstore (lv' := [(5, .long x_8), (3, .long j_2), (8, .long x_8), (0, .long a0), (2, .int a2), (7, .int i_3)]) hx hb dX2_lowestTerm_35 hl (by decide) rfl (fun ls hl => ?_)
        obtain ⟨x_9, e_10, hf⟩ := nm_s hf
        refine lv_iinc (v := x_9) (lv' := [(7, .int x_9), (5, .long x_8), (3, .long j_2), (8, .long x_8), (0, .long a0), (2, .int a2)]) hx hb dX2_lowestTerm_37 hl (k := 5) rfl (by rw [e_10]; rfl) (by decide) rfl (fun ls hl => ?_)
        refine lv_goto (tgt := 10) hx hb dX2_lowestTerm_40 (by decide) ?_
        exact hk_4 j_2 x_8 x_9 hf H locs ls hW hS (lv_sub hl [4, 5, 2, 1, 0] rfl)
def f_X11_wishes (σ : Mem) (p0 : Nat) : Option (Int32) :=
  bd1 (f_X12_get σ (p0 + 1) (lnNum.getD 4 0)) (fun (r_1 : Int32) => some r_1)
set_option maxHeartbeats 4000000 in
set_option maxRecDepth 100000 in
theorem c_X11_wishes (g : XG) (l : Launch) (lo n : Nat) (σ : Mem) (p0 : Nat) (t0 : tp 11 lo n p0) (r : Int32) (hf : f_X11_wishes σ p0 = some r) : Met l yX11_wishes (wx (.code yX11_wishes cX11_wishes 1 (some .int))) (kr 1 21) (va_Pc [.ref (bs g p0)] (WS g lo n σ)) (Qi' g lo n r σ) 0 0 (Ag g lo) := by
  refine Met.ofW (cc := cX11_wishes) (maxL := 1) (ret := (some .int)) (by decide) rfl ?_
  intro p e s m args below meth c s₁ B hml hv
  obtain ⟨rfl, hZ, hT, hW⟩ := hv
  have hx := B.exec
  have hb := B.bytes
  have hr := B.returns
  have hts : ∀ w ∈ wx (.code yX11_wishes cX11_wishes 1 (some .int)), w.before _ s = true := atoms_spec B.pre
  have htg : ∀ w ∈ lwg, w.before _ s = true := fun w h => hts w (List.mem_cons_of_mem _ h)
  have hown : s.vm.findClass RX11 = some m.cls := findClass_of_methodNamed B.named
  have hlocks := B.notSynchronized
  change W p l e (kr 1 21) s m (List.toArray [.ref (bs g p0)]) below meth c s.heap [] 0 0 (MQ below (Qi' g lo n r σ) (List.toArray [.ref (bs g p0)]) s 0 0 (Ag g lo)) _
  generalize hQ : MQ below (Qi' g lo n r σ) (List.toArray [.ref (bs g p0)]) s 0 0 (Ag g lo) = Q
  have hS : va_S (Ag g lo) s.heap s.heap [] := va_S.rf
  have hl := lv_entry ([.ref (bs g p0)]) (n := 1) (Nat.le_of_ble_eq_true rfl)
  rw [lg_entry_eq]
  generalize (lg_sl ([.ref (bs g p0)]) ++ List.replicate (1 - (lg_sl ([.ref (bs g p0)])).length) Slot.unset).toArray = ls at hl ⊢
  have hl : lv_has ls 1 [(0, .ref (bs g p0))] := hl
  delta f_X11_wishes at hf
  obtain ⟨H, hH⟩ : ∃ H, H = s.heap := ⟨_, rfl⟩
  obtain ⟨locs, hLc⟩ : ∃ z : List Loc, z = [] := ⟨_, rfl⟩
  have hS : va_S (Ag g lo) s.heap H locs := by rw [hH, hLc]; exact hS
  have hW : Wd g lo n σ H := by rw [hH]; exact hW
  suffices hG : W p l e (kr 1 21) s m (List.toArray [.ref (bs g p0)]) below meth c H locs 0 0 Q (F0 m 0 ls []) by rw [hH, hLc] at hG; exact hG
  clear hH hLc
  refine lv_aload_n hx hb dX11_wishes_0 rfl (lv_at hl 0 rfl) ?_
  refine gf_11_4 hx hb htg (htg _ lf_X11_13) hown hZ hW t0 dX11_wishes_1 ?_
  refine va_gets hx hb ((hT.1.1.1 4 (by decide)).1.narrow (fun q h => ag_a0 g lo q h)) hS hown (htg _ lf_X11_92) (fun _ h => h) dX11_wishes_4 ?_
  refine gEN_number hx hb ln_X11_71 hown hZ hT hS (show 4 < 7 by decide) dX11_wishes_7 ?_
  refine mcip hf hS (fun r h => va_runSN (As := [.ref (bs g (p0 + 1)), .int (lnNum.getD 4 0)]) (rest := []) ⟨hx, hb, hml, hown, hts⟩ (c_X12_get g l lo n σ (p0 + 1) (lnNum.getD 4 0) (t0.sub 20 1 so_11_20_1) r h) (cl_X11_76 hts hZ ⟨Nat.le_of_ble_eq_true rfl, Nat.le_of_ble_eq_true rfl⟩) (mpS hZ hT hS hW _) rfl rfl hl.1 rfl (lv_room (Nat.le_of_ble_eq_true rfl)) dX11_wishes_10 ⟨Nat.zero_le _, Nat.zero_le _⟩) (fun r_1 H locs hf hW hS => ?_)
  subst hQ
  exact mri hx hb hr hlocks hZ hT hS hW ⟨Option.some.inj hf, rfl⟩ dX11_wishes_13
def f_X9_visitor (σ : Mem) (p0 : Nat) (a1 : Int32) : Option (Int32) :=
  bd1 (f_X12_inside a1 30) (fun (r_1 : Int32) => (if r_1 = 0 then some (-2) else bd1 (f_X12_get σ (p0 + 1) a1) (fun (r_2 : Int32) => some r_2)))
set_option maxHeartbeats 4000000 in
set_option maxRecDepth 100000 in
theorem c_X9_visitor (g : XG) (l : Launch) (lo n : Nat) (σ : Mem) (p0 : Nat) (a1 : Int32) (t0 : tp 9 lo n p0) (r : Int32) (hf : f_X9_visitor σ p0 a1 = some r) : Met l yX9_visitor (wx (.code yX9_visitor cX9_visitor 2 (some .int))) (kr 1 21) (va_Pc [.ref (bs g p0), .int a1] (WS g lo n σ)) (Qi' g lo n r σ) 0 0 (Ag g lo) := by
  refine Met.ofW (cc := cX9_visitor) (maxL := 2) (ret := (some .int)) (by decide) rfl ?_
  intro p e s m args below meth c s₁ B hml hv
  obtain ⟨rfl, hZ, hT, hW⟩ := hv
  have hx := B.exec
  have hb := B.bytes
  have hr := B.returns
  have hts : ∀ w ∈ wx (.code yX9_visitor cX9_visitor 2 (some .int)), w.before _ s = true := atoms_spec B.pre
  have htg : ∀ w ∈ lwg, w.before _ s = true := fun w h => hts w (List.mem_cons_of_mem _ h)
  have hown : s.vm.findClass RX9 = some m.cls := findClass_of_methodNamed B.named
  have hlocks := B.notSynchronized
  change W p l e (kr 1 21) s m (List.toArray [.ref (bs g p0), .int a1]) below meth c s.heap [] 0 0 (MQ below (Qi' g lo n r σ) (List.toArray [.ref (bs g p0), .int a1]) s 0 0 (Ag g lo)) _
  generalize hQ : MQ below (Qi' g lo n r σ) (List.toArray [.ref (bs g p0), .int a1]) s 0 0 (Ag g lo) = Q
  have hS : va_S (Ag g lo) s.heap s.heap [] := va_S.rf
  have hl := lv_entry ([.ref (bs g p0), .int a1]) (n := 2) (Nat.le_of_ble_eq_true rfl)
  rw [lg_entry_eq]
  generalize (lg_sl ([.ref (bs g p0), .int a1]) ++ List.replicate (2 - (lg_sl ([.ref (bs g p0), .int a1])).length) Slot.unset).toArray = ls at hl ⊢
  have hl : lv_has ls 2 [(0, .ref (bs g p0)), (1, .int a1)] := hl
  delta f_X9_visitor at hf
  obtain ⟨H, hH⟩ : ∃ H, H = s.heap := ⟨_, rfl⟩
  obtain ⟨locs, hLc⟩ : ∃ z : List Loc, z = [] := ⟨_, rfl⟩
  have hS : va_S (Ag g lo) s.heap H locs := by rw [hH, hLc]; exact hS
  have hW : Wd g lo n σ H := by rw [hH]; exact hW
  suffices hG : W p l e (kr 1 21) s m (List.toArray [.ref (bs g p0), .int a1]) below meth c H locs 0 0 Q (F0 m 0 ls []) by rw [hH, hLc] at hG; exact hG
  clear hH hLc
  refine lv_iload_n hx hb dX9_visitor_0 rfl (lv_at hl 1 rfl) ?_
  refine lv_bipush (v := 30) hx hb dX9_visitor_1 (by decide) ?_
  refine mcip hf hS (fun r h => va_runSN (As := [.int a1, .int 30]) (rest := []) ⟨hx, hb, hml, hown, hts⟩ (c_X12_inside g l lo n σ a1 30 r h) (cl_X9_49 hts hZ ⟨Nat.le_of_ble_eq_true rfl, Nat.le_of_ble_eq_true rfl⟩) (mpS hZ hT hS hW _) rfl rfl hl.1 rfl (lv_room (Nat.le_of_ble_eq_true rfl)) dX9_visitor_3 ⟨Nat.zero_le _, Nat.zero_le _⟩) (fun r_1 H locs hf hW hS => ?_)
  refine lv_if_eq (tgt := 20) hx hb dX9_visitor_6 (by decide) (fun hc => ?_) (fun hc => ?_)
  · have hf := ift hc hf
    refine lv_bipush (v := (-2)) hx hb dX9_visitor_20 (by decide) ?_
    subst hQ
    exact mri hx hb hr hlocks hZ hT hS hW ⟨Option.some.inj hf, rfl⟩ dX9_visitor_22
  · have hf := iff_ hc hf
    refine lv_aload_n hx hb dX9_visitor_9 rfl (lv_at hl 0 rfl) ?_
    refine gf_9_3 hx hb htg (htg _ lf_X9_9) hown hZ hW t0 dX9_visitor_10 ?_
    refine lv_iload_n hx hb dX9_visitor_13 rfl (lv_at hl 1 rfl) ?_
    refine mcip hf hS (fun r h => va_runSN (As := [.ref (bs g (p0 + 1)), .int a1]) (rest := []) ⟨hx, hb, hml, hown, hts⟩ (c_X12_get g l lo n σ (p0 + 1) a1 (t0.sub 20 1 so_9_20_1) r h) (cl_X9_53 hts hZ ⟨Nat.le_of_ble_eq_true rfl, Nat.le_of_ble_eq_true rfl⟩) (mpS hZ hT hS hW _) rfl rfl hl.1 rfl (lv_room (Nat.le_of_ble_eq_true rfl)) dX9_visitor_14 ⟨Nat.zero_le _, Nat.zero_le _⟩) (fun r_2 H locs hf hW hS => ?_)
    refine lv_goto (tgt := 22) hx hb dX9_visitor_17 (by decide) ?_
    subst hQ
    exact mri hx hb hr hlocks hZ hT hS hW ⟨Option.some.inj hf, rfl⟩ dX9_visitor_22
def f_X9_latestVisit (σ : Mem) (p0 : Nat) (a1 : Int32) (a2 : Int32) : Option (Int32) :=
  nm (if 29 < a2 then 29 else a2) (fun (x_1 : Int32) => fx1 FU (fun k_3 (i_2 : Int32) => (if i_2 < 0 then some (-2) else bd1 (f_X9_visitor σ p0 i_2) (fun (r_4 : Int32) => (if r_4 = a1 then some i_2 else nm (i_2 + (-1)) (fun (x_5 : Int32) => k_3 x_5))))) x_1)
set_option maxHeartbeats 4000000 in
set_option maxRecDepth 100000 in
theorem c_X9_latestVisit (g : XG) (l : Launch) (lo n : Nat) (σ : Mem) (p0 : Nat) (a1 : Int32) (a2 : Int32) (t0 : tp 9 lo n p0) (r : Int32) (hf : f_X9_latestVisit σ p0 a1 a2 = some r) : Met l yX9_latestVisit (wx (.code yX9_latestVisit cX9_latestVisit 4 (some .int))) (kr 2 60) (va_Pc [.ref (bs g p0), .int a1, .int a2] (WS g lo n σ)) (Qi' g lo n r σ) 0 0 (Ag g lo) := by
  refine Met.ofW (cc := cX9_latestVisit) (maxL := 4) (ret := (some .int)) (by decide) rfl ?_
  intro p e s m args below meth c s₁ B hml hv
  obtain ⟨rfl, hZ, hT, hW⟩ := hv
  have hx := B.exec
  have hb := B.bytes
  have hr := B.returns
  have hts : ∀ w ∈ wx (.code yX9_latestVisit cX9_latestVisit 4 (some .int)), w.before _ s = true := atoms_spec B.pre
  have htg : ∀ w ∈ lwg, w.before _ s = true := fun w h => hts w (List.mem_cons_of_mem _ h)
  have hown : s.vm.findClass RX9 = some m.cls := findClass_of_methodNamed B.named
  have hlocks := B.notSynchronized
  change W p l e (kr 2 60) s m (List.toArray [.ref (bs g p0), .int a1, .int a2]) below meth c s.heap [] 0 0 (MQ below (Qi' g lo n r σ) (List.toArray [.ref (bs g p0), .int a1, .int a2]) s 0 0 (Ag g lo)) _
  generalize hQ : MQ below (Qi' g lo n r σ) (List.toArray [.ref (bs g p0), .int a1, .int a2]) s 0 0 (Ag g lo) = Q
  have hS : va_S (Ag g lo) s.heap s.heap [] := va_S.rf
  have hl := lv_entry ([.ref (bs g p0), .int a1, .int a2]) (n := 4) (Nat.le_of_ble_eq_true rfl)
  rw [lg_entry_eq]
  generalize (lg_sl ([.ref (bs g p0), .int a1, .int a2]) ++ List.replicate (4 - (lg_sl ([.ref (bs g p0), .int a1, .int a2])).length) Slot.unset).toArray = ls at hl ⊢
  have hl : lv_has ls 4 [(0, .ref (bs g p0)), (1, .int a1), (2, .int a2)] := hl
  delta f_X9_latestVisit at hf
  obtain ⟨H, hH⟩ : ∃ H, H = s.heap := ⟨_, rfl⟩
  obtain ⟨locs, hLc⟩ : ∃ z : List Loc, z = [] := ⟨_, rfl⟩
  have hS : va_S (Ag g lo) s.heap H locs := by rw [hH, hLc]; exact hS
  have hW : Wd g lo n σ H := by rw [hH]; exact hW
  suffices hG : W p l e (kr 2 60) s m (List.toArray [.ref (bs g p0), .int a1, .int a2]) below meth c H locs 0 0 Q (F0 m 0 ls []) by rw [hH, hLc] at hG; exact hG
  clear hH hLc
  refine lv_iload_n hx hb dX9_latestVisit_0 rfl (lv_at hl 2 rfl) ?_
  refine lv_bipush (v := 29) hx hb dX9_latestVisit_1 (by decide) ?_
  refine va_mmin hx hb (hml.trans hl.1.symm) hown (htg _ lm_X9_69) (htg _ lst_Math_min) (htg _ ini_Math) (htg _ lc_Math_min) (Nat.le_of_ble_eq_true rfl) (Nat.le_of_ble_eq_true rfl) (Nat.zero_le _) (Nat.zero_le _) dX9_latestVisit_3 ?_
  refine mnmi hf (fun (x_1 : Int32) hf => ?_)
  refine lv_istore_n (lv' := [(3, .int x_1), (0, .ref (bs g p0)), (1, .int a1), (2, .int a2)]) hx hb dX9_latestVisit_6 rfl hl (by decide) rfl (fun ls hl => ?_)
  refine fx1_W (fun (i_2 : Int32) => ∀ (H : Heap) (locs : List Loc) (ls : Array Slot), Wd g lo n σ H → va_S (Ag g lo) s.heap H locs → lv_has ls 4 [(0, .ref (bs g p0)), (1, .int a1), (3, .int i_2)] → W p l e (kr 2 60) s m (List.toArray [.ref (bs g p0), .int a1, .int a2]) below meth c H locs 0 0 Q (F0 m 7 ls [])) (fun k_3 hk_3 i_2 hf => ?_) FU x_1 hf H locs ls hW hS (lv_sub hl [1, 2, 0] rfl)
  intro H locs ls hW hS hl
  refine lv_iload_n hx hb dX9_latestVisit_7 rfl (lv_at hl 2 rfl) ?_
  refine lv_if_lt (tgt := 28) hx hb dX9_latestVisit_8 (by decide) (fun hc => ?_) (fun hc => ?_)
  · have hf := ift hc hf
    refine lv_bipush (v := (-2)) hx hb dX9_latestVisit_28 (by decide) ?_
    subst hQ
    exact mri hx hb hr hlocks hZ hT hS hW ⟨Option.some.inj hf, rfl⟩ dX9_latestVisit_30
  · have hf := iff_ hc hf
    refine lv_aload_n hx hb dX9_latestVisit_11 rfl (lv_at hl 0 rfl) ?_
    refine lv_iload_n hx hb dX9_latestVisit_12 rfl (lv_at hl 2 rfl) ?_
    refine mcip hf hS (fun r h => va_runV (As := [.int i_2]) (rest := []) ⟨hx, hb, hml, hown, hts⟩ (c_X9_visitor g l lo n σ p0 i_2 t0 r h) (cl_X9_61 hts ⟨Nat.le_of_ble_eq_true rfl, Nat.le_of_ble_eq_true rfl⟩) (mpV_9 hZ hT hS hW t0 _) rfl rfl hl.1 rfl (lv_room (Nat.le_of_ble_eq_true rfl)) dX9_latestVisit_13 ⟨Nat.zero_le _, Nat.zero_le _⟩) (fun r_4 H locs hf hW hS => ?_)
    refine lv_iload_n hx hb dX9_latestVisit_16 rfl (lv_at hl 1 rfl) ?_
    refine lv_icmp_ne (tgt := 22) hx hb dX9_latestVisit_17 (by decide) (fun hc => ?_) (fun hc => ?_)
    · have hf := iff_ hc hf
      obtain ⟨x_5, e_6, hf⟩ := nm_s hf
      refine lv_iinc (v := x_5) (lv' := [(3, .int x_5), (0, .ref (bs g p0)), (1, .int a1)]) hx hb dX9_latestVisit_22 hl (k := 2) rfl (by rw [e_6]; rfl) (by decide) rfl (fun ls hl => ?_)
      refine lv_goto (tgt := 7) hx hb dX9_latestVisit_25 (by decide) ?_
      exact hk_3 x_5 hf H locs ls hW hS (lv_sub hl [1, 2, 0] rfl)
    · have hf := ift hc hf
      refine lv_iload_n hx hb dX9_latestVisit_20 rfl (lv_at hl 2 rfl) ?_
      subst hQ
      exact mri hx hb hr hlocks hZ hT hS hW ⟨Option.some.inj hf, rfl⟩ dX9_latestVisit_21
def f_X11_isShut (σ : Mem) (p0 : Nat) (a1 : Int32) : Option (Int32) :=
  dvd 7 ((if (a1 - a1 / 7 * 7) = (σ.1 p0 3) then some 1 else some 0))
set_option maxHeartbeats 4000000 in
set_option maxRecDepth 100000 in
theorem c_X11_isShut (g : XG) (l : Launch) (lo n : Nat) (σ : Mem) (p0 : Nat) (a1 : Int32) (t0 : tp 11 lo n p0) (r : Int32) (hf : f_X11_isShut σ p0 a1 = some r) : Met l yX11_isShut (wx (.code yX11_isShut cX11_isShut 2 (some .boolean))) (kr 0 0) (va_Pc [.ref (bs g p0), .int a1] (WS g lo n σ)) (Qi' g lo n r σ) 0 0 (Ag g lo) := by
  refine Met.ofW (cc := cX11_isShut) (maxL := 2) (ret := (some .boolean)) (by decide) rfl ?_
  intro p e s m args below meth c s₁ B hml hv
  obtain ⟨rfl, hZ, hT, hW⟩ := hv
  have hx := B.exec
  have hb := B.bytes
  have hr := B.returns
  have hts : ∀ w ∈ wx (.code yX11_isShut cX11_isShut 2 (some .boolean)), w.before _ s = true := atoms_spec B.pre
  have htg : ∀ w ∈ lwg, w.before _ s = true := fun w h => hts w (List.mem_cons_of_mem _ h)
  have hown : s.vm.findClass RX11 = some m.cls := findClass_of_methodNamed B.named
  have hlocks := B.notSynchronized
  change W p l e (kr 0 0) s m (List.toArray [.ref (bs g p0), .int a1]) below meth c s.heap [] 0 0 (MQ below (Qi' g lo n r σ) (List.toArray [.ref (bs g p0), .int a1]) s 0 0 (Ag g lo)) _
  generalize hQ : MQ below (Qi' g lo n r σ) (List.toArray [.ref (bs g p0), .int a1]) s 0 0 (Ag g lo) = Q
  have hS : va_S (Ag g lo) s.heap s.heap [] := va_S.rf
  have hl := lv_entry ([.ref (bs g p0), .int a1]) (n := 2) (Nat.le_of_ble_eq_true rfl)
  rw [lg_entry_eq]
  generalize (lg_sl ([.ref (bs g p0), .int a1]) ++ List.replicate (2 - (lg_sl ([.ref (bs g p0), .int a1])).length) Slot.unset).toArray = ls at hl ⊢
  have hl : lv_has ls 2 [(0, .ref (bs g p0)), (1, .int a1)] := hl
  delta f_X11_isShut at hf
  obtain ⟨H, hH⟩ : ∃ H, H = s.heap := ⟨_, rfl⟩
  obtain ⟨locs, hLc⟩ : ∃ z : List Loc, z = [] := ⟨_, rfl⟩
  have hS : va_S (Ag g lo) s.heap H locs := by rw [hH, hLc]; exact hS
  have hW : Wd g lo n σ H := by rw [hH]; exact hW
  suffices hG : W p l e (kr 0 0) s m (List.toArray [.ref (bs g p0), .int a1]) below meth c H locs 0 0 Q (F0 m 0 ls []) by rw [hH, hLc] at hG; exact hG
  clear hH hLc
  refine lv_iload_n hx hb dX11_isShut_0 rfl (lv_at hl 1 rfl) ?_
  refine lv_bipush (v := 7) hx hb dX11_isShut_1 (by decide) ?_
  obtain ⟨hd, hf⟩ := dvd_s hf
  refine lv_irem hx hb dX11_isShut_3 hd ?_
  refine lv_aload_n hx hb dX11_isShut_4 rfl (lv_at hl 0 rfl) ?_
  refine gf_11_3 hx hb htg (htg _ lf_X11_64) hown hZ hW t0 dX11_isShut_5 ?_
  refine lv_icmp_ne (tgt := 15) hx hb dX11_isShut_8 (by decide) (fun hc => ?_) (fun hc => ?_)
  · have hf := iff_ hc hf
    refine lv_iconst (v := 0) hx hb dX11_isShut_15 (by decide) ?_
    subst hQ
    exact mrz hx hb hr hlocks hZ hT hS hW (by decide) ⟨Option.some.inj hf, rfl⟩ dX11_isShut_16
  · have hf := ift hc hf
    refine lv_iconst (v := 1) hx hb dX11_isShut_11 (by decide) ?_
    refine lv_goto (tgt := 16) hx hb dX11_isShut_12 (by decide) ?_
    subst hQ
    exact mrz hx hb hr hlocks hZ hT hS hW (by decide) ⟨Option.some.inj hf, rfl⟩ dX11_isShut_16
def f_X9_isFree (σ : Mem) (p0 : Nat) (a1 : Int32) : Option (Int32) :=
  jn0 (some 0) (fun k_1 => (if a1 < (σ.1 p0 1) then k_1 else rfc (σ.2.2 p0 0) (fun (T_2 : Nat) => bd1 (f_X11_isShut σ T_2 a1) (fun (r_3 : Int32) => (if r_3 = 0 then bd1 (f_X9_visitor σ p0 a1) (fun (r_4 : Int32) => (if r_4 = (-2) then some 1 else k_1)) else k_1)))))
set_option maxHeartbeats 4000000 in
set_option maxRecDepth 100000 in
theorem c_X9_isFree (g : XG) (l : Launch) (lo n : Nat) (σ : Mem) (p0 : Nat) (a1 : Int32) (t0 : tp 9 lo n p0) (r : Int32) (hf : f_X9_isFree σ p0 a1 = some r) : Met l yX9_isFree (wx (.code yX9_isFree cX9_isFree 2 (some .boolean))) (kr 2 42) (va_Pc [.ref (bs g p0), .int a1] (WS g lo n σ)) (Qi' g lo n r σ) 0 0 (Ag g lo) := by
  refine Met.ofW (cc := cX9_isFree) (maxL := 2) (ret := (some .boolean)) (by decide) rfl ?_
  intro p e s m args below meth c s₁ B hml hv
  obtain ⟨rfl, hZ, hT, hW⟩ := hv
  have hx := B.exec
  have hb := B.bytes
  have hr := B.returns
  have hts : ∀ w ∈ wx (.code yX9_isFree cX9_isFree 2 (some .boolean)), w.before _ s = true := atoms_spec B.pre
  have htg : ∀ w ∈ lwg, w.before _ s = true := fun w h => hts w (List.mem_cons_of_mem _ h)
  have hown : s.vm.findClass RX9 = some m.cls := findClass_of_methodNamed B.named
  have hlocks := B.notSynchronized
  change W p l e (kr 2 42) s m (List.toArray [.ref (bs g p0), .int a1]) below meth c s.heap [] 0 0 (MQ below (Qi' g lo n r σ) (List.toArray [.ref (bs g p0), .int a1]) s 0 0 (Ag g lo)) _
  generalize hQ : MQ below (Qi' g lo n r σ) (List.toArray [.ref (bs g p0), .int a1]) s 0 0 (Ag g lo) = Q
  have hS : va_S (Ag g lo) s.heap s.heap [] := va_S.rf
  have hl := lv_entry ([.ref (bs g p0), .int a1]) (n := 2) (Nat.le_of_ble_eq_true rfl)
  rw [lg_entry_eq]
  generalize (lg_sl ([.ref (bs g p0), .int a1]) ++ List.replicate (2 - (lg_sl ([.ref (bs g p0), .int a1])).length) Slot.unset).toArray = ls at hl ⊢
  have hl : lv_has ls 2 [(0, .ref (bs g p0)), (1, .int a1)] := hl
  delta f_X9_isFree at hf
  obtain ⟨H, hH⟩ : ∃ H, H = s.heap := ⟨_, rfl⟩
  obtain ⟨locs, hLc⟩ : ∃ z : List Loc, z = [] := ⟨_, rfl⟩
  have hS : va_S (Ag g lo) s.heap H locs := by rw [hH, hLc]; exact hS
  have hW : Wd g lo n σ H := by rw [hH]; exact hW
  suffices hG : W p l e (kr 2 42) s m (List.toArray [.ref (bs g p0), .int a1]) below meth c H locs 0 0 Q (F0 m 0 ls []) by rw [hH, hLc] at hG; exact hG
  clear hH hLc
  refine lv_iload_n hx hb dX9_isFree_0 rfl (lv_at hl 1 rfl) ?_
  refine lv_aload_n hx hb dX9_isFree_1 rfl (lv_at hl 0 rfl) ?_
  refine gf_9_1 hx hb htg (htg _ lf_X9_30) hown hZ hW t0 dX9_isFree_2 ?_
  refine jn0_W (∀ (H : Heap) (locs : List Loc) (ls : Array Slot), Wd g lo n σ H → va_S (Ag g lo) s.heap H locs → lv_has ls 2 [] → W p l e (kr 2 42) s m (List.toArray [.ref (bs g p0), .int a1]) below meth c H locs 0 0 Q (F0 m 33 ls [])) hf (fun  hf => ?_) (fun k_1 hk_1 hf => ?_)
  · intro H locs ls hW hS hl
    refine lv_iconst (v := 0) hx hb dX9_isFree_33 (by decide) ?_
    subst hQ
    exact mrz hx hb hr hlocks hZ hT hS hW (by decide) ⟨Option.some.inj hf, rfl⟩ dX9_isFree_34
  · refine lv_icmp_lt (tgt := 33) hx hb dX9_isFree_5 (by decide) (fun hc => ?_) (fun hc => ?_)
    · have hf := ift hc hf
      exact hk_1  hf H locs ls hW hS (lv_sub hl [] rfl)
    · have hf := iff_ hc hf
      refine lv_aload_n hx hb dX9_isFree_8 rfl (lv_at hl 0 rfl) ?_
      refine gf_9_0 hx hb htg (htg _ lf_X9_26) hown hZ hW t0 dX9_isFree_9 hf (fun T_2 tT_2 hf => ?_)
      refine lv_iload_n hx hb dX9_isFree_12 rfl (lv_at hl 1 rfl) ?_
      refine mcip hf hS (fun r h => va_runV (As := [.int a1]) (rest := []) ⟨hx, hb, hml, hown, hts⟩ (c_X11_isShut g l lo n σ T_2 a1 tT_2 r h) (cl_X9_65 hts ⟨Nat.le_of_ble_eq_true rfl, Nat.le_of_ble_eq_true rfl⟩) (mpV_11 hZ hT hS hW tT_2 _) rfl rfl hl.1 rfl (lv_room (Nat.le_of_ble_eq_true rfl)) dX9_isFree_13 ⟨Nat.zero_le _, Nat.zero_le _⟩) (fun r_3 H locs hf hW hS => ?_)
      refine lv_if_ne (tgt := 33) hx hb dX9_isFree_16 (by decide) (fun hc => ?_) (fun hc => ?_)
      · have hf := iff_ hc hf
        exact hk_1  hf H locs ls hW hS (lv_sub hl [] rfl)
      · have hf := ift hc hf
        refine lv_aload_n hx hb dX9_isFree_19 rfl (lv_at hl 0 rfl) ?_
        refine lv_iload_n hx hb dX9_isFree_20 rfl (lv_at hl 1 rfl) ?_
        refine mcip hf hS (fun r h => va_runV (As := [.int a1]) (rest := []) ⟨hx, hb, hml, hown, hts⟩ (c_X9_visitor g l lo n σ p0 a1 t0 r h) (cl_X9_61 hts ⟨Nat.le_of_ble_eq_true rfl, Nat.le_of_ble_eq_true rfl⟩) (mpV_9 hZ hT hS hW t0 _) rfl rfl hl.1 rfl (lv_room (Nat.le_of_ble_eq_true rfl)) dX9_isFree_21 ⟨Nat.zero_le _, Nat.zero_le _⟩) (fun r_4 H locs hf hW hS => ?_)
        refine lv_bipush (v := (-2)) hx hb dX9_isFree_24 (by decide) ?_
        refine lv_icmp_ne (tgt := 33) hx hb dX9_isFree_26 (by decide) (fun hc => ?_) (fun hc => ?_)
        · have hf := iff_ hc hf
          exact hk_1  hf H locs ls hW hS (lv_sub hl [] rfl)
        · have hf := ift hc hf
          refine lv_iconst (v := 1) hx hb dX9_isFree_29 (by decide) ?_
          refine lv_goto (tgt := 34) hx hb dX9_isFree_30 (by decide) ?_
          subst hQ
          exact mrz hx hb hr hlocks hZ hT hS hW (by decide) ⟨Option.some.inj hf, rfl⟩ dX9_isFree_34
def f_X9_beliefBy (σ : Mem) (p0 : Nat) (a1 : Int32) (a2 : Int32) : Option (Int32) :=
  jn1 (fun (i_1 : Int32) => rfc (σ.2.2 p0 0) (fun (T_3 : Nat) => bd1 (f_X12_get σ (T_3 + 3) a1) (fun (r_4 : Int32) => (if r_4 = 3 then some (i_1 &&& (-3073)) else some i_1)))) (fun k_2 => (if 0 ≤ a2 then rfc (σ.2.2 p0 0) (fun (T_5 : Nat) => nm (if (a2 - (σ.1 T_5 2)) < 0 then 0 else (a2 - (σ.1 T_5 2))) (fun (x_6 : Int32) => bd1 (f_X5_at σ (p0 + 2) a1 x_6) (fun (r_7 : Int32) => k_2 r_7))) else rfc (σ.2.2 p0 0) (fun (T_8 : Nat) => bd1 (f_X12_get σ (T_8 + 4) a1) (fun (r_9 : Int32) => k_2 r_9))))
set_option maxHeartbeats 4000000 in
set_option maxRecDepth 100000 in
theorem c_X9_beliefBy (g : XG) (l : Launch) (lo n : Nat) (σ : Mem) (p0 : Nat) (a1 : Int32) (a2 : Int32) (t0 : tp 9 lo n p0) (r : Int32) (hf : f_X9_beliefBy σ p0 a1 a2 = some r) : Met l yX9_beliefBy (wx (.code yX9_beliefBy cX9_beliefBy 4 (some .int))) (kr 1 60) (va_Pc [.ref (bs g p0), .int a1, .int a2] (WS g lo n σ)) (Qi' g lo n r σ) 0 0 (Ag g lo) := by
  refine Met.ofW (cc := cX9_beliefBy) (maxL := 4) (ret := (some .int)) (by decide) rfl ?_
  intro p e s m args below meth c s₁ B hml hv
  obtain ⟨rfl, hZ, hT, hW⟩ := hv
  have hx := B.exec
  have hb := B.bytes
  have hr := B.returns
  have hts : ∀ w ∈ wx (.code yX9_beliefBy cX9_beliefBy 4 (some .int)), w.before _ s = true := atoms_spec B.pre
  have htg : ∀ w ∈ lwg, w.before _ s = true := fun w h => hts w (List.mem_cons_of_mem _ h)
  have hown : s.vm.findClass RX9 = some m.cls := findClass_of_methodNamed B.named
  have hlocks := B.notSynchronized
  change W p l e (kr 1 60) s m (List.toArray [.ref (bs g p0), .int a1, .int a2]) below meth c s.heap [] 0 0 (MQ below (Qi' g lo n r σ) (List.toArray [.ref (bs g p0), .int a1, .int a2]) s 0 0 (Ag g lo)) _
  generalize hQ : MQ below (Qi' g lo n r σ) (List.toArray [.ref (bs g p0), .int a1, .int a2]) s 0 0 (Ag g lo) = Q
  have hS : va_S (Ag g lo) s.heap s.heap [] := va_S.rf
  have hl := lv_entry ([.ref (bs g p0), .int a1, .int a2]) (n := 4) (Nat.le_of_ble_eq_true rfl)
  rw [lg_entry_eq]
  generalize (lg_sl ([.ref (bs g p0), .int a1, .int a2]) ++ List.replicate (4 - (lg_sl ([.ref (bs g p0), .int a1, .int a2])).length) Slot.unset).toArray = ls at hl ⊢
  have hl : lv_has ls 4 [(0, .ref (bs g p0)), (1, .int a1), (2, .int a2)] := hl
  delta f_X9_beliefBy at hf
  obtain ⟨H, hH⟩ : ∃ H, H = s.heap := ⟨_, rfl⟩
  obtain ⟨locs, hLc⟩ : ∃ z : List Loc, z = [] := ⟨_, rfl⟩
  have hS : va_S (Ag g lo) s.heap H locs := by rw [hH, hLc]; exact hS
  have hW : Wd g lo n σ H := by rw [hH]; exact hW
  suffices hG : W p l e (kr 1 60) s m (List.toArray [.ref (bs g p0), .int a1, .int a2]) below meth c H locs 0 0 Q (F0 m 0 ls []) by rw [hH, hLc] at hG; exact hG
  clear hH hLc
  refine lv_iload_n hx hb dX9_beliefBy_0 rfl (lv_at hl 2 rfl) ?_
  refine jn1_W (fun (i_1 : Int32) => ∀ (H : Heap) (locs : List Loc) (ls : Array Slot), Wd g lo n σ H → va_S (Ag g lo) s.heap H locs → lv_has ls 4 [(0, .ref (bs g p0)), (1, .int a1)] → W p l e (kr 1 60) s m (List.toArray [.ref (bs g p0), .int a1, .int a2]) below meth c H locs 0 0 Q (F0 m 39 ls [.int i_1])) hf (fun i_1 hf => ?_) (fun k_2 hk_2 hf => ?_)
  · intro H locs ls hW hS hl
    refine lv_istore_n (lv' := [(3, .int i_1), (0, .ref (bs g p0)), (1, .int a1)]) hx hb dX9_beliefBy_39 rfl hl (by decide) rfl (fun ls hl => ?_)
    refine lv_aload_n hx hb dX9_beliefBy_40 rfl (lv_at hl 1 rfl) ?_
    refine gf_9_0 hx hb htg (htg _ lf_X9_26) hown hZ hW t0 dX9_beliefBy_41 hf (fun T_3 tT_3 hf => ?_)
    refine gfN_11_6 hx hb htg ln_X9_93 hown hZ hW tT_3 dX9_beliefBy_44 ?_
    refine lv_iload_n hx hb dX9_beliefBy_47 rfl (lv_at hl 2 rfl) ?_
    refine mcip hf hS (fun r h => va_runSN (As := [.ref (bs g (T_3 + 3)), .int a1]) (rest := []) ⟨hx, hb, hml, hown, hts⟩ (c_X12_get g l lo n σ (T_3 + 3) a1 (tT_3.sub 20 3 so_11_20_3) r h) (cl_X9_53 hts hZ ⟨Nat.le_of_ble_eq_true rfl, Nat.le_of_ble_eq_true rfl⟩) (mpS hZ hT hS hW _) rfl rfl hl.1 rfl (lv_room (Nat.le_of_ble_eq_true rfl)) dX9_beliefBy_48 ⟨Nat.zero_le _, Nat.zero_le _⟩) (fun r_4 H locs hf hW hS => ?_)
    refine lv_iconst (v := 3) hx hb dX9_beliefBy_51 (by decide) ?_
    refine lv_icmp_ne (tgt := 63) hx hb dX9_beliefBy_52 (by decide) (fun hc => ?_) (fun hc => ?_)
    · have hf := iff_ hc hf
      refine lv_iload_n hx hb dX9_beliefBy_63 rfl (lv_at hl 0 rfl) ?_
      subst hQ
      exact mri hx hb hr hlocks hZ hT hS hW ⟨Option.some.inj hf, rfl⟩ dX9_beliefBy_64
    · have hf := ift hc hf
      refine lv_iload_n hx hb dX9_beliefBy_55 rfl (lv_at hl 0 rfl) ?_
      refine lv_sipush (v := (-3073)) hx hb dX9_beliefBy_56 (by decide) ?_
      refine lv_iand hx hb dX9_beliefBy_59 ?_
      refine lv_goto (tgt := 64) hx hb dX9_beliefBy_60 (by decide) ?_
      subst hQ
      exact mri hx hb hr hlocks hZ hT hS hW ⟨Option.some.inj hf, rfl⟩ dX9_beliefBy_64
  · refine lv_if_ge (tgt := 18) hx hb dX9_beliefBy_1 (by decide) (fun hc => ?_) (fun hc => ?_)
    · have hf := ift hc hf
      refine lv_aload_n hx hb dX9_beliefBy_18 rfl (lv_at hl 0 rfl) ?_
      refine gf_9_4 hx hb htg (htg _ lf_X9_18) hown hZ hW t0 dX9_beliefBy_19 ?_
      refine lv_iload_n hx hb dX9_beliefBy_22 rfl (lv_at hl 1 rfl) ?_
      refine lv_iload_n hx hb dX9_beliefBy_23 rfl (lv_at hl 2 rfl) ?_
      refine lv_aload_n hx hb dX9_beliefBy_24 rfl (lv_at hl 0 rfl) ?_
      refine gf_9_0 hx hb htg (htg _ lf_X9_26) hown hZ hW t0 dX9_beliefBy_25 hf (fun T_5 tT_5 hf => ?_)
      refine gfN_11_2 hx hb htg ln_X9_84 hown hZ hW tT_5 dX9_beliefBy_28 ?_
      refine lv_isub hx hb dX9_beliefBy_31 ?_
      refine lv_iconst (v := 0) hx hb dX9_beliefBy_32 (by decide) ?_
      refine va_mmax hx hb (hml.trans hl.1.symm) hown (htg _ lm_X9_87) (htg _ lst_Math_max) (htg _ ini_Math) (htg _ lc_Math_max) (Nat.le_of_ble_eq_true rfl) (Nat.le_of_ble_eq_true rfl) (Nat.zero_le _) (Nat.zero_le _) dX9_beliefBy_33 ?_
      refine mnmi hf (fun (x_6 : Int32) hf => ?_)
      refine mcip hf hS (fun r h => va_runV (As := [.int a1, .int x_6]) (rest := []) ⟨hx, hb, hml, hown, hts⟩ (c_X5_at g l lo n σ (p0 + 2) a1 x_6 (t0.sub 5 2 so_9_5_2) r h) (cl_X9_90 hts ⟨Nat.le_of_ble_eq_true rfl, Nat.le_of_ble_eq_true rfl⟩) (mpV_5 hZ hT hS hW (t0.sub 5 2 so_9_5_2) _) rfl rfl hl.1 rfl (lv_room (Nat.le_of_ble_eq_true rfl)) dX9_beliefBy_36 ⟨Nat.zero_le _, Nat.zero_le _⟩) (fun r_7 H locs hf hW hS => ?_)
      exact hk_2 r_7 hf H locs ls hW hS (lv_sub hl [0, 1] rfl)
    · have hf := iff_ hc hf
      refine lv_aload_n hx hb dX9_beliefBy_4 rfl (lv_at hl 0 rfl) ?_
      refine gf_9_0 hx hb htg (htg _ lf_X9_26) hown hZ hW t0 dX9_beliefBy_5 hf (fun T_8 tT_8 hf => ?_)
      refine gfN_11_7 hx hb htg ln_X9_81 hown hZ hW tT_8 dX9_beliefBy_8 ?_
      refine lv_iload_n hx hb dX9_beliefBy_11 rfl (lv_at hl 1 rfl) ?_
      refine mcip hf hS (fun r h => va_runSN (As := [.ref (bs g (T_8 + 4)), .int a1]) (rest := []) ⟨hx, hb, hml, hown, hts⟩ (c_X12_get g l lo n σ (T_8 + 4) a1 (tT_8.sub 20 4 so_11_20_4) r h) (cl_X9_53 hts hZ ⟨Nat.le_of_ble_eq_true rfl, Nat.le_of_ble_eq_true rfl⟩) (mpS hZ hT hS hW _) rfl rfl hl.1 rfl (lv_room (Nat.le_of_ble_eq_true rfl)) dX9_beliefBy_12 ⟨Nat.zero_le _, Nat.zero_le _⟩) (fun r_9 H locs hf hW hS => ?_)
      refine lv_goto (tgt := 39) hx hb dX9_beliefBy_15 (by decide) ?_
      exact hk_2 r_9 hf H locs ls hW hS (lv_sub hl [0, 1] rfl)
def f_X5_unlike (a0 : Int32) (a1 : Int32) : Option (Int32) :=
  nm (a0 ^^^ a1) (fun (x_1 : Int32) => bd1 (f_J6_bitCount_0f7a4 ((x_1 ||| (x_1 >>> (1 &&& 31))) &&& 1365)) (fun (r_2 : Int32) => some r_2))
set_option maxHeartbeats 4000000 in
set_option maxRecDepth 100000 in
theorem c_X5_unlike (g : XG) (l : Launch) (lo n : Nat) (σ : Mem) (a0 : Int32) (a1 : Int32) (r : Int32) (hf : f_X5_unlike a0 a1 = some r) : Met l yX5_unlike (wx (.code yX5_unlike cX5_unlike 3 (some .int))) (kr 1 20) (va_Pc [.int a0, .int a1] (WS g lo n σ)) (Qi' g lo n r σ) 0 0 (Ag g lo) := by
  refine Met.ofW (cc := cX5_unlike) (maxL := 3) (ret := (some .int)) (by decide) rfl ?_
  intro p e s m args below meth c s₁ B hml hv
  obtain ⟨rfl, hZ, hT, hW⟩ := hv
  have hx := B.exec
  have hb := B.bytes
  have hr := B.returns
  have hts : ∀ w ∈ wx (.code yX5_unlike cX5_unlike 3 (some .int)), w.before _ s = true := atoms_spec B.pre
  have htg : ∀ w ∈ lwg, w.before _ s = true := fun w h => hts w (List.mem_cons_of_mem _ h)
  have hown : s.vm.findClass RX5 = some m.cls := findClass_of_methodNamed B.named
  have hlocks := B.notSynchronized
  change W p l e (kr 1 20) s m (List.toArray [.int a0, .int a1]) below meth c s.heap [] 0 0 (MQ below (Qi' g lo n r σ) (List.toArray [.int a0, .int a1]) s 0 0 (Ag g lo)) _
  generalize hQ : MQ below (Qi' g lo n r σ) (List.toArray [.int a0, .int a1]) s 0 0 (Ag g lo) = Q
  have hS : va_S (Ag g lo) s.heap s.heap [] := va_S.rf
  have hl := lv_entry ([.int a0, .int a1]) (n := 3) (Nat.le_of_ble_eq_true rfl)
  rw [lg_entry_eq]
  generalize (lg_sl ([.int a0, .int a1]) ++ List.replicate (3 - (lg_sl ([.int a0, .int a1])).length) Slot.unset).toArray = ls at hl ⊢
  have hl : lv_has ls 3 [(0, .int a0), (1, .int a1)] := hl
  delta f_X5_unlike at hf
  obtain ⟨H, hH⟩ : ∃ H, H = s.heap := ⟨_, rfl⟩
  obtain ⟨locs, hLc⟩ : ∃ z : List Loc, z = [] := ⟨_, rfl⟩
  have hS : va_S (Ag g lo) s.heap H locs := by rw [hH, hLc]; exact hS
  have hW : Wd g lo n σ H := by rw [hH]; exact hW
  suffices hG : W p l e (kr 1 20) s m (List.toArray [.int a0, .int a1]) below meth c H locs 0 0 Q (F0 m 0 ls []) by rw [hH, hLc] at hG; exact hG
  clear hH hLc
  refine lv_iload_n hx hb dX5_unlike_0 rfl (lv_at hl 0 rfl) ?_
  refine lv_iload_n hx hb dX5_unlike_1 rfl (lv_at hl 1 rfl) ?_
  refine lv_ixor hx hb dX5_unlike_2 ?_
  refine mnmi hf (fun (x_1 : Int32) hf => ?_)
  refine lv_istore_n (lv' := [(2, .int x_1), (0, .int a0), (1, .int a1)]) hx hb dX5_unlike_3 rfl hl (by decide) rfl (fun ls hl => ?_)
  refine lv_iload_n hx hb dX5_unlike_4 rfl (lv_at hl 0 rfl) ?_
  refine lv_iload_n hx hb dX5_unlike_5 rfl (lv_at hl 0 rfl) ?_
  refine lv_iconst (v := 1) hx hb dX5_unlike_6 (by decide) ?_
  refine lv_ishr hx hb dX5_unlike_7 ?_
  refine lv_ior hx hb dX5_unlike_8 ?_
  refine lv_sipush (v := 1365) hx hb dX5_unlike_9 (by decide) ?_
  refine lv_iand hx hb dX5_unlike_12 ?_
  refine mcip hf hS (fun r h => va_runS (As := [.int ((x_1 ||| (x_1 >>> (1 &&& 31))) &&& 1365)]) (rest := []) ⟨hx, hb, hml, hown, hts⟩ (c_J6_bitCount_0f7a4 g l lo n σ ((x_1 ||| (x_1 >>> (1 &&& 31))) &&& 1365) r h) (cl_X5_40 hts ⟨Nat.le_of_ble_eq_true rfl, Nat.le_of_ble_eq_true rfl⟩) (mpS hZ hT hS hW _) rfl rfl hl.1 rfl (lv_room (Nat.le_of_ble_eq_true rfl)) dX5_unlike_13 ⟨Nat.zero_le _, Nat.zero_le _⟩) (fun r_2 H locs hf hW hS => ?_)
  subst hQ
  exact mri hx hb hr hlocks hZ hT hS hW ⟨Option.some.inj hf, rfl⟩ dX5_unlike_16
def f_X9_knowsBy (σ : Mem) (p0 : Nat) (a1 : Int32) (a2 : Int32) (a3 : Int32) : Option (Int32) :=
  bd1 (f_X5_at σ (p0 + 2) a1 a2) (fun (r_1 : Int32) => bd1 (f_X9_beliefBy σ p0 a1 a3) (fun (r_2 : Int32) => bd1 (f_X5_unlike r_1 r_2) (fun (r_3 : Int32) => rfc (σ.2.2 p0 0) (fun (T_4 : Nat) => (if (σ.1 T_4 1) < r_3 then some 0 else some 1)))))
set_option maxHeartbeats 4000000 in
set_option maxRecDepth 100000 in
theorem c_X9_knowsBy (g : XG) (l : Launch) (lo n : Nat) (σ : Mem) (p0 : Nat) (a1 : Int32) (a2 : Int32) (a3 : Int32) (t0 : tp 9 lo n p0) (r : Int32) (hf : f_X9_knowsBy σ p0 a1 a2 a3 = some r) : Met l yX9_knowsBy (wx (.code yX9_knowsBy cX9_knowsBy 4 (some .boolean))) (kr 2 83) (va_Pc [.ref (bs g p0), .int a1, .int a2, .int a3] (WS g lo n σ)) (Qi' g lo n r σ) 0 0 (Ag g lo) := by
  refine Met.ofW (cc := cX9_knowsBy) (maxL := 4) (ret := (some .boolean)) (by decide) rfl ?_
  intro p e s m args below meth c s₁ B hml hv
  obtain ⟨rfl, hZ, hT, hW⟩ := hv
  have hx := B.exec
  have hb := B.bytes
  have hr := B.returns
  have hts : ∀ w ∈ wx (.code yX9_knowsBy cX9_knowsBy 4 (some .boolean)), w.before _ s = true := atoms_spec B.pre
  have htg : ∀ w ∈ lwg, w.before _ s = true := fun w h => hts w (List.mem_cons_of_mem _ h)
  have hown : s.vm.findClass RX9 = some m.cls := findClass_of_methodNamed B.named
  have hlocks := B.notSynchronized
  change W p l e (kr 2 83) s m (List.toArray [.ref (bs g p0), .int a1, .int a2, .int a3]) below meth c s.heap [] 0 0 (MQ below (Qi' g lo n r σ) (List.toArray [.ref (bs g p0), .int a1, .int a2, .int a3]) s 0 0 (Ag g lo)) _
  generalize hQ : MQ below (Qi' g lo n r σ) (List.toArray [.ref (bs g p0), .int a1, .int a2, .int a3]) s 0 0 (Ag g lo) = Q
  have hS : va_S (Ag g lo) s.heap s.heap [] := va_S.rf
  have hl := lv_entry ([.ref (bs g p0), .int a1, .int a2, .int a3]) (n := 4) (Nat.le_of_ble_eq_true rfl)
  rw [lg_entry_eq]
  generalize (lg_sl ([.ref (bs g p0), .int a1, .int a2, .int a3]) ++ List.replicate (4 - (lg_sl ([.ref (bs g p0), .int a1, .int a2, .int a3])).length) Slot.unset).toArray = ls at hl ⊢
  have hl : lv_has ls 4 [(0, .ref (bs g p0)), (1, .int a1), (2, .int a2), (3, .int a3)] := hl
  delta f_X9_knowsBy at hf
  obtain ⟨H, hH⟩ : ∃ H, H = s.heap := ⟨_, rfl⟩
  obtain ⟨locs, hLc⟩ : ∃ z : List Loc, z = [] := ⟨_, rfl⟩
  have hS : va_S (Ag g lo) s.heap H locs := by rw [hH, hLc]; exact hS
  have hW : Wd g lo n σ H := by rw [hH]; exact hW
  suffices hG : W p l e (kr 2 83) s m (List.toArray [.ref (bs g p0), .int a1, .int a2, .int a3]) below meth c H locs 0 0 Q (F0 m 0 ls []) by rw [hH, hLc] at hG; exact hG
  clear hH hLc
  refine lv_aload_n hx hb dX9_knowsBy_0 rfl (lv_at hl 0 rfl) ?_
  refine gf_9_4 hx hb htg (htg _ lf_X9_18) hown hZ hW t0 dX9_knowsBy_1 ?_
  refine lv_iload_n hx hb dX9_knowsBy_4 rfl (lv_at hl 1 rfl) ?_
  refine lv_iload_n hx hb dX9_knowsBy_5 rfl (lv_at hl 2 rfl) ?_
  refine mcip hf hS (fun r h => va_runV (As := [.int a1, .int a2]) (rest := []) ⟨hx, hb, hml, hown, hts⟩ (c_X5_at g l lo n σ (p0 + 2) a1 a2 (t0.sub 5 2 so_9_5_2) r h) (cl_X9_90 hts ⟨Nat.le_of_ble_eq_true rfl, Nat.le_of_ble_eq_true rfl⟩) (mpV_5 hZ hT hS hW (t0.sub 5 2 so_9_5_2) _) rfl rfl hl.1 rfl (lv_room (Nat.le_of_ble_eq_true rfl)) dX9_knowsBy_6 ⟨Nat.zero_le _, Nat.zero_le _⟩) (fun r_1 H locs hf hW hS => ?_)
  refine lv_aload_n hx hb dX9_knowsBy_9 rfl (lv_at hl 0 rfl) ?_
  refine lv_iload_n hx hb dX9_knowsBy_10 rfl (lv_at hl 1 rfl) ?_
  refine lv_iload_n hx hb dX9_knowsBy_11 rfl (lv_at hl 3 rfl) ?_
  refine mcip hf hS (fun r h => va_runV (As := [.int a1, .int a3]) (rest := [.int r_1]) ⟨hx, hb, hml, hown, hts⟩ (c_X9_beliefBy g l lo n σ p0 a1 a3 t0 r h) (cl_X9_78 hts ⟨Nat.le_of_ble_eq_true rfl, Nat.le_of_ble_eq_true rfl⟩) (mpV_9 hZ hT hS hW t0 _) rfl rfl hl.1 rfl (lv_room (Nat.le_of_ble_eq_true rfl)) dX9_knowsBy_12 ⟨Nat.zero_le _, Nat.zero_le _⟩) (fun r_2 H locs hf hW hS => ?_)
  refine mcip hf hS (fun r h => va_runS (As := [.int r_1, .int r_2]) (rest := []) ⟨hx, hb, hml, hown, hts⟩ (c_X5_unlike g l lo n σ r_1 r_2 r h) (cl_X9_99 hts ⟨Nat.le_of_ble_eq_true rfl, Nat.le_of_ble_eq_true rfl⟩) (mpS hZ hT hS hW _) rfl rfl hl.1 rfl (lv_room (Nat.le_of_ble_eq_true rfl)) dX9_knowsBy_15 ⟨Nat.zero_le _, Nat.zero_le _⟩) (fun r_3 H locs hf hW hS => ?_)
  refine lv_aload_n hx hb dX9_knowsBy_18 rfl (lv_at hl 0 rfl) ?_
  refine gf_9_0 hx hb htg (htg _ lf_X9_26) hown hZ hW t0 dX9_knowsBy_19 hf (fun T_4 tT_4 hf => ?_)
  refine gfN_11_1 hx hb htg ln_X9_106 hown hZ hW tT_4 dX9_knowsBy_22 ?_
  refine lv_icmp_gt (tgt := 32) hx hb dX9_knowsBy_25 (by decide) (fun hc => ?_) (fun hc => ?_)
  · have hf := ift hc hf
    refine lv_iconst (v := 0) hx hb dX9_knowsBy_32 (by decide) ?_
    subst hQ
    exact mrz hx hb hr hlocks hZ hT hS hW (by decide) ⟨Option.some.inj hf, rfl⟩ dX9_knowsBy_33
  · have hf := iff_ hc hf
    refine lv_iconst (v := 1) hx hb dX9_knowsBy_28 (by decide) ?_
    refine lv_goto (tgt := 33) hx hb dX9_knowsBy_29 (by decide) ?_
    subst hQ
    exact mrz hx hb hr hlocks hZ hT hS hW (by decide) ⟨Option.some.inj hf, rfl⟩ dX9_knowsBy_33
def f_X3_helpedBy (σ : Mem) (p1 : Nat) (a2 : Int32) (a3 : Int32) : Option (Int32) :=
  fx2 FU (fun k_3 (i_1 : Int32) (i_2 : Int32) => rfc (σ.2.2 p1 0) (fun (T_4 : Nat) => bd1 (f_X11_wishes σ T_4) (fun (r_5 : Int32) => (if r_5 ≤ i_2 then some i_1 else rfc (σ.2.2 p1 0) (fun (T_6 : Nat) => bd1 (f_X12_get σ (T_6 + 9) i_2) (fun (r_7 : Int32) => rfc (σ.2.2 p1 0) (fun (T_8 : Nat) => bd1 (f_X12_get σ (T_8 + 8) i_2) (fun (r_9 : Int32) => jn1 (fun (i_10 : Int32) => nm (i_2 + 1) (fun (x_12 : Int32) => k_3 i_10 x_12)) (fun k_11 => (if r_9 = a2 then (if r_7 < a3 then k_11 i_1 else bd1 (f_X12_get σ (51 + 2) i_2) (fun (r_14 : Int32) => (if a3 ≤ r_14 then k_11 i_1 else bd1 (f_X9_knowsBy σ p1 a2 r_7 a3) (fun (r_15 : Int32) => (if r_15 = 0 then k_11 i_1 else nm (i_1 ||| (1 <<< (i_2 &&& 31))) (fun (x_16 : Int32) => k_11 x_16)))))) else k_11 i_1)))))))))) 0 0
set_option maxHeartbeats 4000000 in
set_option maxRecDepth 100000 in
theorem c_X3_helpedBy (g : XG) (l : Launch) (σ : Mem) (p1 : Nat) (a2 : Int32) (a3 : Int32) (t1 : tp 9 0 81 p1) (r : Int32) (hf : f_X3_helpedBy σ p1 a2 a3 = some r) : Met l yX3_helpedBy (wx (.code yX3_helpedBy cX3_helpedBy 7 (some .int))) (kr 3 106) (va_Pc [.ref (bs g 51), .ref (bs g p1), .int a2, .int a3] (WS g 0 81 σ)) (Qi' g 0 81 r σ) 0 0 (Ag g 0) := by
  refine Met.ofW (cc := cX3_helpedBy) (maxL := 7) (ret := (some .int)) (by decide) rfl ?_
  intro p e s m args below meth c s₁ B hml hv
  obtain ⟨rfl, hZ, hT, hW⟩ := hv
  have hx := B.exec
  have hb := B.bytes
  have hr := B.returns
  have hts : ∀ w ∈ wx (.code yX3_helpedBy cX3_helpedBy 7 (some .int)), w.before _ s = true := atoms_spec B.pre
  have htg : ∀ w ∈ lwg, w.before _ s = true := fun w h => hts w (List.mem_cons_of_mem _ h)
  have hown : s.vm.findClass RX3 = some m.cls := findClass_of_methodNamed B.named
  have hlocks := B.notSynchronized
  change W p l e (kr 3 106) s m (List.toArray [.ref (bs g 51), .ref (bs g p1), .int a2, .int a3]) below meth c s.heap [] 0 0 (MQ below (Qi' g 0 81 r σ) (List.toArray [.ref (bs g 51), .ref (bs g p1), .int a2, .int a3]) s 0 0 (Ag g 0)) _
  generalize hQ : MQ below (Qi' g 0 81 r σ) (List.toArray [.ref (bs g 51), .ref (bs g p1), .int a2, .int a3]) s 0 0 (Ag g 0) = Q
  have hS : va_S (Ag g 0) s.heap s.heap [] := va_S.rf
  have hl := lv_entry ([.ref (bs g 51), .ref (bs g p1), .int a2, .int a3]) (n := 7) (Nat.le_of_ble_eq_true rfl)
  rw [lg_entry_eq]
  generalize (lg_sl ([.ref (bs g 51), .ref (bs g p1), .int a2, .int a3]) ++ List.replicate (7 - (lg_sl ([.ref (bs g 51), .ref (bs g p1), .int a2, .int a3])).length) Slot.unset).toArray = ls at hl ⊢
  have hl : lv_has ls 7 [(0, .ref (bs g 51)), (1, .ref (bs g p1)), (2, .int a2), (3, .int a3)] := hl
  delta f_X3_helpedBy at hf
  obtain ⟨H, hH⟩ : ∃ H, H = s.heap := ⟨_, rfl⟩
  obtain ⟨locs, hLc⟩ : ∃ z : List Loc, z = [] := ⟨_, rfl⟩
  have hS : va_S (Ag g 0) s.heap H locs := by rw [hH, hLc]; exact hS
  have hW : Wd g 0 81 σ H := by rw [hH]; exact hW
  suffices hG : W p l e (kr 3 106) s m (List.toArray [.ref (bs g 51), .ref (bs g p1), .int a2, .int a3]) below meth c H locs 0 0 Q (F0 m 0 ls []) by rw [hH, hLc] at hG; exact hG
  clear hH hLc
  refine lv_iconst (v := 0) hx hb dX3_helpedBy_0 (by decide) ?_
  refine lv_istore (lv' := [(4, .int 0), (0, .ref (bs g 51)), (1, .ref (bs g p1)), (2, .int a2), (3, .int a3)]) hx hb dX3_helpedBy_1 hl (by decide) rfl (fun ls hl => ?_)
  refine lv_iconst (v := 0) hx hb dX3_helpedBy_3 (by decide) ?_
  refine lv_istore (lv' := [(5, .int 0), (4, .int 0), (0, .ref (bs g 51)), (1, .ref (bs g p1)), (2, .int a2), (3, .int a3)]) hx hb dX3_helpedBy_4 hl (by decide) rfl (fun ls hl => ?_)
  refine fx2_W (fun (i_1 : Int32) (i_2 : Int32) => ∀ (H : Heap) (locs : List Loc) (ls : Array Slot), Wd g 0 81 σ H → va_S (Ag g 0) s.heap H locs → lv_has ls 7 [(0, .ref (bs g 51)), (1, .ref (bs g p1)), (2, .int a2), (3, .int a3), (4, .int i_1), (5, .int i_2)] → W p l e (kr 3 106) s m (List.toArray [.ref (bs g 51), .ref (bs g p1), .int a2, .int a3]) below meth c H locs 0 0 Q (F0 m 6 ls [])) (fun k_3 hk_3 i_1 i_2 hf => ?_) FU 0 0 hf H locs ls hW hS (lv_sub hl [2, 3, 4, 5, 1, 0] rfl)
  intro H locs ls hW hS hl
  refine lv_iload hx hb dX3_helpedBy_6 (lv_at hl 5 rfl) ?_
  refine lv_aload_n hx hb dX3_helpedBy_8 rfl (lv_at hl 1 rfl) ?_
  refine gfN_9_0 hx hb htg ln_X3_21 hown hZ hW t1 dX3_helpedBy_9 hf (fun T_4 tT_4 hf => ?_)
  refine mcip hf hS (fun r h => va_runV (As := []) (rest := [.int i_2]) ⟨hx, hb, hml, hown, hts⟩ (c_X11_wishes g l 0 81 σ T_4 tT_4 r h) (cl_X3_27 hts ⟨Nat.le_of_ble_eq_true rfl, Nat.le_of_ble_eq_true rfl⟩) (mpV_11 hZ hT hS hW tT_4 _) rfl rfl hl.1 rfl (lv_room (Nat.le_of_ble_eq_true rfl)) dX3_helpedBy_12 ⟨Nat.zero_le _, Nat.zero_le _⟩) (fun r_5 H locs hf hW hS => ?_)
  refine lv_icmp_ge (tgt := 93) hx hb dX3_helpedBy_15 (by decide) (fun hc => ?_) (fun hc => ?_)
  · have hf := ift hc hf
    refine lv_iload hx hb dX3_helpedBy_93 (lv_at hl 4 rfl) ?_
    subst hQ
    exact mri hx hb hr hlocks hZ hT hS hW ⟨Option.some.inj hf, rfl⟩ dX3_helpedBy_95
  · have hf := iff_ hc hf
    refine lv_aload_n hx hb dX3_helpedBy_18 rfl (lv_at hl 1 rfl) ?_
    refine gfN_9_0 hx hb htg ln_X3_21 hown hZ hW t1 dX3_helpedBy_19 hf (fun T_6 tT_6 hf => ?_)
    refine gfN_11_11 hx hb htg ln_X3_40 hown hZ hW tT_6 dX3_helpedBy_22 ?_
    refine lv_iload hx hb dX3_helpedBy_25 (lv_at hl 5 rfl) ?_
    refine mcip hf hS (fun r h => va_runSN (As := [.ref (bs g (T_6 + 9)), .int i_2]) (rest := []) ⟨hx, hb, hml, hown, hts⟩ (c_X12_get g l 0 81 σ (T_6 + 9) i_2 (tT_6.sub 20 9 so_11_20_9) r h) (cl_X3_36 hts hZ ⟨Nat.le_of_ble_eq_true rfl, Nat.le_of_ble_eq_true rfl⟩) (mpS hZ hT hS hW _) rfl rfl hl.1 rfl (lv_room (Nat.le_of_ble_eq_true rfl)) dX3_helpedBy_27 ⟨Nat.zero_le _, Nat.zero_le _⟩) (fun r_7 H locs hf hW hS => ?_)
    refine lv_istore (lv' := [(6, .int r_7), (0, .ref (bs g 51)), (1, .ref (bs g p1)), (2, .int a2), (3, .int a3), (4, .int i_1), (5, .int i_2)]) hx hb dX3_helpedBy_30 hl (by decide) rfl (fun ls hl => ?_)
    refine lv_aload_n hx hb dX3_helpedBy_32 rfl (lv_at hl 2 rfl) ?_
    refine gfN_9_0 hx hb htg ln_X3_21 hown hZ hW t1 dX3_helpedBy_33 hf (fun T_8 tT_8 hf => ?_)
    refine gfN_11_10 hx hb htg ln_X3_33 hown hZ hW tT_8 dX3_helpedBy_36 ?_
    refine lv_iload hx hb dX3_helpedBy_39 (lv_at hl 6 rfl) ?_
    refine mcip hf hS (fun r h => va_runSN (As := [.ref (bs g (T_8 + 8)), .int i_2]) (rest := []) ⟨hx, hb, hml, hown, hts⟩ (c_X12_get g l 0 81 σ (T_8 + 8) i_2 (tT_8.sub 20 8 so_11_20_8) r h) (cl_X3_36 hts hZ ⟨Nat.le_of_ble_eq_true rfl, Nat.le_of_ble_eq_true rfl⟩) (mpS hZ hT hS hW _) rfl rfl hl.1 rfl (lv_room (Nat.le_of_ble_eq_true rfl)) dX3_helpedBy_41 ⟨Nat.zero_le _, Nat.zero_le _⟩) (fun r_9 H locs hf hW hS => ?_)
    refine lv_iload_n hx hb dX3_helpedBy_44 rfl (lv_at hl 3 rfl) ?_
    refine jn1_W (fun (i_10 : Int32) => ∀ (H : Heap) (locs : List Loc) (ls : Array Slot), Wd g 0 81 σ H → va_S (Ag g 0) s.heap H locs → lv_has ls 7 [(0, .ref (bs g 51)), (1, .ref (bs g p1)), (2, .int a2), (3, .int a3), (4, .int i_10), (5, .int i_2)] → W p l e (kr 3 106) s m (List.toArray [.ref (bs g 51), .ref (bs g p1), .int a2, .int a3]) below meth c H locs 0 0 Q (F0 m 87 ls [])) hf (fun i_10 hf => ?_) (fun k_11 hk_11 hf => ?_)
    · intro H locs ls hW hS hl
      obtain ⟨x_12, e_13, hf⟩ := nm_s hf
      refine lv_iinc (v := x_12) (lv' := [(5, .int x_12), (0, .ref (bs g 51)), (1, .ref (bs g p1)), (2, .int a2), (3, .int a3), (4, .int i_10)]) hx hb dX3_helpedBy_87 hl (k := 5) rfl (by rw [e_13]; rfl) (by decide) rfl (fun ls hl => ?_)
      refine lv_goto (tgt := 6) hx hb dX3_helpedBy_90 (by decide) ?_
      exact hk_3 i_10 x_12 hf H locs ls hW hS (lv_sub hl [1, 2, 3, 4, 5, 0] rfl)
    · refine lv_icmp_ne (tgt := 87) hx hb dX3_helpedBy_45 (by decide) (fun hc => ?_) (fun hc => ?_)
      · have hf := iff_ hc hf
        exact hk_11 i_1 hf H locs ls hW hS (lv_sub hl [1, 2, 3, 4, 5, 6] rfl)
      · have hf := ift hc hf
        refine lv_iload hx hb dX3_helpedBy_48 (lv_at hl 0 rfl) ?_
        refine lv_iload_n hx hb dX3_helpedBy_50 rfl (lv_at hl 4 rfl) ?_
        refine lv_icmp_lt (tgt := 87) hx hb dX3_helpedBy_51 (by decide) (fun hc => ?_) (fun hc => ?_)
        · have hf := ift hc hf
          exact hk_11 i_1 hf H locs ls hW hS (lv_sub hl [1, 2, 3, 4, 5, 6] rfl)
        · have hf := iff_ hc hf
          refine lv_aload_n hx hb dX3_helpedBy_54 rfl (lv_at hl 1 rfl) ?_
          refine gf_3_1 hx hb htg (htg _ lf_X3_15) hown hZ hW tz_51 dX3_helpedBy_55 ?_
          refine lv_iload hx hb dX3_helpedBy_58 (lv_at hl 6 rfl) ?_
          refine mcip hf hS (fun r h => va_runSN (As := [.ref (bs g (51 + 2)), .int i_2]) (rest := []) ⟨hx, hb, hml, hown, hts⟩ (c_X12_get g l 0 81 σ (51 + 2) i_2 (tz_51.sub 20 2 so_3_20_2) r h) (cl_X3_36 hts hZ ⟨Nat.le_of_ble_eq_true rfl, Nat.le_of_ble_eq_true rfl⟩) (mpS hZ hT hS hW _) rfl rfl hl.1 rfl (lv_room (Nat.le_of_ble_eq_true rfl)) dX3_helpedBy_60 ⟨Nat.zero_le _, Nat.zero_le _⟩) (fun r_14 H locs hf hW hS => ?_)
          refine lv_iload_n hx hb dX3_helpedBy_63 rfl (lv_at hl 4 rfl) ?_
          refine lv_icmp_ge (tgt := 87) hx hb dX3_helpedBy_64 (by decide) (fun hc => ?_) (fun hc => ?_)
          · have hf := ift hc hf
            exact hk_11 i_1 hf H locs ls hW hS (lv_sub hl [1, 2, 3, 4, 5, 6] rfl)
          · have hf := iff_ hc hf
            refine lv_aload_n hx hb dX3_helpedBy_67 rfl (lv_at hl 2 rfl) ?_
            refine lv_iload_n hx hb dX3_helpedBy_68 rfl (lv_at hl 3 rfl) ?_
            refine lv_iload hx hb dX3_helpedBy_69 (lv_at hl 0 rfl) ?_
            refine lv_iload_n hx hb dX3_helpedBy_71 rfl (lv_at hl 4 rfl) ?_
            refine mcip hf hS (fun r h => va_runV (As := [.int a2, .int r_7, .int a3]) (rest := []) ⟨hx, hb, hml, hown, hts⟩ (c_X9_knowsBy g l 0 81 σ p1 a2 r_7 a3 t1 r h) (cl_X3_80 hts ⟨Nat.le_of_ble_eq_true rfl, Nat.le_of_ble_eq_true rfl⟩) (mpV_9 hZ hT hS hW t1 _) rfl rfl hl.1 rfl (lv_room (Nat.le_of_ble_eq_true rfl)) dX3_helpedBy_72 ⟨Nat.zero_le _, Nat.zero_le _⟩) (fun r_15 H locs hf hW hS => ?_)
            refine lv_if_eq (tgt := 87) hx hb dX3_helpedBy_75 (by decide) (fun hc => ?_) (fun hc => ?_)
            · have hf := ift hc hf
              exact hk_11 i_1 hf H locs ls hW hS (lv_sub hl [1, 2, 3, 4, 5, 6] rfl)
            · have hf := iff_ hc hf
              refine lv_iload hx hb dX3_helpedBy_78 (lv_at hl 5 rfl) ?_
              refine lv_iconst (v := 1) hx hb dX3_helpedBy_80 (by decide) ?_
              refine lv_iload hx hb dX3_helpedBy_81 (lv_at hl 6 rfl) ?_
              refine lv_ishl hx hb dX3_helpedBy_83 ?_
              refine lv_ior hx hb dX3_helpedBy_84 ?_
              refine mnmi hf (fun (x_16 : Int32) hf => ?_)
              refine lv_istore (lv' := [(4, .int x_16), (6, .int r_7), (0, .ref (bs g 51)), (1, .ref (bs g p1)), (2, .int a2), (3, .int a3), (5, .int i_2)]) hx hb dX3_helpedBy_85 hl (by decide) rfl (fun ls hl => ?_)
              exact hk_11 x_16 hf H locs ls hW hS (lv_sub hl [2, 3, 4, 5, 0, 6] rfl)
def f_X3_listCandidates (σ : Mem) (p1 : Nat) : Option (Int32 × Mem) :=
  nm (sI σ 51 3 0) (fun (σ_1 : Mem) => fx3 FU (fun k_5 (i_2 : Int32) (i_3 : Int32) (σ_4 : Mem) => (if 30 ≤ i_3 then some (i_2, σ_4) else fx3 FU (fun k_9 (i_6 : Int32) (i_7 : Int32) (σ_8 : Mem) => rfc (σ_8.2.2 p1 0) (fun (T_10 : Nat) => bd1 (f_X11_people σ_8 T_10) (fun (r_11 : Int32) => (if r_11 ≤ i_7 then nm (i_3 + 1) (fun (x_12 : Int32) => k_5 i_6 x_12 σ_8) else bd1 (f_X9_isFree σ_8 p1 i_3) (fun (r_14 : Int32) => jn1 (fun (i_15 : Int32) => jn1 (fun (σ_17 : Mem) => nm (i_6 ||| i_15) (fun (x_19 : Int32) => nm (i_7 + 1) (fun (x_20 : Int32) => k_9 x_19 x_20 σ_17))) (fun k_18 => (if i_15 = 0 then k_18 σ_8 else bd1 (f_X12_set σ_8 (51 + 1) (σ_8.1 51 3) ((10 * i_3) + i_7)) (fun (σ_22 : Mem) => nm (sI σ_22 51 3 ((σ_22.1 51 3) + 1)) (fun (σ_23 : Mem) => k_18 σ_23))))) (fun k_16 => (if r_14 = 0 then k_16 0 else bd1 (f_X3_helpedBy σ_8 p1 i_7 i_3) (fun (r_24 : Int32) => k_16 r_24)))))))) i_2 0 σ_4)) 0 0 σ_1)
set_option maxHeartbeats 4000000 in
set_option maxRecDepth 100000 in
theorem c_X3_listCandidates (g : XG) (l : Launch) (σ : Mem) (p1 : Nat) (t1 : tp 9 0 81 p1) (r : Int32) (τ : Mem) (hf : f_X3_listCandidates σ p1 = some (r, τ)) : Met l yX3_listCandidates (wx (.code yX3_listCandidates cX3_listCandidates 6 (some .int))) (kr 4 132) (va_Pc [.ref (bs g 51), .ref (bs g p1)] (WS g 0 81 σ)) (Qi' g 0 81 r τ) 0 0 (Ag g 0) := by
  refine Met.ofW (cc := cX3_listCandidates) (maxL := 6) (ret := (some .int)) (by decide) rfl ?_
  intro p e s m args below meth c s₁ B hml hv
  obtain ⟨rfl, hZ, hT, hW⟩ := hv
  have hx := B.exec
  have hb := B.bytes
  have hr := B.returns
  have hts : ∀ w ∈ wx (.code yX3_listCandidates cX3_listCandidates 6 (some .int)), w.before _ s = true := atoms_spec B.pre
  have htg : ∀ w ∈ lwg, w.before _ s = true := fun w h => hts w (List.mem_cons_of_mem _ h)
  have hown : s.vm.findClass RX3 = some m.cls := findClass_of_methodNamed B.named
  have hlocks := B.notSynchronized
  change W p l e (kr 4 132) s m (List.toArray [.ref (bs g 51), .ref (bs g p1)]) below meth c s.heap [] 0 0 (MQ below (Qi' g 0 81 r τ) (List.toArray [.ref (bs g 51), .ref (bs g p1)]) s 0 0 (Ag g 0)) _
  generalize hQ : MQ below (Qi' g 0 81 r τ) (List.toArray [.ref (bs g 51), .ref (bs g p1)]) s 0 0 (Ag g 0) = Q
  have hS : va_S (Ag g 0) s.heap s.heap [] := va_S.rf
  have hl := lv_entry ([.ref (bs g 51), .ref (bs g p1)]) (n := 6) (Nat.le_of_ble_eq_true rfl)
  rw [lg_entry_eq]
  generalize (lg_sl ([.ref (bs g 51), .ref (bs g p1)]) ++ List.replicate (6 - (lg_sl ([.ref (bs g 51), .ref (bs g p1)])).length) Slot.unset).toArray = ls at hl ⊢
  have hl : lv_has ls 6 [(0, .ref (bs g 51)), (1, .ref (bs g p1))] := hl
  delta f_X3_listCandidates at hf
  obtain ⟨H, hH⟩ : ∃ H, H = s.heap := ⟨_, rfl⟩
  obtain ⟨locs, hLc⟩ : ∃ z : List Loc, z = [] := ⟨_, rfl⟩
  have hS : va_S (Ag g 0) s.heap H locs := by rw [hH, hLc]; exact hS
  have hW : Wd g 0 81 σ H := by rw [hH]; exact hW
  suffices hG : W p l e (kr 4 132) s m (List.toArray [.ref (bs g 51), .ref (bs g p1)]) below meth c H locs 0 0 Q (F0 m 0 ls []) by rw [hH, hLc] at hG; exact hG
  clear hH hLc
  refine lv_iconst (v := 0) hx hb dX3_listCandidates_0 (by decide) ?_
  refine lv_istore_n (lv' := [(2, .int 0), (0, .ref (bs g 51)), (1, .ref (bs g p1))]) hx hb dX3_listCandidates_1 rfl hl (by decide) rfl (fun ls hl => ?_)
  refine lv_aload_n hx hb dX3_listCandidates_2 rfl (lv_at hl 1 rfl) ?_
  refine lv_iconst (v := 0) hx hb dX3_listCandidates_3 (by decide) ?_
  refine pf_3_3 hx hb htg (htg _ lf_X3_66) hown hZ hW hS tz_51 dX3_listCandidates_4 hf (fun σ_1 H locs hf hW hS => ?_)
  refine lv_iconst (v := 0) hx hb dX3_listCandidates_7 (by decide) ?_
  refine lv_istore_n (lv' := [(3, .int 0), (2, .int 0), (0, .ref (bs g 51)), (1, .ref (bs g p1))]) hx hb dX3_listCandidates_8 rfl hl (by decide) rfl (fun ls hl => ?_)
  refine fx3_W (fun (i_2 : Int32) (i_3 : Int32) (σ_4 : Mem) => ∀ (H : Heap) (locs : List Loc) (ls : Array Slot), Wd g 0 81 σ_4 H → va_S (Ag g 0) s.heap H locs → lv_has ls 6 [(0, .ref (bs g 51)), (1, .ref (bs g p1)), (2, .int i_2), (3, .int i_3)] → W p l e (kr 4 132) s m (List.toArray [.ref (bs g 51), .ref (bs g p1)]) below meth c H locs 0 0 Q (F0 m 9 ls [])) (fun k_5 hk_5 i_2 i_3 σ_4 hf => ?_) FU 0 0 σ_1 hf H locs ls hW hS (lv_sub hl [2, 3, 1, 0] rfl)
  intro H locs ls hW hS hl
  refine lv_iload_n hx hb dX3_listCandidates_9 rfl (lv_at hl 3 rfl) ?_
  refine lv_bipush (v := 30) hx hb dX3_listCandidates_10 (by decide) ?_
  refine lv_icmp_ge (tgt := 102) hx hb dX3_listCandidates_12 (by decide) (fun hc => ?_) (fun hc => ?_)
  · have hf := ift hc hf
    refine lv_iload_n hx hb dX3_listCandidates_102 rfl (lv_at hl 2 rfl) ?_
    subst hQ
    exact mri hx hb hr hlocks hZ hT hS hW (pr1 hf) dX3_listCandidates_103
  · have hf := iff_ hc hf
    refine lv_iconst (v := 0) hx hb dX3_listCandidates_15 (by decide) ?_
    refine lv_istore (lv' := [(4, .int 0), (0, .ref (bs g 51)), (1, .ref (bs g p1)), (2, .int i_2), (3, .int i_3)]) hx hb dX3_listCandidates_16 hl (by decide) rfl (fun ls hl => ?_)
    refine fx3_W (fun (i_6 : Int32) (i_7 : Int32) (σ_8 : Mem) => ∀ (H : Heap) (locs : List Loc) (ls : Array Slot), Wd g 0 81 σ_8 H → va_S (Ag g 0) s.heap H locs → lv_has ls 6 [(0, .ref (bs g 51)), (1, .ref (bs g p1)), (2, .int i_6), (3, .int i_3), (4, .int i_7)] → W p l e (kr 4 132) s m (List.toArray [.ref (bs g 51), .ref (bs g p1)]) below meth c H locs 0 0 Q (F0 m 18 ls [])) (fun k_9 hk_9 i_6 i_7 σ_8 hf => ?_) FU i_2 0 σ_4 hf H locs ls hW hS (lv_sub hl [1, 2, 3, 4, 0] rfl)
    intro H locs ls hW hS hl
    refine lv_iload hx hb dX3_listCandidates_18 (lv_at hl 4 rfl) ?_
    refine lv_aload_n hx hb dX3_listCandidates_20 rfl (lv_at hl 1 rfl) ?_
    refine gfN_9_0 hx hb htg ln_X3_21 hown hZ hW t1 dX3_listCandidates_21 hf (fun T_10 tT_10 hf => ?_)
    refine mcip hf hS (fun r h => va_runV (As := []) (rest := [.int i_7]) ⟨hx, hb, hml, hown, hts⟩ (c_X11_people g l 0 81 σ_8 T_10 tT_10 r h) (cl_X3_69 hts ⟨Nat.le_of_ble_eq_true rfl, Nat.le_of_ble_eq_true rfl⟩) (mpV_11 hZ hT hS hW tT_10 _) rfl rfl hl.1 rfl (lv_room (Nat.le_of_ble_eq_true rfl)) dX3_listCandidates_24 ⟨Nat.zero_le _, Nat.zero_le _⟩) (fun r_11 H locs hf hW hS => ?_)
    refine lv_icmp_ge (tgt := 96) hx hb dX3_listCandidates_27 (by decide) (fun hc => ?_) (fun hc => ?_)
    · have hf := ift hc hf
      obtain ⟨x_12, e_13, hf⟩ := nm_s hf
      refine lv_iinc (v := x_12) (lv' := [(3, .int x_12), (0, .ref (bs g 51)), (1, .ref (bs g p1)), (2, .int i_6), (4, .int i_7)]) hx hb dX3_listCandidates_96 hl (k := 3) rfl (by rw [e_13]; rfl) (by decide) rfl (fun ls hl => ?_)
      refine lv_goto (tgt := 9) hx hb dX3_listCandidates_99 (by decide) ?_
      exact hk_5 i_6 x_12 σ_8 hf H locs ls hW hS (lv_sub hl [1, 2, 3, 0] rfl)
    · have hf := iff_ hc hf
      refine lv_aload_n hx hb dX3_listCandidates_30 rfl (lv_at hl 1 rfl) ?_
      refine lv_iload_n hx hb dX3_listCandidates_31 rfl (lv_at hl 3 rfl) ?_
      refine mcip hf hS (fun r h => va_runV (As := [.int i_3]) (rest := []) ⟨hx, hb, hml, hown, hts⟩ (c_X9_isFree g l 0 81 σ_8 p1 i_3 t1 r h) (cl_X3_72 hts ⟨Nat.le_of_ble_eq_true rfl, Nat.le_of_ble_eq_true rfl⟩) (mpV_9 hZ hT hS hW t1 _) rfl rfl hl.1 rfl (lv_room (Nat.le_of_ble_eq_true rfl)) dX3_listCandidates_32 ⟨Nat.zero_le _, Nat.zero_le _⟩) (fun r_14 H locs hf hW hS => ?_)
      refine jn1_W (fun (i_15 : Int32) => ∀ (H : Heap) (locs : List Loc) (ls : Array Slot), Wd g 0 81 σ_8 H → va_S (Ag g 0) s.heap H locs → lv_has ls 6 [(0, .ref (bs g 51)), (1, .ref (bs g p1)), (2, .int i_6), (3, .int i_3), (4, .int i_7)] → W p l e (kr 4 132) s m (List.toArray [.ref (bs g 51), .ref (bs g p1)]) below meth c H locs 0 0 Q (F0 m 50 ls [.int i_15])) hf (fun i_15 hf => ?_) (fun k_16 hk_16 hf => ?_)
      · intro H locs ls hW hS hl
        refine lv_istore (lv' := [(5, .int i_15), (0, .ref (bs g 51)), (1, .ref (bs g p1)), (2, .int i_6), (3, .int i_3), (4, .int i_7)]) hx hb dX3_listCandidates_50 hl (by decide) rfl (fun ls hl => ?_)
        refine lv_iload hx hb dX3_listCandidates_52 (lv_at hl 0 rfl) ?_
        refine jn1_W (fun (σ_17 : Mem) => ∀ (H : Heap) (locs : List Loc) (ls : Array Slot), Wd g 0 81 σ_17 H → va_S (Ag g 0) s.heap H locs → lv_has ls 6 [(0, .ref (bs g 51)), (1, .ref (bs g p1)), (2, .int i_6), (3, .int i_3), (4, .int i_7), (5, .int i_15)] → W p l e (kr 4 132) s m (List.toArray [.ref (bs g 51), .ref (bs g p1)]) below meth c H locs 0 0 Q (F0 m 85 ls [])) hf (fun σ_17 hf => ?_) (fun k_18 hk_18 hf => ?_)
        · intro H locs ls hW hS hl
          refine lv_iload_n hx hb dX3_listCandidates_85 rfl (lv_at hl 2 rfl) ?_
          refine lv_iload hx hb dX3_listCandidates_86 (lv_at hl 5 rfl) ?_
          refine lv_ior hx hb dX3_listCandidates_88 ?_
          refine mnmi hf (fun (x_19 : Int32) hf => ?_)
          refine lv_istore_n (lv' := [(2, .int x_19), (0, .ref (bs g 51)), (1, .ref (bs g p1)), (3, .int i_3), (4, .int i_7), (5, .int i_15)]) hx hb dX3_listCandidates_89 rfl hl (by decide) rfl (fun ls hl => ?_)
          obtain ⟨x_20, e_21, hf⟩ := nm_s hf
          refine lv_iinc (v := x_20) (lv' := [(4, .int x_20), (2, .int x_19), (0, .ref (bs g 51)), (1, .ref (bs g p1)), (3, .int i_3), (5, .int i_15)]) hx hb dX3_listCandidates_90 hl (k := 4) rfl (by rw [e_21]; rfl) (by decide) rfl (fun ls hl => ?_)
          refine lv_goto (tgt := 18) hx hb dX3_listCandidates_93 (by decide) ?_
          exact hk_9 x_19 x_20 σ_17 hf H locs ls hW hS (lv_sub hl [2, 3, 1, 4, 0] rfl)
        · refine lv_if_eq (tgt := 85) hx hb dX3_listCandidates_54 (by decide) (fun hc => ?_) (fun hc => ?_)
          · have hf := ift hc hf
            exact hk_18 σ_8 hf H locs ls hW hS (lv_sub hl [1, 2, 3, 4, 5, 0] rfl)
          · have hf := iff_ hc hf
            refine lv_aload_n hx hb dX3_listCandidates_57 rfl (lv_at hl 1 rfl) ?_
            refine gf_3_0 hx hb htg (htg _ lf_X3_9) hown hZ hW tz_51 dX3_listCandidates_58 ?_
            refine lv_aload_n hx hb dX3_listCandidates_61 rfl (lv_at hl 1 rfl) ?_
            refine gf_3_3 hx hb htg (htg _ lf_X3_66) hown hZ hW tz_51 dX3_listCandidates_62 ?_
            refine lv_bipush (v := 10) hx hb dX3_listCandidates_65 (by decide) ?_
            refine lv_iload_n hx hb dX3_listCandidates_67 rfl (lv_at hl 4 rfl) ?_
            refine lv_imul hx hb dX3_listCandidates_68 ?_
            refine lv_iload hx hb dX3_listCandidates_69 (lv_at hl 5 rfl) ?_
            refine lv_iadd hx hb dX3_listCandidates_71 ?_
            refine mcv hf hS (fun τ h => va_runSN (As := [.ref (bs g (51 + 1)), .int (σ_8.1 51 3), .int ((10 * i_3) + i_7)]) (rest := []) ⟨hx, hb, hml, hown, hts⟩ (c_X12_set g l 0 81 σ_8 (51 + 1) (σ_8.1 51 3) ((10 * i_3) + i_7) (tz_51.sub 20 1 so_3_20_1) τ h) (cl_X3_47 hts hZ ⟨Nat.le_of_ble_eq_true rfl, Nat.le_of_ble_eq_true rfl⟩) (mpS hZ hT hS hW _) rfl rfl hl.1 rfl (lv_room (Nat.le_of_ble_eq_true rfl)) dX3_listCandidates_72 ⟨Nat.zero_le _, Nat.zero_le _⟩) (fun σ_22 H locs hf hW hS => ?_)
            refine lv_aload_n hx hb dX3_listCandidates_75 rfl (lv_at hl 1 rfl) ?_
            refine lv_dup hx hb dX3_listCandidates_76 rfl ?_
            refine gf_3_3 hx hb htg (htg _ lf_X3_66) hown hZ hW tz_51 dX3_listCandidates_77 ?_
            refine lv_iconst (v := 1) hx hb dX3_listCandidates_80 (by decide) ?_
            refine lv_iadd hx hb dX3_listCandidates_81 ?_
            refine pf_3_3 hx hb htg (htg _ lf_X3_66) hown hZ hW hS tz_51 dX3_listCandidates_82 hf (fun σ_23 H locs hf hW hS => ?_)
            exact hk_18 σ_23 hf H locs ls hW hS (lv_sub hl [1, 2, 3, 4, 5, 0] rfl)
      · refine lv_if_eq (tgt := 49) hx hb dX3_listCandidates_35 (by decide) (fun hc => ?_) (fun hc => ?_)
        · have hf := ift hc hf
          refine lv_iconst (v := 0) hx hb dX3_listCandidates_49 (by decide) ?_
          exact hk_16 0 hf H locs ls hW hS (lv_sub hl [0, 1, 2, 3, 4] rfl)
        · have hf := iff_ hc hf
          refine lv_aload_n hx hb dX3_listCandidates_38 rfl (lv_at hl 0 rfl) ?_
          refine lv_aload_n hx hb dX3_listCandidates_39 rfl (lv_at hl 1 rfl) ?_
          refine lv_iload hx hb dX3_listCandidates_40 (lv_at hl 4 rfl) ?_
          refine lv_iload_n hx hb dX3_listCandidates_42 rfl (lv_at hl 3 rfl) ?_
          refine mcip hf hS (fun r h => va_runV (As := [.ref (bs g p1), .int i_7, .int i_3]) (rest := []) ⟨hx, hb, hml, hown, hts⟩ (c_X3_helpedBy g l σ_8 p1 i_7 i_3 t1 r h) (cl_X3_76 hts ⟨Nat.le_of_ble_eq_true rfl, Nat.le_of_ble_eq_true rfl⟩) (mpV_3 hZ hT hS hW tz_51 _) rfl rfl hl.1 rfl (lv_room (Nat.le_of_ble_eq_true rfl)) dX3_listCandidates_43 ⟨Nat.zero_le _, Nat.zero_le _⟩) (fun r_24 H locs hf hW hS => ?_)
          refine lv_goto (tgt := 50) hx hb dX3_listCandidates_46 (by decide) ?_
          exact hk_16 r_24 hf H locs ls hW hS (lv_sub hl [0, 1, 2, 3, 4] rfl)
def f_X9_knowsSelf (σ : Mem) (p0 : Nat) (a1 : Int32) (a2 : Int32) : Option (Int32) :=
  bd1 (f_X9_latestVisit σ p0 a1 a2) (fun (r_1 : Int32) => bd1 (f_X9_knowsBy σ p0 a1 a2 r_1) (fun (r_2 : Int32) => zrt r_2))
set_option maxHeartbeats 4000000 in
set_option maxRecDepth 100000 in
theorem c_X9_knowsSelf (g : XG) (l : Launch) (lo n : Nat) (σ : Mem) (p0 : Nat) (a1 : Int32) (a2 : Int32) (t0 : tp 9 lo n p0) (r : Int32) (hf : f_X9_knowsSelf σ p0 a1 a2 = some r) : Met l yX9_knowsSelf (wx (.code yX9_knowsSelf cX9_knowsSelf 3 (some .boolean))) (kr 3 106) (va_Pc [.ref (bs g p0), .int a1, .int a2] (WS g lo n σ)) (Qi' g lo n r σ) 0 0 (Ag g lo) := by
  refine Met.ofW (cc := cX9_knowsSelf) (maxL := 3) (ret := (some .boolean)) (by decide) rfl ?_
  intro p e s m args below meth c s₁ B hml hv
  obtain ⟨rfl, hZ, hT, hW⟩ := hv
  have hx := B.exec
  have hb := B.bytes
  have hr := B.returns
  have hts : ∀ w ∈ wx (.code yX9_knowsSelf cX9_knowsSelf 3 (some .boolean)), w.before _ s = true := atoms_spec B.pre
  have htg : ∀ w ∈ lwg, w.before _ s = true := fun w h => hts w (List.mem_cons_of_mem _ h)
  have hown : s.vm.findClass RX9 = some m.cls := findClass_of_methodNamed B.named
  have hlocks := B.notSynchronized
  change W p l e (kr 3 106) s m (List.toArray [.ref (bs g p0), .int a1, .int a2]) below meth c s.heap [] 0 0 (MQ below (Qi' g lo n r σ) (List.toArray [.ref (bs g p0), .int a1, .int a2]) s 0 0 (Ag g lo)) _
  generalize hQ : MQ below (Qi' g lo n r σ) (List.toArray [.ref (bs g p0), .int a1, .int a2]) s 0 0 (Ag g lo) = Q
  have hS : va_S (Ag g lo) s.heap s.heap [] := va_S.rf
  have hl := lv_entry ([.ref (bs g p0), .int a1, .int a2]) (n := 3) (Nat.le_of_ble_eq_true rfl)
  rw [lg_entry_eq]
  generalize (lg_sl ([.ref (bs g p0), .int a1, .int a2]) ++ List.replicate (3 - (lg_sl ([.ref (bs g p0), .int a1, .int a2])).length) Slot.unset).toArray = ls at hl ⊢
  have hl : lv_has ls 3 [(0, .ref (bs g p0)), (1, .int a1), (2, .int a2)] := hl
  delta f_X9_knowsSelf at hf
  obtain ⟨H, hH⟩ : ∃ H, H = s.heap := ⟨_, rfl⟩
  obtain ⟨locs, hLc⟩ : ∃ z : List Loc, z = [] := ⟨_, rfl⟩
  have hS : va_S (Ag g lo) s.heap H locs := by rw [hH, hLc]; exact hS
  have hW : Wd g lo n σ H := by rw [hH]; exact hW
  suffices hG : W p l e (kr 3 106) s m (List.toArray [.ref (bs g p0), .int a1, .int a2]) below meth c H locs 0 0 Q (F0 m 0 ls []) by rw [hH, hLc] at hG; exact hG
  clear hH hLc
  refine lv_aload_n hx hb dX9_knowsSelf_0 rfl (lv_at hl 0 rfl) ?_
  refine lv_iload_n hx hb dX9_knowsSelf_1 rfl (lv_at hl 1 rfl) ?_
  refine lv_iload_n hx hb dX9_knowsSelf_2 rfl (lv_at hl 2 rfl) ?_
  refine lv_aload_n hx hb dX9_knowsSelf_3 rfl (lv_at hl 0 rfl) ?_
  refine lv_iload_n hx hb dX9_knowsSelf_4 rfl (lv_at hl 1 rfl) ?_
  refine lv_iload_n hx hb dX9_knowsSelf_5 rfl (lv_at hl 2 rfl) ?_
  refine mcip hf hS (fun r h => va_runV (As := [.int a1, .int a2]) (rest := [.int a2, .int a1, .ref (bs g p0)]) ⟨hx, hb, hml, hown, hts⟩ (c_X9_latestVisit g l lo n σ p0 a1 a2 t0 r h) (cl_X9_75 hts ⟨Nat.le_of_ble_eq_true rfl, Nat.le_of_ble_eq_true rfl⟩) (mpV_9 hZ hT hS hW t0 _) rfl rfl hl.1 rfl (lv_room (Nat.le_of_ble_eq_true rfl)) dX9_knowsSelf_6 ⟨Nat.zero_le _, Nat.zero_le _⟩) (fun r_1 H locs hf hW hS => ?_)
  refine mcip hf hS (fun r h => va_runV (As := [.int a1, .int a2, .int r_1]) (rest := []) ⟨hx, hb, hml, hown, hts⟩ (c_X9_knowsBy g l lo n σ p0 a1 a2 r_1 t0 r h) (cl_X9_102 hts ⟨Nat.le_of_ble_eq_true rfl, Nat.le_of_ble_eq_true rfl⟩) (mpV_9 hZ hT hS hW t0 _) rfl rfl hl.1 rfl (lv_room (Nat.le_of_ble_eq_true rfl)) dX9_knowsSelf_9 ⟨Nat.zero_le _, Nat.zero_le _⟩) (fun r_2 H locs hf hW hS => ?_)
  subst hQ
  exact mrz hx hb hr hlocks hZ hT hS hW (zrt_s hf).1 ⟨(zrt_s hf).2, rfl⟩ dX9_knowsSelf_12
def f_X9_wishesHeld (σ : Mem) (p0 : Nat) : Option (Int32) :=
  fx2 FU (fun k_3 (i_1 : Int32) (i_2 : Int32) => rfc (σ.2.2 p0 0) (fun (T_4 : Nat) => bd1 (f_X11_wishes σ T_4) (fun (r_5 : Int32) => (if r_5 ≤ i_2 then some i_1 else rfc (σ.2.2 p0 0) (fun (T_6 : Nat) => bd1 (f_X12_get σ (T_6 + 8) i_2) (fun (r_7 : Int32) => rfc (σ.2.2 p0 0) (fun (T_8 : Nat) => bd1 (f_X12_get σ (T_8 + 9) i_2) (fun (r_9 : Int32) => bd1 (f_X9_knowsSelf σ p0 r_7 r_9) (fun (r_10 : Int32) => jn1 (fun (i_11 : Int32) => nm (i_1 ||| i_11) (fun (x_13 : Int32) => nm (i_2 + 1) (fun (x_14 : Int32) => k_3 x_13 x_14))) (fun k_12 => (if r_10 = 0 then k_12 0 else k_12 (1 <<< (i_2 &&& 31))))))))))))) 0 0
set_option maxHeartbeats 4000000 in
set_option maxRecDepth 100000 in
theorem c_X9_wishesHeld (g : XG) (l : Launch) (lo n : Nat) (σ : Mem) (p0 : Nat) (t0 : tp 9 lo n p0) (r : Int32) (hf : f_X9_wishesHeld σ p0 = some r) : Met l yX9_wishesHeld (wx (.code yX9_wishesHeld cX9_wishesHeld 3 (some .int))) (kr 4 128) (va_Pc [.ref (bs g p0)] (WS g lo n σ)) (Qi' g lo n r σ) 0 0 (Ag g lo) := by
  refine Met.ofW (cc := cX9_wishesHeld) (maxL := 3) (ret := (some .int)) (by decide) rfl ?_
  intro p e s m args below meth c s₁ B hml hv
  obtain ⟨rfl, hZ, hT, hW⟩ := hv
  have hx := B.exec
  have hb := B.bytes
  have hr := B.returns
  have hts : ∀ w ∈ wx (.code yX9_wishesHeld cX9_wishesHeld 3 (some .int)), w.before _ s = true := atoms_spec B.pre
  have htg : ∀ w ∈ lwg, w.before _ s = true := fun w h => hts w (List.mem_cons_of_mem _ h)
  have hown : s.vm.findClass RX9 = some m.cls := findClass_of_methodNamed B.named
  have hlocks := B.notSynchronized
  change W p l e (kr 4 128) s m (List.toArray [.ref (bs g p0)]) below meth c s.heap [] 0 0 (MQ below (Qi' g lo n r σ) (List.toArray [.ref (bs g p0)]) s 0 0 (Ag g lo)) _
  generalize hQ : MQ below (Qi' g lo n r σ) (List.toArray [.ref (bs g p0)]) s 0 0 (Ag g lo) = Q
  have hS : va_S (Ag g lo) s.heap s.heap [] := va_S.rf
  have hl := lv_entry ([.ref (bs g p0)]) (n := 3) (Nat.le_of_ble_eq_true rfl)
  rw [lg_entry_eq]
  generalize (lg_sl ([.ref (bs g p0)]) ++ List.replicate (3 - (lg_sl ([.ref (bs g p0)])).length) Slot.unset).toArray = ls at hl ⊢
  have hl : lv_has ls 3 [(0, .ref (bs g p0))] := hl
  delta f_X9_wishesHeld at hf
  obtain ⟨H, hH⟩ : ∃ H, H = s.heap := ⟨_, rfl⟩
  obtain ⟨locs, hLc⟩ : ∃ z : List Loc, z = [] := ⟨_, rfl⟩
  have hS : va_S (Ag g lo) s.heap H locs := by rw [hH, hLc]; exact hS
  have hW : Wd g lo n σ H := by rw [hH]; exact hW
  suffices hG : W p l e (kr 4 128) s m (List.toArray [.ref (bs g p0)]) below meth c H locs 0 0 Q (F0 m 0 ls []) by rw [hH, hLc] at hG; exact hG
  clear hH hLc
  refine lv_iconst (v := 0) hx hb dX9_wishesHeld_0 (by decide) ?_
  refine lv_istore_n (lv' := [(1, .int 0), (0, .ref (bs g p0))]) hx hb dX9_wishesHeld_1 rfl hl (by decide) rfl (fun ls hl => ?_)
  refine lv_iconst (v := 0) hx hb dX9_wishesHeld_2 (by decide) ?_
  refine lv_istore_n (lv' := [(2, .int 0), (1, .int 0), (0, .ref (bs g p0))]) hx hb dX9_wishesHeld_3 rfl hl (by decide) rfl (fun ls hl => ?_)
  refine fx2_W (fun (i_1 : Int32) (i_2 : Int32) => ∀ (H : Heap) (locs : List Loc) (ls : Array Slot), Wd g lo n σ H → va_S (Ag g lo) s.heap H locs → lv_has ls 3 [(0, .ref (bs g p0)), (1, .int i_1), (2, .int i_2)] → W p l e (kr 4 128) s m (List.toArray [.ref (bs g p0)]) below meth c H locs 0 0 Q (F0 m 4 ls [])) (fun k_3 hk_3 i_1 i_2 hf => ?_) FU 0 0 hf H locs ls hW hS (lv_sub hl [2, 1, 0] rfl)
  intro H locs ls hW hS hl
  refine lv_iload_n hx hb dX9_wishesHeld_4 rfl (lv_at hl 2 rfl) ?_
  refine lv_aload_n hx hb dX9_wishesHeld_5 rfl (lv_at hl 0 rfl) ?_
  refine gf_9_0 hx hb htg (htg _ lf_X9_26) hown hZ hW t0 dX9_wishesHeld_6 hf (fun T_4 tT_4 hf => ?_)
  refine mcip hf hS (fun r h => va_runV (As := []) (rest := [.int i_2]) ⟨hx, hb, hml, hown, hts⟩ (c_X11_wishes g l lo n σ T_4 tT_4 r h) (cl_X9_119 hts ⟨Nat.le_of_ble_eq_true rfl, Nat.le_of_ble_eq_true rfl⟩) (mpV_11 hZ hT hS hW tT_4 _) rfl rfl hl.1 rfl (lv_room (Nat.le_of_ble_eq_true rfl)) dX9_wishesHeld_9 ⟨Nat.zero_le _, Nat.zero_le _⟩) (fun r_5 H locs hf hW hS => ?_)
  refine lv_icmp_ge (tgt := 60) hx hb dX9_wishesHeld_12 (by decide) (fun hc => ?_) (fun hc => ?_)
  · have hf := ift hc hf
    refine lv_iload_n hx hb dX9_wishesHeld_60 rfl (lv_at hl 1 rfl) ?_
    subst hQ
    exact mri hx hb hr hlocks hZ hT hS hW ⟨Option.some.inj hf, rfl⟩ dX9_wishesHeld_61
  · have hf := iff_ hc hf
    refine lv_iload_n hx hb dX9_wishesHeld_15 rfl (lv_at hl 1 rfl) ?_
    refine lv_aload_n hx hb dX9_wishesHeld_16 rfl (lv_at hl 0 rfl) ?_
    refine lv_aload_n hx hb dX9_wishesHeld_17 rfl (lv_at hl 0 rfl) ?_
    refine gf_9_0 hx hb htg (htg _ lf_X9_26) hown hZ hW t0 dX9_wishesHeld_18 hf (fun T_6 tT_6 hf => ?_)
    refine gfN_11_10 hx hb htg ln_X9_122 hown hZ hW tT_6 dX9_wishesHeld_21 ?_
    refine lv_iload_n hx hb dX9_wishesHeld_24 rfl (lv_at hl 2 rfl) ?_
    refine mcip hf hS (fun r h => va_runSN (As := [.ref (bs g (T_6 + 8)), .int i_2]) (rest := [.ref (bs g p0), .int i_1]) ⟨hx, hb, hml, hown, hts⟩ (c_X12_get g l lo n σ (T_6 + 8) i_2 (tT_6.sub 20 8 so_11_20_8) r h) (cl_X9_53 hts hZ ⟨Nat.le_of_ble_eq_true rfl, Nat.le_of_ble_eq_true rfl⟩) (mpS hZ hT hS hW _) rfl rfl hl.1 rfl (lv_room (Nat.le_of_ble_eq_true rfl)) dX9_wishesHeld_25 ⟨Nat.zero_le _, Nat.zero_le _⟩) (fun r_7 H locs hf hW hS => ?_)
    refine lv_aload_n hx hb dX9_wishesHeld_28 rfl (lv_at hl 0 rfl) ?_
    refine gf_9_0 hx hb htg (htg _ lf_X9_26) hown hZ hW t0 dX9_wishesHeld_29 hf (fun T_8 tT_8 hf => ?_)
    refine gfN_11_11 hx hb htg ln_X9_125 hown hZ hW tT_8 dX9_wishesHeld_32 ?_
    refine lv_iload_n hx hb dX9_wishesHeld_35 rfl (lv_at hl 2 rfl) ?_
    refine mcip hf hS (fun r h => va_runSN (As := [.ref (bs g (T_8 + 9)), .int i_2]) (rest := [.int r_7, .ref (bs g p0), .int i_1]) ⟨hx, hb, hml, hown, hts⟩ (c_X12_get g l lo n σ (T_8 + 9) i_2 (tT_8.sub 20 9 so_11_20_9) r h) (cl_X9_53 hts hZ ⟨Nat.le_of_ble_eq_true rfl, Nat.le_of_ble_eq_true rfl⟩) (mpS hZ hT hS hW _) rfl rfl hl.1 rfl (lv_room (Nat.le_of_ble_eq_true rfl)) dX9_wishesHeld_36 ⟨Nat.zero_le _, Nat.zero_le _⟩) (fun r_9 H locs hf hW hS => ?_)
    refine mcip hf hS (fun r h => va_runV (As := [.int r_7, .int r_9]) (rest := [.int i_1]) ⟨hx, hb, hml, hown, hts⟩ (c_X9_knowsSelf g l lo n σ p0 r_7 r_9 t0 r h) (cl_X9_113 hts ⟨Nat.le_of_ble_eq_true rfl, Nat.le_of_ble_eq_true rfl⟩) (mpV_9 hZ hT hS hW t0 _) rfl rfl hl.1 rfl (lv_room (Nat.le_of_ble_eq_true rfl)) dX9_wishesHeld_39 ⟨Nat.zero_le _, Nat.zero_le _⟩) (fun r_10 H locs hf hW hS => ?_)
    refine jn1_W (fun (i_11 : Int32) => ∀ (H : Heap) (locs : List Loc) (ls : Array Slot), Wd g lo n σ H → va_S (Ag g lo) s.heap H locs → lv_has ls 3 [(0, .ref (bs g p0)), (2, .int i_2)] → W p l e (kr 4 128) s m (List.toArray [.ref (bs g p0)]) below meth c H locs 0 0 Q (F0 m 52 ls [.int i_11, .int i_1])) hf (fun i_11 hf => ?_) (fun k_12 hk_12 hf => ?_)
    · intro H locs ls hW hS hl
      refine lv_ior hx hb dX9_wishesHeld_52 ?_
      refine mnmi hf (fun (x_13 : Int32) hf => ?_)
      refine lv_istore_n (lv' := [(1, .int x_13), (0, .ref (bs g p0)), (2, .int i_2)]) hx hb dX9_wishesHeld_53 rfl hl (by decide) rfl (fun ls hl => ?_)
      obtain ⟨x_14, e_15, hf⟩ := nm_s hf
      refine lv_iinc (v := x_14) (lv' := [(2, .int x_14), (1, .int x_13), (0, .ref (bs g p0))]) hx hb dX9_wishesHeld_54 hl (k := 2) rfl (by rw [e_15]; rfl) (by decide) rfl (fun ls hl => ?_)
      refine lv_goto (tgt := 4) hx hb dX9_wishesHeld_57 (by decide) ?_
      exact hk_3 x_13 x_14 hf H locs ls hW hS (lv_sub hl [2, 1, 0] rfl)
    · refine lv_if_eq (tgt := 51) hx hb dX9_wishesHeld_42 (by decide) (fun hc => ?_) (fun hc => ?_)
      · have hf := ift hc hf
        refine lv_iconst (v := 0) hx hb dX9_wishesHeld_51 (by decide) ?_
        exact hk_12 0 hf H locs ls hW hS (lv_sub hl [0, 2] rfl)
      · have hf := iff_ hc hf
        refine lv_iconst (v := 1) hx hb dX9_wishesHeld_45 (by decide) ?_
        refine lv_iload_n hx hb dX9_wishesHeld_46 rfl (lv_at hl 2 rfl) ?_
        refine lv_ishl hx hb dX9_wishesHeld_47 ?_
        refine lv_goto (tgt := 52) hx hb dX9_wishesHeld_48 (by decide) ?_
        exact hk_12 (1 <<< (i_2 &&& 31)) hf H locs ls hW hS (lv_sub hl [0, 2] rfl)
def f_X3_visitWith (σ : Mem) (a1 : Int32) (a2 : Int32) (a3 : Int32) (a4 : Int32) : Option (Int32) :=
  bd1 (f_X12_get σ (51 + 2) a1) (fun (r_1 : Int32) => fx2 FU (fun k_4 (i_2 : Int32) (i_3 : Int32) => (if a4 ≤ i_3 then some i_2 else bd1 (f_X12_get σ (51 + 3) i_3) (fun (r_5 : Int32) => dvd 10 (nm (r_5 / 10) (fun (x_6 : Int32) => bd1 (f_X12_get σ (51 + 3) i_3) (fun (r_7 : Int32) => dvd 10 (jn1 (fun (i_8 : Int32) => nm (i_3 + 1) (fun (x_10 : Int32) => k_4 i_8 x_10)) (fun k_9 => (if (r_7 - r_7 / 10 * 10) = a2 then (if a3 < x_6 then k_9 i_2 else nm (if i_2 < x_6 then x_6 else i_2) (fun (x_12 : Int32) => k_9 x_12)) else k_9 i_2))))))))) r_1 0)
set_option maxHeartbeats 4000000 in
set_option maxRecDepth 100000 in
theorem c_X3_visitWith (g : XG) (l : Launch) (σ : Mem) (a1 : Int32) (a2 : Int32) (a3 : Int32) (a4 : Int32) (r : Int32) (hf : f_X3_visitWith σ a1 a2 a3 a4 = some r) : Met l yX3_visitWith (wx (.code yX3_visitWith cX3_visitWith 8 (some .int))) (kr 1 60) (va_Pc [.ref (bs g 51), .int a1, .int a2, .int a3, .int a4] (WS g 0 81 σ)) (Qi' g 0 81 r σ) 0 0 (Ag g 0) := by
  refine Met.ofW (cc := cX3_visitWith) (maxL := 8) (ret := (some .int)) (by decide) rfl ?_
  intro p e s m args below meth c s₁ B hml hv
  obtain ⟨rfl, hZ, hT, hW⟩ := hv
  have hx := B.exec
  have hb := B.bytes
  have hr := B.returns
  have hts : ∀ w ∈ wx (.code yX3_visitWith cX3_visitWith 8 (some .int)), w.before _ s = true := atoms_spec B.pre
  have htg : ∀ w ∈ lwg, w.before _ s = true := fun w h => hts w (List.mem_cons_of_mem _ h)
  have hown : s.vm.findClass RX3 = some m.cls := findClass_of_methodNamed B.named
  have hlocks := B.notSynchronized
  change W p l e (kr 1 60) s m (List.toArray [.ref (bs g 51), .int a1, .int a2, .int a3, .int a4]) below meth c s.heap [] 0 0 (MQ below (Qi' g 0 81 r σ) (List.toArray [.ref (bs g 51), .int a1, .int a2, .int a3, .int a4]) s 0 0 (Ag g 0)) _
  generalize hQ : MQ below (Qi' g 0 81 r σ) (List.toArray [.ref (bs g 51), .int a1, .int a2, .int a3, .int a4]) s 0 0 (Ag g 0) = Q
  have hS : va_S (Ag g 0) s.heap s.heap [] := va_S.rf
  have hl := lv_entry ([.ref (bs g 51), .int a1, .int a2, .int a3, .int a4]) (n := 8) (Nat.le_of_ble_eq_true rfl)
  rw [lg_entry_eq]
  generalize (lg_sl ([.ref (bs g 51), .int a1, .int a2, .int a3, .int a4]) ++ List.replicate (8 - (lg_sl ([.ref (bs g 51), .int a1, .int a2, .int a3, .int a4])).length) Slot.unset).toArray = ls at hl ⊢
  have hl : lv_has ls 8 [(0, .ref (bs g 51)), (1, .int a1), (2, .int a2), (3, .int a3), (4, .int a4)] := hl
  delta f_X3_visitWith at hf
  obtain ⟨H, hH⟩ : ∃ H, H = s.heap := ⟨_, rfl⟩
  obtain ⟨locs, hLc⟩ : ∃ z : List Loc, z = [] := ⟨_, rfl⟩
  have hS : va_S (Ag g 0) s.heap H locs := by rw [hH, hLc]; exact hS
  have hW : Wd g 0 81 σ H := by rw [hH]; exact hW
  suffices hG : W p l e (kr 1 60) s m (List.toArray [.ref (bs g 51), .int a1, .int a2, .int a3, .int a4]) below meth c H locs 0 0 Q (F0 m 0 ls []) by rw [hH, hLc] at hG; exact hG
  clear hH hLc
  refine lv_aload_n hx hb dX3_visitWith_0 rfl (lv_at hl 0 rfl) ?_
  refine gf_3_1 hx hb htg (htg _ lf_X3_15) hown hZ hW tz_51 dX3_visitWith_1 ?_
  refine lv_iload_n hx hb dX3_visitWith_4 rfl (lv_at hl 1 rfl) ?_
  refine mcip hf hS (fun r h => va_runSN (As := [.ref (bs g (51 + 2)), .int a1]) (rest := []) ⟨hx, hb, hml, hown, hts⟩ (c_X12_get g l 0 81 σ (51 + 2) a1 (tz_51.sub 20 2 so_3_20_2) r h) (cl_X3_36 hts hZ ⟨Nat.le_of_ble_eq_true rfl, Nat.le_of_ble_eq_true rfl⟩) (mpS hZ hT hS hW _) rfl rfl hl.1 rfl (lv_room (Nat.le_of_ble_eq_true rfl)) dX3_visitWith_5 ⟨Nat.zero_le _, Nat.zero_le _⟩) (fun r_1 H locs hf hW hS => ?_)
  refine lv_istore (lv' := [(5, .int r_1), (0, .ref (bs g 51)), (1, .int a1), (2, .int a2), (3, .int a3), (4, .int a4)]) hx hb dX3_visitWith_8 hl (by decide) rfl (fun ls hl => ?_)
  refine lv_iconst (v := 0) hx hb dX3_visitWith_10 (by decide) ?_
  refine lv_istore (lv' := [(6, .int 0), (5, .int r_1), (0, .ref (bs g 51)), (1, .int a1), (2, .int a2), (3, .int a3), (4, .int a4)]) hx hb dX3_visitWith_11 hl (by decide) rfl (fun ls hl => ?_)
  refine fx2_W (fun (i_2 : Int32) (i_3 : Int32) => ∀ (H : Heap) (locs : List Loc) (ls : Array Slot), Wd g 0 81 σ H → va_S (Ag g 0) s.heap H locs → lv_has ls 8 [(0, .ref (bs g 51)), (2, .int a2), (3, .int a3), (4, .int a4), (5, .int i_2), (6, .int i_3)] → W p l e (kr 1 60) s m (List.toArray [.ref (bs g 51), .int a1, .int a2, .int a3, .int a4]) below meth c H locs 0 0 Q (F0 m 13 ls [])) (fun k_4 hk_4 i_2 i_3 hf => ?_) FU r_1 0 hf H locs ls hW hS (lv_sub hl [2, 4, 5, 6, 1, 0] rfl)
  intro H locs ls hW hS hl
  refine lv_iload hx hb dX3_visitWith_13 (lv_at hl 5 rfl) ?_
  refine lv_iload hx hb dX3_visitWith_15 (lv_at hl 3 rfl) ?_
  refine lv_icmp_ge (tgt := 71) hx hb dX3_visitWith_17 (by decide) (fun hc => ?_) (fun hc => ?_)
  · have hf := ift hc hf
    refine lv_iload hx hb dX3_visitWith_71 (lv_at hl 4 rfl) ?_
    subst hQ
    exact mri hx hb hr hlocks hZ hT hS hW ⟨Option.some.inj hf, rfl⟩ dX3_visitWith_73
  · have hf := iff_ hc hf
    refine lv_aload_n hx hb dX3_visitWith_20 rfl (lv_at hl 0 rfl) ?_
    refine gf_3_2 hx hb htg (htg _ lf_X3_18) hown hZ hW tz_51 dX3_visitWith_21 ?_
    refine lv_iload hx hb dX3_visitWith_24 (lv_at hl 5 rfl) ?_
    refine mcip hf hS (fun r h => va_runSN (As := [.ref (bs g (51 + 3)), .int i_3]) (rest := []) ⟨hx, hb, hml, hown, hts⟩ (c_X12_get g l 0 81 σ (51 + 3) i_3 (tz_51.sub 20 3 so_3_20_3) r h) (cl_X3_36 hts hZ ⟨Nat.le_of_ble_eq_true rfl, Nat.le_of_ble_eq_true rfl⟩) (mpS hZ hT hS hW _) rfl rfl hl.1 rfl (lv_room (Nat.le_of_ble_eq_true rfl)) dX3_visitWith_26 ⟨Nat.zero_le _, Nat.zero_le _⟩) (fun r_5 H locs hf hW hS => ?_)
    refine lv_bipush (v := 10) hx hb dX3_visitWith_29 (by decide) ?_
    obtain ⟨hd, hf⟩ := dvd_s hf
    refine lv_idiv hx hb dX3_visitWith_31 hd ?_
    refine mnmi hf (fun (x_6 : Int32) hf => ?_)
    refine lv_istore (lv' := [(7, .int x_6), (0, .ref (bs g 51)), (2, .int a2), (3, .int a3), (4, .int a4), (5, .int i_2), (6, .int i_3)]) hx hb dX3_visitWith_32 hl (by decide) rfl (fun ls hl => ?_)
    refine lv_aload_n hx hb dX3_visitWith_34 rfl (lv_at hl 1 rfl) ?_
    refine gf_3_2 hx hb htg (htg _ lf_X3_18) hown hZ hW tz_51 dX3_visitWith_35 ?_
    refine lv_iload hx hb dX3_visitWith_38 (lv_at hl 6 rfl) ?_
    refine mcip hf hS (fun r h => va_runSN (As := [.ref (bs g (51 + 3)), .int i_3]) (rest := []) ⟨hx, hb, hml, hown, hts⟩ (c_X12_get g l 0 81 σ (51 + 3) i_3 (tz_51.sub 20 3 so_3_20_3) r h) (cl_X3_36 hts hZ ⟨Nat.le_of_ble_eq_true rfl, Nat.le_of_ble_eq_true rfl⟩) (mpS hZ hT hS hW _) rfl rfl hl.1 rfl (lv_room (Nat.le_of_ble_eq_true rfl)) dX3_visitWith_40 ⟨Nat.zero_le _, Nat.zero_le _⟩) (fun r_7 H locs hf hW hS => ?_)
    refine lv_bipush (v := 10) hx hb dX3_visitWith_43 (by decide) ?_
    obtain ⟨hd, hf⟩ := dvd_s hf
    refine lv_irem hx hb dX3_visitWith_45 hd ?_
    refine lv_iload_n hx hb dX3_visitWith_46 rfl (lv_at hl 2 rfl) ?_
    refine jn1_W (fun (i_8 : Int32) => ∀ (H : Heap) (locs : List Loc) (ls : Array Slot), Wd g 0 81 σ H → va_S (Ag g 0) s.heap H locs → lv_has ls 8 [(0, .ref (bs g 51)), (2, .int a2), (3, .int a3), (4, .int a4), (5, .int i_8), (6, .int i_3)] → W p l e (kr 1 60) s m (List.toArray [.ref (bs g 51), .int a1, .int a2, .int a3, .int a4]) below meth c H locs 0 0 Q (F0 m 65 ls [])) hf (fun i_8 hf => ?_) (fun k_9 hk_9 hf => ?_)
    · intro H locs ls hW hS hl
      obtain ⟨x_10, e_11, hf⟩ := nm_s hf
      refine lv_iinc (v := x_10) (lv' := [(6, .int x_10), (0, .ref (bs g 51)), (2, .int a2), (3, .int a3), (4, .int a4), (5, .int i_8)]) hx hb dX3_visitWith_65 hl (k := 5) rfl (by rw [e_11]; rfl) (by decide) rfl (fun ls hl => ?_)
      refine lv_goto (tgt := 13) hx hb dX3_visitWith_68 (by decide) ?_
      exact hk_4 i_8 x_10 hf H locs ls hW hS (lv_sub hl [1, 2, 3, 4, 5, 0] rfl)
    · refine lv_icmp_ne (tgt := 65) hx hb dX3_visitWith_47 (by decide) (fun hc => ?_) (fun hc => ?_)
      · have hf := iff_ hc hf
        exact hk_9 i_2 hf H locs ls hW hS (lv_sub hl [1, 2, 3, 4, 5, 6] rfl)
      · have hf := ift hc hf
        refine lv_iload hx hb dX3_visitWith_50 (lv_at hl 0 rfl) ?_
        refine lv_iload_n hx hb dX3_visitWith_52 rfl (lv_at hl 3 rfl) ?_
        refine lv_icmp_gt (tgt := 65) hx hb dX3_visitWith_53 (by decide) (fun hc => ?_) (fun hc => ?_)
        · have hf := ift hc hf
          exact hk_9 i_2 hf H locs ls hW hS (lv_sub hl [1, 2, 3, 4, 5, 6] rfl)
        · have hf := iff_ hc hf
          refine lv_iload hx hb dX3_visitWith_56 (lv_at hl 5 rfl) ?_
          refine lv_iload hx hb dX3_visitWith_58 (lv_at hl 0 rfl) ?_
          refine va_mmax hx hb (hml.trans hl.1.symm) hown (htg _ lm_X3_112) (htg _ lst_Math_max) (htg _ ini_Math) (htg _ lc_Math_max) (Nat.le_of_ble_eq_true rfl) (Nat.le_of_ble_eq_true rfl) (Nat.zero_le _) (Nat.zero_le _) dX3_visitWith_60 ?_
          refine mnmi hf (fun (x_12 : Int32) hf => ?_)
          refine lv_istore (lv' := [(5, .int x_12), (7, .int x_6), (0, .ref (bs g 51)), (2, .int a2), (3, .int a3), (4, .int a4), (6, .int i_3)]) hx hb dX3_visitWith_63 hl (by decide) rfl (fun ls hl => ?_)
          exact hk_9 x_12 hf H locs ls hW hS (lv_sub hl [2, 3, 4, 5, 0, 6] rfl)
def f_X3_lookAtWishes (σ : Mem) (p1 : Nat) (a2 : Int32) : Option (Mem) :=
  nm (sI σ 51 5 30) (fun (σ_1 : Mem) => nm (sI σ_1 51 6 0) (fun (σ_2 : Mem) => fx2 FU (fun k_5 (i_3 : Int32) (σ_4 : Mem) => rfc (σ_4.2.2 p1 0) (fun (T_6 : Nat) => bd1 (f_X11_wishes σ_4 T_6) (fun (r_7 : Int32) => (if r_7 ≤ i_3 then some σ_4 else rfc (σ_4.2.2 p1 0) (fun (T_8 : Nat) => bd1 (f_X12_get σ_4 (T_8 + 8) i_3) (fun (r_9 : Int32) => rfc (σ_4.2.2 p1 0) (fun (T_10 : Nat) => bd1 (f_X12_get σ_4 (T_10 + 9) i_3) (fun (r_11 : Int32) => bd1 (f_X3_visitWith σ_4 i_3 r_9 r_11 a2) (fun (r_12 : Int32) => bd1 (f_X9_knowsBy σ_4 p1 r_9 r_11 r_12) (fun (r_13 : Int32) => jn1 (fun (σ_14 : Mem) => nm (i_3 + 1) (fun (x_16 : Int32) => k_5 x_16 σ_14)) (fun k_15 => (if r_13 = 0 then nm (if r_11 < (σ_4.1 51 5) then r_11 else (σ_4.1 51 5)) (fun (x_18 : Int32) => nm (sI σ_4 51 5 x_18) (fun (σ_19 : Mem) => nm (sI σ_19 51 6 ((σ_19.1 51 6) ||| (1 <<< (r_9 &&& 31)))) (fun (σ_20 : Mem) => k_15 σ_20))) else k_15 σ_4)))))))))))) 0 σ_2))
set_option maxHeartbeats 4000000 in
set_option maxRecDepth 100000 in
theorem c_X3_lookAtWishes (g : XG) (l : Launch) (σ : Mem) (p1 : Nat) (a2 : Int32) (t1 : tp 9 0 81 p1) (τ : Mem) (hf : f_X3_lookAtWishes σ p1 a2 = some τ) : Met l yX3_lookAtWishes (wx (.code yX3_lookAtWishes cX3_lookAtWishes 6 none)) (kr 3 106) (va_Pc [.ref (bs g 51), .ref (bs g p1), .int a2] (WS g 0 81 σ)) (Qv' g 0 81 τ) 0 0 (Ag g 0) := by
  refine Met.ofW (cc := cX3_lookAtWishes) (maxL := 6) (ret := none) (by decide) rfl ?_
  intro p e s m args below meth c s₁ B hml hv
  obtain ⟨rfl, hZ, hT, hW⟩ := hv
  have hx := B.exec
  have hb := B.bytes
  have hr := B.returns
  have hts : ∀ w ∈ wx (.code yX3_lookAtWishes cX3_lookAtWishes 6 none), w.before _ s = true := atoms_spec B.pre
  have htg : ∀ w ∈ lwg, w.before _ s = true := fun w h => hts w (List.mem_cons_of_mem _ h)
  have hown : s.vm.findClass RX3 = some m.cls := findClass_of_methodNamed B.named
  have hlocks := B.notSynchronized
  change W p l e (kr 3 106) s m (List.toArray [.ref (bs g 51), .ref (bs g p1), .int a2]) below meth c s.heap [] 0 0 (MQ below (Qv' g 0 81 τ) (List.toArray [.ref (bs g 51), .ref (bs g p1), .int a2]) s 0 0 (Ag g 0)) _
  generalize hQ : MQ below (Qv' g 0 81 τ) (List.toArray [.ref (bs g 51), .ref (bs g p1), .int a2]) s 0 0 (Ag g 0) = Q
  have hS : va_S (Ag g 0) s.heap s.heap [] := va_S.rf
  have hl := lv_entry ([.ref (bs g 51), .ref (bs g p1), .int a2]) (n := 6) (Nat.le_of_ble_eq_true rfl)
  rw [lg_entry_eq]
  generalize (lg_sl ([.ref (bs g 51), .ref (bs g p1), .int a2]) ++ List.replicate (6 - (lg_sl ([.ref (bs g 51), .ref (bs g p1), .int a2])).length) Slot.unset).toArray = ls at hl ⊢
  have hl : lv_has ls 6 [(0, .ref (bs g 51)), (1, .ref (bs g p1)), (2, .int a2)] := hl
  delta f_X3_lookAtWishes at hf
  obtain ⟨H, hH⟩ : ∃ H, H = s.heap := ⟨_, rfl⟩
  obtain ⟨locs, hLc⟩ : ∃ z : List Loc, z = [] := ⟨_, rfl⟩
  have hS : va_S (Ag g 0) s.heap H locs := by rw [hH, hLc]; exact hS
  have hW : Wd g 0 81 σ H := by rw [hH]; exact hW
  suffices hG : W p l e (kr 3 106) s m (List.toArray [.ref (bs g 51), .ref (bs g p1), .int a2]) below meth c H locs 0 0 Q (F0 m 0 ls []) by rw [hH, hLc] at hG; exact hG
  clear hH hLc
  refine lv_aload_n hx hb dX3_lookAtWishes_0 rfl (lv_at hl 0 rfl) ?_
  refine lv_bipush (v := 30) hx hb dX3_lookAtWishes_1 (by decide) ?_
  refine pf_3_5 hx hb htg (htg _ lf_X3_88) hown hZ hW hS tz_51 dX3_lookAtWishes_3 hf (fun σ_1 H locs hf hW hS => ?_)
  refine lv_aload_n hx hb dX3_lookAtWishes_6 rfl (lv_at hl 0 rfl) ?_
  refine lv_iconst (v := 0) hx hb dX3_lookAtWishes_7 (by decide) ?_
  refine pf_3_6 hx hb htg (htg _ lf_X3_91) hown hZ hW hS tz_51 dX3_lookAtWishes_8 hf (fun σ_2 H locs hf hW hS => ?_)
  refine lv_iconst (v := 0) hx hb dX3_lookAtWishes_11 (by decide) ?_
  refine lv_istore_n (lv' := [(3, .int 0), (0, .ref (bs g 51)), (1, .ref (bs g p1)), (2, .int a2)]) hx hb dX3_lookAtWishes_12 rfl hl (by decide) rfl (fun ls hl => ?_)
  refine fx2_W (fun (i_3 : Int32) (σ_4 : Mem) => ∀ (H : Heap) (locs : List Loc) (ls : Array Slot), Wd g 0 81 σ_4 H → va_S (Ag g 0) s.heap H locs → lv_has ls 6 [(0, .ref (bs g 51)), (1, .ref (bs g p1)), (2, .int a2), (3, .int i_3)] → W p l e (kr 3 106) s m (List.toArray [.ref (bs g 51), .ref (bs g p1), .int a2]) below meth c H locs 0 0 Q (F0 m 13 ls [])) (fun k_5 hk_5 i_3 σ_4 hf => ?_) FU 0 σ_2 hf H locs ls hW hS (lv_sub hl [1, 2, 3, 0] rfl)
  intro H locs ls hW hS hl
  refine lv_iload_n hx hb dX3_lookAtWishes_13 rfl (lv_at hl 3 rfl) ?_
  refine lv_aload_n hx hb dX3_lookAtWishes_14 rfl (lv_at hl 1 rfl) ?_
  refine gfN_9_0 hx hb htg ln_X3_21 hown hZ hW t1 dX3_lookAtWishes_15 hf (fun T_6 tT_6 hf => ?_)
  refine mcip hf hS (fun r h => va_runV (As := []) (rest := [.int i_3]) ⟨hx, hb, hml, hown, hts⟩ (c_X11_wishes g l 0 81 σ_4 T_6 tT_6 r h) (cl_X3_27 hts ⟨Nat.le_of_ble_eq_true rfl, Nat.le_of_ble_eq_true rfl⟩) (mpV_11 hZ hT hS hW tT_6 _) rfl rfl hl.1 rfl (lv_room (Nat.le_of_ble_eq_true rfl)) dX3_lookAtWishes_18 ⟨Nat.zero_le _, Nat.zero_le _⟩) (fun r_7 H locs hf hW hS => ?_)
  refine lv_icmp_ge (tgt := 103) hx hb dX3_lookAtWishes_21 (by decide) (fun hc => ?_) (fun hc => ?_)
  · have hf := ift hc hf
    subst hQ
    exact mrv hx hb hr hlocks hZ hT hS hW (Option.some.inj hf) dX3_lookAtWishes_103
  · have hf := iff_ hc hf
    refine lv_aload_n hx hb dX3_lookAtWishes_24 rfl (lv_at hl 1 rfl) ?_
    refine gfN_9_0 hx hb htg ln_X3_21 hown hZ hW t1 dX3_lookAtWishes_25 hf (fun T_8 tT_8 hf => ?_)
    refine gfN_11_10 hx hb htg ln_X3_33 hown hZ hW tT_8 dX3_lookAtWishes_28 ?_
    refine lv_iload_n hx hb dX3_lookAtWishes_31 rfl (lv_at hl 3 rfl) ?_
    refine mcip hf hS (fun r h => va_runSN (As := [.ref (bs g (T_8 + 8)), .int i_3]) (rest := []) ⟨hx, hb, hml, hown, hts⟩ (c_X12_get g l 0 81 σ_4 (T_8 + 8) i_3 (tT_8.sub 20 8 so_11_20_8) r h) (cl_X3_36 hts hZ ⟨Nat.le_of_ble_eq_true rfl, Nat.le_of_ble_eq_true rfl⟩) (mpS hZ hT hS hW _) rfl rfl hl.1 rfl (lv_room (Nat.le_of_ble_eq_true rfl)) dX3_lookAtWishes_32 ⟨Nat.zero_le _, Nat.zero_le _⟩) (fun r_9 H locs hf hW hS => ?_)
    refine lv_istore (lv' := [(4, .int r_9), (0, .ref (bs g 51)), (1, .ref (bs g p1)), (2, .int a2), (3, .int i_3)]) hx hb dX3_lookAtWishes_35 hl (by decide) rfl (fun ls hl => ?_)
    refine lv_aload_n hx hb dX3_lookAtWishes_37 rfl (lv_at hl 2 rfl) ?_
    refine gfN_9_0 hx hb htg ln_X3_21 hown hZ hW t1 dX3_lookAtWishes_38 hf (fun T_10 tT_10 hf => ?_)
    refine gfN_11_11 hx hb htg ln_X3_40 hown hZ hW tT_10 dX3_lookAtWishes_41 ?_
    refine lv_iload_n hx hb dX3_lookAtWishes_44 rfl (lv_at hl 4 rfl) ?_
    refine mcip hf hS (fun r h => va_runSN (As := [.ref (bs g (T_10 + 9)), .int i_3]) (rest := []) ⟨hx, hb, hml, hown, hts⟩ (c_X12_get g l 0 81 σ_4 (T_10 + 9) i_3 (tT_10.sub 20 9 so_11_20_9) r h) (cl_X3_36 hts hZ ⟨Nat.le_of_ble_eq_true rfl, Nat.le_of_ble_eq_true rfl⟩) (mpS hZ hT hS hW _) rfl rfl hl.1 rfl (lv_room (Nat.le_of_ble_eq_true rfl)) dX3_lookAtWishes_45 ⟨Nat.zero_le _, Nat.zero_le _⟩) (fun r_11 H locs hf hW hS => ?_)
    refine lv_istore (lv' := [(5, .int r_11), (4, .int r_9), (0, .ref (bs g 51)), (1, .ref (bs g p1)), (2, .int a2), (3, .int i_3)]) hx hb dX3_lookAtWishes_48 hl (by decide) rfl (fun ls hl => ?_)
    refine lv_aload_n hx hb dX3_lookAtWishes_50 rfl (lv_at hl 3 rfl) ?_
    refine lv_iload hx hb dX3_lookAtWishes_51 (lv_at hl 1 rfl) ?_
    refine lv_iload hx hb dX3_lookAtWishes_53 (lv_at hl 0 rfl) ?_
    refine lv_aload_n hx hb dX3_lookAtWishes_55 rfl (lv_at hl 2 rfl) ?_
    refine lv_iload_n hx hb dX3_lookAtWishes_56 rfl (lv_at hl 5 rfl) ?_
    refine lv_iload hx hb dX3_lookAtWishes_57 (lv_at hl 1 rfl) ?_
    refine lv_iload hx hb dX3_lookAtWishes_59 (lv_at hl 0 rfl) ?_
    refine lv_iload_n hx hb dX3_lookAtWishes_61 rfl (lv_at hl 4 rfl) ?_
    refine mcip hf hS (fun r h => va_runV (As := [.int i_3, .int r_9, .int r_11, .int a2]) (rest := [.int r_11, .int r_9, .ref (bs g p1)]) ⟨hx, hb, hml, hown, hts⟩ (c_X3_visitWith g l σ_4 i_3 r_9 r_11 a2 r h) (cl_X3_103 hts ⟨Nat.le_of_ble_eq_true rfl, Nat.le_of_ble_eq_true rfl⟩) (mpV_3 hZ hT hS hW tz_51 _) rfl rfl hl.1 rfl (lv_room (Nat.le_of_ble_eq_true rfl)) dX3_lookAtWishes_62 ⟨Nat.zero_le _, Nat.zero_le _⟩) (fun r_12 H locs hf hW hS => ?_)
    refine mcip hf hS (fun r h => va_runV (As := [.int r_9, .int r_11, .int r_12]) (rest := []) ⟨hx, hb, hml, hown, hts⟩ (c_X9_knowsBy g l 0 81 σ_4 p1 r_9 r_11 r_12 t1 r h) (cl_X3_80 hts ⟨Nat.le_of_ble_eq_true rfl, Nat.le_of_ble_eq_true rfl⟩) (mpV_9 hZ hT hS hW t1 _) rfl rfl hl.1 rfl (lv_room (Nat.le_of_ble_eq_true rfl)) dX3_lookAtWishes_65 ⟨Nat.zero_le _, Nat.zero_le _⟩) (fun r_13 H locs hf hW hS => ?_)
    refine jn1_W (fun (σ_14 : Mem) => ∀ (H : Heap) (locs : List Loc) (ls : Array Slot), Wd g 0 81 σ_14 H → va_S (Ag g 0) s.heap H locs → lv_has ls 6 [(0, .ref (bs g 51)), (1, .ref (bs g p1)), (2, .int a2), (3, .int i_3)] → W p l e (kr 3 106) s m (List.toArray [.ref (bs g 51), .ref (bs g p1), .int a2]) below meth c H locs 0 0 Q (F0 m 97 ls [])) hf (fun σ_14 hf => ?_) (fun k_15 hk_15 hf => ?_)
    · intro H locs ls hW hS hl
      obtain ⟨x_16, e_17, hf⟩ := nm_s hf
      refine lv_iinc (v := x_16) (lv' := [(3, .int x_16), (0, .ref (bs g 51)), (1, .ref (bs g p1)), (2, .int a2)]) hx hb dX3_lookAtWishes_97 hl (k := 3) rfl (by rw [e_17]; rfl) (by decide) rfl (fun ls hl => ?_)
      refine lv_goto (tgt := 13) hx hb dX3_lookAtWishes_100 (by decide) ?_
      exact hk_5 x_16 σ_14 hf H locs ls hW hS (lv_sub hl [1, 2, 3, 0] rfl)
    · refine lv_if_ne (tgt := 97) hx hb dX3_lookAtWishes_68 (by decide) (fun hc => ?_) (fun hc => ?_)
      · have hf := iff_ hc hf
        exact hk_15 σ_4 hf H locs ls hW hS (lv_sub hl [2, 3, 4, 5] rfl)
      · have hf := ift hc hf
        refine lv_aload_n hx hb dX3_lookAtWishes_71 rfl (lv_at hl 2 rfl) ?_
        refine lv_aload_n hx hb dX3_lookAtWishes_72 rfl (lv_at hl 2 rfl) ?_
        refine gf_3_5 hx hb htg (htg _ lf_X3_88) hown hZ hW tz_51 dX3_lookAtWishes_73 ?_
        refine lv_iload hx hb dX3_lookAtWishes_76 (lv_at hl 0 rfl) ?_
        refine va_mmin hx hb (hml.trans hl.1.symm) hown (htg _ lm_X3_107) (htg _ lst_Math_min) (htg _ ini_Math) (htg _ lc_Math_min) (Nat.le_of_ble_eq_true rfl) (Nat.le_of_ble_eq_true rfl) (Nat.zero_le _) (Nat.zero_le _) dX3_lookAtWishes_78 ?_
        refine mnmi hf (fun (x_18 : Int32) hf => ?_)
        refine pf_3_5 hx hb htg (htg _ lf_X3_88) hown hZ hW hS tz_51 dX3_lookAtWishes_81 hf (fun σ_19 H locs hf hW hS => ?_)
        refine lv_aload_n hx hb dX3_lookAtWishes_84 rfl (lv_at hl 2 rfl) ?_
        refine lv_dup hx hb dX3_lookAtWishes_85 rfl ?_
        refine gf_3_6 hx hb htg (htg _ lf_X3_91) hown hZ hW tz_51 dX3_lookAtWishes_86 ?_
        refine lv_iconst (v := 1) hx hb dX3_lookAtWishes_89 (by decide) ?_
        refine lv_iload hx hb dX3_lookAtWishes_90 (lv_at hl 1 rfl) ?_
        refine lv_ishl hx hb dX3_lookAtWishes_92 ?_
        refine lv_ior hx hb dX3_lookAtWishes_93 ?_
        refine pf_3_6 hx hb htg (htg _ lf_X3_91) hown hZ hW hS tz_51 dX3_lookAtWishes_94 hf (fun σ_20 H locs hf hW hS => ?_)
        exact hk_15 σ_20 hf H locs ls hW hS (lv_sub hl [2, 3, 4, 5] rfl)
def f_X3_completesBy (rec : Mem → Nat → Int32 → Int32 → Option (Int32 × Mem)) (σ : Mem) (p1 : Nat) (a2 : Int32) (a3 : Int32) : Option (Int32 × Mem) :=
  bd1 (f_X12_get σ (51 + 1) a3) (fun (r_1 : Int32) => (if 3 ≤ a2 then some (0, σ) else jn0 (bd1 (f_X12_set σ (51 + 3) a2 r_1) (fun (σ_3 : Mem) => bd2 (rec σ_3 p1 (a2 + 1) (a3 + 1)) (fun (r_4 : Int32) (σ_5 : Mem) => zrm r_4 σ_5))) (fun k_2 => (if a2 ≤ 0 then k_2 else bd1 (f_X12_get σ (51 + 3) (a2 - 1)) (fun (r_6 : Int32) => dvd 10 (dvd 10 ((if (r_6 / 10) = (r_1 / 10) then some (0, σ) else k_2))))))))
set_option maxHeartbeats 4000000 in
set_option maxRecDepth 100000 in
theorem c_X3_completesBy (g : XG) (l : Launch) (d : Nat) (rec : Mem → Nat → Int32 → Int32 → Option (Int32 × Mem)) (ih : ∀ (σ : Mem) (p1 : Nat) (a2 : Int32) (a3 : Int32) (t1 : tp 9 0 81 p1) (r : Int32) (τ : Mem) (hf : rec σ p1 a2 a3 = some (r, τ)), Met l yX3_completes (wx (.code yX3_completes cX3_completes 6 (some .boolean))) (kr (4 + 2 * d) (131 + 49 * d)) (va_Pc [.ref (bs g 51), .ref (bs g p1), .int a2, .int a3] (WS g 0 81 σ)) (Qi' g 0 81 r τ) 0 0 (Ag g 0)) (σ : Mem) (p1 : Nat) (a2 : Int32) (a3 : Int32) (t1 : tp 9 0 81 p1) (r : Int32) (τ : Mem) (hf : f_X3_completesBy rec σ p1 a2 a3 = some (r, τ)) : Met l yX3_completesBy (wx (.code yX3_completesBy cX3_completesBy 5 (some .boolean))) (kr (4 + 2 * d + 1) (131 + 49 * d + 25)) (va_Pc [.ref (bs g 51), .ref (bs g p1), .int a2, .int a3] (WS g 0 81 σ)) (Qi' g 0 81 r τ) 0 0 (Ag g 0) := by
  refine Met.ofW (cc := cX3_completesBy) (maxL := 5) (ret := (some .boolean)) (by decide) rfl ?_
  intro p e s m args below meth c s₁ B hml hv
  obtain ⟨rfl, hZ, hT, hW⟩ := hv
  have hx := B.exec
  have hb := B.bytes
  have hr := B.returns
  have hts : ∀ w ∈ wx (.code yX3_completesBy cX3_completesBy 5 (some .boolean)), w.before _ s = true := atoms_spec B.pre
  have htg : ∀ w ∈ lwg, w.before _ s = true := fun w h => hts w (List.mem_cons_of_mem _ h)
  have hown : s.vm.findClass RX3 = some m.cls := findClass_of_methodNamed B.named
  have hlocks := B.notSynchronized
  change W p l e (kr (4 + 2 * d + 1) (131 + 49 * d + 25)) s m (List.toArray [.ref (bs g 51), .ref (bs g p1), .int a2, .int a3]) below meth c s.heap [] 0 0 (MQ below (Qi' g 0 81 r τ) (List.toArray [.ref (bs g 51), .ref (bs g p1), .int a2, .int a3]) s 0 0 (Ag g 0)) _
  generalize hQ : MQ below (Qi' g 0 81 r τ) (List.toArray [.ref (bs g 51), .ref (bs g p1), .int a2, .int a3]) s 0 0 (Ag g 0) = Q
  have hS : va_S (Ag g 0) s.heap s.heap [] := va_S.rf
  have hl := lv_entry ([.ref (bs g 51), .ref (bs g p1), .int a2, .int a3]) (n := 5) (Nat.le_of_ble_eq_true rfl)
  rw [lg_entry_eq]
  generalize (lg_sl ([.ref (bs g 51), .ref (bs g p1), .int a2, .int a3]) ++ List.replicate (5 - (lg_sl ([.ref (bs g 51), .ref (bs g p1), .int a2, .int a3])).length) Slot.unset).toArray = ls at hl ⊢
  have hl : lv_has ls 5 [(0, .ref (bs g 51)), (1, .ref (bs g p1)), (2, .int a2), (3, .int a3)] := hl
  delta f_X3_completesBy at hf
  obtain ⟨H, hH⟩ : ∃ H, H = s.heap := ⟨_, rfl⟩
  obtain ⟨locs, hLc⟩ : ∃ z : List Loc, z = [] := ⟨_, rfl⟩
  have hS : va_S (Ag g 0) s.heap H locs := by rw [hH, hLc]; exact hS
  have hW : Wd g 0 81 σ H := by rw [hH]; exact hW
  suffices hG : W p l e (kr (4 + 2 * d + 1) (131 + 49 * d + 25)) s m (List.toArray [.ref (bs g 51), .ref (bs g p1), .int a2, .int a3]) below meth c H locs 0 0 Q (F0 m 0 ls []) by rw [hH, hLc] at hG; exact hG
  clear hH hLc
  refine lv_aload_n hx hb dX3_completesBy_0 rfl (lv_at hl 0 rfl) ?_
  refine gf_3_0 hx hb htg (htg _ lf_X3_9) hown hZ hW tz_51 dX3_completesBy_1 ?_
  refine lv_iload_n hx hb dX3_completesBy_4 rfl (lv_at hl 3 rfl) ?_
  refine mcip hf hS (fun r h => va_runSN (As := [.ref (bs g (51 + 1)), .int a3]) (rest := []) ⟨hx, hb, hml, hown, hts⟩ (c_X12_get g l 0 81 σ (51 + 1) a3 (tz_51.sub 20 1 so_3_20_1) r h) (cl_X3_36 hts hZ ⟨by dsimp only; omega, by dsimp only; omega⟩) (mpS hZ hT hS hW _) rfl rfl hl.1 rfl (lv_room (Nat.le_of_ble_eq_true rfl)) dX3_completesBy_5 ⟨Nat.zero_le _, Nat.zero_le _⟩) (fun r_1 H locs hf hW hS => ?_)
  refine lv_istore (lv' := [(4, .int r_1), (0, .ref (bs g 51)), (1, .ref (bs g p1)), (2, .int a2), (3, .int a3)]) hx hb dX3_completesBy_8 hl (by decide) rfl (fun ls hl => ?_)
  refine lv_iload_n hx hb dX3_completesBy_10 rfl (lv_at hl 3 rfl) ?_
  refine lv_iconst (v := 3) hx hb dX3_completesBy_11 (by decide) ?_
  refine lv_icmp_ge (tgt := 40) hx hb dX3_completesBy_12 (by decide) (fun hc => ?_) (fun hc => ?_)
  · have hf := ift hc hf
    refine lv_iconst (v := 0) hx hb dX3_completesBy_40 (by decide) ?_
    subst hQ
    exact mrz hx hb hr hlocks hZ hT hS hW (by decide) (pr1 hf) dX3_completesBy_41
  · have hf := iff_ hc hf
    refine lv_iload_n hx hb dX3_completesBy_15 rfl (lv_at hl 3 rfl) ?_
    refine jn0_W (∀ (H : Heap) (locs : List Loc) (ls : Array Slot), Wd g 0 81 σ H → va_S (Ag g 0) s.heap H locs → lv_has ls 5 [(0, .ref (bs g 51)), (1, .ref (bs g p1)), (2, .int a2), (3, .int a3), (4, .int r_1)] → W p l e (kr (4 + 2 * d + 1) (131 + 49 * d + 25)) s m (List.toArray [.ref (bs g 51), .ref (bs g p1), .int a2, .int a3]) below meth c H locs 0 0 Q (F0 m 42 ls [])) hf (fun  hf => ?_) (fun k_2 hk_2 hf => ?_)
    · intro H locs ls hW hS hl
      refine lv_aload_n hx hb dX3_completesBy_42 rfl (lv_at hl 0 rfl) ?_
      refine gf_3_2 hx hb htg (htg _ lf_X3_18) hown hZ hW tz_51 dX3_completesBy_43 ?_
      refine lv_iload_n hx hb dX3_completesBy_46 rfl (lv_at hl 2 rfl) ?_
      refine lv_iload hx hb dX3_completesBy_47 (lv_at hl 4 rfl) ?_
      refine mcv hf hS (fun τ h => va_runSN (As := [.ref (bs g (51 + 3)), .int a2, .int r_1]) (rest := []) ⟨hx, hb, hml, hown, hts⟩ (c_X12_set g l 0 81 σ (51 + 3) a2 r_1 (tz_51.sub 20 3 so_3_20_3) τ h) (cl_X3_47 hts hZ ⟨by dsimp only; omega, by dsimp only; omega⟩) (mpS hZ hT hS hW _) rfl rfl hl.1 rfl (lv_room (Nat.le_of_ble_eq_true rfl)) dX3_completesBy_49 ⟨Nat.zero_le _, Nat.zero_le _⟩) (fun σ_3 H locs hf hW hS => ?_)
      refine lv_aload_n hx hb dX3_completesBy_52 rfl (lv_at hl 0 rfl) ?_
      refine lv_aload_n hx hb dX3_completesBy_53 rfl (lv_at hl 1 rfl) ?_
      refine lv_iload_n hx hb dX3_completesBy_54 rfl (lv_at hl 2 rfl) ?_
      refine lv_iconst (v := 1) hx hb dX3_completesBy_55 (by decide) ?_
      refine lv_iadd hx hb dX3_completesBy_56 ?_
      refine lv_iload_n hx hb dX3_completesBy_57 rfl (lv_at hl 3 rfl) ?_
      refine lv_iconst (v := 1) hx hb dX3_completesBy_58 (by decide) ?_
      refine lv_iadd hx hb dX3_completesBy_59 ?_
      refine mci hf hS (fun r τ h => va_runV (As := [.ref (bs g p1), .int (a2 + 1), .int (a3 + 1)]) (rest := []) ⟨hx, hb, hml, hown, hts⟩ (ih σ_3 p1 (a2 + 1) (a3 + 1) t1 r τ h) (cl_X3_62 hts ⟨by dsimp only; omega, by dsimp only; omega⟩) (mpV_3 hZ hT hS hW tz_51 _) rfl rfl hl.1 rfl (lv_room (Nat.le_of_ble_eq_true rfl)) dX3_completesBy_60 ⟨Nat.zero_le _, Nat.zero_le _⟩) (fun r_4 σ_5 H locs hf hW hS => ?_)
      subst hQ
      exact mrz hx hb hr hlocks hZ hT hS hW (zrm_s hf).1 (zrm_s hf).2 dX3_completesBy_63
    · refine lv_if_le (tgt := 42) hx hb dX3_completesBy_16 (by decide) (fun hc => ?_) (fun hc => ?_)
      · have hf := ift hc hf
        exact hk_2  hf H locs ls hW hS (lv_sub hl [1, 2, 3, 4, 0] rfl)
      · have hf := iff_ hc hf
        refine lv_aload_n hx hb dX3_completesBy_19 rfl (lv_at hl 1 rfl) ?_
        refine gf_3_2 hx hb htg (htg _ lf_X3_18) hown hZ hW tz_51 dX3_completesBy_20 ?_
        refine lv_iload_n hx hb dX3_completesBy_23 rfl (lv_at hl 3 rfl) ?_
        refine lv_iconst (v := 1) hx hb dX3_completesBy_24 (by decide) ?_
        refine lv_isub hx hb dX3_completesBy_25 ?_
        refine mcip hf hS (fun r h => va_runSN (As := [.ref (bs g (51 + 3)), .int (a2 - 1)]) (rest := []) ⟨hx, hb, hml, hown, hts⟩ (c_X12_get g l 0 81 σ (51 + 3) (a2 - 1) (tz_51.sub 20 3 so_3_20_3) r h) (cl_X3_36 hts hZ ⟨by dsimp only; omega, by dsimp only; omega⟩) (mpS hZ hT hS hW _) rfl rfl hl.1 rfl (lv_room (Nat.le_of_ble_eq_true rfl)) dX3_completesBy_26 ⟨Nat.zero_le _, Nat.zero_le _⟩) (fun r_6 H locs hf hW hS => ?_)
        refine lv_bipush (v := 10) hx hb dX3_completesBy_29 (by decide) ?_
        obtain ⟨hd, hf⟩ := dvd_s hf
        refine lv_idiv hx hb dX3_completesBy_31 hd ?_
        refine lv_iload hx hb dX3_completesBy_32 (lv_at hl 0 rfl) ?_
        refine lv_bipush (v := 10) hx hb dX3_completesBy_34 (by decide) ?_
        obtain ⟨hd, hf⟩ := dvd_s hf
        refine lv_idiv hx hb dX3_completesBy_36 hd ?_
        refine lv_icmp_ne (tgt := 42) hx hb dX3_completesBy_37 (by decide) (fun hc => ?_) (fun hc => ?_)
        · have hf := iff_ hc hf
          exact hk_2  hf H locs ls hW hS (lv_sub hl [1, 2, 3, 4, 0] rfl)
        · have hf := ift hc hf
          refine lv_iconst (v := 0) hx hb dX3_completesBy_40 (by decide) ?_
          subst hQ
          exact mrz hx hb hr hlocks hZ hT hS hW (by decide) (pr1 hf) dX3_completesBy_41
def f_X3_completes : Nat → Mem → Nat → Int32 → Int32 → Option (Int32 × Mem)
  | 0, _, _, _, _ => none
  | d + 1, σ, p1, a2, a3 => bd1 (f_X3_lookAtWishes σ p1 a2) (fun (σ_1 : Mem) => nm (σ_1.1 51 5) (fun (x_2 : Int32) => jn0 (jn0 (some (0, σ_1)) (fun k_4 => (if a2 = (σ_1.1 51 4) then (if (σ_1.1 51 6) = 0 then some (1, σ_1) else k_4) else k_4))) (fun k_3 => (if (σ_1.1 51 4) ≤ a2 then k_3 else (if (σ_1.1 51 6) = 0 then k_3 else bd1 (f_J6_bitCount_0f7a4 (σ_1.1 51 6)) (fun (r_5 : Int32) => (if r_5 ≤ ((σ_1.1 51 4) - a2) then fx2 FU (fun k_8 (i_6 : Int32) (σ_7 : Mem) => (if (σ_7.1 51 3) ≤ i_6 then some (0, σ_7) else bd1 (f_X12_get σ_7 (51 + 1) i_6) (fun (r_9 : Int32) => dvd 10 ((if (r_9 / 10) ≤ x_2 then bd2 (f_X3_completesBy (f_X3_completes d) σ_7 p1 a2 i_6) (fun (r_10 : Int32) (σ_11 : Mem) => (if r_10 = 0 then nm (i_6 + 1) (fun (x_12 : Int32) => k_8 x_12 σ_11) else some (1, σ_11))) else some (0, σ_7)))))) a3 σ_1 else k_3)))))))
set_option maxHeartbeats 4000000 in
set_option maxRecDepth 100000 in
theorem c_X3_completes (g : XG) (l : Launch) : ∀ (d : Nat), ∀ (σ : Mem) (p1 : Nat) (a2 : Int32) (a3 : Int32) (t1 : tp 9 0 81 p1) (r : Int32) (τ : Mem) (hf : f_X3_completes d σ p1 a2 a3 = some (r, τ)), Met l yX3_completes (wx (.code yX3_completes cX3_completes 6 (some .boolean))) (kr (4 + 2 * d) (131 + 49 * d)) (va_Pc [.ref (bs g 51), .ref (bs g p1), .int a2, .int a3] (WS g 0 81 σ)) (Qi' g 0 81 r τ) 0 0 (Ag g 0) := by
  intro d
  induction d with
  | zero => intro σ p1 a2 a3 t1 r τ hf; cases hf
  | succ d ih =>
    intro σ p1 a2 a3 t1 r τ hf
    refine Met.ofW (cc := cX3_completes) (maxL := 6) (ret := (some .boolean)) (by decide) rfl ?_
    intro p e s m args below meth c s₁ B hml hv
    obtain ⟨rfl, hZ, hT, hW⟩ := hv
    have hx := B.exec
    have hb := B.bytes
    have hr := B.returns
    have hts : ∀ w ∈ wx (.code yX3_completes cX3_completes 6 (some .boolean)), w.before _ s = true := atoms_spec B.pre
    have htg : ∀ w ∈ lwg, w.before _ s = true := fun w h => hts w (List.mem_cons_of_mem _ h)
    have hown : s.vm.findClass RX3 = some m.cls := findClass_of_methodNamed B.named
    have hlocks := B.notSynchronized
    change W p l e (kr (4 + 2 * (d + 1)) (131 + 49 * (d + 1))) s m (List.toArray [.ref (bs g 51), .ref (bs g p1), .int a2, .int a3]) below meth c s.heap [] 0 0 (MQ below (Qi' g 0 81 r τ) (List.toArray [.ref (bs g 51), .ref (bs g p1), .int a2, .int a3]) s 0 0 (Ag g 0)) _
    generalize hQ : MQ below (Qi' g 0 81 r τ) (List.toArray [.ref (bs g 51), .ref (bs g p1), .int a2, .int a3]) s 0 0 (Ag g 0) = Q
    have hS : va_S (Ag g 0) s.heap s.heap [] := va_S.rf
    have hl := lv_entry ([.ref (bs g 51), .ref (bs g p1), .int a2, .int a3]) (n := 6) (Nat.le_of_ble_eq_true rfl)
    rw [lg_entry_eq]
    generalize (lg_sl ([.ref (bs g 51), .ref (bs g p1), .int a2, .int a3]) ++ List.replicate (6 - (lg_sl ([.ref (bs g 51), .ref (bs g p1), .int a2, .int a3])).length) Slot.unset).toArray = ls at hl ⊢
    have hl : lv_has ls 6 [(0, .ref (bs g 51)), (1, .ref (bs g p1)), (2, .int a2), (3, .int a3)] := hl
    change (bd1 (f_X3_lookAtWishes σ p1 a2) (fun (σ_1 : Mem) => nm (σ_1.1 51 5) (fun (x_2 : Int32) => jn0 (jn0 (some (0, σ_1)) (fun k_4 => (if a2 = (σ_1.1 51 4) then (if (σ_1.1 51 6) = 0 then some (1, σ_1) else k_4) else k_4))) (fun k_3 => (if (σ_1.1 51 4) ≤ a2 then k_3 else (if (σ_1.1 51 6) = 0 then k_3 else bd1 (f_J6_bitCount_0f7a4 (σ_1.1 51 6)) (fun (r_5 : Int32) => (if r_5 ≤ ((σ_1.1 51 4) - a2) then fx2 FU (fun k_8 (i_6 : Int32) (σ_7 : Mem) => (if (σ_7.1 51 3) ≤ i_6 then some (0, σ_7) else bd1 (f_X12_get σ_7 (51 + 1) i_6) (fun (r_9 : Int32) => dvd 10 ((if (r_9 / 10) ≤ x_2 then bd2 (f_X3_completesBy (f_X3_completes d) σ_7 p1 a2 i_6) (fun (r_10 : Int32) (σ_11 : Mem) => (if r_10 = 0 then nm (i_6 + 1) (fun (x_12 : Int32) => k_8 x_12 σ_11) else some (1, σ_11))) else some (0, σ_7)))))) a3 σ_1 else k_3)))))))) = some (r, τ) at hf
    obtain ⟨H, hH⟩ : ∃ H, H = s.heap := ⟨_, rfl⟩
    obtain ⟨locs, hLc⟩ : ∃ z : List Loc, z = [] := ⟨_, rfl⟩
    have hS : va_S (Ag g 0) s.heap H locs := by rw [hH, hLc]; exact hS
    have hW : Wd g 0 81 σ H := by rw [hH]; exact hW
    suffices hG : W p l e (kr (4 + 2 * (d + 1)) (131 + 49 * (d + 1))) s m (List.toArray [.ref (bs g 51), .ref (bs g p1), .int a2, .int a3]) below meth c H locs 0 0 Q (F0 m 0 ls []) by rw [hH, hLc] at hG; exact hG
    clear hH hLc
    refine lv_aload_n hx hb dX3_completes_0 rfl (lv_at hl 0 rfl) ?_
    refine lv_aload_n hx hb dX3_completes_1 rfl (lv_at hl 1 rfl) ?_
    refine lv_iload_n hx hb dX3_completes_2 rfl (lv_at hl 2 rfl) ?_
    refine mcv hf hS (fun τ h => va_runV (As := [.ref (bs g p1), .int a2]) (rest := []) ⟨hx, hb, hml, hown, hts⟩ (c_X3_lookAtWishes g l σ p1 a2 t1 τ h) (cl_X3_84 hts ⟨by dsimp only; omega, by dsimp only; omega⟩) (mpV_3 hZ hT hS hW tz_51 _) rfl rfl hl.1 rfl (lv_room (Nat.le_of_ble_eq_true rfl)) dX3_completes_3 ⟨Nat.zero_le _, Nat.zero_le _⟩) (fun σ_1 H locs hf hW hS => ?_)
    refine lv_aload_n hx hb dX3_completes_6 rfl (lv_at hl 0 rfl) ?_
    refine gf_3_5 hx hb htg (htg _ lf_X3_88) hown hZ hW tz_51 dX3_completes_7 ?_
    refine mnmi hf (fun (x_2 : Int32) hf => ?_)
    refine lv_istore (lv' := [(4, .int x_2), (0, .ref (bs g 51)), (1, .ref (bs g p1)), (2, .int a2), (3, .int a3)]) hx hb dX3_completes_10 hl (by decide) rfl (fun ls hl => ?_)
    refine lv_iload_n hx hb dX3_completes_12 rfl (lv_at hl 3 rfl) ?_
    refine lv_aload_n hx hb dX3_completes_13 rfl (lv_at hl 1 rfl) ?_
    refine gf_3_4 hx hb htg (htg _ lf_X3_58) hown hZ hW tz_51 dX3_completes_14 ?_
    refine jn0_W (∀ (H : Heap) (locs : List Loc) (ls : Array Slot), Wd g 0 81 σ_1 H → va_S (Ag g 0) s.heap H locs → lv_has ls 6 [(0, .ref (bs g 51)), (2, .int a2)] → W p l e (kr (4 + 2 * (d + 1)) (131 + 49 * (d + 1))) s m (List.toArray [.ref (bs g 51), .ref (bs g p1), .int a2, .int a3]) below meth c H locs 0 0 Q (F0 m 43 ls [])) hf (fun  hf => ?_) (fun k_3 hk_3 hf => ?_)
    · intro H locs ls hW hS hl
      refine lv_iload_n hx hb dX3_completes_43 rfl (lv_at hl 1 rfl) ?_
      refine lv_aload_n hx hb dX3_completes_44 rfl (lv_at hl 0 rfl) ?_
      refine gf_3_4 hx hb htg (htg _ lf_X3_58) hown hZ hW tz_51 dX3_completes_45 ?_
      refine jn0_W (∀ (H : Heap) (locs : List Loc) (ls : Array Slot), Wd g 0 81 σ_1 H → va_S (Ag g 0) s.heap H locs → lv_has ls 6 [] → W p l e (kr (4 + 2 * (d + 1)) (131 + 49 * (d + 1))) s m (List.toArray [.ref (bs g 51), .ref (bs g p1), .int a2, .int a3]) below meth c H locs 0 0 Q (F0 m 62 ls [])) hf (fun  hf => ?_) (fun k_4 hk_4 hf => ?_)
      · intro H locs ls hW hS hl
        refine lv_iconst (v := 0) hx hb dX3_completes_62 (by decide) ?_
        subst hQ
        exact mrz hx hb hr hlocks hZ hT hS hW (by decide) (pr1 hf) dX3_completes_63
      · refine lv_icmp_ne (tgt := 62) hx hb dX3_completes_48 (by decide) (fun hc => ?_) (fun hc => ?_)
        · have hf := iff_ hc hf
          exact hk_4  hf H locs ls hW hS (lv_sub hl [] rfl)
        · have hf := ift hc hf
          refine lv_aload_n hx hb dX3_completes_51 rfl (lv_at hl 0 rfl) ?_
          refine gf_3_6 hx hb htg (htg _ lf_X3_91) hown hZ hW tz_51 dX3_completes_52 ?_
          refine lv_if_ne (tgt := 62) hx hb dX3_completes_55 (by decide) (fun hc => ?_) (fun hc => ?_)
          · have hf := iff_ hc hf
            exact hk_4  hf H locs ls hW hS (lv_sub hl [] rfl)
          · have hf := ift hc hf
            refine lv_iconst (v := 1) hx hb dX3_completes_58 (by decide) ?_
            refine lv_goto (tgt := 63) hx hb dX3_completes_59 (by decide) ?_
            subst hQ
            exact mrz hx hb hr hlocks hZ hT hS hW (by decide) (pr1 hf) dX3_completes_63
    · refine lv_icmp_ge (tgt := 43) hx hb dX3_completes_17 (by decide) (fun hc => ?_) (fun hc => ?_)
      · have hf := ift hc hf
        exact hk_3  hf H locs ls hW hS (lv_sub hl [1, 3] rfl)
      · have hf := iff_ hc hf
        refine lv_aload_n hx hb dX3_completes_20 rfl (lv_at hl 1 rfl) ?_
        refine gf_3_6 hx hb htg (htg _ lf_X3_91) hown hZ hW tz_51 dX3_completes_21 ?_
        refine lv_if_eq (tgt := 43) hx hb dX3_completes_24 (by decide) (fun hc => ?_) (fun hc => ?_)
        · have hf := ift hc hf
          exact hk_3  hf H locs ls hW hS (lv_sub hl [1, 3] rfl)
        · have hf := iff_ hc hf
          refine lv_aload_n hx hb dX3_completes_27 rfl (lv_at hl 1 rfl) ?_
          refine gf_3_6 hx hb htg (htg _ lf_X3_91) hown hZ hW tz_51 dX3_completes_28 ?_
          refine mcip hf hS (fun r h => va_runS (As := [.int (σ_1.1 51 6)]) (rest := []) ⟨hx, hb, hml, hown, hts⟩ (c_J6_bitCount_0f7a4 g l 0 81 σ_1 (σ_1.1 51 6) r h) (cl_X3_94 hts ⟨by dsimp only; omega, by dsimp only; omega⟩) (mpS hZ hT hS hW _) rfl rfl hl.1 rfl (lv_room (Nat.le_of_ble_eq_true rfl)) dX3_completes_31 ⟨Nat.zero_le _, Nat.zero_le _⟩) (fun r_5 H locs hf hW hS => ?_)
          refine lv_aload_n hx hb dX3_completes_34 rfl (lv_at hl 1 rfl) ?_
          refine gf_3_4 hx hb htg (htg _ lf_X3_58) hown hZ hW tz_51 dX3_completes_35 ?_
          refine lv_iload_n hx hb dX3_completes_38 rfl (lv_at hl 3 rfl) ?_
          refine lv_isub hx hb dX3_completes_39 ?_
          refine lv_icmp_le (tgt := 64) hx hb dX3_completes_40 (by decide) (fun hc => ?_) (fun hc => ?_)
          · have hf := ift hc hf
            refine lv_iload_n hx hb dX3_completes_64 rfl (lv_at hl 4 rfl) ?_
            refine lv_istore (lv' := [(5, .int a3), (4, .int x_2), (0, .ref (bs g 51)), (1, .ref (bs g p1)), (2, .int a2), (3, .int a3)]) hx hb dX3_completes_65 hl (by decide) rfl (fun ls hl => ?_)
            refine fx2_W (fun (i_6 : Int32) (σ_7 : Mem) => ∀ (H : Heap) (locs : List Loc) (ls : Array Slot), Wd g 0 81 σ_7 H → va_S (Ag g 0) s.heap H locs → lv_has ls 6 [(0, .ref (bs g 51)), (1, .ref (bs g p1)), (2, .int a2), (4, .int x_2), (5, .int i_6)] → W p l e (kr (4 + 2 * (d + 1)) (131 + 49 * (d + 1))) s m (List.toArray [.ref (bs g 51), .ref (bs g p1), .int a2, .int a3]) below meth c H locs 0 0 Q (F0 m 67 ls [])) (fun k_8 hk_8 i_6 σ_7 hf => ?_) FU a3 σ_1 hf H locs ls hW hS (lv_sub hl [2, 3, 4, 1, 0] rfl)
            intro H locs ls hW hS hl
            refine lv_iload hx hb dX3_completes_67 (lv_at hl 4 rfl) ?_
            refine lv_aload_n hx hb dX3_completes_69 rfl (lv_at hl 0 rfl) ?_
            refine gf_3_3 hx hb htg (htg _ lf_X3_66) hown hZ hW tz_51 dX3_completes_70 ?_
            refine lv_icmp_ge (tgt := 114) hx hb dX3_completes_73 (by decide) (fun hc => ?_) (fun hc => ?_)
            · have hf := ift hc hf
              refine lv_iconst (v := 0) hx hb dX3_completes_114 (by decide) ?_
              subst hQ
              exact mrz hx hb hr hlocks hZ hT hS hW (by decide) (pr1 hf) dX3_completes_115
            · have hf := iff_ hc hf
              refine lv_aload_n hx hb dX3_completes_76 rfl (lv_at hl 0 rfl) ?_
              refine gf_3_0 hx hb htg (htg _ lf_X3_9) hown hZ hW tz_51 dX3_completes_77 ?_
              refine lv_iload hx hb dX3_completes_80 (lv_at hl 4 rfl) ?_
              refine mcip hf hS (fun r h => va_runSN (As := [.ref (bs g (51 + 1)), .int i_6]) (rest := []) ⟨hx, hb, hml, hown, hts⟩ (c_X12_get g l 0 81 σ_7 (51 + 1) i_6 (tz_51.sub 20 1 so_3_20_1) r h) (cl_X3_36 hts hZ ⟨by dsimp only; omega, by dsimp only; omega⟩) (mpS hZ hT hS hW _) rfl rfl hl.1 rfl (lv_room (Nat.le_of_ble_eq_true rfl)) dX3_completes_82 ⟨Nat.zero_le _, Nat.zero_le _⟩) (fun r_9 H locs hf hW hS => ?_)
              refine lv_bipush (v := 10) hx hb dX3_completes_85 (by decide) ?_
              obtain ⟨hd, hf⟩ := dvd_s hf
              refine lv_idiv hx hb dX3_completes_87 hd ?_
              refine lv_iload hx hb dX3_completes_88 (lv_at hl 3 rfl) ?_
              refine lv_icmp_le (tgt := 95) hx hb dX3_completes_90 (by decide) (fun hc => ?_) (fun hc => ?_)
              · have hf := ift hc hf
                refine lv_aload_n hx hb dX3_completes_95 rfl (lv_at hl 0 rfl) ?_
                refine lv_aload_n hx hb dX3_completes_96 rfl (lv_at hl 1 rfl) ?_
                refine lv_iload_n hx hb dX3_completes_97 rfl (lv_at hl 2 rfl) ?_
                refine lv_iload hx hb dX3_completes_98 (lv_at hl 4 rfl) ?_
                refine mci hf hS (fun r τ h => va_runV (As := [.ref (bs g p1), .int a2, .int i_6]) (rest := []) ⟨hx, hb, hml, hown, hts⟩ (c_X3_completesBy g l d (f_X3_completes d) ih σ_7 p1 a2 i_6 t1 r τ h) (cl_X3_100 hts ⟨by dsimp only; omega, by dsimp only; omega⟩) (mpV_3 hZ hT hS hW tz_51 _) rfl rfl hl.1 rfl (lv_room (Nat.le_of_ble_eq_true rfl)) dX3_completes_100 ⟨Nat.zero_le _, Nat.zero_le _⟩) (fun r_10 σ_11 H locs hf hW hS => ?_)
                refine lv_if_eq (tgt := 108) hx hb dX3_completes_103 (by decide) (fun hc => ?_) (fun hc => ?_)
                · have hf := ift hc hf
                  obtain ⟨x_12, e_13, hf⟩ := nm_s hf
                  refine lv_iinc (v := x_12) (lv' := [(5, .int x_12), (0, .ref (bs g 51)), (1, .ref (bs g p1)), (2, .int a2), (4, .int x_2)]) hx hb dX3_completes_108 hl (k := 4) rfl (by rw [e_13]; rfl) (by decide) rfl (fun ls hl => ?_)
                  refine lv_goto (tgt := 67) hx hb dX3_completes_111 (by decide) ?_
                  exact hk_8 x_12 σ_11 hf H locs ls hW hS (lv_sub hl [1, 2, 3, 4, 0] rfl)
                · have hf := iff_ hc hf
                  refine lv_iconst (v := 1) hx hb dX3_completes_106 (by decide) ?_
                  subst hQ
                  exact mrz hx hb hr hlocks hZ hT hS hW (by decide) (pr1 hf) dX3_completes_107
              · have hf := iff_ hc hf
                refine lv_iconst (v := 0) hx hb dX3_completes_93 (by decide) ?_
                subst hQ
                exact mrz hx hb hr hlocks hZ hT hS hW (by decide) (pr1 hf) dX3_completes_94
          · have hf := iff_ hc hf
            exact hk_3  hf H locs ls hW hS (lv_sub hl [1, 3] rfl)
