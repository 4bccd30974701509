def f_X13_look1 (σ : Mem) (a1 : Int32) : Option (Int32) :=
  (if (σ.1 64 3) ≤ a1 then some (-1) else ixd a1 (aln 65) (some (σ.1 65 a1.toNatClampNeg)))
set_option maxHeartbeats 4000000 in
set_option maxRecDepth 100000 in
theorem c_X13_look1 (g : XG) (l : Launch) (σ : Mem) (a1 : Int32) (r : Int32) (hf : f_X13_look1 σ a1 = some r) : Met l yX13_look1 (wx (.code yX13_look1 cX13_look1 2 (some .int))) (kr 0 0) (va_Pc [.ref (bs g 64), .int a1] (WS g 0 81 σ)) (Qi' g 0 81 r σ) 0 0 (Ag g 0) := by
  refine Met.ofW (cc := cX13_look1) (maxL := 2) (ret := (some .int)) (by decide) rfl ?_
  intro p e s m args below meth c s₁ B hml hv
  obtain ⟨rfl, hZ, hT, hW⟩ := hv
  have hx := B.exec
  have hb := B.bytes
  have hr := B.returns
  have hts : ∀ w ∈ wx (.code yX13_look1 cX13_look1 2 (some .int)), w.before _ s = true := atoms_spec B.pre
  have htg : ∀ w ∈ lwg, w.before _ s = true := fun w h => hts w (List.mem_cons_of_mem _ h)
  have hown : s.vm.findClass RX13 = some m.cls := findClass_of_methodNamed B.named
  have hlocks := B.notSynchronized
  change W p l e (kr 0 0) s m (List.toArray [.ref (bs g 64), .int a1]) below meth c s.heap [] 0 0 (MQ below (Qi' g 0 81 r σ) (List.toArray [.ref (bs g 64), .int a1]) s 0 0 (Ag g 0)) _
  generalize hQ : MQ below (Qi' g 0 81 r σ) (List.toArray [.ref (bs g 64), .int a1]) s 0 0 (Ag g 0) = Q
  have hS : va_S (Ag g 0) s.heap s.heap [] := va_S.rf
  have hl := lv_entry ([.ref (bs g 64), .int a1]) (n := 2) (Nat.le_of_ble_eq_true rfl)
  rw [lg_entry_eq]
  generalize (lg_sl ([.ref (bs g 64), .int a1]) ++ List.replicate (2 - (lg_sl ([.ref (bs g 64), .int a1])).length) Slot.unset).toArray = ls at hl ⊢
  have hl : lv_has ls 2 [(0, .ref (bs g 64)), (1, .int a1)] := hl
  delta f_X13_look1 at hf
  obtain ⟨H, hH⟩ : ∃ H, H = s.heap := ⟨_, rfl⟩
  obtain ⟨locs, hLc⟩ : ∃ z : List Loc, z = [] := ⟨_, rfl⟩
  have hS : va_S (Ag g 0) s.heap H locs := by rw [hH, hLc]; exact hS
  have hW : Wd g 0 81 σ H := by rw [hH]; exact hW
  suffices hG : W p l e (kr 0 0) s m (List.toArray [.ref (bs g 64), .int a1]) below meth c H locs 0 0 Q (F0 m 0 ls []) by rw [hH, hLc] at hG; exact hG
  clear hH hLc
  refine lv_iload_n hx hb dX13_look1_0 rfl (lv_at hl 1 rfl) ?_
  refine lv_aload_n hx hb dX13_look1_1 rfl (lv_at hl 0 rfl) ?_
  refine gf_13_3 hx hb htg (htg _ lf_X13_68) hown hZ hW tz_64 dX13_look1_2 ?_
  refine lv_icmp_ge (tgt := 17) hx hb dX13_look1_5 (by decide) (fun hc => ?_) (fun hc => ?_)
  · have hf := ift hc hf
    refine lv_iconst (v := (-1)) hx hb dX13_look1_17 (by decide) ?_
    subst hQ
    exact mri hx hb hr hlocks hZ hT hS hW ⟨Option.some.inj hf, rfl⟩ dX13_look1_18
  · have hf := iff_ hc hf
    refine lv_aload_n hx hb dX13_look1_8 rfl (lv_at hl 0 rfl) ?_
    refine gf_13_1 hx hb htg (htg _ lf_X13_7) hown hZ hW tz_64 dX13_look1_9 ?_
    refine lv_iload_n hx hb dX13_look1_12 rfl (lv_at hl 1 rfl) ?_
    refine mld_i hx hb hZ hW tz_65 hf dX13_look1_13 (fun hf => ?_)
    refine lv_goto (tgt := 18) hx hb dX13_look1_14 (by decide) ?_
    subst hQ
    exact mri hx hb hr hlocks hZ hT hS hW ⟨Option.some.inj hf, rfl⟩ dX13_look1_18
def f_X13_isSmall (a0 : Int32) : Option (Int32) :=
  jn0 (some 0) (fun k_1 => (if a0 < 97 then k_1 else (if 122 < a0 then k_1 else some 1)))
set_option maxHeartbeats 4000000 in
set_option maxRecDepth 100000 in
theorem c_X13_isSmall (g : XG) (l : Launch) (lo n : Nat) (σ : Mem) (a0 : Int32) (r : Int32) (hf : f_X13_isSmall a0 = some r) : Met l yX13_isSmall (wx (.code yX13_isSmall cX13_isSmall 1 (some .boolean))) (kr 0 0) (va_Pc [.int a0] (WS g lo n σ)) (Qi' g lo n r σ) 0 0 (Ag g lo) := by
  refine Met.ofW (cc := cX13_isSmall) (maxL := 1) (ret := (some .boolean)) (by decide) rfl ?_
  intro p e s m args below meth c s₁ B hml hv
  obtain ⟨rfl, hZ, hT, hW⟩ := hv
  have hx := B.exec
  have hb := B.bytes
  have hr := B.returns
  have hts : ∀ w ∈ wx (.code yX13_isSmall cX13_isSmall 1 (some .boolean)), w.before _ s = true := atoms_spec B.pre
  have htg : ∀ w ∈ lwg, w.before _ s = true := fun w h => hts w (List.mem_cons_of_mem _ h)
  have hown : s.vm.findClass RX13 = some m.cls := findClass_of_methodNamed B.named
  have hlocks := B.notSynchronized
  change W p l e (kr 0 0) s m (List.toArray [.int a0]) below meth c s.heap [] 0 0 (MQ below (Qi' g lo n r σ) (List.toArray [.int a0]) s 0 0 (Ag g lo)) _
  generalize hQ : MQ below (Qi' g lo n r σ) (List.toArray [.int a0]) s 0 0 (Ag g lo) = Q
  have hS : va_S (Ag g lo) s.heap s.heap [] := va_S.rf
  have hl := lv_entry ([.int a0]) (n := 1) (Nat.le_of_ble_eq_true rfl)
  rw [lg_entry_eq]
  generalize (lg_sl ([.int a0]) ++ List.replicate (1 - (lg_sl ([.int a0])).length) Slot.unset).toArray = ls at hl ⊢
  have hl : lv_has ls 1 [(0, .int a0)] := hl
  delta f_X13_isSmall at hf
  obtain ⟨H, hH⟩ : ∃ H, H = s.heap := ⟨_, rfl⟩
  obtain ⟨locs, hLc⟩ : ∃ z : List Loc, z = [] := ⟨_, rfl⟩
  have hS : va_S (Ag g lo) s.heap H locs := by rw [hH, hLc]; exact hS
  have hW : Wd g lo n σ H := by rw [hH]; exact hW
  suffices hG : W p l e (kr 0 0) s m (List.toArray [.int a0]) below meth c H locs 0 0 Q (F0 m 0 ls []) by rw [hH, hLc] at hG; exact hG
  clear hH hLc
  refine lv_iload_n hx hb dX13_isSmall_0 rfl (lv_at hl 0 rfl) ?_
  refine lv_bipush (v := 97) hx hb dX13_isSmall_1 (by decide) ?_
  refine jn0_W (∀ (H : Heap) (locs : List Loc) (ls : Array Slot), Wd g lo n σ H → va_S (Ag g lo) s.heap H locs → lv_has ls 1 [] → W p l e (kr 0 0) s m (List.toArray [.int a0]) below meth c H locs 0 0 Q (F0 m 16 ls [])) hf (fun  hf => ?_) (fun k_1 hk_1 hf => ?_)
  · intro H locs ls hW hS hl
    refine lv_iconst (v := 0) hx hb dX13_isSmall_16 (by decide) ?_
    subst hQ
    exact mrz hx hb hr hlocks hZ hT hS hW (by decide) ⟨Option.some.inj hf, rfl⟩ dX13_isSmall_17
  · refine lv_icmp_lt (tgt := 16) hx hb dX13_isSmall_3 (by decide) (fun hc => ?_) (fun hc => ?_)
    · have hf := ift hc hf
      exact hk_1  hf H locs ls hW hS (lv_sub hl [] rfl)
    · have hf := iff_ hc hf
      refine lv_iload_n hx hb dX13_isSmall_6 rfl (lv_at hl 0 rfl) ?_
      refine lv_bipush (v := 122) hx hb dX13_isSmall_7 (by decide) ?_
      refine lv_icmp_gt (tgt := 16) hx hb dX13_isSmall_9 (by decide) (fun hc => ?_) (fun hc => ?_)
      · have hf := ift hc hf
        exact hk_1  hf H locs ls hW hS (lv_sub hl [] rfl)
      · have hf := iff_ hc hf
        refine lv_iconst (v := 1) hx hb dX13_isSmall_12 (by decide) ?_
        refine lv_goto (tgt := 17) hx hb dX13_isSmall_13 (by decide) ?_
        subst hQ
        exact mrz hx hb hr hlocks hZ hT hS hW (by decide) ⟨Option.some.inj hf, rfl⟩ dX13_isSmall_17
def f_X13_isDigit (a0 : Int32) : Option (Int32) :=
  jn0 (some 0) (fun k_1 => (if a0 < 48 then k_1 else (if 57 < a0 then k_1 else some 1)))
set_option maxHeartbeats 4000000 in
set_option maxRecDepth 100000 in
theorem c_X13_isDigit (g : XG) (l : Launch) (lo n : Nat) (σ : Mem) (a0 : Int32) (r : Int32) (hf : f_X13_isDigit a0 = some r) : Met l yX13_isDigit (wx (.code yX13_isDigit cX13_isDigit 1 (some .boolean))) (kr 0 0) (va_Pc [.int a0] (WS g lo n σ)) (Qi' g lo n r σ) 0 0 (Ag g lo) := by
  refine Met.ofW (cc := cX13_isDigit) (maxL := 1) (ret := (some .boolean)) (by decide) rfl ?_
  intro p e s m args below meth c s₁ B hml hv
  obtain ⟨rfl, hZ, hT, hW⟩ := hv
  have hx := B.exec
  have hb := B.bytes
  have hr := B.returns
  have hts : ∀ w ∈ wx (.code yX13_isDigit cX13_isDigit 1 (some .boolean)), w.before _ s = true := atoms_spec B.pre
  have htg : ∀ w ∈ lwg, w.before _ s = true := fun w h => hts w (List.mem_cons_of_mem _ h)
  have hown : s.vm.findClass RX13 = some m.cls := findClass_of_methodNamed B.named
  have hlocks := B.notSynchronized
  change W p l e (kr 0 0) s m (List.toArray [.int a0]) below meth c s.heap [] 0 0 (MQ below (Qi' g lo n r σ) (List.toArray [.int a0]) s 0 0 (Ag g lo)) _
  generalize hQ : MQ below (Qi' g lo n r σ) (List.toArray [.int a0]) s 0 0 (Ag g lo) = Q
  have hS : va_S (Ag g lo) s.heap s.heap [] := va_S.rf
  have hl := lv_entry ([.int a0]) (n := 1) (Nat.le_of_ble_eq_true rfl)
  rw [lg_entry_eq]
  generalize (lg_sl ([.int a0]) ++ List.replicate (1 - (lg_sl ([.int a0])).length) Slot.unset).toArray = ls at hl ⊢
  have hl : lv_has ls 1 [(0, .int a0)] := hl
  delta f_X13_isDigit at hf
  obtain ⟨H, hH⟩ : ∃ H, H = s.heap := ⟨_, rfl⟩
  obtain ⟨locs, hLc⟩ : ∃ z : List Loc, z = [] := ⟨_, rfl⟩
  have hS : va_S (Ag g lo) s.heap H locs := by rw [hH, hLc]; exact hS
  have hW : Wd g lo n σ H := by rw [hH]; exact hW
  suffices hG : W p l e (kr 0 0) s m (List.toArray [.int a0]) below meth c H locs 0 0 Q (F0 m 0 ls []) by rw [hH, hLc] at hG; exact hG
  clear hH hLc
  refine lv_iload_n hx hb dX13_isDigit_0 rfl (lv_at hl 0 rfl) ?_
  refine lv_bipush (v := 48) hx hb dX13_isDigit_1 (by decide) ?_
  refine jn0_W (∀ (H : Heap) (locs : List Loc) (ls : Array Slot), Wd g lo n σ H → va_S (Ag g lo) s.heap H locs → lv_has ls 1 [] → W p l e (kr 0 0) s m (List.toArray [.int a0]) below meth c H locs 0 0 Q (F0 m 16 ls [])) hf (fun  hf => ?_) (fun k_1 hk_1 hf => ?_)
  · intro H locs ls hW hS hl
    refine lv_iconst (v := 0) hx hb dX13_isDigit_16 (by decide) ?_
    subst hQ
    exact mrz hx hb hr hlocks hZ hT hS hW (by decide) ⟨Option.some.inj hf, rfl⟩ dX13_isDigit_17
  · refine lv_icmp_lt (tgt := 16) hx hb dX13_isDigit_3 (by decide) (fun hc => ?_) (fun hc => ?_)
    · have hf := ift hc hf
      exact hk_1  hf H locs ls hW hS (lv_sub hl [] rfl)
    · have hf := iff_ hc hf
      refine lv_iload_n hx hb dX13_isDigit_6 rfl (lv_at hl 0 rfl) ?_
      refine lv_bipush (v := 57) hx hb dX13_isDigit_7 (by decide) ?_
      refine lv_icmp_gt (tgt := 16) hx hb dX13_isDigit_9 (by decide) (fun hc => ?_) (fun hc => ?_)
      · have hf := ift hc hf
        exact hk_1  hf H locs ls hW hS (lv_sub hl [] rfl)
      · have hf := iff_ hc hf
        refine lv_iconst (v := 1) hx hb dX13_isDigit_12 (by decide) ?_
        refine lv_goto (tgt := 17) hx hb dX13_isDigit_13 (by decide) ?_
        subst hQ
        exact mrz hx hb hr hlocks hZ hT hS hW (by decide) ⟨Option.some.inj hf, rfl⟩ dX13_isDigit_17
def f_X13_next (σ : Mem)  : Option (Mem) :=
  nm (σ.1 64 5) (fun (x_1 : Int32) => fx1 FU (fun k_3 (i_2 : Int32) => bd1 (f_X13_look1 σ i_2) (fun (r_4 : Int32) => (if r_4 = 32 then nm (i_2 + 1) (fun (x_51 : Int32) => k_3 x_51) else nm (sI σ 64 4 i_2) (fun (σ_5 : Mem) => bd1 (f_X13_look1 σ_5 i_2) (fun (r_6 : Int32) => nm (sI σ_5 64 8 0) (fun (σ_7 : Mem) => nm (sI σ_7 64 7 0) (fun (σ_8 : Mem) => (if r_6 = (-1) then nm (sI σ_8 64 6 0) (fun (σ_49 : Mem) => nm (sI σ_49 64 5 i_2) (fun (σ_50 : Mem) => some σ_50)) else bd1 (f_X13_isSmall r_6) (fun (r_9 : Int32) => (if r_9 = 0 then bd1 (f_X13_isDigit r_6) (fun (r_10 : Int32) => (if r_10 = 0 then nm (sI σ_8 64 5 (i_2 + 1)) (fun (σ_11 : Mem) => jn1 (fun (i_12 : Int32) => nm (sI σ_11 64 6 i_12) (fun (σ_14 : Mem) => some σ_14)) (fun k_13 => (if r_6 = 59 then k_13 r_6 else k_13 1))) else fx3 FU (fun k_18 (i_15 : Int32) (i_16 : Int32) (σ_17 : Mem) => bd1 (f_X13_look1 σ_17 i_15) (fun (r_19 : Int32) => bd1 (f_X13_isDigit r_19) (fun (r_20 : Int32) => (if r_20 = 0 then nm (sI σ_17 64 5 i_15) (fun (σ_21 : Mem) => jn1 (fun (i_22 : Int32) => nm (sI σ_21 64 6 i_22) (fun (σ_24 : Mem) => some σ_24)) (fun k_23 => (if i_16 ≤ 3 then k_23 3 else k_23 1))) else jn1 (fun (σ_25 : Mem) => nm (i_16 + 1) (fun (x_27 : Int32) => nm (i_15 + 1) (fun (x_29 : Int32) => k_18 x_29 x_27 σ_25))) (fun k_26 => (if 3 ≤ i_16 then k_26 σ_17 else bd1 (f_X13_look1 σ_17 i_15) (fun (r_31 : Int32) => nm (sI σ_17 64 7 (((10 * (σ_17.1 64 7)) + r_31) - 48)) (fun (σ_32 : Mem) => k_26 σ_32)))))))) i_2 0 σ_8)) else fx2 FU (fun k_35 (i_33 : Int32) (σ_34 : Mem) => bd1 (f_X13_look1 σ_34 i_33) (fun (r_36 : Int32) => bd1 (f_X13_isSmall r_36) (fun (r_37 : Int32) => (if r_37 = 0 then nm (sI σ_34 64 5 i_33) (fun (σ_38 : Mem) => jn1 (fun (i_39 : Int32) => nm (sI σ_38 64 6 i_39) (fun (σ_41 : Mem) => some σ_41)) (fun k_40 => (if (σ_38.1 64 8) ≤ 8 then k_40 2 else k_40 1))) else jn1 (fun (σ_42 : Mem) => nm (sI σ_42 64 8 ((σ_42.1 64 8) + 1)) (fun (σ_44 : Mem) => nm (i_33 + 1) (fun (x_45 : Int32) => k_35 x_45 σ_44))) (fun k_43 => (if 8 ≤ (σ_34.1 64 8) then k_43 σ_34 else bd1 (f_X13_look1 σ_34 i_33) (fun (r_47 : Int32) => ixd (σ_34.1 64 8) (aln 66) (nm (sI σ_34 66 (σ_34.1 64 8).toNatClampNeg r_47) (fun (σ_48 : Mem) => k_43 σ_48))))))))) i_2 σ_8)))))))))) x_1)
set_option maxHeartbeats 4000000 in
set_option maxRecDepth 100000 in
theorem c_X13_next (g : XG) (l : Launch) (σ : Mem) (τ : Mem) (hf : f_X13_next σ = some τ) : Met l yX13_next (wx (.code yX13_next cX13_next 4 none)) (kr 1 21) (va_Pc [.ref (bs g 64)] (WS g 0 81 σ)) (Qv' g 0 81 τ) 0 0 (Ag g 0) := by
  refine Met.ofW (cc := cX13_next) (maxL := 4) (ret := none) (by decide) rfl ?_
  intro p e s m args below meth c s₁ B hml hv
  obtain ⟨rfl, hZ, hT, hW⟩ := hv
  have hx := B.exec
  have hb := B.bytes
  have hr := B.returns
  have hts : ∀ w ∈ wx (.code yX13_next cX13_next 4 none), w.before _ s = true := atoms_spec B.pre
  have htg : ∀ w ∈ lwg, w.before _ s = true := fun w h => hts w (List.mem_cons_of_mem _ h)
  have hown : s.vm.findClass RX13 = some m.cls := findClass_of_methodNamed B.named
  have hlocks := B.notSynchronized
  change W p l e (kr 1 21) s m (List.toArray [.ref (bs g 64)]) below meth c s.heap [] 0 0 (MQ below (Qv' g 0 81 τ) (List.toArray [.ref (bs g 64)]) s 0 0 (Ag g 0)) _
  generalize hQ : MQ below (Qv' g 0 81 τ) (List.toArray [.ref (bs g 64)]) s 0 0 (Ag g 0) = Q
  have hS : va_S (Ag g 0) s.heap s.heap [] := va_S.rf
  have hl := lv_entry ([.ref (bs g 64)]) (n := 4) (Nat.le_of_ble_eq_true rfl)
  rw [lg_entry_eq]
  generalize (lg_sl ([.ref (bs g 64)]) ++ List.replicate (4 - (lg_sl ([.ref (bs g 64)])).length) Slot.unset).toArray = ls at hl ⊢
  have hl : lv_has ls 4 [(0, .ref (bs g 64))] := hl
  delta f_X13_next at hf
  obtain ⟨H, hH⟩ : ∃ H, H = s.heap := ⟨_, rfl⟩
  obtain ⟨locs, hLc⟩ : ∃ z : List Loc, z = [] := ⟨_, rfl⟩
  have hS : va_S (Ag g 0) s.heap H locs := by rw [hH, hLc]; exact hS
  have hW : Wd g 0 81 σ H := by rw [hH]; exact hW
  suffices hG : W p l e (kr 1 21) s m (List.toArray [.ref (bs g 64)]) below meth c H locs 0 0 Q (F0 m 0 ls []) by rw [hH, hLc] at hG; exact hG
  clear hH hLc
  refine lv_aload_n hx hb dX13_next_0 rfl (lv_at hl 0 rfl) ?_
  refine gf_13_5 hx hb htg (htg _ lf_X13_71) hown hZ hW tz_64 dX13_next_1 ?_
  refine mnmi hf (fun (x_1 : Int32) hf => ?_)
  refine lv_istore_n (lv' := [(1, .int x_1), (0, .ref (bs g 64))]) hx hb dX13_next_4 rfl hl (by decide) rfl (fun ls hl => ?_)
  refine fx1_W (fun (i_2 : Int32) => ∀ (H : Heap) (locs : List Loc) (ls : Array Slot), Wd g 0 81 σ H → va_S (Ag g 0) s.heap H locs → lv_has ls 4 [(0, .ref (bs g 64)), (1, .int i_2)] → W p l e (kr 1 21) s m (List.toArray [.ref (bs g 64)]) below meth c H locs 0 0 Q (F0 m 5 ls [])) (fun k_3 hk_3 i_2 hf => ?_) FU x_1 hf H locs ls hW hS (lv_sub hl [1, 0] rfl)
  intro H locs ls hW hS hl
  refine lv_aload_n hx hb dX13_next_5 rfl (lv_at hl 0 rfl) ?_
  refine lv_iload_n hx hb dX13_next_6 rfl (lv_at hl 1 rfl) ?_
  refine mcip hf hS (fun r h => va_runV (As := [.int i_2]) (rest := []) ⟨hx, hb, hml, hown, hts⟩ (c_X13_look1 g l σ i_2 r h) (cl_X13_74 hts ⟨Nat.le_of_ble_eq_true rfl, Nat.le_of_ble_eq_true rfl⟩) (mpV_13 hZ hT hS hW tz_64 _) rfl rfl hl.1 rfl (lv_room (Nat.le_of_ble_eq_true rfl)) dX13_next_7 ⟨Nat.zero_le _, Nat.zero_le _⟩) (fun r_4 H locs hf hW hS => ?_)
  refine lv_bipush (v := 32) hx hb dX13_next_10 (by decide) ?_
  refine lv_icmp_ne (tgt := 21) hx hb dX13_next_12 (by decide) (fun hc => ?_) (fun hc => ?_)
  · have hf := iff_ hc hf
    refine lv_aload_n hx hb dX13_next_21 rfl (lv_at hl 0 rfl) ?_
    refine lv_iload_n hx hb dX13_next_22 rfl (lv_at hl 1 rfl) ?_
    refine pf_13_4 hx hb htg (htg _ lf_X13_78) hown hZ hW hS tz_64 dX13_next_23 hf (fun σ_5 H locs hf hW hS => ?_)
    refine lv_aload_n hx hb dX13_next_26 rfl (lv_at hl 0 rfl) ?_
    refine lv_iload_n hx hb dX13_next_27 rfl (lv_at hl 1 rfl) ?_
    refine mcip hf hS (fun r h => va_runV (As := [.int i_2]) (rest := []) ⟨hx, hb, hml, hown, hts⟩ (c_X13_look1 g l σ_5 i_2 r h) (cl_X13_74 hts ⟨Nat.le_of_ble_eq_true rfl, Nat.le_of_ble_eq_true rfl⟩) (mpV_13 hZ hT hS hW tz_64 _) rfl rfl hl.1 rfl (lv_room (Nat.le_of_ble_eq_true rfl)) dX13_next_28 ⟨Nat.zero_le _, Nat.zero_le _⟩) (fun r_6 H locs hf hW hS => ?_)
    refine lv_istore_n (lv' := [(2, .int r_6), (0, .ref (bs g 64)), (1, .int i_2)]) hx hb dX13_next_31 rfl hl (by decide) rfl (fun ls hl => ?_)
    refine lv_aload_n hx hb dX13_next_32 rfl (lv_at hl 1 rfl) ?_
    refine lv_iconst (v := 0) hx hb dX13_next_33 (by decide) ?_
    refine pf_13_8 hx hb htg (htg _ lf_X13_81) hown hZ hW hS tz_64 dX13_next_34 hf (fun σ_7 H locs hf hW hS => ?_)
    refine lv_aload_n hx hb dX13_next_37 rfl (lv_at hl 1 rfl) ?_
    refine lv_iconst (v := 0) hx hb dX13_next_38 (by decide) ?_
    refine pf_13_7 hx hb htg (htg _ lf_X13_84) hown hZ hW hS tz_64 dX13_next_39 hf (fun σ_8 H locs hf hW hS => ?_)
    refine lv_iload_n hx hb dX13_next_42 rfl (lv_at hl 0 rfl) ?_
    refine lv_iconst (v := (-1)) hx hb dX13_next_43 (by decide) ?_
    refine lv_icmp_ne (tgt := 60) hx hb dX13_next_44 (by decide) (fun hc => ?_) (fun hc => ?_)
    · have hf := iff_ hc hf
      refine lv_iload_n hx hb dX13_next_60 rfl (lv_at hl 0 rfl) ?_
      refine mcip hf hS (fun r h => va_runS (As := [.int r_6]) (rest := []) ⟨hx, hb, hml, hown, hts⟩ (c_X13_isSmall g l 0 81 σ_8 r_6 r h) (cl_X13_90 hts ⟨Nat.le_of_ble_eq_true rfl, Nat.le_of_ble_eq_true rfl⟩) (mpS hZ hT hS hW _) rfl rfl hl.1 rfl (lv_room (Nat.le_of_ble_eq_true rfl)) dX13_next_61 ⟨Nat.zero_le _, Nat.zero_le _⟩) (fun r_9 H locs hf hW hS => ?_)
      refine lv_if_eq (tgt := 143) hx hb dX13_next_64 (by decide) (fun hc => ?_) (fun hc => ?_)
      · have hf := ift hc hf
        refine lv_iload_n hx hb dX13_next_143 rfl (lv_at hl 0 rfl) ?_
        refine mcip hf hS (fun r h => va_runS (As := [.int r_6]) (rest := []) ⟨hx, hb, hml, hown, hts⟩ (c_X13_isDigit g l 0 81 σ_8 r_6 r h) (cl_X13_94 hts ⟨Nat.le_of_ble_eq_true rfl, Nat.le_of_ble_eq_true rfl⟩) (mpS hZ hT hS hW _) rfl rfl hl.1 rfl (lv_room (Nat.le_of_ble_eq_true rfl)) dX13_next_144 ⟨Nat.zero_le _, Nat.zero_le _⟩) (fun r_10 H locs hf hW hS => ?_)
        refine lv_if_eq (tgt := 219) hx hb dX13_next_147 (by decide) (fun hc => ?_) (fun hc => ?_)
        · have hf := ift hc hf
          refine lv_aload_n hx hb dX13_next_219 rfl (lv_at hl 1 rfl) ?_
          refine lv_iload_n hx hb dX13_next_220 rfl (lv_at hl 2 rfl) ?_
          refine lv_iconst (v := 1) hx hb dX13_next_221 (by decide) ?_
          refine lv_iadd hx hb dX13_next_222 ?_
          refine pf_13_5 hx hb htg (htg _ lf_X13_71) hown hZ hW hS tz_64 dX13_next_223 hf (fun σ_11 H locs hf hW hS => ?_)
          refine lv_aload_n hx hb dX13_next_226 rfl (lv_at hl 1 rfl) ?_
          refine lv_iload_n hx hb dX13_next_227 rfl (lv_at hl 0 rfl) ?_
          refine lv_bipush (v := 59) hx hb dX13_next_228 (by decide) ?_
          refine jn1_W (fun (i_12 : Int32) => ∀ (H : Heap) (locs : List Loc) (ls : Array Slot), Wd g 0 81 σ_11 H → va_S (Ag g 0) s.heap H locs → lv_has ls 4 [] → W p l e (kr 1 21) s m (List.toArray [.ref (bs g 64)]) below meth c H locs 0 0 Q (F0 m 238 ls [.int i_12, .ref (bs g 64)])) hf (fun i_12 hf => ?_) (fun k_13 hk_13 hf => ?_)
          · intro H locs ls hW hS hl
            refine pf_13_6 hx hb htg (htg _ lf_X13_87) hown hZ hW hS tz_64 dX13_next_238 hf (fun σ_14 H locs hf hW hS => ?_)
            subst hQ
            exact mrv hx hb hr hlocks hZ hT hS hW (Option.some.inj hf) dX13_next_241
          · refine lv_icmp_ne (tgt := 237) hx hb dX13_next_230 (by decide) (fun hc => ?_) (fun hc => ?_)
            · have hf := iff_ hc hf
              refine lv_iconst (v := 1) hx hb dX13_next_237 (by decide) ?_
              exact hk_13 1 hf H locs ls hW hS (lv_sub hl [] rfl)
            · have hf := ift hc hf
              refine lv_iload_n hx hb dX13_next_233 rfl (lv_at hl 0 rfl) ?_
              refine lv_goto (tgt := 238) hx hb dX13_next_234 (by decide) ?_
              exact hk_13 r_6 hf H locs ls hW hS (lv_sub hl [] rfl)
        · have hf := iff_ hc hf
          refine lv_iconst (v := 0) hx hb dX13_next_150 (by decide) ?_
          refine lv_istore_n (lv' := [(3, .int 0), (2, .int r_6), (0, .ref (bs g 64)), (1, .int i_2)]) hx hb dX13_next_151 rfl hl (by decide) rfl (fun ls hl => ?_)
          refine fx3_W (fun (i_15 : Int32) (i_16 : Int32) (σ_17 : Mem) => ∀ (H : Heap) (locs : List Loc) (ls : Array Slot), Wd g 0 81 σ_17 H → va_S (Ag g 0) s.heap H locs → lv_has ls 4 [(0, .ref (bs g 64)), (1, .int i_15), (3, .int i_16)] → W p l e (kr 1 21) s m (List.toArray [.ref (bs g 64)]) below meth c H locs 0 0 Q (F0 m 152 ls [])) (fun k_18 hk_18 i_15 i_16 σ_17 hf => ?_) FU i_2 0 σ_8 hf H locs ls hW hS (lv_sub hl [2, 3, 0] rfl)
          intro H locs ls hW hS hl
          refine lv_aload_n hx hb dX13_next_152 rfl (lv_at hl 0 rfl) ?_
          refine lv_iload_n hx hb dX13_next_153 rfl (lv_at hl 1 rfl) ?_
          refine mcip hf hS (fun r h => va_runV (As := [.int i_15]) (rest := []) ⟨hx, hb, hml, hown, hts⟩ (c_X13_look1 g l σ_17 i_15 r h) (cl_X13_74 hts ⟨Nat.le_of_ble_eq_true rfl, Nat.le_of_ble_eq_true rfl⟩) (mpV_13 hZ hT hS hW tz_64 _) rfl rfl hl.1 rfl (lv_room (Nat.le_of_ble_eq_true rfl)) dX13_next_154 ⟨Nat.zero_le _, Nat.zero_le _⟩) (fun r_19 H locs hf hW hS => ?_)
          refine mcip hf hS (fun r h => va_runS (As := [.int r_19]) (rest := []) ⟨hx, hb, hml, hown, hts⟩ (c_X13_isDigit g l 0 81 σ_17 r_19 r h) (cl_X13_94 hts ⟨Nat.le_of_ble_eq_true rfl, Nat.le_of_ble_eq_true rfl⟩) (mpS hZ hT hS hW _) rfl rfl hl.1 rfl (lv_room (Nat.le_of_ble_eq_true rfl)) dX13_next_157 ⟨Nat.zero_le _, Nat.zero_le _⟩) (fun r_20 H locs hf hW hS => ?_)
          refine lv_if_eq (tgt := 197) hx hb dX13_next_160 (by decide) (fun hc => ?_) (fun hc => ?_)
          · have hf := ift hc hf
            refine lv_aload_n hx hb dX13_next_197 rfl (lv_at hl 0 rfl) ?_
            refine lv_iload_n hx hb dX13_next_198 rfl (lv_at hl 1 rfl) ?_
            refine pf_13_5 hx hb htg (htg _ lf_X13_71) hown hZ hW hS tz_64 dX13_next_199 hf (fun σ_21 H locs hf hW hS => ?_)
            refine lv_aload_n hx hb dX13_next_202 rfl (lv_at hl 0 rfl) ?_
            refine lv_iload_n hx hb dX13_next_203 rfl (lv_at hl 2 rfl) ?_
            refine lv_iconst (v := 3) hx hb dX13_next_204 (by decide) ?_
            refine jn1_W (fun (i_22 : Int32) => ∀ (H : Heap) (locs : List Loc) (ls : Array Slot), Wd g 0 81 σ_21 H → va_S (Ag g 0) s.heap H locs → lv_has ls 4 [] → W p l e (kr 1 21) s m (List.toArray [.ref (bs g 64)]) below meth c H locs 0 0 Q (F0 m 213 ls [.int i_22, .ref (bs g 64)])) hf (fun i_22 hf => ?_) (fun k_23 hk_23 hf => ?_)
            · intro H locs ls hW hS hl
              refine pf_13_6 hx hb htg (htg _ lf_X13_87) hown hZ hW hS tz_64 dX13_next_213 hf (fun σ_24 H locs hf hW hS => ?_)
              refine lv_goto (tgt := 241) hx hb dX13_next_216 (by decide) ?_
              subst hQ
              exact mrv hx hb hr hlocks hZ hT hS hW (Option.some.inj hf) dX13_next_241
            · refine lv_icmp_le (tgt := 212) hx hb dX13_next_205 (by decide) (fun hc => ?_) (fun hc => ?_)
              · have hf := ift hc hf
                refine lv_iconst (v := 3) hx hb dX13_next_212 (by decide) ?_
                exact hk_23 3 hf H locs ls hW hS (lv_sub hl [] rfl)
              · have hf := iff_ hc hf
                refine lv_iconst (v := 1) hx hb dX13_next_208 (by decide) ?_
                refine lv_goto (tgt := 213) hx hb dX13_next_209 (by decide) ?_
                exact hk_23 1 hf H locs ls hW hS (lv_sub hl [] rfl)
          · have hf := iff_ hc hf
            refine lv_iload_n hx hb dX13_next_163 rfl (lv_at hl 2 rfl) ?_
            refine lv_iconst (v := 3) hx hb dX13_next_164 (by decide) ?_
            refine jn1_W (fun (σ_25 : Mem) => ∀ (H : Heap) (locs : List Loc) (ls : Array Slot), Wd g 0 81 σ_25 H → va_S (Ag g 0) s.heap H locs → lv_has ls 4 [(0, .ref (bs g 64)), (1, .int i_15), (3, .int i_16)] → W p l e (kr 1 21) s m (List.toArray [.ref (bs g 64)]) below meth c H locs 0 0 Q (F0 m 188 ls [])) hf (fun σ_25 hf => ?_) (fun k_26 hk_26 hf => ?_)
            · intro H locs ls hW hS hl
              obtain ⟨x_27, e_28, hf⟩ := nm_s hf
              refine lv_iinc (v := x_27) (lv' := [(3, .int x_27), (0, .ref (bs g 64)), (1, .int i_15)]) hx hb dX13_next_188 hl (k := 2) rfl (by rw [e_28]; rfl) (by decide) rfl (fun ls hl => ?_)
              obtain ⟨x_29, e_30, hf⟩ := nm_s hf
              refine lv_iinc (v := x_29) (lv' := [(1, .int x_29), (3, .int x_27), (0, .ref (bs g 64))]) hx hb dX13_next_191 hl (k := 2) rfl (by rw [e_30]; rfl) (by decide) rfl (fun ls hl => ?_)
              refine lv_goto (tgt := 152) hx hb dX13_next_194 (by decide) ?_
              exact hk_18 x_29 x_27 σ_25 hf H locs ls hW hS (lv_sub hl [2, 0, 1] rfl)
            · refine lv_icmp_ge (tgt := 188) hx hb dX13_next_165 (by decide) (fun hc => ?_) (fun hc => ?_)
              · have hf := ift hc hf
                exact hk_26 σ_17 hf H locs ls hW hS (lv_sub hl [0, 1, 2] rfl)
              · have hf := iff_ hc hf
                refine lv_aload_n hx hb dX13_next_168 rfl (lv_at hl 0 rfl) ?_
                refine lv_bipush (v := 10) hx hb dX13_next_169 (by decide) ?_
                refine lv_aload_n hx hb dX13_next_171 rfl (lv_at hl 0 rfl) ?_
                refine gf_13_7 hx hb htg (htg _ lf_X13_84) hown hZ hW tz_64 dX13_next_172 ?_
                refine lv_imul hx hb dX13_next_175 ?_
                refine lv_aload_n hx hb dX13_next_176 rfl (lv_at hl 0 rfl) ?_
                refine lv_iload_n hx hb dX13_next_177 rfl (lv_at hl 1 rfl) ?_
                refine mcip hf hS (fun r h => va_runV (As := [.int i_15]) (rest := [.int (10 * (σ_17.1 64 7)), .ref (bs g 64)]) ⟨hx, hb, hml, hown, hts⟩ (c_X13_look1 g l σ_17 i_15 r h) (cl_X13_74 hts ⟨Nat.le_of_ble_eq_true rfl, Nat.le_of_ble_eq_true rfl⟩) (mpV_13 hZ hT hS hW tz_64 _) rfl rfl hl.1 rfl (lv_room (Nat.le_of_ble_eq_true rfl)) dX13_next_178 ⟨Nat.zero_le _, Nat.zero_le _⟩) (fun r_31 H locs hf hW hS => ?_)
                refine lv_iadd hx hb dX13_next_181 ?_
                refine lv_bipush (v := 48) hx hb dX13_next_182 (by decide) ?_
                refine lv_isub hx hb dX13_next_184 ?_
                refine pf_13_7 hx hb htg (htg _ lf_X13_84) hown hZ hW hS tz_64 dX13_next_185 hf (fun σ_32 H locs hf hW hS => ?_)
                exact hk_26 σ_32 hf H locs ls hW hS (lv_sub hl [0, 1, 2] rfl)
      · have hf := iff_ hc hf
        refine fx2_W (fun (i_33 : Int32) (σ_34 : Mem) => ∀ (H : Heap) (locs : List Loc) (ls : Array Slot), Wd g 0 81 σ_34 H → va_S (Ag g 0) s.heap H locs → lv_has ls 4 [(0, .ref (bs g 64)), (1, .int i_33)] → W p l e (kr 1 21) s m (List.toArray [.ref (bs g 64)]) below meth c H locs 0 0 Q (F0 m 67 ls [])) (fun k_35 hk_35 i_33 σ_34 hf => ?_) FU i_2 σ_8 hf H locs ls hW hS (lv_sub hl [1, 2] rfl)
        intro H locs ls hW hS hl
        refine lv_aload_n hx hb dX13_next_67 rfl (lv_at hl 0 rfl) ?_
        refine lv_iload_n hx hb dX13_next_68 rfl (lv_at hl 1 rfl) ?_
        refine mcip hf hS (fun r h => va_runV (As := [.int i_33]) (rest := []) ⟨hx, hb, hml, hown, hts⟩ (c_X13_look1 g l σ_34 i_33 r h) (cl_X13_74 hts ⟨Nat.le_of_ble_eq_true rfl, Nat.le_of_ble_eq_true rfl⟩) (mpV_13 hZ hT hS hW tz_64 _) rfl rfl hl.1 rfl (lv_room (Nat.le_of_ble_eq_true rfl)) dX13_next_69 ⟨Nat.zero_le _, Nat.zero_le _⟩) (fun r_36 H locs hf hW hS => ?_)
        refine mcip hf hS (fun r h => va_runS (As := [.int r_36]) (rest := []) ⟨hx, hb, hml, hown, hts⟩ (c_X13_isSmall g l 0 81 σ_34 r_36 r h) (cl_X13_90 hts ⟨Nat.le_of_ble_eq_true rfl, Nat.le_of_ble_eq_true rfl⟩) (mpS hZ hT hS hW _) rfl rfl hl.1 rfl (lv_room (Nat.le_of_ble_eq_true rfl)) dX13_next_72 ⟨Nat.zero_le _, Nat.zero_le _⟩) (fun r_37 H locs hf hW hS => ?_)
        refine lv_if_eq (tgt := 117) hx hb dX13_next_75 (by decide) (fun hc => ?_) (fun hc => ?_)
        · have hf := ift hc hf
          refine lv_aload_n hx hb dX13_next_117 rfl (lv_at hl 0 rfl) ?_
          refine lv_iload_n hx hb dX13_next_118 rfl (lv_at hl 1 rfl) ?_
          refine pf_13_5 hx hb htg (htg _ lf_X13_71) hown hZ hW hS tz_64 dX13_next_119 hf (fun σ_38 H locs hf hW hS => ?_)
          refine lv_aload_n hx hb dX13_next_122 rfl (lv_at hl 0 rfl) ?_
          refine lv_aload_n hx hb dX13_next_123 rfl (lv_at hl 0 rfl) ?_
          refine gf_13_8 hx hb htg (htg _ lf_X13_81) hown hZ hW tz_64 dX13_next_124 ?_
          refine lv_bipush (v := 8) hx hb dX13_next_127 (by decide) ?_
          refine jn1_W (fun (i_39 : Int32) => ∀ (H : Heap) (locs : List Loc) (ls : Array Slot), Wd g 0 81 σ_38 H → va_S (Ag g 0) s.heap H locs → lv_has ls 4 [] → W p l e (kr 1 21) s m (List.toArray [.ref (bs g 64)]) below meth c H locs 0 0 Q (F0 m 137 ls [.int i_39, .ref (bs g 64)])) hf (fun i_39 hf => ?_) (fun k_40 hk_40 hf => ?_)
          · intro H locs ls hW hS hl
            refine pf_13_6 hx hb htg (htg _ lf_X13_87) hown hZ hW hS tz_64 dX13_next_137 hf (fun σ_41 H locs hf hW hS => ?_)
            refine lv_goto (tgt := 241) hx hb dX13_next_140 (by decide) ?_
            subst hQ
            exact mrv hx hb hr hlocks hZ hT hS hW (Option.some.inj hf) dX13_next_241
          · refine lv_icmp_le (tgt := 136) hx hb dX13_next_129 (by decide) (fun hc => ?_) (fun hc => ?_)
            · have hf := ift hc hf
              refine lv_iconst (v := 2) hx hb dX13_next_136 (by decide) ?_
              exact hk_40 2 hf H locs ls hW hS (lv_sub hl [] rfl)
            · have hf := iff_ hc hf
              refine lv_iconst (v := 1) hx hb dX13_next_132 (by decide) ?_
              refine lv_goto (tgt := 137) hx hb dX13_next_133 (by decide) ?_
              exact hk_40 1 hf H locs ls hW hS (lv_sub hl [] rfl)
        · have hf := iff_ hc hf
          refine lv_aload_n hx hb dX13_next_78 rfl (lv_at hl 0 rfl) ?_
          refine gf_13_8 hx hb htg (htg _ lf_X13_81) hown hZ hW tz_64 dX13_next_79 ?_
          refine lv_bipush (v := 8) hx hb dX13_next_82 (by decide) ?_
          refine jn1_W (fun (σ_42 : Mem) => ∀ (H : Heap) (locs : List Loc) (ls : Array Slot), Wd g 0 81 σ_42 H → va_S (Ag g 0) s.heap H locs → lv_has ls 4 [(0, .ref (bs g 64)), (1, .int i_33)] → W p l e (kr 1 21) s m (List.toArray [.ref (bs g 64)]) below meth c H locs 0 0 Q (F0 m 101 ls [])) hf (fun σ_42 hf => ?_) (fun k_43 hk_43 hf => ?_)
          · intro H locs ls hW hS hl
            refine lv_aload_n hx hb dX13_next_101 rfl (lv_at hl 0 rfl) ?_
            refine lv_dup hx hb dX13_next_102 rfl ?_
            refine gf_13_8 hx hb htg (htg _ lf_X13_81) hown hZ hW tz_64 dX13_next_103 ?_
            refine lv_iconst (v := 1) hx hb dX13_next_106 (by decide) ?_
            refine lv_iadd hx hb dX13_next_107 ?_
            refine pf_13_8 hx hb htg (htg _ lf_X13_81) hown hZ hW hS tz_64 dX13_next_108 hf (fun σ_44 H locs hf hW hS => ?_)
            obtain ⟨x_45, e_46, hf⟩ := nm_s hf
            refine lv_iinc (v := x_45) (lv' := [(1, .int x_45), (0, .ref (bs g 64))]) hx hb dX13_next_111 hl (k := 1) rfl (by rw [e_46]; rfl) (by decide) rfl (fun ls hl => ?_)
            refine lv_goto (tgt := 67) hx hb dX13_next_114 (by decide) ?_
            exact hk_35 x_45 σ_44 hf H locs ls hW hS (lv_sub hl [1, 0] rfl)
          · refine lv_icmp_ge (tgt := 101) hx hb dX13_next_84 (by decide) (fun hc => ?_) (fun hc => ?_)
            · have hf := ift hc hf
              exact hk_43 σ_34 hf H locs ls hW hS (lv_sub hl [0, 1] rfl)
            · have hf := iff_ hc hf
              refine lv_aload_n hx hb dX13_next_87 rfl (lv_at hl 0 rfl) ?_
              refine gf_13_12 hx hb htg (htg _ lf_X13_17) hown hZ hW tz_64 dX13_next_88 ?_
              refine lv_aload_n hx hb dX13_next_91 rfl (lv_at hl 0 rfl) ?_
              refine gf_13_8 hx hb htg (htg _ lf_X13_81) hown hZ hW tz_64 dX13_next_92 ?_
              refine lv_aload_n hx hb dX13_next_95 rfl (lv_at hl 0 rfl) ?_
              refine lv_iload_n hx hb dX13_next_96 rfl (lv_at hl 1 rfl) ?_
              refine mcip hf hS (fun r h => va_runV (As := [.int i_33]) (rest := [.int (σ_34.1 64 8), .ref (bs g 66)]) ⟨hx, hb, hml, hown, hts⟩ (c_X13_look1 g l σ_34 i_33 r h) (cl_X13_74 hts ⟨Nat.le_of_ble_eq_true rfl, Nat.le_of_ble_eq_true rfl⟩) (mpV_13 hZ hT hS hW tz_64 _) rfl rfl hl.1 rfl (lv_room (Nat.le_of_ble_eq_true rfl)) dX13_next_97 ⟨Nat.zero_le _, Nat.zero_le _⟩) (fun r_47 H locs hf hW hS => ?_)
              refine mst_i hx hb hZ hW hS tz_66 hf dX13_next_100 (fun σ_48 H locs hf hW hS => ?_)
              exact hk_43 σ_48 hf H locs ls hW hS (lv_sub hl [0, 1] rfl)
    · have hf := ift hc hf
      refine lv_aload_n hx hb dX13_next_47 rfl (lv_at hl 1 rfl) ?_
      refine lv_iconst (v := 0) hx hb dX13_next_48 (by decide) ?_
      refine pf_13_6 hx hb htg (htg _ lf_X13_87) hown hZ hW hS tz_64 dX13_next_49 hf (fun σ_49 H locs hf hW hS => ?_)
      refine lv_aload_n hx hb dX13_next_52 rfl (lv_at hl 1 rfl) ?_
      refine lv_iload_n hx hb dX13_next_53 rfl (lv_at hl 2 rfl) ?_
      refine pf_13_5 hx hb htg (htg _ lf_X13_71) hown hZ hW hS tz_64 dX13_next_54 hf (fun σ_50 H locs hf hW hS => ?_)
      refine lv_goto (tgt := 241) hx hb dX13_next_57 (by decide) ?_
      subst hQ
      exact mrv hx hb hr hlocks hZ hT hS hW (Option.some.inj hf) dX13_next_241
  · have hf := ift hc hf
    obtain ⟨x_51, e_52, hf⟩ := nm_s hf
    refine lv_iinc (v := x_51) (lv' := [(1, .int x_51), (0, .ref (bs g 64))]) hx hb dX13_next_15 hl (k := 1) rfl (by rw [e_52]; rfl) (by decide) rfl (fun ls hl => ?_)
    refine lv_goto (tgt := 5) hx hb dX13_next_18 (by decide) ?_
    exact hk_3 x_51 hf H locs ls hW hS (lv_sub hl [1, 0] rfl)
def f_X13_wrong (σ : Mem) (a1 : Int32) (a2 : Int32) : Option (Mem) :=
  (if (σ.1 64 13) = 0 then nm (sI σ 64 13 1) (fun (σ_1 : Mem) => nm (sI σ_1 64 9 a1) (fun (σ_2 : Mem) => nm (sI σ_2 64 10 a2) (fun (σ_3 : Mem) => some σ_3))) else some σ)
set_option maxHeartbeats 4000000 in
set_option maxRecDepth 100000 in
theorem c_X13_wrong (g : XG) (l : Launch) (σ : Mem) (a1 : Int32) (a2 : Int32) (τ : Mem) (hf : f_X13_wrong σ a1 a2 = some τ) : Met l yX13_wrong (wx (.code yX13_wrong cX13_wrong 3 none)) (kr 0 0) (va_Pc [.ref (bs g 64), .int a1, .int a2] (WS g 0 81 σ)) (Qv' g 0 81 τ) 0 0 (Ag g 0) := by
  refine Met.ofW (cc := cX13_wrong) (maxL := 3) (ret := none) (by decide) rfl ?_
  intro p e s m args below meth c s₁ B hml hv
  obtain ⟨rfl, hZ, hT, hW⟩ := hv
  have hx := B.exec
  have hb := B.bytes
  have hr := B.returns
  have hts : ∀ w ∈ wx (.code yX13_wrong cX13_wrong 3 none), w.before _ s = true := atoms_spec B.pre
  have htg : ∀ w ∈ lwg, w.before _ s = true := fun w h => hts w (List.mem_cons_of_mem _ h)
  have hown : s.vm.findClass RX13 = some m.cls := findClass_of_methodNamed B.named
  have hlocks := B.notSynchronized
  change W p l e (kr 0 0) s m (List.toArray [.ref (bs g 64), .int a1, .int a2]) below meth c s.heap [] 0 0 (MQ below (Qv' g 0 81 τ) (List.toArray [.ref (bs g 64), .int a1, .int a2]) s 0 0 (Ag g 0)) _
  generalize hQ : MQ below (Qv' g 0 81 τ) (List.toArray [.ref (bs g 64), .int a1, .int a2]) s 0 0 (Ag g 0) = Q
  have hS : va_S (Ag g 0) s.heap s.heap [] := va_S.rf
  have hl := lv_entry ([.ref (bs g 64), .int a1, .int a2]) (n := 3) (Nat.le_of_ble_eq_true rfl)
  rw [lg_entry_eq]
  generalize (lg_sl ([.ref (bs g 64), .int a1, .int a2]) ++ List.replicate (3 - (lg_sl ([.ref (bs g 64), .int a1, .int a2])).length) Slot.unset).toArray = ls at hl ⊢
  have hl : lv_has ls 3 [(0, .ref (bs g 64)), (1, .int a1), (2, .int a2)] := hl
  delta f_X13_wrong at hf
  obtain ⟨H, hH⟩ : ∃ H, H = s.heap := ⟨_, rfl⟩
  obtain ⟨locs, hLc⟩ : ∃ z : List Loc, z = [] := ⟨_, rfl⟩
  have hS : va_S (Ag g 0) s.heap H locs := by rw [hH, hLc]; exact hS
  have hW : Wd g 0 81 σ H := by rw [hH]; exact hW
  suffices hG : W p l e (kr 0 0) s m (List.toArray [.ref (bs g 64), .int a1, .int a2]) below meth c H locs 0 0 Q (F0 m 0 ls []) by rw [hH, hLc] at hG; exact hG
  clear hH hLc
  refine lv_aload_n hx hb dX13_wrong_0 rfl (lv_at hl 0 rfl) ?_
  refine gf_13_13 hx hb htg (htg _ lf_X13_97) hown hZ hW tz_64 dX13_wrong_1 ?_
  refine lv_if_eq (tgt := 8) hx hb dX13_wrong_4 (by decide) (fun hc => ?_) (fun hc => ?_)
  · have hf := ift hc hf
    refine lv_aload_n hx hb dX13_wrong_8 rfl (lv_at hl 0 rfl) ?_
    refine lv_iconst (v := 1) hx hb dX13_wrong_9 (by decide) ?_
    refine pf_13_13 hx hb htg (htg _ lf_X13_97) hown hZ hW hS tz_64 dX13_wrong_10 (by decide) (by decide) hf (fun σ_1 H locs hf hW hS => ?_)
    refine lv_aload_n hx hb dX13_wrong_13 rfl (lv_at hl 0 rfl) ?_
    refine lv_iload_n hx hb dX13_wrong_14 rfl (lv_at hl 1 rfl) ?_
    refine pf_13_9 hx hb htg (htg _ lf_X13_101) hown hZ hW hS tz_64 dX13_wrong_15 hf (fun σ_2 H locs hf hW hS => ?_)
    refine lv_aload_n hx hb dX13_wrong_18 rfl (lv_at hl 0 rfl) ?_
    refine lv_iload_n hx hb dX13_wrong_19 rfl (lv_at hl 2 rfl) ?_
    refine pf_13_10 hx hb htg (htg _ lf_X13_13) hown hZ hW hS tz_64 dX13_wrong_20 hf (fun σ_3 H locs hf hW hS => ?_)
    subst hQ
    exact mrv hx hb hr hlocks hZ hT hS hW (Option.some.inj hf) dX13_wrong_23
  · have hf := iff_ hc hf
    subst hQ
    exact mrv hx hb hr hlocks hZ hT hS hW (Option.some.inj hf) dX13_wrong_7
def f_X13_isWord (σ : Mem) (s1 : Nat) : Option (Int32) :=
  (if (σ.1 64 13) = 0 then (if (σ.1 64 6) = 2 then bd1 (f_J0_length_8abf5 s1) (fun (r_1 : Int32) => (if (σ.1 64 8) = r_1 then fx2 FU (fun k_4 (i_2 : Int32) (i_3 : Int32) => (if (σ.1 64 8) ≤ i_3 then zrt i_2 else jn1 (fun (i_5 : Int32) => nm (i_3 + 1) (fun (x_7 : Int32) => k_4 i_5 x_7)) (fun k_6 => jn0 (k_6 0) (fun k_9 => (if i_2 = 0 then k_9 else ixd i_3 (aln 66) (bd1 (f_J0_charAt_5068e s1 i_3) (fun (r_10 : Int32) => (if (σ.1 66 i_3.toNatClampNeg) = r_10 then k_6 1 else k_9)))))))) 1 0 else some 0)) else some 0) else some 0)
set_option maxHeartbeats 4000000 in
set_option maxRecDepth 100000 in
theorem c_X13_isWord (g : XG) (l : Launch) (σ : Mem) (s1 : Nat) (hs1 : s1 < 19) (r : Int32) (hf : f_X13_isWord σ s1 = some r) : Met l yX13_isWord (wx (.code yX13_isWord cX13_isWord 4 (some .boolean))) (kr 4 85) (va_Pc [.ref (bs g 64), .ref (adS g s1)] (WS g 0 81 σ)) (Qi' g 0 81 r σ) 0 0 (Ag g 0) := by
  refine Met.ofW (cc := cX13_isWord) (maxL := 4) (ret := (some .boolean)) (by decide) rfl ?_
  intro p e s m args below meth c s₁ B hml hv
  obtain ⟨rfl, hZ, hT, hW⟩ := hv
  have hx := B.exec
  have hb := B.bytes
  have hr := B.returns
  have hts : ∀ w ∈ wx (.code yX13_isWord cX13_isWord 4 (some .boolean)), w.before _ s = true := atoms_spec B.pre
  have htg : ∀ w ∈ lwg, w.before _ s = true := fun w h => hts w (List.mem_cons_of_mem _ h)
  have hown : s.vm.findClass RX13 = some m.cls := findClass_of_methodNamed B.named
  have hlocks := B.notSynchronized
  change W p l e (kr 4 85) s m (List.toArray [.ref (bs g 64), .ref (adS g s1)]) below meth c s.heap [] 0 0 (MQ below (Qi' g 0 81 r σ) (List.toArray [.ref (bs g 64), .ref (adS g s1)]) s 0 0 (Ag g 0)) _
  generalize hQ : MQ below (Qi' g 0 81 r σ) (List.toArray [.ref (bs g 64), .ref (adS g s1)]) s 0 0 (Ag g 0) = Q
  have hS : va_S (Ag g 0) s.heap s.heap [] := va_S.rf
  have hl := lv_entry ([.ref (bs g 64), .ref (adS g s1)]) (n := 4) (Nat.le_of_ble_eq_true rfl)
  rw [lg_entry_eq]
  generalize (lg_sl ([.ref (bs g 64), .ref (adS g s1)]) ++ List.replicate (4 - (lg_sl ([.ref (bs g 64), .ref (adS g s1)])).length) Slot.unset).toArray = ls at hl ⊢
  have hl : lv_has ls 4 [(0, .ref (bs g 64)), (1, .ref (adS g s1))] := hl
  delta f_X13_isWord at hf
  obtain ⟨H, hH⟩ : ∃ H, H = s.heap := ⟨_, rfl⟩
  obtain ⟨locs, hLc⟩ : ∃ z : List Loc, z = [] := ⟨_, rfl⟩
  have hS : va_S (Ag g 0) s.heap H locs := by rw [hH, hLc]; exact hS
  have hW : Wd g 0 81 σ H := by rw [hH]; exact hW
  suffices hG : W p l e (kr 4 85) s m (List.toArray [.ref (bs g 64), .ref (adS g s1)]) below meth c H locs 0 0 Q (F0 m 0 ls []) by rw [hH, hLc] at hG; exact hG
  clear hH hLc
  refine lv_aload_n hx hb dX13_isWord_0 rfl (lv_at hl 0 rfl) ?_
  refine gf_13_13 hx hb htg (htg _ lf_X13_97) hown hZ hW tz_64 dX13_isWord_1 ?_
  refine lv_if_ne (tgt := 26) hx hb dX13_isWord_4 (by decide) (fun hc => ?_) (fun hc => ?_)
  · have hf := iff_ hc hf
    refine lv_iconst (v := 0) hx hb dX13_isWord_26 (by decide) ?_
    subst hQ
    exact mrz hx hb hr hlocks hZ hT hS hW (by decide) ⟨Option.some.inj hf, rfl⟩ dX13_isWord_27
  · have hf := ift hc hf
    refine lv_aload_n hx hb dX13_isWord_7 rfl (lv_at hl 0 rfl) ?_
    refine gf_13_6 hx hb htg (htg _ lf_X13_87) hown hZ hW tz_64 dX13_isWord_8 ?_
    refine lv_iconst (v := 2) hx hb dX13_isWord_11 (by decide) ?_
    refine lv_icmp_ne (tgt := 26) hx hb dX13_isWord_12 (by decide) (fun hc => ?_) (fun hc => ?_)
    · have hf := iff_ hc hf
      refine lv_iconst (v := 0) hx hb dX13_isWord_26 (by decide) ?_
      subst hQ
      exact mrz hx hb hr hlocks hZ hT hS hW (by decide) ⟨Option.some.inj hf, rfl⟩ dX13_isWord_27
    · have hf := ift hc hf
      refine lv_aload_n hx hb dX13_isWord_15 rfl (lv_at hl 0 rfl) ?_
      refine gf_13_8 hx hb htg (htg _ lf_X13_81) hown hZ hW tz_64 dX13_isWord_16 ?_
      refine lv_aload_n hx hb dX13_isWord_19 rfl (lv_at hl 1 rfl) ?_
      refine mcip hf hS (fun r h => va_runV (As := []) (rest := [.int (σ.1 64 8)]) ⟨hx, hb, hml, hown, hts⟩ (c_J0_length_8abf5 g l 0 81 σ s1 hs1 r h) (cl_X13_104 hts ⟨Nat.le_of_ble_eq_true rfl, Nat.le_of_ble_eq_true rfl⟩) (mpV_S hZ hT hS hW hs1 _) rfl rfl hl.1 rfl (lv_room (Nat.le_of_ble_eq_true rfl)) dX13_isWord_20 ⟨Nat.zero_le _, Nat.zero_le _⟩) (fun r_1 H locs hf hW hS => ?_)
      refine lv_icmp_eq (tgt := 28) hx hb dX13_isWord_23 (by decide) (fun hc => ?_) (fun hc => ?_)
      · have hf := ift hc hf
        refine lv_iconst (v := 1) hx hb dX13_isWord_28 (by decide) ?_
        refine lv_istore_n (lv' := [(2, .int 1), (0, .ref (bs g 64)), (1, .ref (adS g s1))]) hx hb dX13_isWord_29 rfl hl (by decide) rfl (fun ls hl => ?_)
        refine lv_iconst (v := 0) hx hb dX13_isWord_30 (by decide) ?_
        refine lv_istore_n (lv' := [(3, .int 0), (2, .int 1), (0, .ref (bs g 64)), (1, .ref (adS g s1))]) hx hb dX13_isWord_31 rfl hl (by decide) rfl (fun ls hl => ?_)
        refine fx2_W (fun (i_2 : Int32) (i_3 : Int32) => ∀ (H : Heap) (locs : List Loc) (ls : Array Slot), Wd g 0 81 σ H → va_S (Ag g 0) s.heap H locs → lv_has ls 4 [(0, .ref (bs g 64)), (1, .ref (adS g s1)), (2, .int i_2), (3, .int i_3)] → W p l e (kr 4 85) s m (List.toArray [.ref (bs g 64), .ref (adS g s1)]) below meth c H locs 0 0 Q (F0 m 32 ls [])) (fun k_4 hk_4 i_2 i_3 hf => ?_) FU 1 0 hf H locs ls hW hS (lv_sub hl [2, 3, 1, 0] rfl)
        intro H locs ls hW hS hl
        refine lv_iload_n hx hb dX13_isWord_32 rfl (lv_at hl 3 rfl) ?_
        refine lv_aload_n hx hb dX13_isWord_33 rfl (lv_at hl 0 rfl) ?_
        refine gf_13_8 hx hb htg (htg _ lf_X13_81) hown hZ hW tz_64 dX13_isWord_34 ?_
        refine lv_icmp_ge (tgt := 70) hx hb dX13_isWord_37 (by decide) (fun hc => ?_) (fun hc => ?_)
        · have hf := ift hc hf
          refine lv_iload_n hx hb dX13_isWord_70 rfl (lv_at hl 2 rfl) ?_
          subst hQ
          exact mrz hx hb hr hlocks hZ hT hS hW (zrt_s hf).1 ⟨(zrt_s hf).2, rfl⟩ dX13_isWord_71
        · have hf := iff_ hc hf
          refine lv_iload_n hx hb dX13_isWord_40 rfl (lv_at hl 2 rfl) ?_
          refine jn1_W (fun (i_5 : Int32) => ∀ (H : Heap) (locs : List Loc) (ls : Array Slot), Wd g 0 81 σ H → va_S (Ag g 0) s.heap H locs → lv_has ls 4 [(0, .ref (bs g 64)), (1, .ref (adS g s1)), (3, .int i_3)] → W p l e (kr 4 85) s m (List.toArray [.ref (bs g 64), .ref (adS g s1)]) below meth c H locs 0 0 Q (F0 m 63 ls [.int i_5])) hf (fun i_5 hf => ?_) (fun k_6 hk_6 hf => ?_)
          · intro H locs ls hW hS hl
            refine lv_istore_n (lv' := [(2, .int i_5), (0, .ref (bs g 64)), (1, .ref (adS g s1)), (3, .int i_3)]) hx hb dX13_isWord_63 rfl hl (by decide) rfl (fun ls hl => ?_)
            obtain ⟨x_7, e_8, hf⟩ := nm_s hf
            refine lv_iinc (v := x_7) (lv' := [(3, .int x_7), (2, .int i_5), (0, .ref (bs g 64)), (1, .ref (adS g s1))]) hx hb dX13_isWord_64 hl (k := 3) rfl (by rw [e_8]; rfl) (by decide) rfl (fun ls hl => ?_)
            refine lv_goto (tgt := 32) hx hb dX13_isWord_67 (by decide) ?_
            exact hk_4 i_5 x_7 hf H locs ls hW hS (lv_sub hl [2, 3, 1, 0] rfl)
          · refine jn0_W (∀ (H : Heap) (locs : List Loc) (ls : Array Slot), Wd g 0 81 σ H → va_S (Ag g 0) s.heap H locs → lv_has ls 4 [(0, .ref (bs g 64)), (1, .ref (adS g s1)), (3, .int i_3)] → W p l e (kr 4 85) s m (List.toArray [.ref (bs g 64), .ref (adS g s1)]) below meth c H locs 0 0 Q (F0 m 62 ls [])) hf (fun  hf => ?_) (fun k_9 hk_9 hf => ?_)
            · intro H locs ls hW hS hl
              refine lv_iconst (v := 0) hx hb dX13_isWord_62 (by decide) ?_
              exact hk_6 0 hf H locs ls hW hS (lv_sub hl [0, 1, 2] rfl)
            · refine lv_if_eq (tgt := 62) hx hb dX13_isWord_41 (by decide) (fun hc => ?_) (fun hc => ?_)
              · have hf := ift hc hf
                exact hk_9  hf H locs ls hW hS (lv_sub hl [0, 1, 3] rfl)
              · have hf := iff_ hc hf
                refine lv_aload_n hx hb dX13_isWord_44 rfl (lv_at hl 0 rfl) ?_
                refine gf_13_12 hx hb htg (htg _ lf_X13_17) hown hZ hW tz_64 dX13_isWord_45 ?_
                refine lv_iload_n hx hb dX13_isWord_48 rfl (lv_at hl 3 rfl) ?_
                refine mld_i hx hb hZ hW tz_66 hf dX13_isWord_49 (fun hf => ?_)
                refine lv_aload_n hx hb dX13_isWord_50 rfl (lv_at hl 1 rfl) ?_
                refine lv_iload_n hx hb dX13_isWord_51 rfl (lv_at hl 3 rfl) ?_
                refine mcip hf hS (fun r h => va_runV (As := [.int i_3]) (rest := [.int (σ.1 66 i_3.toNatClampNeg)]) ⟨hx, hb, hml, hown, hts⟩ (c_J0_charAt_5068e g l 0 81 σ s1 i_3 hs1 r h) (cl_X13_110 hts ⟨Nat.le_of_ble_eq_true rfl, Nat.le_of_ble_eq_true rfl⟩) (mpV_S hZ hT hS hW hs1 _) rfl rfl hl.1 rfl (lv_room (Nat.le_of_ble_eq_true rfl)) dX13_isWord_52 ⟨Nat.zero_le _, Nat.zero_le _⟩) (fun r_10 H locs hf hW hS => ?_)
                refine lv_icmp_ne (tgt := 62) hx hb dX13_isWord_55 (by decide) (fun hc => ?_) (fun hc => ?_)
                · have hf := iff_ hc hf
                  exact hk_9  hf H locs ls hW hS (lv_sub hl [0, 1, 3] rfl)
                · have hf := ift hc hf
                  refine lv_iconst (v := 1) hx hb dX13_isWord_58 (by decide) ?_
                  refine lv_goto (tgt := 63) hx hb dX13_isWord_59 (by decide) ?_
                  exact hk_6 1 hf H locs ls hW hS (lv_sub hl [0, 1, 3] rfl)
      · have hf := iff_ hc hf
        refine lv_iconst (v := 0) hx hb dX13_isWord_26 (by decide) ?_
        subst hQ
        exact mrz hx hb hr hlocks hZ hT hS hW (by decide) ⟨Option.some.inj hf, rfl⟩ dX13_isWord_27
def f_X13_takesWord (σ : Mem) (s1 : Nat) : Option (Int32 × Mem) :=
  bd1 (f_X13_isWord σ s1) (fun (r_1 : Int32) => (if r_1 = 0 then some (0, σ) else bd1 (f_X13_next σ) (fun (σ_2 : Mem) => some (1, σ_2))))
set_option maxHeartbeats 4000000 in
set_option maxRecDepth 100000 in
theorem c_X13_takesWord (g : XG) (l : Launch) (σ : Mem) (s1 : Nat) (hs1 : s1 < 19) (r : Int32) (τ : Mem) (hf : f_X13_takesWord σ s1 = some (r, τ)) : Met l yX13_takesWord (wx (.code yX13_takesWord cX13_takesWord 2 (some .boolean))) (kr 5 108) (va_Pc [.ref (bs g 64), .ref (adS g s1)] (WS g 0 81 σ)) (Qi' g 0 81 r τ) 0 0 (Ag g 0) := by
  refine Met.ofW (cc := cX13_takesWord) (maxL := 2) (ret := (some .boolean)) (by decide) rfl ?_
  intro p e s m args below meth c s₁ B hml hv
  obtain ⟨rfl, hZ, hT, hW⟩ := hv
  have hx := B.exec
  have hb := B.bytes
  have hr := B.returns
  have hts : ∀ w ∈ wx (.code yX13_takesWord cX13_takesWord 2 (some .boolean)), w.before _ s = true := atoms_spec B.pre
  have htg : ∀ w ∈ lwg, w.before _ s = true := fun w h => hts w (List.mem_cons_of_mem _ h)
  have hown : s.vm.findClass RX13 = some m.cls := findClass_of_methodNamed B.named
  have hlocks := B.notSynchronized
  change W p l e (kr 5 108) s m (List.toArray [.ref (bs g 64), .ref (adS g s1)]) below meth c s.heap [] 0 0 (MQ below (Qi' g 0 81 r τ) (List.toArray [.ref (bs g 64), .ref (adS g s1)]) s 0 0 (Ag g 0)) _
  generalize hQ : MQ below (Qi' g 0 81 r τ) (List.toArray [.ref (bs g 64), .ref (adS g s1)]) s 0 0 (Ag g 0) = Q
  have hS : va_S (Ag g 0) s.heap s.heap [] := va_S.rf
  have hl := lv_entry ([.ref (bs g 64), .ref (adS g s1)]) (n := 2) (Nat.le_of_ble_eq_true rfl)
  rw [lg_entry_eq]
  generalize (lg_sl ([.ref (bs g 64), .ref (adS g s1)]) ++ List.replicate (2 - (lg_sl ([.ref (bs g 64), .ref (adS g s1)])).length) Slot.unset).toArray = ls at hl ⊢
  have hl : lv_has ls 2 [(0, .ref (bs g 64)), (1, .ref (adS g s1))] := hl
  delta f_X13_takesWord at hf
  obtain ⟨H, hH⟩ : ∃ H, H = s.heap := ⟨_, rfl⟩
  obtain ⟨locs, hLc⟩ : ∃ z : List Loc, z = [] := ⟨_, rfl⟩
  have hS : va_S (Ag g 0) s.heap H locs := by rw [hH, hLc]; exact hS
  have hW : Wd g 0 81 σ H := by rw [hH]; exact hW
  suffices hG : W p l e (kr 5 108) s m (List.toArray [.ref (bs g 64), .ref (adS g s1)]) below meth c H locs 0 0 Q (F0 m 0 ls []) by rw [hH, hLc] at hG; exact hG
  clear hH hLc
  refine lv_aload_n hx hb dX13_takesWord_0 rfl (lv_at hl 0 rfl) ?_
  refine lv_aload_n hx hb dX13_takesWord_1 rfl (lv_at hl 1 rfl) ?_
  refine mcip hf hS (fun r h => va_runV (As := [.ref (adS g s1)]) (rest := []) ⟨hx, hb, hml, hown, hts⟩ (c_X13_isWord g l σ s1 hs1 r h) (cl_X13_114 hts ⟨Nat.le_of_ble_eq_true rfl, Nat.le_of_ble_eq_true rfl⟩) (mpV_13 hZ hT hS hW tz_64 _) rfl rfl hl.1 rfl (lv_room (Nat.le_of_ble_eq_true rfl)) dX13_takesWord_2 ⟨Nat.zero_le _, Nat.zero_le _⟩) (fun r_1 H locs hf hW hS => ?_)
  refine lv_if_ne (tgt := 10) hx hb dX13_takesWord_5 (by decide) (fun hc => ?_) (fun hc => ?_)
  · have hf := iff_ hc hf
    refine lv_aload_n hx hb dX13_takesWord_10 rfl (lv_at hl 0 rfl) ?_
    refine mcv hf hS (fun τ h => va_runV (As := []) (rest := []) ⟨hx, hb, hml, hown, hts⟩ (c_X13_next g l σ τ h) (cl_X13_118 hts ⟨Nat.le_of_ble_eq_true rfl, Nat.le_of_ble_eq_true rfl⟩) (mpV_13 hZ hT hS hW tz_64 _) rfl rfl hl.1 rfl (lv_room (Nat.le_of_ble_eq_true rfl)) dX13_takesWord_11 ⟨Nat.zero_le _, Nat.zero_le _⟩) (fun σ_2 H locs hf hW hS => ?_)
    refine lv_iconst (v := 1) hx hb dX13_takesWord_14 (by decide) ?_
    subst hQ
    exact mrz hx hb hr hlocks hZ hT hS hW (by decide) (pr1 hf) dX13_takesWord_15
  · have hf := ift hc hf
    refine lv_iconst (v := 0) hx hb dX13_takesWord_8 (by decide) ?_
    subst hQ
    exact mrz hx hb hr hlocks hZ hT hS hW (by decide) (pr1 hf) dX13_takesWord_9
def f_X13_must (σ : Mem) (s1 : Nat) : Option (Mem) :=
  (if (σ.1 64 13) = 0 then bd2 (f_X13_takesWord σ s1) (fun (r_1 : Int32) (σ_2 : Mem) => (if r_1 = 0 then bd1 (f_X13_wrong σ_2 1 (σ_2.1 64 4)) (fun (σ_3 : Mem) => some σ_3) else some σ_2)) else some σ)
set_option maxHeartbeats 4000000 in
set_option maxRecDepth 100000 in
theorem c_X13_must (g : XG) (l : Launch) (σ : Mem) (s1 : Nat) (hs1 : s1 < 19) (τ : Mem) (hf : f_X13_must σ s1 = some τ) : Met l yX13_must (wx (.code yX13_must cX13_must 2 none)) (kr 6 129) (va_Pc [.ref (bs g 64), .ref (adS g s1)] (WS g 0 81 σ)) (Qv' g 0 81 τ) 0 0 (Ag g 0) := by
  refine Met.ofW (cc := cX13_must) (maxL := 2) (ret := none) (by decide) rfl ?_
  intro p e s m args below meth c s₁ B hml hv
  obtain ⟨rfl, hZ, hT, hW⟩ := hv
  have hx := B.exec
  have hb := B.bytes
  have hr := B.returns
  have hts : ∀ w ∈ wx (.code yX13_must cX13_must 2 none), w.before _ s = true := atoms_spec B.pre
  have htg : ∀ w ∈ lwg, w.before _ s = true := fun w h => hts w (List.mem_cons_of_mem _ h)
  have hown : s.vm.findClass RX13 = some m.cls := findClass_of_methodNamed B.named
  have hlocks := B.notSynchronized
  change W p l e (kr 6 129) s m (List.toArray [.ref (bs g 64), .ref (adS g s1)]) below meth c s.heap [] 0 0 (MQ below (Qv' g 0 81 τ) (List.toArray [.ref (bs g 64), .ref (adS g s1)]) s 0 0 (Ag g 0)) _
  generalize hQ : MQ below (Qv' g 0 81 τ) (List.toArray [.ref (bs g 64), .ref (adS g s1)]) s 0 0 (Ag g 0) = Q
  have hS : va_S (Ag g 0) s.heap s.heap [] := va_S.rf
  have hl := lv_entry ([.ref (bs g 64), .ref (adS g s1)]) (n := 2) (Nat.le_of_ble_eq_true rfl)
  rw [lg_entry_eq]
  generalize (lg_sl ([.ref (bs g 64), .ref (adS g s1)]) ++ List.replicate (2 - (lg_sl ([.ref (bs g 64), .ref (adS g s1)])).length) Slot.unset).toArray = ls at hl ⊢
  have hl : lv_has ls 2 [(0, .ref (bs g 64)), (1, .ref (adS g s1))] := hl
  delta f_X13_must at hf
  obtain ⟨H, hH⟩ : ∃ H, H = s.heap := ⟨_, rfl⟩
  obtain ⟨locs, hLc⟩ : ∃ z : List Loc, z = [] := ⟨_, rfl⟩
  have hS : va_S (Ag g 0) s.heap H locs := by rw [hH, hLc]; exact hS
  have hW : Wd g 0 81 σ H := by rw [hH]; exact hW
  suffices hG : W p l e (kr 6 129) s m (List.toArray [.ref (bs g 64), .ref (adS g s1)]) below meth c H locs 0 0 Q (F0 m 0 ls []) by rw [hH, hLc] at hG; exact hG
  clear hH hLc
  refine lv_aload_n hx hb dX13_must_0 rfl (lv_at hl 0 rfl) ?_
  refine gf_13_13 hx hb htg (htg _ lf_X13_97) hown hZ hW tz_64 dX13_must_1 ?_
  refine lv_if_ne (tgt := 24) hx hb dX13_must_4 (by decide) (fun hc => ?_) (fun hc => ?_)
  · have hf := iff_ hc hf
    subst hQ
    exact mrv hx hb hr hlocks hZ hT hS hW (Option.some.inj hf) dX13_must_24
  · have hf := ift hc hf
    refine lv_aload_n hx hb dX13_must_7 rfl (lv_at hl 0 rfl) ?_
    refine lv_aload_n hx hb dX13_must_8 rfl (lv_at hl 1 rfl) ?_
    refine mci hf hS (fun r τ h => va_runV (As := [.ref (adS g s1)]) (rest := []) ⟨hx, hb, hml, hown, hts⟩ (c_X13_takesWord g l σ s1 hs1 r τ h) (cl_X13_121 hts ⟨Nat.le_of_ble_eq_true rfl, Nat.le_of_ble_eq_true rfl⟩) (mpV_13 hZ hT hS hW tz_64 _) rfl rfl hl.1 rfl (lv_room (Nat.le_of_ble_eq_true rfl)) dX13_must_9 ⟨Nat.zero_le _, Nat.zero_le _⟩) (fun r_1 σ_2 H locs hf hW hS => ?_)
    refine lv_if_ne (tgt := 24) hx hb dX13_must_12 (by decide) (fun hc => ?_) (fun hc => ?_)
    · have hf := iff_ hc hf
      subst hQ
      exact mrv hx hb hr hlocks hZ hT hS hW (Option.some.inj hf) dX13_must_24
    · have hf := ift hc hf
      refine lv_aload_n hx hb dX13_must_15 rfl (lv_at hl 0 rfl) ?_
      refine lv_iconst (v := 1) hx hb dX13_must_16 (by decide) ?_
      refine lv_aload_n hx hb dX13_must_17 rfl (lv_at hl 0 rfl) ?_
      refine gf_13_4 hx hb htg (htg _ lf_X13_78) hown hZ hW tz_64 dX13_must_18 ?_
      refine mcv hf hS (fun τ h => va_runV (As := [.int 1, .int (σ_2.1 64 4)]) (rest := []) ⟨hx, hb, hml, hown, hts⟩ (c_X13_wrong g l σ_2 1 (σ_2.1 64 4) τ h) (cl_X13_124 hts ⟨Nat.le_of_ble_eq_true rfl, Nat.le_of_ble_eq_true rfl⟩) (mpV_13 hZ hT hS hW tz_64 _) rfl rfl hl.1 rfl (lv_room (Nat.le_of_ble_eq_true rfl)) dX13_must_21 ⟨Nat.zero_le _, Nat.zero_le _⟩) (fun σ_3 H locs hf hW hS => ?_)
      subst hQ
      exact mrv hx hb hr hlocks hZ hT hS hW (Option.some.inj hf) dX13_must_24
def f_X13_mustName (σ : Mem)  : Option (Mem) :=
  jn0 (bd1 (f_X13_wrong σ 1 (σ.1 64 4)) (fun (σ_2 : Mem) => some σ_2)) (fun k_1 => (if (σ.1 64 6) = 2 then bd1 (f_X13_isWord σ 0) (fun (r_3 : Int32) => (if r_3 = 0 then bd1 (f_X13_isWord σ 1) (fun (r_4 : Int32) => (if r_4 = 0 then bd1 (f_X13_isWord σ 2) (fun (r_5 : Int32) => (if r_5 = 0 then bd1 (f_X13_isWord σ 3) (fun (r_6 : Int32) => (if r_6 = 0 then bd1 (f_X13_isWord σ 4) (fun (r_7 : Int32) => (if r_7 = 0 then bd1 (f_X13_isWord σ 5) (fun (r_8 : Int32) => (if r_8 = 0 then bd1 (f_X13_isWord σ 6) (fun (r_9 : Int32) => (if r_9 = 0 then some σ else k_1)) else k_1)) else k_1)) else k_1)) else k_1)) else k_1)) else k_1)) else k_1))
set_option maxHeartbeats 4000000 in
set_option maxRecDepth 100000 in
theorem c_X13_mustName (g : XG) (l : Launch) (σ : Mem) (τ : Mem) (hf : f_X13_mustName σ = some τ) : Met l yX13_mustName (wx (.code yX13_mustName cX13_mustName 1 none)) (kr 5 108) (va_Pc [.ref (bs g 64)] (WS g 0 81 σ)) (Qv' g 0 81 τ) 0 0 (Ag g 0) := by
  refine Met.ofW (cc := cX13_mustName) (maxL := 1) (ret := none) (by decide) rfl ?_
  intro p e s m args below meth c s₁ B hml hv
  obtain ⟨rfl, hZ, hT, hW⟩ := hv
  have hx := B.exec
  have hb := B.bytes
  have hr := B.returns
  have hts : ∀ w ∈ wx (.code yX13_mustName cX13_mustName 1 none), w.before _ s = true := atoms_spec B.pre
  have htg : ∀ w ∈ lwg, w.before _ s = true := fun w h => hts w (List.mem_cons_of_mem _ h)
  have hown : s.vm.findClass RX13 = some m.cls := findClass_of_methodNamed B.named
  have hlocks := B.notSynchronized
  change W p l e (kr 5 108) s m (List.toArray [.ref (bs g 64)]) below meth c s.heap [] 0 0 (MQ below (Qv' g 0 81 τ) (List.toArray [.ref (bs g 64)]) s 0 0 (Ag g 0)) _
  generalize hQ : MQ below (Qv' g 0 81 τ) (List.toArray [.ref (bs g 64)]) s 0 0 (Ag g 0) = Q
  have hS : va_S (Ag g 0) s.heap s.heap [] := va_S.rf
  have hl := lv_entry ([.ref (bs g 64)]) (n := 1) (Nat.le_of_ble_eq_true rfl)
  rw [lg_entry_eq]
  generalize (lg_sl ([.ref (bs g 64)]) ++ List.replicate (1 - (lg_sl ([.ref (bs g 64)])).length) Slot.unset).toArray = ls at hl ⊢
  have hl : lv_has ls 1 [(0, .ref (bs g 64))] := hl
  delta f_X13_mustName at hf
  obtain ⟨H, hH⟩ : ∃ H, H = s.heap := ⟨_, rfl⟩
  obtain ⟨locs, hLc⟩ : ∃ z : List Loc, z = [] := ⟨_, rfl⟩
  have hS : va_S (Ag g 0) s.heap H locs := by rw [hH, hLc]; exact hS
  have hW : Wd g 0 81 σ H := by rw [hH]; exact hW
  suffices hG : W p l e (kr 5 108) s m (List.toArray [.ref (bs g 64)]) below meth c H locs 0 0 Q (F0 m 0 ls []) by rw [hH, hLc] at hG; exact hG
  clear hH hLc
  refine lv_aload_n hx hb dX13_mustName_0 rfl (lv_at hl 0 rfl) ?_
  refine gf_13_6 hx hb htg (htg _ lf_X13_87) hown hZ hW tz_64 dX13_mustName_1 ?_
  refine lv_iconst (v := 2) hx hb dX13_mustName_4 (by decide) ?_
  refine jn0_W (∀ (H : Heap) (locs : List Loc) (ls : Array Slot), Wd g 0 81 σ H → va_S (Ag g 0) s.heap H locs → lv_has ls 1 [(0, .ref (bs g 64))] → W p l e (kr 5 108) s m (List.toArray [.ref (bs g 64)]) below meth c H locs 0 0 Q (F0 m 71 ls [])) hf (fun  hf => ?_) (fun k_1 hk_1 hf => ?_)
  · intro H locs ls hW hS hl
    refine lv_aload_n hx hb dX13_mustName_71 rfl (lv_at hl 0 rfl) ?_
    refine lv_iconst (v := 1) hx hb dX13_mustName_72 (by decide) ?_
    refine lv_aload_n hx hb dX13_mustName_73 rfl (lv_at hl 0 rfl) ?_
    refine gf_13_4 hx hb htg (htg _ lf_X13_78) hown hZ hW tz_64 dX13_mustName_74 ?_
    refine mcv hf hS (fun τ h => va_runV (As := [.int 1, .int (σ.1 64 4)]) (rest := []) ⟨hx, hb, hml, hown, hts⟩ (c_X13_wrong g l σ 1 (σ.1 64 4) τ h) (cl_X13_124 hts ⟨Nat.le_of_ble_eq_true rfl, Nat.le_of_ble_eq_true rfl⟩) (mpV_13 hZ hT hS hW tz_64 _) rfl rfl hl.1 rfl (lv_room (Nat.le_of_ble_eq_true rfl)) dX13_mustName_77 ⟨Nat.zero_le _, Nat.zero_le _⟩) (fun σ_2 H locs hf hW hS => ?_)
    subst hQ
    exact mrv hx hb hr hlocks hZ hT hS hW (Option.some.inj hf) dX13_mustName_80
  · refine lv_icmp_ne (tgt := 71) hx hb dX13_mustName_5 (by decide) (fun hc => ?_) (fun hc => ?_)
    · have hf := iff_ hc hf
      exact hk_1  hf H locs ls hW hS (lv_sub hl [0] rfl)
    · have hf := ift hc hf
      refine lv_aload_n hx hb dX13_mustName_8 rfl (lv_at hl 0 rfl) ?_
      refine va_ldcS (q := adS g 0) hx hb hown (lr_X13_128 hZ) dX13_mustName_9 ?_
      refine mcip hf hS (fun r h => va_runV (As := [.ref (adS g 0)]) (rest := []) ⟨hx, hb, hml, hown, hts⟩ (c_X13_isWord g l σ 0 (show 0 < 19 by decide) r h) (cl_X13_114 hts ⟨Nat.le_of_ble_eq_true rfl, Nat.le_of_ble_eq_true rfl⟩) (mpV_13 hZ hT hS hW tz_64 _) rfl rfl hl.1 rfl (lv_room (Nat.le_of_ble_eq_true rfl)) dX13_mustName_11 ⟨Nat.zero_le _, Nat.zero_le _⟩) (fun r_3 H locs hf hW hS => ?_)
      refine lv_if_ne (tgt := 71) hx hb dX13_mustName_14 (by decide) (fun hc => ?_) (fun hc => ?_)
      · have hf := iff_ hc hf
        exact hk_1  hf H locs ls hW hS (lv_sub hl [0] rfl)
      · have hf := ift hc hf
        refine lv_aload_n hx hb dX13_mustName_17 rfl (lv_at hl 0 rfl) ?_
        refine va_ldcS (q := adS g 1) hx hb hown (lr_X13_130 hZ) dX13_mustName_18 ?_
        refine mcip hf hS (fun r h => va_runV (As := [.ref (adS g 1)]) (rest := []) ⟨hx, hb, hml, hown, hts⟩ (c_X13_isWord g l σ 1 (show 1 < 19 by decide) r h) (cl_X13_114 hts ⟨Nat.le_of_ble_eq_true rfl, Nat.le_of_ble_eq_true rfl⟩) (mpV_13 hZ hT hS hW tz_64 _) rfl rfl hl.1 rfl (lv_room (Nat.le_of_ble_eq_true rfl)) dX13_mustName_20 ⟨Nat.zero_le _, Nat.zero_le _⟩) (fun r_4 H locs hf hW hS => ?_)
        refine lv_if_ne (tgt := 71) hx hb dX13_mustName_23 (by decide) (fun hc => ?_) (fun hc => ?_)
        · have hf := iff_ hc hf
          exact hk_1  hf H locs ls hW hS (lv_sub hl [0] rfl)
        · have hf := ift hc hf
          refine lv_aload_n hx hb dX13_mustName_26 rfl (lv_at hl 0 rfl) ?_
          refine va_ldcS (q := adS g 2) hx hb hown (lr_X13_132 hZ) dX13_mustName_27 ?_
          refine mcip hf hS (fun r h => va_runV (As := [.ref (adS g 2)]) (rest := []) ⟨hx, hb, hml, hown, hts⟩ (c_X13_isWord g l σ 2 (show 2 < 19 by decide) r h) (cl_X13_114 hts ⟨Nat.le_of_ble_eq_true rfl, Nat.le_of_ble_eq_true rfl⟩) (mpV_13 hZ hT hS hW tz_64 _) rfl rfl hl.1 rfl (lv_room (Nat.le_of_ble_eq_true rfl)) dX13_mustName_29 ⟨Nat.zero_le _, Nat.zero_le _⟩) (fun r_5 H locs hf hW hS => ?_)
          refine lv_if_ne (tgt := 71) hx hb dX13_mustName_32 (by decide) (fun hc => ?_) (fun hc => ?_)
          · have hf := iff_ hc hf
            exact hk_1  hf H locs ls hW hS (lv_sub hl [0] rfl)
          · have hf := ift hc hf
            refine lv_aload_n hx hb dX13_mustName_35 rfl (lv_at hl 0 rfl) ?_
            refine va_ldcS (q := adS g 3) hx hb hown (lr_X13_134 hZ) dX13_mustName_36 ?_
            refine mcip hf hS (fun r h => va_runV (As := [.ref (adS g 3)]) (rest := []) ⟨hx, hb, hml, hown, hts⟩ (c_X13_isWord g l σ 3 (show 3 < 19 by decide) r h) (cl_X13_114 hts ⟨Nat.le_of_ble_eq_true rfl, Nat.le_of_ble_eq_true rfl⟩) (mpV_13 hZ hT hS hW tz_64 _) rfl rfl hl.1 rfl (lv_room (Nat.le_of_ble_eq_true rfl)) dX13_mustName_38 ⟨Nat.zero_le _, Nat.zero_le _⟩) (fun r_6 H locs hf hW hS => ?_)
            refine lv_if_ne (tgt := 71) hx hb dX13_mustName_41 (by decide) (fun hc => ?_) (fun hc => ?_)
            · have hf := iff_ hc hf
              exact hk_1  hf H locs ls hW hS (lv_sub hl [0] rfl)
            · have hf := ift hc hf
              refine lv_aload_n hx hb dX13_mustName_44 rfl (lv_at hl 0 rfl) ?_
              refine va_ldcS (q := adS g 4) hx hb hown (lr_X13_136 hZ) dX13_mustName_45 ?_
              refine mcip hf hS (fun r h => va_runV (As := [.ref (adS g 4)]) (rest := []) ⟨hx, hb, hml, hown, hts⟩ (c_X13_isWord g l σ 4 (show 4 < 19 by decide) r h) (cl_X13_114 hts ⟨Nat.le_of_ble_eq_true rfl, Nat.le_of_ble_eq_true rfl⟩) (mpV_13 hZ hT hS hW tz_64 _) rfl rfl hl.1 rfl (lv_room (Nat.le_of_ble_eq_true rfl)) dX13_mustName_47 ⟨Nat.zero_le _, Nat.zero_le _⟩) (fun r_7 H locs hf hW hS => ?_)
              refine lv_if_ne (tgt := 71) hx hb dX13_mustName_50 (by decide) (fun hc => ?_) (fun hc => ?_)
              · have hf := iff_ hc hf
                exact hk_1  hf H locs ls hW hS (lv_sub hl [0] rfl)
              · have hf := ift hc hf
                refine lv_aload_n hx hb dX13_mustName_53 rfl (lv_at hl 0 rfl) ?_
                refine va_ldcS (q := adS g 5) hx hb hown (lr_X13_138 hZ) dX13_mustName_54 ?_
                refine mcip hf hS (fun r h => va_runV (As := [.ref (adS g 5)]) (rest := []) ⟨hx, hb, hml, hown, hts⟩ (c_X13_isWord g l σ 5 (show 5 < 19 by decide) r h) (cl_X13_114 hts ⟨Nat.le_of_ble_eq_true rfl, Nat.le_of_ble_eq_true rfl⟩) (mpV_13 hZ hT hS hW tz_64 _) rfl rfl hl.1 rfl (lv_room (Nat.le_of_ble_eq_true rfl)) dX13_mustName_56 ⟨Nat.zero_le _, Nat.zero_le _⟩) (fun r_8 H locs hf hW hS => ?_)
                refine lv_if_ne (tgt := 71) hx hb dX13_mustName_59 (by decide) (fun hc => ?_) (fun hc => ?_)
                · have hf := iff_ hc hf
                  exact hk_1  hf H locs ls hW hS (lv_sub hl [0] rfl)
                · have hf := ift hc hf
                  refine lv_aload_n hx hb dX13_mustName_62 rfl (lv_at hl 0 rfl) ?_
                  refine va_ldcS (q := adS g 6) hx hb hown (lr_X13_140 hZ) dX13_mustName_63 ?_
                  refine mcip hf hS (fun r h => va_runV (As := [.ref (adS g 6)]) (rest := []) ⟨hx, hb, hml, hown, hts⟩ (c_X13_isWord g l σ 6 (show 6 < 19 by decide) r h) (cl_X13_114 hts ⟨Nat.le_of_ble_eq_true rfl, Nat.le_of_ble_eq_true rfl⟩) (mpV_13 hZ hT hS hW tz_64 _) rfl rfl hl.1 rfl (lv_room (Nat.le_of_ble_eq_true rfl)) dX13_mustName_65 ⟨Nat.zero_le _, Nat.zero_le _⟩) (fun r_9 H locs hf hW hS => ?_)
                  refine lv_if_eq (tgt := 80) hx hb dX13_mustName_68 (by decide) (fun hc => ?_) (fun hc => ?_)
                  · have hf := ift hc hf
                    subst hQ
                    exact mrv hx hb hr hlocks hZ hT hS hW (Option.some.inj hf) dX13_mustName_80
                  · have hf := iff_ hc hf
                    exact hk_1  hf H locs ls hW hS (lv_sub hl [0] rfl)
def f_X13_find (σ : Mem)  : Option (Int32) :=
  fx1 FU (fun k_2 (i_1 : Int32) => (if 5 ≤ i_1 then some (-1) else ixd (130 + i_1) (aln 68) (jn1 (fun (i_3 : Int32) => fx2 FU (fun k_7 (i_5 : Int32) (i_6 : Int32) => jn0 ((if i_5 = 0 then nm (i_1 + 1) (fun (x_9 : Int32) => k_2 x_9) else some i_1)) (fun k_8 => (if (σ.1 64 8) ≤ i_6 then k_8 else (if i_5 = 0 then k_8 else ixd ((135 + (8 * i_1)) + i_6) (aln 68) (ixd i_6 (aln 66) (jn1 (fun (i_11 : Int32) => nm (i_6 + 1) (fun (x_13 : Int32) => k_7 i_11 x_13)) (fun k_12 => (if (σ.1 68 ((135 + (8 * i_1)) + i_6).toNatClampNeg) = (σ.1 66 i_6.toNatClampNeg) then k_12 1 else k_12 0)))))))) i_3 0) (fun k_4 => jn0 (k_4 0) (fun k_15 => (if (σ.1 68 (130 + i_1).toNatClampNeg) ≤ 0 then k_15 else ixd (130 + i_1) (aln 68) ((if (σ.1 68 (130 + i_1).toNatClampNeg) = (σ.1 64 8) then k_4 1 else k_15)))))))) 0
set_option maxHeartbeats 4000000 in
set_option maxRecDepth 100000 in
theorem c_X13_find (g : XG) (l : Launch) (σ : Mem) (r : Int32) (hf : f_X13_find σ = some r) : Met l yX13_find (wx (.code yX13_find cX13_find 4 (some .int))) (kr 0 0) (va_Pc [.ref (bs g 64)] (WS g 0 81 σ)) (Qi' g 0 81 r σ) 0 0 (Ag g 0) := by
  refine Met.ofW (cc := cX13_find) (maxL := 4) (ret := (some .int)) (by decide) rfl ?_
  intro p e s m args below meth c s₁ B hml hv
  obtain ⟨rfl, hZ, hT, hW⟩ := hv
  have hx := B.exec
  have hb := B.bytes
  have hr := B.returns
  have hts : ∀ w ∈ wx (.code yX13_find cX13_find 4 (some .int)), w.before _ s = true := atoms_spec B.pre
  have htg : ∀ w ∈ lwg, w.before _ s = true := fun w h => hts w (List.mem_cons_of_mem _ h)
  have hown : s.vm.findClass RX13 = some m.cls := findClass_of_methodNamed B.named
  have hlocks := B.notSynchronized
  change W p l e (kr 0 0) s m (List.toArray [.ref (bs g 64)]) below meth c s.heap [] 0 0 (MQ below (Qi' g 0 81 r σ) (List.toArray [.ref (bs g 64)]) s 0 0 (Ag g 0)) _
  generalize hQ : MQ below (Qi' g 0 81 r σ) (List.toArray [.ref (bs g 64)]) s 0 0 (Ag g 0) = Q
  have hS : va_S (Ag g 0) s.heap s.heap [] := va_S.rf
  have hl := lv_entry ([.ref (bs g 64)]) (n := 4) (Nat.le_of_ble_eq_true rfl)
  rw [lg_entry_eq]
  generalize (lg_sl ([.ref (bs g 64)]) ++ List.replicate (4 - (lg_sl ([.ref (bs g 64)])).length) Slot.unset).toArray = ls at hl ⊢
  have hl : lv_has ls 4 [(0, .ref (bs g 64))] := hl
  delta f_X13_find at hf
  obtain ⟨H, hH⟩ : ∃ H, H = s.heap := ⟨_, rfl⟩
  obtain ⟨locs, hLc⟩ : ∃ z : List Loc, z = [] := ⟨_, rfl⟩
  have hS : va_S (Ag g 0) s.heap H locs := by rw [hH, hLc]; exact hS
  have hW : Wd g 0 81 σ H := by rw [hH]; exact hW
  suffices hG : W p l e (kr 0 0) s m (List.toArray [.ref (bs g 64)]) below meth c H locs 0 0 Q (F0 m 0 ls []) by rw [hH, hLc] at hG; exact hG
  clear hH hLc
  refine lv_iconst (v := 0) hx hb dX13_find_0 (by decide) ?_
  refine lv_istore_n (lv' := [(1, .int 0), (0, .ref (bs g 64))]) hx hb dX13_find_1 rfl hl (by decide) rfl (fun ls hl => ?_)
  refine fx1_W (fun (i_1 : Int32) => ∀ (H : Heap) (locs : List Loc) (ls : Array Slot), Wd g 0 81 σ H → va_S (Ag g 0) s.heap H locs → lv_has ls 4 [(0, .ref (bs g 64)), (1, .int i_1)] → W p l e (kr 0 0) s m (List.toArray [.ref (bs g 64)]) below meth c H locs 0 0 Q (F0 m 2 ls [])) (fun k_2 hk_2 i_1 hf => ?_) FU 0 hf H locs ls hW hS (lv_sub hl [1, 0] rfl)
  intro H locs ls hW hS hl
  refine lv_iload_n hx hb dX13_find_2 rfl (lv_at hl 1 rfl) ?_
  refine lv_iconst (v := 5) hx hb dX13_find_3 (by decide) ?_
  refine lv_icmp_ge (tgt := 105) hx hb dX13_find_4 (by decide) (fun hc => ?_) (fun hc => ?_)
  · have hf := ift hc hf
    refine lv_iconst (v := (-1)) hx hb dX13_find_105 (by decide) ?_
    subst hQ
    exact mri hx hb hr hlocks hZ hT hS hW ⟨Option.some.inj hf, rfl⟩ dX13_find_106
  · have hf := iff_ hc hf
    refine lv_aload_n hx hb dX13_find_7 rfl (lv_at hl 0 rfl) ?_
    refine gf_13_16 hx hb htg (htg _ lf_X13_23) hown hZ hW tz_64 dX13_find_8 ?_
    refine lv_sipush (v := 130) hx hb dX13_find_11 (by decide) ?_
    refine lv_iload_n hx hb dX13_find_14 rfl (lv_at hl 1 rfl) ?_
    refine lv_iadd hx hb dX13_find_15 ?_
    refine mld_i hx hb hZ hW tz_68 hf dX13_find_16 (fun hf => ?_)
    refine jn1_W (fun (i_3 : Int32) => ∀ (H : Heap) (locs : List Loc) (ls : Array Slot), Wd g 0 81 σ H → va_S (Ag g 0) s.heap H locs → lv_has ls 4 [(0, .ref (bs g 64)), (1, .int i_1)] → W p l e (kr 0 0) s m (List.toArray [.ref (bs g 64)]) below meth c H locs 0 0 Q (F0 m 42 ls [.int i_3])) hf (fun i_3 hf => ?_) (fun k_4 hk_4 hf => ?_)
    · intro H locs ls hW hS hl
      refine lv_istore_n (lv' := [(2, .int i_3), (0, .ref (bs g 64)), (1, .int i_1)]) hx hb dX13_find_42 rfl hl (by decide) rfl (fun ls hl => ?_)
      refine lv_iconst (v := 0) hx hb dX13_find_43 (by decide) ?_
      refine lv_istore_n (lv' := [(3, .int 0), (2, .int i_3), (0, .ref (bs g 64)), (1, .int i_1)]) hx hb dX13_find_44 rfl hl (by decide) rfl (fun ls hl => ?_)
      refine fx2_W (fun (i_5 : Int32) (i_6 : Int32) => ∀ (H : Heap) (locs : List Loc) (ls : Array Slot), Wd g 0 81 σ H → va_S (Ag g 0) s.heap H locs → lv_has ls 4 [(0, .ref (bs g 64)), (1, .int i_1), (2, .int i_5), (3, .int i_6)] → W p l e (kr 0 0) s m (List.toArray [.ref (bs g 64)]) below meth c H locs 0 0 Q (F0 m 45 ls [])) (fun k_7 hk_7 i_5 i_6 hf => ?_) FU i_3 0 hf H locs ls hW hS (lv_sub hl [2, 3, 1, 0] rfl)
      intro H locs ls hW hS hl
      refine lv_iload_n hx hb dX13_find_45 rfl (lv_at hl 3 rfl) ?_
      refine lv_aload_n hx hb dX13_find_46 rfl (lv_at hl 0 rfl) ?_
      refine gf_13_8 hx hb htg (htg _ lf_X13_81) hown hZ hW tz_64 dX13_find_47 ?_
      refine jn0_W (∀ (H : Heap) (locs : List Loc) (ls : Array Slot), Wd g 0 81 σ H → va_S (Ag g 0) s.heap H locs → lv_has ls 4 [(0, .ref (bs g 64)), (1, .int i_1), (2, .int i_5)] → W p l e (kr 0 0) s m (List.toArray [.ref (bs g 64)]) below meth c H locs 0 0 Q (F0 m 93 ls [])) hf (fun  hf => ?_) (fun k_8 hk_8 hf => ?_)
      · intro H locs ls hW hS hl
        refine lv_iload_n hx hb dX13_find_93 rfl (lv_at hl 2 rfl) ?_
        refine lv_if_eq (tgt := 99) hx hb dX13_find_94 (by decide) (fun hc => ?_) (fun hc => ?_)
        · have hf := ift hc hf
          obtain ⟨x_9, e_10, hf⟩ := nm_s hf
          refine lv_iinc (v := x_9) (lv' := [(1, .int x_9), (0, .ref (bs g 64)), (2, .int i_5)]) hx hb dX13_find_99 hl (k := 1) rfl (by rw [e_10]; rfl) (by decide) rfl (fun ls hl => ?_)
          refine lv_goto (tgt := 2) hx hb dX13_find_102 (by decide) ?_
          exact hk_2 x_9 hf H locs ls hW hS (lv_sub hl [1, 0] rfl)
        · have hf := iff_ hc hf
          refine lv_iload_n hx hb dX13_find_97 rfl (lv_at hl 1 rfl) ?_
          subst hQ
          exact mri hx hb hr hlocks hZ hT hS hW ⟨Option.some.inj hf, rfl⟩ dX13_find_98
      · refine lv_icmp_ge (tgt := 93) hx hb dX13_find_50 (by decide) (fun hc => ?_) (fun hc => ?_)
        · have hf := ift hc hf
          exact hk_8  hf H locs ls hW hS (lv_sub hl [0, 1, 2] rfl)
        · have hf := iff_ hc hf
          refine lv_iload_n hx hb dX13_find_53 rfl (lv_at hl 2 rfl) ?_
          refine lv_if_eq (tgt := 93) hx hb dX13_find_54 (by decide) (fun hc => ?_) (fun hc => ?_)
          · have hf := ift hc hf
            exact hk_8  hf H locs ls hW hS (lv_sub hl [0, 1, 2] rfl)
          · have hf := iff_ hc hf
            refine lv_aload_n hx hb dX13_find_57 rfl (lv_at hl 0 rfl) ?_
            refine gf_13_16 hx hb htg (htg _ lf_X13_23) hown hZ hW tz_64 dX13_find_58 ?_
            refine lv_sipush (v := 135) hx hb dX13_find_61 (by decide) ?_
            refine lv_bipush (v := 8) hx hb dX13_find_64 (by decide) ?_
            refine lv_iload_n hx hb dX13_find_66 rfl (lv_at hl 1 rfl) ?_
            refine lv_imul hx hb dX13_find_67 ?_
            refine lv_iadd hx hb dX13_find_68 ?_
            refine lv_iload_n hx hb dX13_find_69 rfl (lv_at hl 3 rfl) ?_
            refine lv_iadd hx hb dX13_find_70 ?_
            refine mld_i hx hb hZ hW tz_68 hf dX13_find_71 (fun hf => ?_)
            refine lv_aload_n hx hb dX13_find_72 rfl (lv_at hl 0 rfl) ?_
            refine gf_13_12 hx hb htg (htg _ lf_X13_17) hown hZ hW tz_64 dX13_find_73 ?_
            refine lv_iload_n hx hb dX13_find_76 rfl (lv_at hl 3 rfl) ?_
            refine mld_i hx hb hZ hW tz_66 hf dX13_find_77 (fun hf => ?_)
            refine jn1_W (fun (i_11 : Int32) => ∀ (H : Heap) (locs : List Loc) (ls : Array Slot), Wd g 0 81 σ H → va_S (Ag g 0) s.heap H locs → lv_has ls 4 [(0, .ref (bs g 64)), (1, .int i_1), (3, .int i_6)] → W p l e (kr 0 0) s m (List.toArray [.ref (bs g 64)]) below meth c H locs 0 0 Q (F0 m 86 ls [.int i_11])) hf (fun i_11 hf => ?_) (fun k_12 hk_12 hf => ?_)
            · intro H locs ls hW hS hl
              refine lv_istore_n (lv' := [(2, .int i_11), (0, .ref (bs g 64)), (1, .int i_1), (3, .int i_6)]) hx hb dX13_find_86 rfl hl (by decide) rfl (fun ls hl => ?_)
              obtain ⟨x_13, e_14, hf⟩ := nm_s hf
              refine lv_iinc (v := x_13) (lv' := [(3, .int x_13), (2, .int i_11), (0, .ref (bs g 64)), (1, .int i_1)]) hx hb dX13_find_87 hl (k := 3) rfl (by rw [e_14]; rfl) (by decide) rfl (fun ls hl => ?_)
              refine lv_goto (tgt := 45) hx hb dX13_find_90 (by decide) ?_
              exact hk_7 i_11 x_13 hf H locs ls hW hS (lv_sub hl [2, 3, 1, 0] rfl)
            · refine lv_icmp_ne (tgt := 85) hx hb dX13_find_78 (by decide) (fun hc => ?_) (fun hc => ?_)
              · have hf := iff_ hc hf
                refine lv_iconst (v := 0) hx hb dX13_find_85 (by decide) ?_
                exact hk_12 0 hf H locs ls hW hS (lv_sub hl [0, 1, 3] rfl)
              · have hf := ift hc hf
                refine lv_iconst (v := 1) hx hb dX13_find_81 (by decide) ?_
                refine lv_goto (tgt := 86) hx hb dX13_find_82 (by decide) ?_
                exact hk_12 1 hf H locs ls hW hS (lv_sub hl [0, 1, 3] rfl)
    · refine jn0_W (∀ (H : Heap) (locs : List Loc) (ls : Array Slot), Wd g 0 81 σ H → va_S (Ag g 0) s.heap H locs → lv_has ls 4 [(0, .ref (bs g 64)), (1, .int i_1)] → W p l e (kr 0 0) s m (List.toArray [.ref (bs g 64)]) below meth c H locs 0 0 Q (F0 m 41 ls [])) hf (fun  hf => ?_) (fun k_15 hk_15 hf => ?_)
      · intro H locs ls hW hS hl
        refine lv_iconst (v := 0) hx hb dX13_find_41 (by decide) ?_
        exact hk_4 0 hf H locs ls hW hS (lv_sub hl [0, 1] rfl)
      · refine lv_if_le (tgt := 41) hx hb dX13_find_17 (by decide) (fun hc => ?_) (fun hc => ?_)
        · have hf := ift hc hf
          exact hk_15  hf H locs ls hW hS (lv_sub hl [0, 1] rfl)
        · have hf := iff_ hc hf
          refine lv_aload_n hx hb dX13_find_20 rfl (lv_at hl 0 rfl) ?_
          refine gf_13_16 hx hb htg (htg _ lf_X13_23) hown hZ hW tz_64 dX13_find_21 ?_
          refine lv_sipush (v := 130) hx hb dX13_find_24 (by decide) ?_
          refine lv_iload_n hx hb dX13_find_27 rfl (lv_at hl 1 rfl) ?_
          refine lv_iadd hx hb dX13_find_28 ?_
          refine mld_i hx hb hZ hW tz_68 hf dX13_find_29 (fun hf => ?_)
          refine lv_aload_n hx hb dX13_find_30 rfl (lv_at hl 0 rfl) ?_
          refine gf_13_8 hx hb htg (htg _ lf_X13_81) hown hZ hW tz_64 dX13_find_31 ?_
          refine lv_icmp_ne (tgt := 41) hx hb dX13_find_34 (by decide) (fun hc => ?_) (fun hc => ?_)
          · have hf := iff_ hc hf
            exact hk_15  hf H locs ls hW hS (lv_sub hl [0, 1] rfl)
          · have hf := ift hc hf
            refine lv_iconst (v := 1) hx hb dX13_find_37 (by decide) ?_
            refine lv_goto (tgt := 42) hx hb dX13_find_38 (by decide) ?_
            exact hk_4 1 hf H locs ls hW hS (lv_sub hl [0, 1] rfl)
def f_X13_personHere (σ : Mem)  : Option (Int32 × Mem) :=
  (if (σ.1 64 13) = 0 then bd1 (f_X13_mustName σ) (fun (σ_1 : Mem) => (if (σ_1.1 64 13) = 0 then bd1 (f_X13_find σ_1) (fun (r_2 : Int32) => jn1 (fun (σ_3 : Mem) => (if (σ_3.1 64 13) = 0 then some (r_2, σ_3) else some (0, σ_3))) (fun k_4 => (if 0 ≤ r_2 then k_4 σ_1 else bd1 (f_X13_wrong σ_1 2 (σ_1.1 64 4)) (fun (σ_5 : Mem) => k_4 σ_5)))) else some (0, σ_1))) else some (0, σ))
set_option maxHeartbeats 4000000 in
set_option maxRecDepth 100000 in
theorem c_X13_personHere (g : XG) (l : Launch) (σ : Mem) (r : Int32) (τ : Mem) (hf : f_X13_personHere σ = some (r, τ)) : Met l yX13_personHere (wx (.code yX13_personHere cX13_personHere 2 (some .int))) (kr 6 128) (va_Pc [.ref (bs g 64)] (WS g 0 81 σ)) (Qi' g 0 81 r τ) 0 0 (Ag g 0) := by
  refine Met.ofW (cc := cX13_personHere) (maxL := 2) (ret := (some .int)) (by decide) rfl ?_
  intro p e s m args below meth c s₁ B hml hv
  obtain ⟨rfl, hZ, hT, hW⟩ := hv
  have hx := B.exec
  have hb := B.bytes
  have hr := B.returns
  have hts : ∀ w ∈ wx (.code yX13_personHere cX13_personHere 2 (some .int)), w.before _ s = true := atoms_spec B.pre
  have htg : ∀ w ∈ lwg, w.before _ s = true := fun w h => hts w (List.mem_cons_of_mem _ h)
  have hown : s.vm.findClass RX13 = some m.cls := findClass_of_methodNamed B.named
  have hlocks := B.notSynchronized
  change W p l e (kr 6 128) s m (List.toArray [.ref (bs g 64)]) below meth c s.heap [] 0 0 (MQ below (Qi' g 0 81 r τ) (List.toArray [.ref (bs g 64)]) s 0 0 (Ag g 0)) _
  generalize hQ : MQ below (Qi' g 0 81 r τ) (List.toArray [.ref (bs g 64)]) s 0 0 (Ag g 0) = Q
  have hS : va_S (Ag g 0) s.heap s.heap [] := va_S.rf
  have hl := lv_entry ([.ref (bs g 64)]) (n := 2) (Nat.le_of_ble_eq_true rfl)
  rw [lg_entry_eq]
  generalize (lg_sl ([.ref (bs g 64)]) ++ List.replicate (2 - (lg_sl ([.ref (bs g 64)])).length) Slot.unset).toArray = ls at hl ⊢
  have hl : lv_has ls 2 [(0, .ref (bs g 64))] := hl
  delta f_X13_personHere at hf
  obtain ⟨H, hH⟩ : ∃ H, H = s.heap := ⟨_, rfl⟩
  obtain ⟨locs, hLc⟩ : ∃ z : List Loc, z = [] := ⟨_, rfl⟩
  have hS : va_S (Ag g 0) s.heap H locs := by rw [hH, hLc]; exact hS
  have hW : Wd g 0 81 σ H := by rw [hH]; exact hW
  suffices hG : W p l e (kr 6 128) s m (List.toArray [.ref (bs g 64)]) below meth c H locs 0 0 Q (F0 m 0 ls []) by rw [hH, hLc] at hG; exact hG
  clear hH hLc
  refine lv_aload_n hx hb dX13_personHere_0 rfl (lv_at hl 0 rfl) ?_
  refine gf_13_13 hx hb htg (htg _ lf_X13_97) hown hZ hW tz_64 dX13_personHere_1 ?_
  refine lv_if_eq (tgt := 9) hx hb dX13_personHere_4 (by decide) (fun hc => ?_) (fun hc => ?_)
  · have hf := ift hc hf
    refine lv_aload_n hx hb dX13_personHere_9 rfl (lv_at hl 0 rfl) ?_
    refine mcv hf hS (fun τ h => va_runV (As := []) (rest := []) ⟨hx, hb, hml, hown, hts⟩ (c_X13_mustName g l σ τ h) (cl_X13_142 hts ⟨Nat.le_of_ble_eq_true rfl, Nat.le_of_ble_eq_true rfl⟩) (mpV_13 hZ hT hS hW tz_64 _) rfl rfl hl.1 rfl (lv_room (Nat.le_of_ble_eq_true rfl)) dX13_personHere_10 ⟨Nat.zero_le _, Nat.zero_le _⟩) (fun σ_1 H locs hf hW hS => ?_)
    refine lv_aload_n hx hb dX13_personHere_13 rfl (lv_at hl 0 rfl) ?_
    refine gf_13_13 hx hb htg (htg _ lf_X13_97) hown hZ hW tz_64 dX13_personHere_14 ?_
    refine lv_if_eq (tgt := 22) hx hb dX13_personHere_17 (by decide) (fun hc => ?_) (fun hc => ?_)
    · have hf := ift hc hf
      refine lv_aload_n hx hb dX13_personHere_22 rfl (lv_at hl 0 rfl) ?_
      refine mcip hf hS (fun r h => va_runV (As := []) (rest := []) ⟨hx, hb, hml, hown, hts⟩ (c_X13_find g l σ_1 r h) (cl_X13_145 hts ⟨Nat.le_of_ble_eq_true rfl, Nat.le_of_ble_eq_true rfl⟩) (mpV_13 hZ hT hS hW tz_64 _) rfl rfl hl.1 rfl (lv_room (Nat.le_of_ble_eq_true rfl)) dX13_personHere_23 ⟨Nat.zero_le _, Nat.zero_le _⟩) (fun r_2 H locs hf hW hS => ?_)
      refine lv_istore_n (lv' := [(1, .int r_2), (0, .ref (bs g 64))]) hx hb dX13_personHere_26 rfl hl (by decide) rfl (fun ls hl => ?_)
      refine lv_iload_n hx hb dX13_personHere_27 rfl (lv_at hl 0 rfl) ?_
      refine jn1_W (fun (σ_3 : Mem) => ∀ (H : Heap) (locs : List Loc) (ls : Array Slot), Wd g 0 81 σ_3 H → va_S (Ag g 0) s.heap H locs → lv_has ls 2 [(0, .ref (bs g 64)), (1, .int r_2)] → W p l e (kr 6 128) s m (List.toArray [.ref (bs g 64)]) below meth c H locs 0 0 Q (F0 m 40 ls [])) hf (fun σ_3 hf => ?_) (fun k_4 hk_4 hf => ?_)
      · intro H locs ls hW hS hl
        refine lv_aload_n hx hb dX13_personHere_40 rfl (lv_at hl 0 rfl) ?_
        refine gf_13_13 hx hb htg (htg _ lf_X13_97) hown hZ hW tz_64 dX13_personHere_41 ?_
        refine lv_if_eq (tgt := 51) hx hb dX13_personHere_44 (by decide) (fun hc => ?_) (fun hc => ?_)
        · have hf := ift hc hf
          refine lv_iload_n hx hb dX13_personHere_51 rfl (lv_at hl 1 rfl) ?_
          subst hQ
          exact mri hx hb hr hlocks hZ hT hS hW (pr1 hf) dX13_personHere_52
        · have hf := iff_ hc hf
          refine lv_iconst (v := 0) hx hb dX13_personHere_47 (by decide) ?_
          refine lv_goto (tgt := 52) hx hb dX13_personHere_48 (by decide) ?_
          subst hQ
          exact mri hx hb hr hlocks hZ hT hS hW (pr1 hf) dX13_personHere_52
      · refine lv_if_ge (tgt := 40) hx hb dX13_personHere_28 (by decide) (fun hc => ?_) (fun hc => ?_)
        · have hf := ift hc hf
          exact hk_4 σ_1 hf H locs ls hW hS (lv_sub hl [1, 0] rfl)
        · have hf := iff_ hc hf
          refine lv_aload_n hx hb dX13_personHere_31 rfl (lv_at hl 1 rfl) ?_
          refine lv_iconst (v := 2) hx hb dX13_personHere_32 (by decide) ?_
          refine lv_aload_n hx hb dX13_personHere_33 rfl (lv_at hl 1 rfl) ?_
          refine gf_13_4 hx hb htg (htg _ lf_X13_78) hown hZ hW tz_64 dX13_personHere_34 ?_
          refine mcv hf hS (fun τ h => va_runV (As := [.int 2, .int (σ_1.1 64 4)]) (rest := []) ⟨hx, hb, hml, hown, hts⟩ (c_X13_wrong g l σ_1 2 (σ_1.1 64 4) τ h) (cl_X13_124 hts ⟨Nat.le_of_ble_eq_true rfl, Nat.le_of_ble_eq_true rfl⟩) (mpV_13 hZ hT hS hW tz_64 _) rfl rfl hl.1 rfl (lv_room (Nat.le_of_ble_eq_true rfl)) dX13_personHere_37 ⟨Nat.zero_le _, Nat.zero_le _⟩) (fun σ_5 H locs hf hW hS => ?_)
          exact hk_4 σ_5 hf H locs ls hW hS (lv_sub hl [1, 0] rfl)
    · have hf := iff_ hc hf
      refine lv_iconst (v := 0) hx hb dX13_personHere_20 (by decide) ?_
      subst hQ
      exact mri hx hb hr hlocks hZ hT hS hW (pr1 hf) dX13_personHere_21
  · have hf := iff_ hc hf
    refine lv_iconst (v := 0) hx hb dX13_personHere_7 (by decide) ?_
    subst hQ
    exact mri hx hb hr hlocks hZ hT hS hW (pr1 hf) dX13_personHere_8
def f_X13_personPassed (σ : Mem)  : Option (Int32 × Mem) :=
  bd2 (f_X13_personHere σ) (fun (r_1 : Int32) (σ_2 : Mem) => (if (σ_2.1 64 13) = 0 then bd1 (f_X13_next σ_2) (fun (σ_3 : Mem) => some (r_1, σ_3)) else some (r_1, σ_2)))
set_option maxHeartbeats 4000000 in
set_option maxRecDepth 100000 in
theorem c_X13_personPassed (g : XG) (l : Launch) (σ : Mem) (r : Int32) (τ : Mem) (hf : f_X13_personPassed σ = some (r, τ)) : Met l yX13_personPassed (wx (.code yX13_personPassed cX13_personPassed 2 (some .int))) (kr 7 149) (va_Pc [.ref (bs g 64)] (WS g 0 81 σ)) (Qi' g 0 81 r τ) 0 0 (Ag g 0) := by
  refine Met.ofW (cc := cX13_personPassed) (maxL := 2) (ret := (some .int)) (by decide) rfl ?_
  intro p e s m args below meth c s₁ B hml hv
  obtain ⟨rfl, hZ, hT, hW⟩ := hv
  have hx := B.exec
  have hb := B.bytes
  have hr := B.returns
  have hts : ∀ w ∈ wx (.code yX13_personPassed cX13_personPassed 2 (some .int)), w.before _ s = true := atoms_spec B.pre
  have htg : ∀ w ∈ lwg, w.before _ s = true := fun w h => hts w (List.mem_cons_of_mem _ h)
  have hown : s.vm.findClass RX13 = some m.cls := findClass_of_methodNamed B.named
  have hlocks := B.notSynchronized
  change W p l e (kr 7 149) s m (List.toArray [.ref (bs g 64)]) below meth c s.heap [] 0 0 (MQ below (Qi' g 0 81 r τ) (List.toArray [.ref (bs g 64)]) s 0 0 (Ag g 0)) _
  generalize hQ : MQ below (Qi' g 0 81 r τ) (List.toArray [.ref (bs g 64)]) s 0 0 (Ag g 0) = Q
  have hS : va_S (Ag g 0) s.heap s.heap [] := va_S.rf
  have hl := lv_entry ([.ref (bs g 64)]) (n := 2) (Nat.le_of_ble_eq_true rfl)
  rw [lg_entry_eq]
  generalize (lg_sl ([.ref (bs g 64)]) ++ List.replicate (2 - (lg_sl ([.ref (bs g 64)])).length) Slot.unset).toArray = ls at hl ⊢
  have hl : lv_has ls 2 [(0, .ref (bs g 64))] := hl
  delta f_X13_personPassed at hf
  obtain ⟨H, hH⟩ : ∃ H, H = s.heap := ⟨_, rfl⟩
  obtain ⟨locs, hLc⟩ : ∃ z : List Loc, z = [] := ⟨_, rfl⟩
  have hS : va_S (Ag g 0) s.heap H locs := by rw [hH, hLc]; exact hS
  have hW : Wd g 0 81 σ H := by rw [hH]; exact hW
  suffices hG : W p l e (kr 7 149) s m (List.toArray [.ref (bs g 64)]) below meth c H locs 0 0 Q (F0 m 0 ls []) by rw [hH, hLc] at hG; exact hG
  clear hH hLc
  refine lv_aload_n hx hb dX13_personPassed_0 rfl (lv_at hl 0 rfl) ?_
  refine mci hf hS (fun r τ h => va_runV (As := []) (rest := []) ⟨hx, hb, hml, hown, hts⟩ (c_X13_personHere g l σ r τ h) (cl_X13_148 hts ⟨Nat.le_of_ble_eq_true rfl, Nat.le_of_ble_eq_true rfl⟩) (mpV_13 hZ hT hS hW tz_64 _) rfl rfl hl.1 rfl (lv_room (Nat.le_of_ble_eq_true rfl)) dX13_personPassed_1 ⟨Nat.zero_le _, Nat.zero_le _⟩) (fun r_1 σ_2 H locs hf hW hS => ?_)
  refine lv_istore_n (lv' := [(1, .int r_1), (0, .ref (bs g 64))]) hx hb dX13_personPassed_4 rfl hl (by decide) rfl (fun ls hl => ?_)
  refine lv_aload_n hx hb dX13_personPassed_5 rfl (lv_at hl 1 rfl) ?_
  refine gf_13_13 hx hb htg (htg _ lf_X13_97) hown hZ hW tz_64 dX13_personPassed_6 ?_
  refine lv_if_ne (tgt := 16) hx hb dX13_personPassed_9 (by decide) (fun hc => ?_) (fun hc => ?_)
  · have hf := iff_ hc hf
    refine lv_iload_n hx hb dX13_personPassed_16 rfl (lv_at hl 0 rfl) ?_
    subst hQ
    exact mri hx hb hr hlocks hZ hT hS hW (pr1 hf) dX13_personPassed_17
  · have hf := ift hc hf
    refine lv_aload_n hx hb dX13_personPassed_12 rfl (lv_at hl 1 rfl) ?_
    refine mcv hf hS (fun τ h => va_runV (As := []) (rest := []) ⟨hx, hb, hml, hown, hts⟩ (c_X13_next g l σ_2 τ h) (cl_X13_118 hts ⟨Nat.le_of_ble_eq_true rfl, Nat.le_of_ble_eq_true rfl⟩) (mpV_13 hZ hT hS hW tz_64 _) rfl rfl hl.1 rfl (lv_room (Nat.le_of_ble_eq_true rfl)) dX13_personPassed_13 ⟨Nat.zero_le _, Nat.zero_le _⟩) (fun σ_3 H locs hf hW hS => ?_)
    refine lv_iload_n hx hb dX13_personPassed_16 rfl (lv_at hl 0 rfl) ?_
    subst hQ
    exact mri hx hb hr hlocks hZ hT hS hW (pr1 hf) dX13_personPassed_17
def f_X13_numberHere (σ : Mem) (a1 : Int32) (a2 : Int32) : Option (Int32 × Mem) :=
  (if (σ.1 64 13) = 0 then jn1 (fun (σ_1 : Mem) => (if (σ_1.1 64 13) = 0 then some (σ_1.1 64 7, σ_1) else some (a1, σ_1))) (fun k_2 => (if (σ.1 64 6) = 3 then bd1 (f_X13_in (σ.1 64 7) a1 a2) (fun (r_3 : Int32) => (if r_3 = 0 then bd1 (f_X13_wrong σ 4 (σ.1 64 4)) (fun (σ_4 : Mem) => k_2 σ_4) else k_2 σ)) else bd1 (f_X13_wrong σ 1 (σ.1 64 4)) (fun (σ_5 : Mem) => k_2 σ_5))) else some (a1, σ))
set_option maxHeartbeats 4000000 in
set_option maxRecDepth 100000 in
theorem c_X13_numberHere (g : XG) (l : Launch) (σ : Mem) (a1 : Int32) (a2 : Int32) (r : Int32) (τ : Mem) (hf : f_X13_numberHere σ a1 a2 = some (r, τ)) : Met l yX13_numberHere (wx (.code yX13_numberHere cX13_numberHere 3 (some .int))) (kr 1 22) (va_Pc [.ref (bs g 64), .int a1, .int a2] (WS g 0 81 σ)) (Qi' g 0 81 r τ) 0 0 (Ag g 0) := by
  refine Met.ofW (cc := cX13_numberHere) (maxL := 3) (ret := (some .int)) (by decide) rfl ?_
  intro p e s m args below meth c s₁ B hml hv
  obtain ⟨rfl, hZ, hT, hW⟩ := hv
  have hx := B.exec
  have hb := B.bytes
  have hr := B.returns
  have hts : ∀ w ∈ wx (.code yX13_numberHere cX13_numberHere 3 (some .int)), w.before _ s = true := atoms_spec B.pre
  have htg : ∀ w ∈ lwg, w.before _ s = true := fun w h => hts w (List.mem_cons_of_mem _ h)
  have hown : s.vm.findClass RX13 = some m.cls := findClass_of_methodNamed B.named
  have hlocks := B.notSynchronized
  change W p l e (kr 1 22) s m (List.toArray [.ref (bs g 64), .int a1, .int a2]) below meth c s.heap [] 0 0 (MQ below (Qi' g 0 81 r τ) (List.toArray [.ref (bs g 64), .int a1, .int a2]) s 0 0 (Ag g 0)) _
  generalize hQ : MQ below (Qi' g 0 81 r τ) (List.toArray [.ref (bs g 64), .int a1, .int a2]) s 0 0 (Ag g 0) = Q
  have hS : va_S (Ag g 0) s.heap s.heap [] := va_S.rf
  have hl := lv_entry ([.ref (bs g 64), .int a1, .int a2]) (n := 3) (Nat.le_of_ble_eq_true rfl)
  rw [lg_entry_eq]
  generalize (lg_sl ([.ref (bs g 64), .int a1, .int a2]) ++ List.replicate (3 - (lg_sl ([.ref (bs g 64), .int a1, .int a2])).length) Slot.unset).toArray = ls at hl ⊢
  have hl : lv_has ls 3 [(0, .ref (bs g 64)), (1, .int a1), (2, .int a2)] := hl
  delta f_X13_numberHere at hf
  obtain ⟨H, hH⟩ : ∃ H, H = s.heap := ⟨_, rfl⟩
  obtain ⟨locs, hLc⟩ : ∃ z : List Loc, z = [] := ⟨_, rfl⟩
  have hS : va_S (Ag g 0) s.heap H locs := by rw [hH, hLc]; exact hS
  have hW : Wd g 0 81 σ H := by rw [hH]; exact hW
  suffices hG : W p l e (kr 1 22) s m (List.toArray [.ref (bs g 64), .int a1, .int a2]) below meth c H locs 0 0 Q (F0 m 0 ls []) by rw [hH, hLc] at hG; exact hG
  clear hH hLc
  refine lv_aload_n hx hb dX13_numberHere_0 rfl (lv_at hl 0 rfl) ?_
  refine gf_13_13 hx hb htg (htg _ lf_X13_97) hown hZ hW tz_64 dX13_numberHere_1 ?_
  refine lv_if_eq (tgt := 9) hx hb dX13_numberHere_4 (by decide) (fun hc => ?_) (fun hc => ?_)
  · have hf := ift hc hf
    refine lv_aload_n hx hb dX13_numberHere_9 rfl (lv_at hl 0 rfl) ?_
    refine gf_13_6 hx hb htg (htg _ lf_X13_87) hown hZ hW tz_64 dX13_numberHere_10 ?_
    refine lv_iconst (v := 3) hx hb dX13_numberHere_13 (by decide) ?_
    refine jn1_W (fun (σ_1 : Mem) => ∀ (H : Heap) (locs : List Loc) (ls : Array Slot), Wd g 0 81 σ_1 H → va_S (Ag g 0) s.heap H locs → lv_has ls 3 [(0, .ref (bs g 64)), (1, .int a1)] → W p l e (kr 1 22) s m (List.toArray [.ref (bs g 64), .int a1, .int a2]) below meth c H locs 0 0 Q (F0 m 50 ls [])) hf (fun σ_1 hf => ?_) (fun k_2 hk_2 hf => ?_)
    · intro H locs ls hW hS hl
      refine lv_aload_n hx hb dX13_numberHere_50 rfl (lv_at hl 0 rfl) ?_
      refine gf_13_13 hx hb htg (htg _ lf_X13_97) hown hZ hW tz_64 dX13_numberHere_51 ?_
      refine lv_if_eq (tgt := 61) hx hb dX13_numberHere_54 (by decide) (fun hc => ?_) (fun hc => ?_)
      · have hf := ift hc hf
        refine lv_aload_n hx hb dX13_numberHere_61 rfl (lv_at hl 0 rfl) ?_
        refine gf_13_7 hx hb htg (htg _ lf_X13_84) hown hZ hW tz_64 dX13_numberHere_62 ?_
        subst hQ
        exact mri hx hb hr hlocks hZ hT hS hW (pr1 hf) dX13_numberHere_65
      · have hf := iff_ hc hf
        refine lv_iload_n hx hb dX13_numberHere_57 rfl (lv_at hl 1 rfl) ?_
        refine lv_goto (tgt := 65) hx hb dX13_numberHere_58 (by decide) ?_
        subst hQ
        exact mri hx hb hr hlocks hZ hT hS hW (pr1 hf) dX13_numberHere_65
    · refine lv_icmp_eq (tgt := 29) hx hb dX13_numberHere_14 (by decide) (fun hc => ?_) (fun hc => ?_)
      · have hf := ift hc hf
        refine lv_aload_n hx hb dX13_numberHere_29 rfl (lv_at hl 0 rfl) ?_
        refine gf_13_7 hx hb htg (htg _ lf_X13_84) hown hZ hW tz_64 dX13_numberHere_30 ?_
        refine lv_iload_n hx hb dX13_numberHere_33 rfl (lv_at hl 1 rfl) ?_
        refine lv_iload_n hx hb dX13_numberHere_34 rfl (lv_at hl 2 rfl) ?_
        refine mcip hf hS (fun r h => va_runS (As := [.int (σ.1 64 7), .int a1, .int a2]) (rest := []) ⟨hx, hb, hml, hown, hts⟩ (c_X13_in g l 0 81 σ (σ.1 64 7) a1 a2 r h) (cl_X13_151 hts ⟨Nat.le_of_ble_eq_true rfl, Nat.le_of_ble_eq_true rfl⟩) (mpS hZ hT hS hW _) rfl rfl hl.1 rfl (lv_room (Nat.le_of_ble_eq_true rfl)) dX13_numberHere_35 ⟨Nat.zero_le _, Nat.zero_le _⟩) (fun r_3 H locs hf hW hS => ?_)
        refine lv_if_ne (tgt := 50) hx hb dX13_numberHere_38 (by decide) (fun hc => ?_) (fun hc => ?_)
        · have hf := iff_ hc hf
          exact hk_2 σ hf H locs ls hW hS (lv_sub hl [0, 1] rfl)
        · have hf := ift hc hf
          refine lv_aload_n hx hb dX13_numberHere_41 rfl (lv_at hl 0 rfl) ?_
          refine lv_iconst (v := 4) hx hb dX13_numberHere_42 (by decide) ?_
          refine lv_aload_n hx hb dX13_numberHere_43 rfl (lv_at hl 0 rfl) ?_
          refine gf_13_4 hx hb htg (htg _ lf_X13_78) hown hZ hW tz_64 dX13_numberHere_44 ?_
          refine mcv hf hS (fun τ h => va_runV (As := [.int 4, .int (σ.1 64 4)]) (rest := []) ⟨hx, hb, hml, hown, hts⟩ (c_X13_wrong g l σ 4 (σ.1 64 4) τ h) (cl_X13_124 hts ⟨Nat.le_of_ble_eq_true rfl, Nat.le_of_ble_eq_true rfl⟩) (mpV_13 hZ hT hS hW tz_64 _) rfl rfl hl.1 rfl (lv_room (Nat.le_of_ble_eq_true rfl)) dX13_numberHere_47 ⟨Nat.zero_le _, Nat.zero_le _⟩) (fun σ_4 H locs hf hW hS => ?_)
          exact hk_2 σ_4 hf H locs ls hW hS (lv_sub hl [0, 1] rfl)
      · have hf := iff_ hc hf
        refine lv_aload_n hx hb dX13_numberHere_17 rfl (lv_at hl 0 rfl) ?_
        refine lv_iconst (v := 1) hx hb dX13_numberHere_18 (by decide) ?_
        refine lv_aload_n hx hb dX13_numberHere_19 rfl (lv_at hl 0 rfl) ?_
        refine gf_13_4 hx hb htg (htg _ lf_X13_78) hown hZ hW tz_64 dX13_numberHere_20 ?_
        refine mcv hf hS (fun τ h => va_runV (As := [.int 1, .int (σ.1 64 4)]) (rest := []) ⟨hx, hb, hml, hown, hts⟩ (c_X13_wrong g l σ 1 (σ.1 64 4) τ h) (cl_X13_124 hts ⟨Nat.le_of_ble_eq_true rfl, Nat.le_of_ble_eq_true rfl⟩) (mpV_13 hZ hT hS hW tz_64 _) rfl rfl hl.1 rfl (lv_room (Nat.le_of_ble_eq_true rfl)) dX13_numberHere_23 ⟨Nat.zero_le _, Nat.zero_le _⟩) (fun σ_5 H locs hf hW hS => ?_)
        refine lv_goto (tgt := 50) hx hb dX13_numberHere_26 (by decide) ?_
        exact hk_2 σ_5 hf H locs ls hW hS (lv_sub hl [0, 1] rfl)
  · have hf := iff_ hc hf
    refine lv_iload_n hx hb dX13_numberHere_7 rfl (lv_at hl 1 rfl) ?_
    subst hQ
    exact mri hx hb hr hlocks hZ hT hS hW (pr1 hf) dX13_numberHere_8
def f_X13_number (σ : Mem) (a1 : Int32) (a2 : Int32) : Option (Int32 × Mem) :=
  bd2 (f_X13_numberHere σ a1 a2) (fun (r_1 : Int32) (σ_2 : Mem) => (if (σ_2.1 64 13) = 0 then bd1 (f_X13_next σ_2) (fun (σ_3 : Mem) => some (r_1, σ_3)) else some (r_1, σ_2)))
set_option maxHeartbeats 4000000 in
set_option maxRecDepth 100000 in
theorem c_X13_number (g : XG) (l : Launch) (σ : Mem) (a1 : Int32) (a2 : Int32) (r : Int32) (τ : Mem) (hf : f_X13_number σ a1 a2 = some (r, τ)) : Met l yX13_number (wx (.code yX13_number cX13_number 4 (some .int))) (kr 2 44) (va_Pc [.ref (bs g 64), .int a1, .int a2] (WS g 0 81 σ)) (Qi' g 0 81 r τ) 0 0 (Ag g 0) := by
  refine Met.ofW (cc := cX13_number) (maxL := 4) (ret := (some .int)) (by decide) rfl ?_
  intro p e s m args below meth c s₁ B hml hv
  obtain ⟨rfl, hZ, hT, hW⟩ := hv
  have hx := B.exec
  have hb := B.bytes
  have hr := B.returns
  have hts : ∀ w ∈ wx (.code yX13_number cX13_number 4 (some .int)), w.before _ s = true := atoms_spec B.pre
  have htg : ∀ w ∈ lwg, w.before _ s = true := fun w h => hts w (List.mem_cons_of_mem _ h)
  have hown : s.vm.findClass RX13 = some m.cls := findClass_of_methodNamed B.named
  have hlocks := B.notSynchronized
  change W p l e (kr 2 44) s m (List.toArray [.ref (bs g 64), .int a1, .int a2]) below meth c s.heap [] 0 0 (MQ below (Qi' g 0 81 r τ) (List.toArray [.ref (bs g 64), .int a1, .int a2]) s 0 0 (Ag g 0)) _
  generalize hQ : MQ below (Qi' g 0 81 r τ) (List.toArray [.ref (bs g 64), .int a1, .int a2]) s 0 0 (Ag g 0) = Q
  have hS : va_S (Ag g 0) s.heap s.heap [] := va_S.rf
  have hl := lv_entry ([.ref (bs g 64), .int a1, .int a2]) (n := 4) (Nat.le_of_ble_eq_true rfl)
  rw [lg_entry_eq]
  generalize (lg_sl ([.ref (bs g 64), .int a1, .int a2]) ++ List.replicate (4 - (lg_sl ([.ref (bs g 64), .int a1, .int a2])).length) Slot.unset).toArray = ls at hl ⊢
  have hl : lv_has ls 4 [(0, .ref (bs g 64)), (1, .int a1), (2, .int a2)] := hl
  delta f_X13_number at hf
  obtain ⟨H, hH⟩ : ∃ H, H = s.heap := ⟨_, rfl⟩
  obtain ⟨locs, hLc⟩ : ∃ z : List Loc, z = [] := ⟨_, rfl⟩
  have hS : va_S (Ag g 0) s.heap H locs := by rw [hH, hLc]; exact hS
  have hW : Wd g 0 81 σ H := by rw [hH]; exact hW
  suffices hG : W p l e (kr 2 44) s m (List.toArray [.ref (bs g 64), .int a1, .int a2]) below meth c H locs 0 0 Q (F0 m 0 ls []) by rw [hH, hLc] at hG; exact hG
  clear hH hLc
  refine lv_aload_n hx hb dX13_number_0 rfl (lv_at hl 0 rfl) ?_
  refine lv_iload_n hx hb dX13_number_1 rfl (lv_at hl 1 rfl) ?_
  refine lv_iload_n hx hb dX13_number_2 rfl (lv_at hl 2 rfl) ?_
  refine mci hf hS (fun r τ h => va_runV (As := [.int a1, .int a2]) (rest := []) ⟨hx, hb, hml, hown, hts⟩ (c_X13_numberHere g l σ a1 a2 r τ h) (cl_X13_155 hts ⟨Nat.le_of_ble_eq_true rfl, Nat.le_of_ble_eq_true rfl⟩) (mpV_13 hZ hT hS hW tz_64 _) rfl rfl hl.1 rfl (lv_room (Nat.le_of_ble_eq_true rfl)) dX13_number_3 ⟨Nat.zero_le _, Nat.zero_le _⟩) (fun r_1 σ_2 H locs hf hW hS => ?_)
  refine lv_istore_n (lv' := [(3, .int r_1), (0, .ref (bs g 64)), (1, .int a1), (2, .int a2)]) hx hb dX13_number_6 rfl hl (by decide) rfl (fun ls hl => ?_)
  refine lv_aload_n hx hb dX13_number_7 rfl (lv_at hl 1 rfl) ?_
  refine gf_13_13 hx hb htg (htg _ lf_X13_97) hown hZ hW tz_64 dX13_number_8 ?_
  refine lv_if_ne (tgt := 18) hx hb dX13_number_11 (by decide) (fun hc => ?_) (fun hc => ?_)
  · have hf := iff_ hc hf
    refine lv_iload_n hx hb dX13_number_18 rfl (lv_at hl 0 rfl) ?_
    subst hQ
    exact mri hx hb hr hlocks hZ hT hS hW (pr1 hf) dX13_number_19
  · have hf := ift hc hf
    refine lv_aload_n hx hb dX13_number_14 rfl (lv_at hl 1 rfl) ?_
    refine mcv hf hS (fun τ h => va_runV (As := []) (rest := []) ⟨hx, hb, hml, hown, hts⟩ (c_X13_next g l σ_2 τ h) (cl_X13_118 hts ⟨Nat.le_of_ble_eq_true rfl, Nat.le_of_ble_eq_true rfl⟩) (mpV_13 hZ hT hS hW tz_64 _) rfl rfl hl.1 rfl (lv_room (Nat.le_of_ble_eq_true rfl)) dX13_number_15 ⟨Nat.zero_le _, Nat.zero_le _⟩) (fun σ_3 H locs hf hW hS => ?_)
    refine lv_iload_n hx hb dX13_number_18 rfl (lv_at hl 0 rfl) ?_
    subst hQ
    exact mri hx hb hr hlocks hZ hT hS hW (pr1 hf) dX13_number_19
def f_X13_after (σ : Mem) (s1 : Nat) (a2 : Int32) (a3 : Int32) : Option (Int32 × Mem) :=
  bd1 (f_X13_must σ s1) (fun (σ_1 : Mem) => bd2 (f_X13_number σ_1 a2 a3) (fun (r_2 : Int32) (σ_3 : Mem) => some (r_2, σ_3)))
set_option maxHeartbeats 4000000 in
set_option maxRecDepth 100000 in
theorem c_X13_after (g : XG) (l : Launch) (σ : Mem) (s1 : Nat) (a2 : Int32) (a3 : Int32) (hs1 : s1 < 19) (r : Int32) (τ : Mem) (hf : f_X13_after σ s1 a2 a3 = some (r, τ)) : Met l yX13_after (wx (.code yX13_after cX13_after 4 (some .int))) (kr 7 150) (va_Pc [.ref (bs g 64), .ref (adS g s1), .int a2, .int a3] (WS g 0 81 σ)) (Qi' g 0 81 r τ) 0 0 (Ag g 0) := by
  refine Met.ofW (cc := cX13_after) (maxL := 4) (ret := (some .int)) (by decide) rfl ?_
  intro p e s m args below meth c s₁ B hml hv
  obtain ⟨rfl, hZ, hT, hW⟩ := hv
  have hx := B.exec
  have hb := B.bytes
  have hr := B.returns
  have hts : ∀ w ∈ wx (.code yX13_after cX13_after 4 (some .int)), w.before _ s = true := atoms_spec B.pre
  have htg : ∀ w ∈ lwg, w.before _ s = true := fun w h => hts w (List.mem_cons_of_mem _ h)
  have hown : s.vm.findClass RX13 = some m.cls := findClass_of_methodNamed B.named
  have hlocks := B.notSynchronized
  change W p l e (kr 7 150) s m (List.toArray [.ref (bs g 64), .ref (adS g s1), .int a2, .int a3]) below meth c s.heap [] 0 0 (MQ below (Qi' g 0 81 r τ) (List.toArray [.ref (bs g 64), .ref (adS g s1), .int a2, .int a3]) s 0 0 (Ag g 0)) _
  generalize hQ : MQ below (Qi' g 0 81 r τ) (List.toArray [.ref (bs g 64), .ref (adS g s1), .int a2, .int a3]) s 0 0 (Ag g 0) = Q
  have hS : va_S (Ag g 0) s.heap s.heap [] := va_S.rf
  have hl := lv_entry ([.ref (bs g 64), .ref (adS g s1), .int a2, .int a3]) (n := 4) (Nat.le_of_ble_eq_true rfl)
  rw [lg_entry_eq]
  generalize (lg_sl ([.ref (bs g 64), .ref (adS g s1), .int a2, .int a3]) ++ List.replicate (4 - (lg_sl ([.ref (bs g 64), .ref (adS g s1), .int a2, .int a3])).length) Slot.unset).toArray = ls at hl ⊢
  have hl : lv_has ls 4 [(0, .ref (bs g 64)), (1, .ref (adS g s1)), (2, .int a2), (3, .int a3)] := hl
  delta f_X13_after at hf
  obtain ⟨H, hH⟩ : ∃ H, H = s.heap := ⟨_, rfl⟩
  obtain ⟨locs, hLc⟩ : ∃ z : List Loc, z = [] := ⟨_, rfl⟩
  have hS : va_S (Ag g 0) s.heap H locs := by rw [hH, hLc]; exact hS
  have hW : Wd g 0 81 σ H := by rw [hH]; exact hW
  suffices hG : W p l e (kr 7 150) s m (List.toArray [.ref (bs g 64), .ref (adS g s1), .int a2, .int a3]) below meth c H locs 0 0 Q (F0 m 0 ls []) by rw [hH, hLc] at hG; exact hG
  clear hH hLc
  refine lv_aload_n hx hb dX13_after_0 rfl (lv_at hl 0 rfl) ?_
  refine lv_aload_n hx hb dX13_after_1 rfl (lv_at hl 1 rfl) ?_
  refine mcv hf hS (fun τ h => va_runV (As := [.ref (adS g s1)]) (rest := []) ⟨hx, hb, hml, hown, hts⟩ (c_X13_must g l σ s1 hs1 τ h) (cl_X13_159 hts ⟨Nat.le_of_ble_eq_true rfl, Nat.le_of_ble_eq_true rfl⟩) (mpV_13 hZ hT hS hW tz_64 _) rfl rfl hl.1 rfl (lv_room (Nat.le_of_ble_eq_true rfl)) dX13_after_2 ⟨Nat.zero_le _, Nat.zero_le _⟩) (fun σ_1 H locs hf hW hS => ?_)
  refine lv_aload_n hx hb dX13_after_5 rfl (lv_at hl 0 rfl) ?_
  refine lv_iload_n hx hb dX13_after_6 rfl (lv_at hl 2 rfl) ?_
  refine lv_iload_n hx hb dX13_after_7 rfl (lv_at hl 3 rfl) ?_
  refine mci hf hS (fun r τ h => va_runV (As := [.int a2, .int a3]) (rest := []) ⟨hx, hb, hml, hown, hts⟩ (c_X13_number g l σ_1 a2 a3 r τ h) (cl_X13_163 hts ⟨Nat.le_of_ble_eq_true rfl, Nat.le_of_ble_eq_true rfl⟩) (mpV_13 hZ hT hS hW tz_64 _) rfl rfl hl.1 rfl (lv_room (Nat.le_of_ble_eq_true rfl)) dX13_after_8 ⟨Nat.zero_le _, Nat.zero_le _⟩) (fun r_2 σ_3 H locs hf hW hS => ?_)
  subst hQ
  exact mri hx hb hr hlocks hZ hT hS hW (pr1 hf) dX13_after_11
def f_X13_afterHere (σ : Mem) (s1 : Nat) (a2 : Int32) (a3 : Int32) : Option (Int32 × Mem) :=
  bd1 (f_X13_must σ s1) (fun (σ_1 : Mem) => bd2 (f_X13_numberHere σ_1 a2 a3) (fun (r_2 : Int32) (σ_3 : Mem) => some (r_2, σ_3)))
set_option maxHeartbeats 4000000 in
set_option maxRecDepth 100000 in
theorem c_X13_afterHere (g : XG) (l : Launch) (σ : Mem) (s1 : Nat) (a2 : Int32) (a3 : Int32) (hs1 : s1 < 19) (r : Int32) (τ : Mem) (hf : f_X13_afterHere σ s1 a2 a3 = some (r, τ)) : Met l yX13_afterHere (wx (.code yX13_afterHere cX13_afterHere 4 (some .int))) (kr 7 150) (va_Pc [.ref (bs g 64), .ref (adS g s1), .int a2, .int a3] (WS g 0 81 σ)) (Qi' g 0 81 r τ) 0 0 (Ag g 0) := by
  refine Met.ofW (cc := cX13_afterHere) (maxL := 4) (ret := (some .int)) (by decide) rfl ?_
  intro p e s m args below meth c s₁ B hml hv
  obtain ⟨rfl, hZ, hT, hW⟩ := hv
  have hx := B.exec
  have hb := B.bytes
  have hr := B.returns
  have hts : ∀ w ∈ wx (.code yX13_afterHere cX13_afterHere 4 (some .int)), w.before _ s = true := atoms_spec B.pre
  have htg : ∀ w ∈ lwg, w.before _ s = true := fun w h => hts w (List.mem_cons_of_mem _ h)
  have hown : s.vm.findClass RX13 = some m.cls := findClass_of_methodNamed B.named
  have hlocks := B.notSynchronized
  change W p l e (kr 7 150) s m (List.toArray [.ref (bs g 64), .ref (adS g s1), .int a2, .int a3]) below meth c s.heap [] 0 0 (MQ below (Qi' g 0 81 r τ) (List.toArray [.ref (bs g 64), .ref (adS g s1), .int a2, .int a3]) s 0 0 (Ag g 0)) _
  generalize hQ : MQ below (Qi' g 0 81 r τ) (List.toArray [.ref (bs g 64), .ref (adS g s1), .int a2, .int a3]) s 0 0 (Ag g 0) = Q
  have hS : va_S (Ag g 0) s.heap s.heap [] := va_S.rf
  have hl := lv_entry ([.ref (bs g 64), .ref (adS g s1), .int a2, .int a3]) (n := 4) (Nat.le_of_ble_eq_true rfl)
  rw [lg_entry_eq]
  generalize (lg_sl ([.ref (bs g 64), .ref (adS g s1), .int a2, .int a3]) ++ List.replicate (4 - (lg_sl ([.ref (bs g 64), .ref (adS g s1), .int a2, .int a3])).length) Slot.unset).toArray = ls at hl ⊢
  have hl : lv_has ls 4 [(0, .ref (bs g 64)), (1, .ref (adS g s1)), (2, .int a2), (3, .int a3)] := hl
  delta f_X13_afterHere at hf
  obtain ⟨H, hH⟩ : ∃ H, H = s.heap := ⟨_, rfl⟩
  obtain ⟨locs, hLc⟩ : ∃ z : List Loc, z = [] := ⟨_, rfl⟩
  have hS : va_S (Ag g 0) s.heap H locs := by rw [hH, hLc]; exact hS
  have hW : Wd g 0 81 σ H := by rw [hH]; exact hW
  suffices hG : W p l e (kr 7 150) s m (List.toArray [.ref (bs g 64), .ref (adS g s1), .int a2, .int a3]) below meth c H locs 0 0 Q (F0 m 0 ls []) by rw [hH, hLc] at hG; exact hG
  clear hH hLc
  refine lv_aload_n hx hb dX13_afterHere_0 rfl (lv_at hl 0 rfl) ?_
  refine lv_aload_n hx hb dX13_afterHere_1 rfl (lv_at hl 1 rfl) ?_
  refine mcv hf hS (fun τ h => va_runV (As := [.ref (adS g s1)]) (rest := []) ⟨hx, hb, hml, hown, hts⟩ (c_X13_must g l σ s1 hs1 τ h) (cl_X13_159 hts ⟨Nat.le_of_ble_eq_true rfl, Nat.le_of_ble_eq_true rfl⟩) (mpV_13 hZ hT hS hW tz_64 _) rfl rfl hl.1 rfl (lv_room (Nat.le_of_ble_eq_true rfl)) dX13_afterHere_2 ⟨Nat.zero_le _, Nat.zero_le _⟩) (fun σ_1 H locs hf hW hS => ?_)
  refine lv_aload_n hx hb dX13_afterHere_5 rfl (lv_at hl 0 rfl) ?_
  refine lv_iload_n hx hb dX13_afterHere_6 rfl (lv_at hl 2 rfl) ?_
  refine lv_iload_n hx hb dX13_afterHere_7 rfl (lv_at hl 3 rfl) ?_
  refine mci hf hS (fun r τ h => va_runV (As := [.int a2, .int a3]) (rest := []) ⟨hx, hb, hml, hown, hts⟩ (c_X13_numberHere g l σ_1 a2 a3 r τ h) (cl_X13_155 hts ⟨Nat.le_of_ble_eq_true rfl, Nat.le_of_ble_eq_true rfl⟩) (mpV_13 hZ hT hS hW tz_64 _) rfl rfl hl.1 rfl (lv_room (Nat.le_of_ble_eq_true rfl)) dX13_afterHere_8 ⟨Nat.zero_le _, Nat.zero_le _⟩) (fun r_2 σ_3 H locs hf hW hS => ?_)
  subst hQ
  exact mri hx hb hr hlocks hZ hT hS hW (pr1 hf) dX13_afterHere_11
def f_X13_townLine (σ : Mem)  : Option (Mem) :=
  ixd 0 (aln 68) (jn1 (fun (σ_1 : Mem) => (if (σ_1.1 64 13) = 0 then bd1 (f_X13_next σ_1) (fun (σ_3 : Mem) => bd2 (f_X13_after σ_3 7 3 6) (fun (r_4 : Int32) (σ_5 : Mem) => bd2 (f_X13_after σ_5 8 0 2) (fun (r_6 : Int32) (σ_7 : Mem) => ixd 1 (aln 68) (nm (sI σ_7 68 (1 : Int32).toNatClampNeg r_6) (fun (σ_8 : Mem) => bd2 (f_X13_after σ_8 9 0 3) (fun (r_9 : Int32) (σ_10 : Mem) => ixd 2 (aln 68) (nm (sI σ_10 68 (2 : Int32).toNatClampNeg r_9) (fun (σ_11 : Mem) => bd2 (f_X13_after σ_11 10 0 6) (fun (r_12 : Int32) (σ_13 : Mem) => ixd 3 (aln 68) (nm (sI σ_13 68 (3 : Int32).toNatClampNeg r_12) (fun (σ_14 : Mem) => (if (σ_14.1 64 13) = 0 then ixd 0 (aln 68) (nm (sI σ_14 68 (0 : Int32).toNatClampNeg r_4) (fun (σ_15 : Mem) => some σ_15)) else some σ_14)))))))))))) else some σ_1)) (fun k_2 => (if (σ.1 68 (0 : Int32).toNatClampNeg) ≤ 0 then k_2 σ else bd1 (f_X13_wrong σ 3 (σ.1 64 4)) (fun (σ_16 : Mem) => k_2 σ_16))))
set_option maxHeartbeats 4000000 in
set_option maxRecDepth 100000 in
theorem c_X13_townLine (g : XG) (l : Launch) (σ : Mem) (τ : Mem) (hf : f_X13_townLine σ = some τ) : Met l yX13_townLine (wx (.code yX13_townLine cX13_townLine 2 none)) (kr 8 173) (va_Pc [.ref (bs g 64)] (WS g 0 81 σ)) (Qv' g 0 81 τ) 0 0 (Ag g 0) := by
  refine Met.ofW (cc := cX13_townLine) (maxL := 2) (ret := none) (by decide) rfl ?_
  intro p e s m args below meth c s₁ B hml hv
  obtain ⟨rfl, hZ, hT, hW⟩ := hv
  have hx := B.exec
  have hb := B.bytes
  have hr := B.returns
  have hts : ∀ w ∈ wx (.code yX13_townLine cX13_townLine 2 none), w.before _ s = true := atoms_spec B.pre
  have htg : ∀ w ∈ lwg, w.before _ s = true := fun w h => hts w (List.mem_cons_of_mem _ h)
  have hown : s.vm.findClass RX13 = some m.cls := findClass_of_methodNamed B.named
  have hlocks := B.notSynchronized
  change W p l e (kr 8 173) s m (List.toArray [.ref (bs g 64)]) below meth c s.heap [] 0 0 (MQ below (Qv' g 0 81 τ) (List.toArray [.ref (bs g 64)]) s 0 0 (Ag g 0)) _
  generalize hQ : MQ below (Qv' g 0 81 τ) (List.toArray [.ref (bs g 64)]) s 0 0 (Ag g 0) = Q
  have hS : va_S (Ag g 0) s.heap s.heap [] := va_S.rf
  have hl := lv_entry ([.ref (bs g 64)]) (n := 2) (Nat.le_of_ble_eq_true rfl)
  rw [lg_entry_eq]
  generalize (lg_sl ([.ref (bs g 64)]) ++ List.replicate (2 - (lg_sl ([.ref (bs g 64)])).length) Slot.unset).toArray = ls at hl ⊢
  have hl : lv_has ls 2 [(0, .ref (bs g 64))] := hl
  delta f_X13_townLine at hf
  obtain ⟨H, hH⟩ : ∃ H, H = s.heap := ⟨_, rfl⟩
  obtain ⟨locs, hLc⟩ : ∃ z : List Loc, z = [] := ⟨_, rfl⟩
  have hS : va_S (Ag g 0) s.heap H locs := by rw [hH, hLc]; exact hS
  have hW : Wd g 0 81 σ H := by rw [hH]; exact hW
  suffices hG : W p l e (kr 8 173) s m (List.toArray [.ref (bs g 64)]) below meth c H locs 0 0 Q (F0 m 0 ls []) by rw [hH, hLc] at hG; exact hG
  clear hH hLc
  refine lv_aload_n hx hb dX13_townLine_0 rfl (lv_at hl 0 rfl) ?_
  refine gf_13_16 hx hb htg (htg _ lf_X13_23) hown hZ hW tz_64 dX13_townLine_1 ?_
  refine lv_iconst (v := 0) hx hb dX13_townLine_4 (by decide) ?_
  refine mld_i hx hb hZ hW tz_68 hf dX13_townLine_5 (fun hf => ?_)
  refine jn1_W (fun (σ_1 : Mem) => ∀ (H : Heap) (locs : List Loc) (ls : Array Slot), Wd g 0 81 σ_1 H → va_S (Ag g 0) s.heap H locs → lv_has ls 2 [(0, .ref (bs g 64))] → W p l e (kr 8 173) s m (List.toArray [.ref (bs g 64)]) below meth c H locs 0 0 Q (F0 m 18 ls [])) hf (fun σ_1 hf => ?_) (fun k_2 hk_2 hf => ?_)
  · intro H locs ls hW hS hl
    refine lv_aload_n hx hb dX13_townLine_18 rfl (lv_at hl 0 rfl) ?_
    refine gf_13_13 hx hb htg (htg _ lf_X13_97) hown hZ hW tz_64 dX13_townLine_19 ?_
    refine lv_if_eq (tgt := 26) hx hb dX13_townLine_22 (by decide) (fun hc => ?_) (fun hc => ?_)
    · have hf := ift hc hf
      refine lv_aload_n hx hb dX13_townLine_26 rfl (lv_at hl 0 rfl) ?_
      refine mcv hf hS (fun τ h => va_runV (As := []) (rest := []) ⟨hx, hb, hml, hown, hts⟩ (c_X13_next g l σ_1 τ h) (cl_X13_118 hts ⟨Nat.le_of_ble_eq_true rfl, Nat.le_of_ble_eq_true rfl⟩) (mpV_13 hZ hT hS hW tz_64 _) rfl rfl hl.1 rfl (lv_room (Nat.le_of_ble_eq_true rfl)) dX13_townLine_27 ⟨Nat.zero_le _, Nat.zero_le _⟩) (fun σ_3 H locs hf hW hS => ?_)
      refine lv_aload_n hx hb dX13_townLine_30 rfl (lv_at hl 0 rfl) ?_
      refine va_ldcS (q := adS g 7) hx hb hown (lr_X13_213 hZ) dX13_townLine_31 ?_
      refine lv_iconst (v := 3) hx hb dX13_townLine_33 (by decide) ?_
      refine lv_bipush (v := 6) hx hb dX13_townLine_34 (by decide) ?_
      refine mci hf hS (fun r τ h => va_runV (As := [.ref (adS g 7), .int 3, .int 6]) (rest := []) ⟨hx, hb, hml, hown, hts⟩ (c_X13_after g l σ_3 7 3 6 (show 7 < 19 by decide) r τ h) (cl_X13_215 hts ⟨Nat.le_of_ble_eq_true rfl, Nat.le_of_ble_eq_true rfl⟩) (mpV_13 hZ hT hS hW tz_64 _) rfl rfl hl.1 rfl (lv_room (Nat.le_of_ble_eq_true rfl)) dX13_townLine_36 ⟨Nat.zero_le _, Nat.zero_le _⟩) (fun r_4 σ_5 H locs hf hW hS => ?_)
      refine lv_istore_n (lv' := [(1, .int r_4), (0, .ref (bs g 64))]) hx hb dX13_townLine_39 rfl hl (by decide) rfl (fun ls hl => ?_)
      refine lv_aload_n hx hb dX13_townLine_40 rfl (lv_at hl 1 rfl) ?_
      refine gf_13_16 hx hb htg (htg _ lf_X13_23) hown hZ hW tz_64 dX13_townLine_41 ?_
      refine lv_iconst (v := 1) hx hb dX13_townLine_44 (by decide) ?_
      refine lv_aload_n hx hb dX13_townLine_45 rfl (lv_at hl 1 rfl) ?_
      refine va_ldcS (q := adS g 8) hx hb hown (lr_X13_219 hZ) dX13_townLine_46 ?_
      refine lv_iconst (v := 0) hx hb dX13_townLine_48 (by decide) ?_
      refine lv_iconst (v := 2) hx hb dX13_townLine_49 (by decide) ?_
      refine mci hf hS (fun r τ h => va_runV (As := [.ref (adS g 8), .int 0, .int 2]) (rest := [.int 1, .ref (bs g 68)]) ⟨hx, hb, hml, hown, hts⟩ (c_X13_after g l σ_5 8 0 2 (show 8 < 19 by decide) r τ h) (cl_X13_215 hts ⟨Nat.le_of_ble_eq_true rfl, Nat.le_of_ble_eq_true rfl⟩) (mpV_13 hZ hT hS hW tz_64 _) rfl rfl hl.1 rfl (lv_room (Nat.le_of_ble_eq_true rfl)) dX13_townLine_50 ⟨Nat.zero_le _, Nat.zero_le _⟩) (fun r_6 σ_7 H locs hf hW hS => ?_)
      refine mst_i hx hb hZ hW hS tz_68 hf dX13_townLine_53 (fun σ_8 H locs hf hW hS => ?_)
      refine lv_aload_n hx hb dX13_townLine_54 rfl (lv_at hl 1 rfl) ?_
      refine gf_13_16 hx hb htg (htg _ lf_X13_23) hown hZ hW tz_64 dX13_townLine_55 ?_
      refine lv_iconst (v := 2) hx hb dX13_townLine_58 (by decide) ?_
      refine lv_aload_n hx hb dX13_townLine_59 rfl (lv_at hl 1 rfl) ?_
      refine va_ldcS (q := adS g 9) hx hb hown (lr_X13_221 hZ) dX13_townLine_60 ?_
      refine lv_iconst (v := 0) hx hb dX13_townLine_62 (by decide) ?_
      refine lv_iconst (v := 3) hx hb dX13_townLine_63 (by decide) ?_
      refine mci hf hS (fun r τ h => va_runV (As := [.ref (adS g 9), .int 0, .int 3]) (rest := [.int 2, .ref (bs g 68)]) ⟨hx, hb, hml, hown, hts⟩ (c_X13_after g l σ_8 9 0 3 (show 9 < 19 by decide) r τ h) (cl_X13_215 hts ⟨Nat.le_of_ble_eq_true rfl, Nat.le_of_ble_eq_true rfl⟩) (mpV_13 hZ hT hS hW tz_64 _) rfl rfl hl.1 rfl (lv_room (Nat.le_of_ble_eq_true rfl)) dX13_townLine_64 ⟨Nat.zero_le _, Nat.zero_le _⟩) (fun r_9 σ_10 H locs hf hW hS => ?_)
      refine mst_i hx hb hZ hW hS tz_68 hf dX13_townLine_67 (fun σ_11 H locs hf hW hS => ?_)
      refine lv_aload_n hx hb dX13_townLine_68 rfl (lv_at hl 1 rfl) ?_
      refine gf_13_16 hx hb htg (htg _ lf_X13_23) hown hZ hW tz_64 dX13_townLine_69 ?_
      refine lv_iconst (v := 3) hx hb dX13_townLine_72 (by decide) ?_
      refine lv_aload_n hx hb dX13_townLine_73 rfl (lv_at hl 1 rfl) ?_
      refine va_ldcS (q := adS g 10) hx hb hown (lr_X13_223 hZ) dX13_townLine_74 ?_
      refine lv_iconst (v := 0) hx hb dX13_townLine_76 (by decide) ?_
      refine lv_bipush (v := 6) hx hb dX13_townLine_77 (by decide) ?_
      refine mci hf hS (fun r τ h => va_runV (As := [.ref (adS g 10), .int 0, .int 6]) (rest := [.int 3, .ref (bs g 68)]) ⟨hx, hb, hml, hown, hts⟩ (c_X13_after g l σ_11 10 0 6 (show 10 < 19 by decide) r τ h) (cl_X13_215 hts ⟨Nat.le_of_ble_eq_true rfl, Nat.le_of_ble_eq_true rfl⟩) (mpV_13 hZ hT hS hW tz_64 _) rfl rfl hl.1 rfl (lv_room (Nat.le_of_ble_eq_true rfl)) dX13_townLine_79 ⟨Nat.zero_le _, Nat.zero_le _⟩) (fun r_12 σ_13 H locs hf hW hS => ?_)
      refine mst_i hx hb hZ hW hS tz_68 hf dX13_townLine_82 (fun σ_14 H locs hf hW hS => ?_)
      refine lv_aload_n hx hb dX13_townLine_83 rfl (lv_at hl 1 rfl) ?_
      refine gf_13_13 hx hb htg (htg _ lf_X13_97) hown hZ hW tz_64 dX13_townLine_84 ?_
      refine lv_if_ne (tgt := 97) hx hb dX13_townLine_87 (by decide) (fun hc => ?_) (fun hc => ?_)
      · have hf := iff_ hc hf
        subst hQ
        exact mrv hx hb hr hlocks hZ hT hS hW (Option.some.inj hf) dX13_townLine_97
      · have hf := ift hc hf
        refine lv_aload_n hx hb dX13_townLine_90 rfl (lv_at hl 1 rfl) ?_
        refine gf_13_16 hx hb htg (htg _ lf_X13_23) hown hZ hW tz_64 dX13_townLine_91 ?_
        refine lv_iconst (v := 0) hx hb dX13_townLine_94 (by decide) ?_
        refine lv_iload_n hx hb dX13_townLine_95 rfl (lv_at hl 0 rfl) ?_
        refine mst_i hx hb hZ hW hS tz_68 hf dX13_townLine_96 (fun σ_15 H locs hf hW hS => ?_)
        subst hQ
        exact mrv hx hb hr hlocks hZ hT hS hW (Option.some.inj hf) dX13_townLine_97
    · have hf := iff_ hc hf
      subst hQ
      exact mrv hx hb hr hlocks hZ hT hS hW (Option.some.inj hf) dX13_townLine_25
  · refine lv_if_le (tgt := 18) hx hb dX13_townLine_6 (by decide) (fun hc => ?_) (fun hc => ?_)
    · have hf := ift hc hf
      exact hk_2 σ hf H locs ls hW hS (lv_sub hl [0] rfl)
    · have hf := iff_ hc hf
      refine lv_aload_n hx hb dX13_townLine_9 rfl (lv_at hl 0 rfl) ?_
      refine lv_iconst (v := 3) hx hb dX13_townLine_10 (by decide) ?_
      refine lv_aload_n hx hb dX13_townLine_11 rfl (lv_at hl 0 rfl) ?_
      refine gf_13_4 hx hb htg (htg _ lf_X13_78) hown hZ hW tz_64 dX13_townLine_12 ?_
      refine mcv hf hS (fun τ h => va_runV (As := [.int 3, .int (σ.1 64 4)]) (rest := []) ⟨hx, hb, hml, hown, hts⟩ (c_X13_wrong g l σ 3 (σ.1 64 4) τ h) (cl_X13_124 hts ⟨Nat.le_of_ble_eq_true rfl, Nat.le_of_ble_eq_true rfl⟩) (mpV_13 hZ hT hS hW tz_64 _) rfl rfl hl.1 rfl (lv_room (Nat.le_of_ble_eq_true rfl)) dX13_townLine_15 ⟨Nat.zero_le _, Nat.zero_le _⟩) (fun σ_16 H locs hf hW hS => ?_)
      exact hk_2 σ_16 hf H locs ls hW hS (lv_sub hl [0] rfl)
def f_X13_begins (σ : Mem) (s1 : Nat) (a2 : Int32) : Option (Int32 × Mem) :=
  bd1 (f_X13_isWord σ s1) (fun (r_1 : Int32) => (if r_1 = 0 then some (0, σ) else jn1 (fun (σ_2 : Mem) => ixd 0 (aln 68) (jn1 (fun (σ_4 : Mem) => (if (σ_4.1 64 13) = 0 then bd1 (f_X13_next σ_4) (fun (σ_6 : Mem) => some (1, σ_6)) else some (1, σ_4))) (fun k_5 => (if (σ_2.1 68 (0 : Int32).toNatClampNeg) = 0 then bd1 (f_X13_wrong σ_2 6 (σ_2.1 64 4)) (fun (σ_7 : Mem) => k_5 σ_7) else k_5 σ_2)))) (fun k_3 => (if a2 = 0 then bd1 (f_X13_wrong σ 5 (σ.1 64 4)) (fun (σ_8 : Mem) => k_3 σ_8) else k_3 σ))))
set_option maxHeartbeats 4000000 in
set_option maxRecDepth 100000 in
theorem c_X13_begins (g : XG) (l : Launch) (σ : Mem) (s1 : Nat) (a2 : Int32) (hs1 : s1 < 19) (r : Int32) (τ : Mem) (hf : f_X13_begins σ s1 a2 = some (r, τ)) : Met l yX13_begins (wx (.code yX13_begins cX13_begins 3 (some .boolean))) (kr 5 108) (va_Pc [.ref (bs g 64), .ref (adS g s1), .int a2] (WS g 0 81 σ)) (Qi' g 0 81 r τ) 0 0 (Ag g 0) := by
  refine Met.ofW (cc := cX13_begins) (maxL := 3) (ret := (some .boolean)) (by decide) rfl ?_
  intro p e s m args below meth c s₁ B hml hv
  obtain ⟨rfl, hZ, hT, hW⟩ := hv
  have hx := B.exec
  have hb := B.bytes
  have hr := B.returns
  have hts : ∀ w ∈ wx (.code yX13_begins cX13_begins 3 (some .boolean)), w.before _ s = true := atoms_spec B.pre
  have htg : ∀ w ∈ lwg, w.before _ s = true := fun w h => hts w (List.mem_cons_of_mem _ h)
  have hown : s.vm.findClass RX13 = some m.cls := findClass_of_methodNamed B.named
  have hlocks := B.notSynchronized
  change W p l e (kr 5 108) s m (List.toArray [.ref (bs g 64), .ref (adS g s1), .int a2]) below meth c s.heap [] 0 0 (MQ below (Qi' g 0 81 r τ) (List.toArray [.ref (bs g 64), .ref (adS g s1), .int a2]) s 0 0 (Ag g 0)) _
  generalize hQ : MQ below (Qi' g 0 81 r τ) (List.toArray [.ref (bs g 64), .ref (adS g s1), .int a2]) s 0 0 (Ag g 0) = Q
  have hS : va_S (Ag g 0) s.heap s.heap [] := va_S.rf
  have hl := lv_entry ([.ref (bs g 64), .ref (adS g s1), .int a2]) (n := 3) (Nat.le_of_ble_eq_true rfl)
  rw [lg_entry_eq]
  generalize (lg_sl ([.ref (bs g 64), .ref (adS g s1), .int a2]) ++ List.replicate (3 - (lg_sl ([.ref (bs g 64), .ref (adS g s1), .int a2])).length) Slot.unset).toArray = ls at hl ⊢
  have hl : lv_has ls 3 [(0, .ref (bs g 64)), (1, .ref (adS g s1)), (2, .int a2)] := hl
  delta f_X13_begins at hf
  obtain ⟨H, hH⟩ : ∃ H, H = s.heap := ⟨_, rfl⟩
  obtain ⟨locs, hLc⟩ : ∃ z : List Loc, z = [] := ⟨_, rfl⟩
  have hS : va_S (Ag g 0) s.heap H locs := by rw [hH, hLc]; exact hS
  have hW : Wd g 0 81 σ H := by rw [hH]; exact hW
  suffices hG : W p l e (kr 5 108) s m (List.toArray [.ref (bs g 64), .ref (adS g s1), .int a2]) below meth c H locs 0 0 Q (F0 m 0 ls []) by rw [hH, hLc] at hG; exact hG
  clear hH hLc
  refine lv_aload_n hx hb dX13_begins_0 rfl (lv_at hl 0 rfl) ?_
  refine lv_aload_n hx hb dX13_begins_1 rfl (lv_at hl 1 rfl) ?_
  refine mcip hf hS (fun r h => va_runV (As := [.ref (adS g s1)]) (rest := []) ⟨hx, hb, hml, hown, hts⟩ (c_X13_isWord g l σ s1 hs1 r h) (cl_X13_114 hts ⟨Nat.le_of_ble_eq_true rfl, Nat.le_of_ble_eq_true rfl⟩) (mpV_13 hZ hT hS hW tz_64 _) rfl rfl hl.1 rfl (lv_room (Nat.le_of_ble_eq_true rfl)) dX13_begins_2 ⟨Nat.zero_le _, Nat.zero_le _⟩) (fun r_1 H locs hf hW hS => ?_)
  refine lv_if_ne (tgt := 10) hx hb dX13_begins_5 (by decide) (fun hc => ?_) (fun hc => ?_)
  · have hf := iff_ hc hf
    refine lv_iload_n hx hb dX13_begins_10 rfl (lv_at hl 2 rfl) ?_
    refine jn1_W (fun (σ_2 : Mem) => ∀ (H : Heap) (locs : List Loc) (ls : Array Slot), Wd g 0 81 σ_2 H → va_S (Ag g 0) s.heap H locs → lv_has ls 3 [(0, .ref (bs g 64))] → W p l e (kr 5 108) s m (List.toArray [.ref (bs g 64), .ref (adS g s1), .int a2]) below meth c H locs 0 0 Q (F0 m 23 ls [])) hf (fun σ_2 hf => ?_) (fun k_3 hk_3 hf => ?_)
    · intro H locs ls hW hS hl
      refine lv_aload_n hx hb dX13_begins_23 rfl (lv_at hl 0 rfl) ?_
      refine gf_13_16 hx hb htg (htg _ lf_X13_23) hown hZ hW tz_64 dX13_begins_24 ?_
      refine lv_iconst (v := 0) hx hb dX13_begins_27 (by decide) ?_
      refine mld_i hx hb hZ hW tz_68 hf dX13_begins_28 (fun hf => ?_)
      refine jn1_W (fun (σ_4 : Mem) => ∀ (H : Heap) (locs : List Loc) (ls : Array Slot), Wd g 0 81 σ_4 H → va_S (Ag g 0) s.heap H locs → lv_has ls 3 [(0, .ref (bs g 64))] → W p l e (kr 5 108) s m (List.toArray [.ref (bs g 64), .ref (adS g s1), .int a2]) below meth c H locs 0 0 Q (F0 m 42 ls [])) hf (fun σ_4 hf => ?_) (fun k_5 hk_5 hf => ?_)
      · intro H locs ls hW hS hl
        refine lv_aload_n hx hb dX13_begins_42 rfl (lv_at hl 0 rfl) ?_
        refine gf_13_13 hx hb htg (htg _ lf_X13_97) hown hZ hW tz_64 dX13_begins_43 ?_
        refine lv_if_ne (tgt := 53) hx hb dX13_begins_46 (by decide) (fun hc => ?_) (fun hc => ?_)
        · have hf := iff_ hc hf
          refine lv_iconst (v := 1) hx hb dX13_begins_53 (by decide) ?_
          subst hQ
          exact mrz hx hb hr hlocks hZ hT hS hW (by decide) (pr1 hf) dX13_begins_54
        · have hf := ift hc hf
          refine lv_aload_n hx hb dX13_begins_49 rfl (lv_at hl 0 rfl) ?_
          refine mcv hf hS (fun τ h => va_runV (As := []) (rest := []) ⟨hx, hb, hml, hown, hts⟩ (c_X13_next g l σ_4 τ h) (cl_X13_118 hts ⟨Nat.le_of_ble_eq_true rfl, Nat.le_of_ble_eq_true rfl⟩) (mpV_13 hZ hT hS hW tz_64 _) rfl rfl hl.1 rfl (lv_room (Nat.le_of_ble_eq_true rfl)) dX13_begins_50 ⟨Nat.zero_le _, Nat.zero_le _⟩) (fun σ_6 H locs hf hW hS => ?_)
          refine lv_iconst (v := 1) hx hb dX13_begins_53 (by decide) ?_
          subst hQ
          exact mrz hx hb hr hlocks hZ hT hS hW (by decide) (pr1 hf) dX13_begins_54
      · refine lv_if_ne (tgt := 42) hx hb dX13_begins_29 (by decide) (fun hc => ?_) (fun hc => ?_)
        · have hf := iff_ hc hf
          exact hk_5 σ_2 hf H locs ls hW hS (lv_sub hl [0] rfl)
        · have hf := ift hc hf
          refine lv_aload_n hx hb dX13_begins_32 rfl (lv_at hl 0 rfl) ?_
          refine lv_bipush (v := 6) hx hb dX13_begins_33 (by decide) ?_
          refine lv_aload_n hx hb dX13_begins_35 rfl (lv_at hl 0 rfl) ?_
          refine gf_13_4 hx hb htg (htg _ lf_X13_78) hown hZ hW tz_64 dX13_begins_36 ?_
          refine mcv hf hS (fun τ h => va_runV (As := [.int 6, .int (σ_2.1 64 4)]) (rest := []) ⟨hx, hb, hml, hown, hts⟩ (c_X13_wrong g l σ_2 6 (σ_2.1 64 4) τ h) (cl_X13_124 hts ⟨Nat.le_of_ble_eq_true rfl, Nat.le_of_ble_eq_true rfl⟩) (mpV_13 hZ hT hS hW tz_64 _) rfl rfl hl.1 rfl (lv_room (Nat.le_of_ble_eq_true rfl)) dX13_begins_39 ⟨Nat.zero_le _, Nat.zero_le _⟩) (fun σ_7 H locs hf hW hS => ?_)
          exact hk_5 σ_7 hf H locs ls hW hS (lv_sub hl [0] rfl)
    · refine lv_if_ne (tgt := 23) hx hb dX13_begins_11 (by decide) (fun hc => ?_) (fun hc => ?_)
      · have hf := iff_ hc hf
        exact hk_3 σ hf H locs ls hW hS (lv_sub hl [0] rfl)
      · have hf := ift hc hf
        refine lv_aload_n hx hb dX13_begins_14 rfl (lv_at hl 0 rfl) ?_
        refine lv_iconst (v := 5) hx hb dX13_begins_15 (by decide) ?_
        refine lv_aload_n hx hb dX13_begins_16 rfl (lv_at hl 0 rfl) ?_
        refine gf_13_4 hx hb htg (htg _ lf_X13_78) hown hZ hW tz_64 dX13_begins_17 ?_
        refine mcv hf hS (fun τ h => va_runV (As := [.int 5, .int (σ.1 64 4)]) (rest := []) ⟨hx, hb, hml, hown, hts⟩ (c_X13_wrong g l σ 5 (σ.1 64 4) τ h) (cl_X13_124 hts ⟨Nat.le_of_ble_eq_true rfl, Nat.le_of_ble_eq_true rfl⟩) (mpV_13 hZ hT hS hW tz_64 _) rfl rfl hl.1 rfl (lv_room (Nat.le_of_ble_eq_true rfl)) dX13_begins_20 ⟨Nat.zero_le _, Nat.zero_le _⟩) (fun σ_8 H locs hf hW hS => ?_)
        exact hk_3 σ_8 hf H locs ls hW hS (lv_sub hl [0] rfl)
  · have hf := ift hc hf
    refine lv_iconst (v := 0) hx hb dX13_begins_8 (by decide) ?_
    subst hQ
    exact mrz hx hb hr hlocks hZ hT hS hW (by decide) (pr1 hf) dX13_begins_9
def f_X13_personLine (σ : Mem)  : Option (Mem) :=
  (if (σ.1 64 13) = 0 then ixd 4 (aln 68) (nm (σ.1 68 (4 : Int32).toNatClampNeg) (fun (x_1 : Int32) => bd1 (f_X13_mustName σ) (fun (σ_2 : Mem) => jn1 (fun (σ_3 : Mem) => (if (σ_3.1 64 13) = 0 then nm (σ_3.1 64 8) (fun (x_5 : Int32) => fx2 FU (fun k_8 (i_6 : Int32) (σ_7 : Mem) => (if x_5 ≤ i_6 then bd1 (f_X13_next σ_7) (fun (σ_9 : Mem) => bd1 (f_X13_isWord σ_9 15) (fun (r_10 : Int32) => jn1 (fun (i_11 : Int32) => jn1 (fun (σ_13 : Mem) => (if (σ_13.1 64 13) = 0 then bd1 (f_X13_next σ_13) (fun (σ_15 : Mem) => jn1 (fun (σ_16 : Mem) => ixd 0 (aln 68) (jn1 (fun (i_18 : Int32) => fx3 FU (fun k_23 (i_20 : Int32) (i_21 : Int32) (i_22 : Int32) => jn0 (jn1 (fun (σ_25 : Mem) => (if (σ_25.1 64 13) = 0 then bd1 (f_X13_next σ_25) (fun (σ_27 : Mem) => ixd (130 + x_1) (aln 68) (nm (sI σ_27 68 (130 + x_1).toNatClampNeg x_5) (fun (σ_28 : Mem) => ixd (10 + (2 * x_1)) (aln 68) (nm (sI σ_28 68 (10 + (2 * x_1)).toNatClampNeg i_11) (fun (σ_29 : Mem) => ixd ((10 + (2 * x_1)) + 1) (aln 68) (nm (sI σ_29 68 ((10 + (2 * x_1)) + 1).toNatClampNeg i_21) (fun (σ_30 : Mem) => ixd 4 (aln 68) (ixd 4 (aln 68) (nm (sI σ_30 68 (4 : Int32).toNatClampNeg ((σ_30.1 68 (4 : Int32).toNatClampNeg) + 1)) (fun (σ_31 : Mem) => some σ_31)))))))))) else some σ_25)) (fun k_26 => (if (σ_16.1 64 13) = 0 then (if i_20 = 0 then bd1 (f_X13_wrong σ_16 7 (σ_16.1 64 4)) (fun (σ_32 : Mem) => k_26 σ_32) else k_26 σ_16) else k_26 σ_16))) (fun k_24 => (if (σ_16.1 64 8) ≤ i_22 then k_24 else (if i_20 = 0 then k_24 else ixd i_22 (aln 66) (bd1 (f_X13_in (σ_16.1 66 i_22.toNatClampNeg) 97 100) (fun (r_33 : Int32) => ixd i_22 (aln 66) (nm (i_21 ||| (((σ_16.1 66 i_22.toNatClampNeg) - 97) <<< ((2 * i_22) &&& 31))) (fun (x_34 : Int32) => nm (i_22 + 1) (fun (x_35 : Int32) => k_23 r_33 x_34 x_35))))))))) i_18 0 0) (fun k_19 => (if (σ_16.1 64 8) = (σ_16.1 68 (0 : Int32).toNatClampNeg) then k_19 1 else k_19 0)))) (fun k_17 => (if (σ_15.1 64 6) = 2 then k_17 σ_15 else bd1 (f_X13_wrong σ_15 1 (σ_15.1 64 4)) (fun (σ_37 : Mem) => k_17 σ_37)))) else some σ_13)) (fun k_14 => (if 0 ≤ i_11 then k_14 σ_9 else bd1 (f_X13_wrong σ_9 1 (σ_9.1 64 4)) (fun (σ_38 : Mem) => k_14 σ_38)))) (fun k_12 => (if r_10 = 0 then bd1 (f_X13_isWord σ_9 16) (fun (r_39 : Int32) => (if r_39 = 0 then bd1 (f_X13_isWord σ_9 17) (fun (r_40 : Int32) => (if r_40 = 0 then bd1 (f_X13_isWord σ_9 18) (fun (r_41 : Int32) => (if r_41 = 0 then k_12 (-1) else k_12 3)) else k_12 2)) else k_12 1)) else k_12 0)))) else ixd i_6 (aln 66) (ixd ((135 + (8 * x_1)) + i_6) (aln 68) (nm (sI σ_7 68 ((135 + (8 * x_1)) + i_6).toNatClampNeg (σ_7.1 66 i_6.toNatClampNeg)) (fun (σ_42 : Mem) => nm (i_6 + 1) (fun (x_43 : Int32) => k_8 x_43 σ_42)))))) 0 σ_3) else some σ_3)) (fun k_4 => (if (σ_2.1 64 13) = 0 then bd1 (f_X13_find σ_2) (fun (r_45 : Int32) => (if r_45 < 0 then k_4 σ_2 else bd1 (f_X13_wrong σ_2 3 (σ_2.1 64 4)) (fun (σ_46 : Mem) => k_4 σ_46))) else k_4 σ_2))))) else some σ)
set_option maxHeartbeats 4000000 in
set_option maxRecDepth 100000 in
theorem c_X13_personLine (g : XG) (l : Launch) (σ : Mem) (τ : Mem) (hf : f_X13_personLine σ = some τ) : Met l yX13_personLine (wx (.code yX13_personLine cX13_personLine 7 none)) (kr 6 128) (va_Pc [.ref (bs g 64)] (WS g 0 81 σ)) (Qv' g 0 81 τ) 0 0 (Ag g 0) := by
  refine Met.ofW (cc := cX13_personLine) (maxL := 7) (ret := none) (by decide) rfl ?_
  intro p e s m args below meth c s₁ B hml hv
  obtain ⟨rfl, hZ, hT, hW⟩ := hv
  have hx := B.exec
  have hb := B.bytes
  have hr := B.returns
  have hts : ∀ w ∈ wx (.code yX13_personLine cX13_personLine 7 none), w.before _ s = true := atoms_spec B.pre
  have htg : ∀ w ∈ lwg, w.before _ s = true := fun w h => hts w (List.mem_cons_of_mem _ h)
  have hown : s.vm.findClass RX13 = some m.cls := findClass_of_methodNamed B.named
  have hlocks := B.notSynchronized
  change W p l e (kr 6 128) s m (List.toArray [.ref (bs g 64)]) below meth c s.heap [] 0 0 (MQ below (Qv' g 0 81 τ) (List.toArray [.ref (bs g 64)]) s 0 0 (Ag g 0)) _
  generalize hQ : MQ below (Qv' g 0 81 τ) (List.toArray [.ref (bs g 64)]) s 0 0 (Ag g 0) = Q
  have hS : va_S (Ag g 0) s.heap s.heap [] := va_S.rf
  have hl := lv_entry ([.ref (bs g 64)]) (n := 7) (Nat.le_of_ble_eq_true rfl)
  rw [lg_entry_eq]
  generalize (lg_sl ([.ref (bs g 64)]) ++ List.replicate (7 - (lg_sl ([.ref (bs g 64)])).length) Slot.unset).toArray = ls at hl ⊢
  have hl : lv_has ls 7 [(0, .ref (bs g 64))] := hl
  delta f_X13_personLine at hf
  obtain ⟨H, hH⟩ : ∃ H, H = s.heap := ⟨_, rfl⟩
  obtain ⟨locs, hLc⟩ : ∃ z : List Loc, z = [] := ⟨_, rfl⟩
  have hS : va_S (Ag g 0) s.heap H locs := by rw [hH, hLc]; exact hS
  have hW : Wd g 0 81 σ H := by rw [hH]; exact hW
  suffices hG : W p l e (kr 6 128) s m (List.toArray [.ref (bs g 64)]) below meth c H locs 0 0 Q (F0 m 0 ls []) by rw [hH, hLc] at hG; exact hG
  clear hH hLc
  refine lv_aload_n hx hb dX13_personLine_0 rfl (lv_at hl 0 rfl) ?_
  refine gf_13_13 hx hb htg (htg _ lf_X13_97) hown hZ hW tz_64 dX13_personLine_1 ?_
  refine lv_if_eq (tgt := 8) hx hb dX13_personLine_4 (by decide) (fun hc => ?_) (fun hc => ?_)
  · have hf := ift hc hf
    refine lv_aload_n hx hb dX13_personLine_8 rfl (lv_at hl 0 rfl) ?_
    refine gf_13_16 hx hb htg (htg _ lf_X13_23) hown hZ hW tz_64 dX13_personLine_9 ?_
    refine lv_iconst (v := 4) hx hb dX13_personLine_12 (by decide) ?_
    refine mld_i hx hb hZ hW tz_68 hf dX13_personLine_13 (fun hf => ?_)
    refine mnmi hf (fun (x_1 : Int32) hf => ?_)
    refine lv_istore_n (lv' := [(1, .int x_1), (0, .ref (bs g 64))]) hx hb dX13_personLine_14 rfl hl (by decide) rfl (fun ls hl => ?_)
    refine lv_aload_n hx hb dX13_personLine_15 rfl (lv_at hl 1 rfl) ?_
    refine mcv hf hS (fun τ h => va_runV (As := []) (rest := []) ⟨hx, hb, hml, hown, hts⟩ (c_X13_mustName g l σ τ h) (cl_X13_142 hts ⟨Nat.le_of_ble_eq_true rfl, Nat.le_of_ble_eq_true rfl⟩) (mpV_13 hZ hT hS hW tz_64 _) rfl rfl hl.1 rfl (lv_room (Nat.le_of_ble_eq_true rfl)) dX13_personLine_16 ⟨Nat.zero_le _, Nat.zero_le _⟩) (fun σ_2 H locs hf hW hS => ?_)
    refine lv_aload_n hx hb dX13_personLine_19 rfl (lv_at hl 1 rfl) ?_
    refine gf_13_13 hx hb htg (htg _ lf_X13_97) hown hZ hW tz_64 dX13_personLine_20 ?_
    refine jn1_W (fun (σ_3 : Mem) => ∀ (H : Heap) (locs : List Loc) (ls : Array Slot), Wd g 0 81 σ_3 H → va_S (Ag g 0) s.heap H locs → lv_has ls 7 [(0, .ref (bs g 64)), (1, .int x_1)] → W p l e (kr 6 128) s m (List.toArray [.ref (bs g 64)]) below meth c H locs 0 0 Q (F0 m 42 ls [])) hf (fun σ_3 hf => ?_) (fun k_4 hk_4 hf => ?_)
    · intro H locs ls hW hS hl
      refine lv_aload_n hx hb dX13_personLine_42 rfl (lv_at hl 0 rfl) ?_
      refine gf_13_13 hx hb htg (htg _ lf_X13_97) hown hZ hW tz_64 dX13_personLine_43 ?_
      refine lv_if_eq (tgt := 50) hx hb dX13_personLine_46 (by decide) (fun hc => ?_) (fun hc => ?_)
      · have hf := ift hc hf
        refine lv_aload_n hx hb dX13_personLine_50 rfl (lv_at hl 0 rfl) ?_
        refine gf_13_8 hx hb htg (htg _ lf_X13_81) hown hZ hW tz_64 dX13_personLine_51 ?_
        refine mnmi hf (fun (x_5 : Int32) hf => ?_)
        refine lv_istore_n (lv' := [(2, .int x_5), (0, .ref (bs g 64)), (1, .int x_1)]) hx hb dX13_personLine_54 rfl hl (by decide) rfl (fun ls hl => ?_)
        refine lv_iconst (v := 0) hx hb dX13_personLine_55 (by decide) ?_
        refine lv_istore_n (lv' := [(3, .int 0), (2, .int x_5), (0, .ref (bs g 64)), (1, .int x_1)]) hx hb dX13_personLine_56 rfl hl (by decide) rfl (fun ls hl => ?_)
        refine fx2_W (fun (i_6 : Int32) (σ_7 : Mem) => ∀ (H : Heap) (locs : List Loc) (ls : Array Slot), Wd g 0 81 σ_7 H → va_S (Ag g 0) s.heap H locs → lv_has ls 7 [(0, .ref (bs g 64)), (1, .int x_1), (2, .int x_5), (3, .int i_6)] → W p l e (kr 6 128) s m (List.toArray [.ref (bs g 64)]) below meth c H locs 0 0 Q (F0 m 57 ls [])) (fun k_8 hk_8 i_6 σ_7 hf => ?_) FU 0 σ_3 hf H locs ls hW hS (lv_sub hl [2, 3, 1, 0] rfl)
        intro H locs ls hW hS hl
        refine lv_iload_n hx hb dX13_personLine_57 rfl (lv_at hl 3 rfl) ?_
        refine lv_iload_n hx hb dX13_personLine_58 rfl (lv_at hl 2 rfl) ?_
        refine lv_icmp_ge (tgt := 89) hx hb dX13_personLine_59 (by decide) (fun hc => ?_) (fun hc => ?_)
        · have hf := ift hc hf
          refine lv_aload_n hx hb dX13_personLine_89 rfl (lv_at hl 0 rfl) ?_
          refine mcv hf hS (fun τ h => va_runV (As := []) (rest := []) ⟨hx, hb, hml, hown, hts⟩ (c_X13_next g l σ_7 τ h) (cl_X13_118 hts ⟨Nat.le_of_ble_eq_true rfl, Nat.le_of_ble_eq_true rfl⟩) (mpV_13 hZ hT hS hW tz_64 _) rfl rfl hl.1 rfl (lv_room (Nat.le_of_ble_eq_true rfl)) dX13_personLine_90 ⟨Nat.zero_le _, Nat.zero_le _⟩) (fun σ_9 H locs hf hW hS => ?_)
          refine lv_aload_n hx hb dX13_personLine_93 rfl (lv_at hl 0 rfl) ?_
          refine va_ldcS (q := adS g 15) hx hb hown (lr_X13_225 hZ) dX13_personLine_94 ?_
          refine mcip hf hS (fun r h => va_runV (As := [.ref (adS g 15)]) (rest := []) ⟨hx, hb, hml, hown, hts⟩ (c_X13_isWord g l σ_9 15 (show 15 < 19 by decide) r h) (cl_X13_114 hts ⟨Nat.le_of_ble_eq_true rfl, Nat.le_of_ble_eq_true rfl⟩) (mpV_13 hZ hT hS hW tz_64 _) rfl rfl hl.1 rfl (lv_room (Nat.le_of_ble_eq_true rfl)) dX13_personLine_96 ⟨Nat.zero_le _, Nat.zero_le _⟩) (fun r_10 H locs hf hW hS => ?_)
          refine jn1_W (fun (i_11 : Int32) => ∀ (H : Heap) (locs : List Loc) (ls : Array Slot), Wd g 0 81 σ_9 H → va_S (Ag g 0) s.heap H locs → lv_has ls 7 [(0, .ref (bs g 64)), (1, .int x_1), (2, .int x_5)] → W p l e (kr 6 128) s m (List.toArray [.ref (bs g 64)]) below meth c H locs 0 0 Q (F0 m 146 ls [.int i_11])) hf (fun i_11 hf => ?_) (fun k_12 hk_12 hf => ?_)
          · intro H locs ls hW hS hl
            refine lv_istore_n (lv' := [(3, .int i_11), (0, .ref (bs g 64)), (1, .int x_1), (2, .int x_5)]) hx hb dX13_personLine_146 rfl hl (by decide) rfl (fun ls hl => ?_)
            refine lv_iload_n hx hb dX13_personLine_147 rfl (lv_at hl 0 rfl) ?_
            refine jn1_W (fun (σ_13 : Mem) => ∀ (H : Heap) (locs : List Loc) (ls : Array Slot), Wd g 0 81 σ_13 H → va_S (Ag g 0) s.heap H locs → lv_has ls 7 [(0, .ref (bs g 64)), (1, .int x_1), (2, .int x_5), (3, .int i_11)] → W p l e (kr 6 128) s m (List.toArray [.ref (bs g 64)]) below meth c H locs 0 0 Q (F0 m 160 ls [])) hf (fun σ_13 hf => ?_) (fun k_14 hk_14 hf => ?_)
            · intro H locs ls hW hS hl
              refine lv_aload_n hx hb dX13_personLine_160 rfl (lv_at hl 0 rfl) ?_
              refine gf_13_13 hx hb htg (htg _ lf_X13_97) hown hZ hW tz_64 dX13_personLine_161 ?_
              refine lv_if_eq (tgt := 168) hx hb dX13_personLine_164 (by decide) (fun hc => ?_) (fun hc => ?_)
              · have hf := ift hc hf
                refine lv_aload_n hx hb dX13_personLine_168 rfl (lv_at hl 0 rfl) ?_
                refine mcv hf hS (fun τ h => va_runV (As := []) (rest := []) ⟨hx, hb, hml, hown, hts⟩ (c_X13_next g l σ_13 τ h) (cl_X13_118 hts ⟨Nat.le_of_ble_eq_true rfl, Nat.le_of_ble_eq_true rfl⟩) (mpV_13 hZ hT hS hW tz_64 _) rfl rfl hl.1 rfl (lv_room (Nat.le_of_ble_eq_true rfl)) dX13_personLine_169 ⟨Nat.zero_le _, Nat.zero_le _⟩) (fun σ_15 H locs hf hW hS => ?_)
                refine lv_aload_n hx hb dX13_personLine_172 rfl (lv_at hl 0 rfl) ?_
                refine gf_13_6 hx hb htg (htg _ lf_X13_87) hown hZ hW tz_64 dX13_personLine_173 ?_
                refine lv_iconst (v := 2) hx hb dX13_personLine_176 (by decide) ?_
                refine jn1_W (fun (σ_16 : Mem) => ∀ (H : Heap) (locs : List Loc) (ls : Array Slot), Wd g 0 81 σ_16 H → va_S (Ag g 0) s.heap H locs → lv_has ls 7 [(0, .ref (bs g 64)), (1, .int x_1), (2, .int x_5), (3, .int i_11)] → W p l e (kr 6 128) s m (List.toArray [.ref (bs g 64)]) below meth c H locs 0 0 Q (F0 m 189 ls [])) hf (fun σ_16 hf => ?_) (fun k_17 hk_17 hf => ?_)
                · intro H locs ls hW hS hl
                  refine lv_aload_n hx hb dX13_personLine_189 rfl (lv_at hl 0 rfl) ?_
                  refine gf_13_8 hx hb htg (htg _ lf_X13_81) hown hZ hW tz_64 dX13_personLine_190 ?_
                  refine lv_aload_n hx hb dX13_personLine_193 rfl (lv_at hl 0 rfl) ?_
                  refine gf_13_16 hx hb htg (htg _ lf_X13_23) hown hZ hW tz_64 dX13_personLine_194 ?_
                  refine lv_iconst (v := 0) hx hb dX13_personLine_197 (by decide) ?_
                  refine mld_i hx hb hZ hW tz_68 hf dX13_personLine_198 (fun hf => ?_)
                  refine jn1_W (fun (i_18 : Int32) => ∀ (H : Heap) (locs : List Loc) (ls : Array Slot), Wd g 0 81 σ_16 H → va_S (Ag g 0) s.heap H locs → lv_has ls 7 [(0, .ref (bs g 64)), (1, .int x_1), (2, .int x_5), (3, .int i_11)] → W p l e (kr 6 128) s m (List.toArray [.ref (bs g 64)]) below meth c H locs 0 0 Q (F0 m 207 ls [.int i_18])) hf (fun i_18 hf => ?_) (fun k_19 hk_19 hf => ?_)
                  · intro H locs ls hW hS hl
                    refine lv_istore (lv' := [(4, .int i_18), (0, .ref (bs g 64)), (1, .int x_1), (2, .int x_5), (3, .int i_11)]) hx hb dX13_personLine_207 hl (by decide) rfl (fun ls hl => ?_)
                    refine lv_iconst (v := 0) hx hb dX13_personLine_209 (by decide) ?_
                    refine lv_istore (lv' := [(5, .int 0), (4, .int i_18), (0, .ref (bs g 64)), (1, .int x_1), (2, .int x_5), (3, .int i_11)]) hx hb dX13_personLine_210 hl (by decide) rfl (fun ls hl => ?_)
                    refine lv_iconst (v := 0) hx hb dX13_personLine_212 (by decide) ?_
                    refine lv_istore (lv' := [(6, .int 0), (5, .int 0), (4, .int i_18), (0, .ref (bs g 64)), (1, .int x_1), (2, .int x_5), (3, .int i_11)]) hx hb dX13_personLine_213 hl (by decide) rfl (fun ls hl => ?_)
                    refine fx3_W (fun (i_20 : Int32) (i_21 : Int32) (i_22 : Int32) => ∀ (H : Heap) (locs : List Loc) (ls : Array Slot), Wd g 0 81 σ_16 H → va_S (Ag g 0) s.heap H locs → lv_has ls 7 [(0, .ref (bs g 64)), (1, .int x_1), (2, .int x_5), (3, .int i_11), (4, .int i_20), (5, .int i_21), (6, .int i_22)] → W p l e (kr 6 128) s m (List.toArray [.ref (bs g 64)]) below meth c H locs 0 0 Q (F0 m 215 ls [])) (fun k_23 hk_23 i_20 i_21 i_22 hf => ?_) FU i_18 0 0 hf H locs ls hW hS (lv_sub hl [3, 4, 5, 6, 2, 1, 0] rfl)
                    intro H locs ls hW hS hl
                    refine lv_iload hx hb dX13_personLine_215 (lv_at hl 6 rfl) ?_
                    refine lv_aload_n hx hb dX13_personLine_217 rfl (lv_at hl 0 rfl) ?_
                    refine gf_13_8 hx hb htg (htg _ lf_X13_81) hown hZ hW tz_64 dX13_personLine_218 ?_
                    refine jn0_W (∀ (H : Heap) (locs : List Loc) (ls : Array Slot), Wd g 0 81 σ_16 H → va_S (Ag g 0) s.heap H locs → lv_has ls 7 [(0, .ref (bs g 64)), (1, .int x_1), (2, .int x_5), (3, .int i_11), (4, .int i_20), (5, .int i_21)] → W p l e (kr 6 128) s m (List.toArray [.ref (bs g 64)]) below meth c H locs 0 0 Q (F0 m 271 ls [])) hf (fun  hf => ?_) (fun k_24 hk_24 hf => ?_)
                    · intro H locs ls hW hS hl
                      refine lv_aload_n hx hb dX13_personLine_271 rfl (lv_at hl 0 rfl) ?_
                      refine gf_13_13 hx hb htg (htg _ lf_X13_97) hown hZ hW tz_64 dX13_personLine_272 ?_
                      refine jn1_W (fun (σ_25 : Mem) => ∀ (H : Heap) (locs : List Loc) (ls : Array Slot), Wd g 0 81 σ_25 H → va_S (Ag g 0) s.heap H locs → lv_has ls 7 [(0, .ref (bs g 64)), (1, .int x_1), (2, .int x_5), (3, .int i_11), (5, .int i_21)] → W p l e (kr 6 128) s m (List.toArray [.ref (bs g 64)]) below meth c H locs 0 0 Q (F0 m 293 ls [])) hf (fun σ_25 hf => ?_) (fun k_26 hk_26 hf => ?_)
                      · intro H locs ls hW hS hl
                        refine lv_aload_n hx hb dX13_personLine_293 rfl (lv_at hl 0 rfl) ?_
                        refine gf_13_13 hx hb htg (htg _ lf_X13_97) hown hZ hW tz_64 dX13_personLine_294 ?_
                        refine lv_if_eq (tgt := 301) hx hb dX13_personLine_297 (by decide) (fun hc => ?_) (fun hc => ?_)
                        · have hf := ift hc hf
                          refine lv_aload_n hx hb dX13_personLine_301 rfl (lv_at hl 0 rfl) ?_
                          refine mcv hf hS (fun τ h => va_runV (As := []) (rest := []) ⟨hx, hb, hml, hown, hts⟩ (c_X13_next g l σ_25 τ h) (cl_X13_118 hts ⟨Nat.le_of_ble_eq_true rfl, Nat.le_of_ble_eq_true rfl⟩) (mpV_13 hZ hT hS hW tz_64 _) rfl rfl hl.1 rfl (lv_room (Nat.le_of_ble_eq_true rfl)) dX13_personLine_302 ⟨Nat.zero_le _, Nat.zero_le _⟩) (fun σ_27 H locs hf hW hS => ?_)
                          refine lv_aload_n hx hb dX13_personLine_305 rfl (lv_at hl 0 rfl) ?_
                          refine gf_13_16 hx hb htg (htg _ lf_X13_23) hown hZ hW tz_64 dX13_personLine_306 ?_
                          refine lv_sipush (v := 130) hx hb dX13_personLine_309 (by decide) ?_
                          refine lv_iload_n hx hb dX13_personLine_312 rfl (lv_at hl 1 rfl) ?_
                          refine lv_iadd hx hb dX13_personLine_313 ?_
                          refine lv_iload_n hx hb dX13_personLine_314 rfl (lv_at hl 2 rfl) ?_
                          refine mst_i hx hb hZ hW hS tz_68 hf dX13_personLine_315 (fun σ_28 H locs hf hW hS => ?_)
                          refine lv_aload_n hx hb dX13_personLine_316 rfl (lv_at hl 0 rfl) ?_
                          refine gf_13_16 hx hb htg (htg _ lf_X13_23) hown hZ hW tz_64 dX13_personLine_317 ?_
                          refine lv_bipush (v := 10) hx hb dX13_personLine_320 (by decide) ?_
                          refine lv_iconst (v := 2) hx hb dX13_personLine_322 (by decide) ?_
                          refine lv_iload_n hx hb dX13_personLine_323 rfl (lv_at hl 1 rfl) ?_
                          refine lv_imul hx hb dX13_personLine_324 ?_
                          refine lv_iadd hx hb dX13_personLine_325 ?_
                          refine lv_iload_n hx hb dX13_personLine_326 rfl (lv_at hl 3 rfl) ?_
                          refine mst_i hx hb hZ hW hS tz_68 hf dX13_personLine_327 (fun σ_29 H locs hf hW hS => ?_)
                          refine lv_aload_n hx hb dX13_personLine_328 rfl (lv_at hl 0 rfl) ?_
                          refine gf_13_16 hx hb htg (htg _ lf_X13_23) hown hZ hW tz_64 dX13_personLine_329 ?_
                          refine lv_bipush (v := 10) hx hb dX13_personLine_332 (by decide) ?_
                          refine lv_iconst (v := 2) hx hb dX13_personLine_334 (by decide) ?_
                          refine lv_iload_n hx hb dX13_personLine_335 rfl (lv_at hl 1 rfl) ?_
                          refine lv_imul hx hb dX13_personLine_336 ?_
                          refine lv_iadd hx hb dX13_personLine_337 ?_
                          refine lv_iconst (v := 1) hx hb dX13_personLine_338 (by decide) ?_
                          refine lv_iadd hx hb dX13_personLine_339 ?_
                          refine lv_iload hx hb dX13_personLine_340 (lv_at hl 4 rfl) ?_
                          refine mst_i hx hb hZ hW hS tz_68 hf dX13_personLine_342 (fun σ_30 H locs hf hW hS => ?_)
                          refine lv_aload_n hx hb dX13_personLine_343 rfl (lv_at hl 0 rfl) ?_
                          refine gf_13_16 hx hb htg (htg _ lf_X13_23) hown hZ hW tz_64 dX13_personLine_344 ?_
                          refine lv_iconst (v := 4) hx hb dX13_personLine_347 (by decide) ?_
                          refine lv_dup2_11 hx hb dX13_personLine_348 rfl rfl ?_
                          refine mld_i hx hb hZ hW tz_68 hf dX13_personLine_349 (fun hf => ?_)
                          refine lv_iconst (v := 1) hx hb dX13_personLine_350 (by decide) ?_
                          refine lv_iadd hx hb dX13_personLine_351 ?_
                          refine mst_i hx hb hZ hW hS tz_68 hf dX13_personLine_352 (fun σ_31 H locs hf hW hS => ?_)
                          subst hQ
                          exact mrv hx hb hr hlocks hZ hT hS hW (Option.some.inj hf) dX13_personLine_353
                        · have hf := iff_ hc hf
                          subst hQ
                          exact mrv hx hb hr hlocks hZ hT hS hW (Option.some.inj hf) dX13_personLine_300
                      · refine lv_if_ne (tgt := 293) hx hb dX13_personLine_275 (by decide) (fun hc => ?_) (fun hc => ?_)
                        · have hf := iff_ hc hf
                          exact hk_26 σ_16 hf H locs ls hW hS (lv_sub hl [0, 1, 2, 3, 5] rfl)
                        · have hf := ift hc hf
                          refine lv_iload hx hb dX13_personLine_278 (lv_at hl 4 rfl) ?_
                          refine lv_if_ne (tgt := 293) hx hb dX13_personLine_280 (by decide) (fun hc => ?_) (fun hc => ?_)
                          · have hf := iff_ hc hf
                            exact hk_26 σ_16 hf H locs ls hW hS (lv_sub hl [0, 1, 2, 3, 5] rfl)
                          · have hf := ift hc hf
                            refine lv_aload_n hx hb dX13_personLine_283 rfl (lv_at hl 0 rfl) ?_
                            refine lv_bipush (v := 7) hx hb dX13_personLine_284 (by decide) ?_
                            refine lv_aload_n hx hb dX13_personLine_286 rfl (lv_at hl 0 rfl) ?_
                            refine gf_13_4 hx hb htg (htg _ lf_X13_78) hown hZ hW tz_64 dX13_personLine_287 ?_
                            refine mcv hf hS (fun τ h => va_runV (As := [.int 7, .int (σ_16.1 64 4)]) (rest := []) ⟨hx, hb, hml, hown, hts⟩ (c_X13_wrong g l σ_16 7 (σ_16.1 64 4) τ h) (cl_X13_124 hts ⟨Nat.le_of_ble_eq_true rfl, Nat.le_of_ble_eq_true rfl⟩) (mpV_13 hZ hT hS hW tz_64 _) rfl rfl hl.1 rfl (lv_room (Nat.le_of_ble_eq_true rfl)) dX13_personLine_290 ⟨Nat.zero_le _, Nat.zero_le _⟩) (fun σ_32 H locs hf hW hS => ?_)
                            exact hk_26 σ_32 hf H locs ls hW hS (lv_sub hl [0, 1, 2, 3, 5] rfl)
                    · refine lv_icmp_ge (tgt := 271) hx hb dX13_personLine_221 (by decide) (fun hc => ?_) (fun hc => ?_)
                      · have hf := ift hc hf
                        exact hk_24  hf H locs ls hW hS (lv_sub hl [0, 1, 2, 3, 4, 5] rfl)
                      · have hf := iff_ hc hf
                        refine lv_iload hx hb dX13_personLine_224 (lv_at hl 4 rfl) ?_
                        refine lv_if_eq (tgt := 271) hx hb dX13_personLine_226 (by decide) (fun hc => ?_) (fun hc => ?_)
                        · have hf := ift hc hf
                          exact hk_24  hf H locs ls hW hS (lv_sub hl [0, 1, 2, 3, 4, 5] rfl)
                        · have hf := iff_ hc hf
                          refine lv_aload_n hx hb dX13_personLine_229 rfl (lv_at hl 0 rfl) ?_
                          refine gf_13_12 hx hb htg (htg _ lf_X13_17) hown hZ hW tz_64 dX13_personLine_230 ?_
                          refine lv_iload hx hb dX13_personLine_233 (lv_at hl 6 rfl) ?_
                          refine mld_i hx hb hZ hW tz_66 hf dX13_personLine_235 (fun hf => ?_)
                          refine lv_bipush (v := 97) hx hb dX13_personLine_236 (by decide) ?_
                          refine lv_bipush (v := 100) hx hb dX13_personLine_238 (by decide) ?_
                          refine mcip hf hS (fun r h => va_runS (As := [.int (σ_16.1 66 i_22.toNatClampNeg), .int 97, .int 100]) (rest := []) ⟨hx, hb, hml, hown, hts⟩ (c_X13_in g l 0 81 σ_16 (σ_16.1 66 i_22.toNatClampNeg) 97 100 r h) (cl_X13_151 hts ⟨Nat.le_of_ble_eq_true rfl, Nat.le_of_ble_eq_true rfl⟩) (mpS hZ hT hS hW _) rfl rfl hl.1 rfl (lv_room (Nat.le_of_ble_eq_true rfl)) dX13_personLine_240 ⟨Nat.zero_le _, Nat.zero_le _⟩) (fun r_33 H locs hf hW hS => ?_)
                          refine lv_istore (lv' := [(4, .int r_33), (0, .ref (bs g 64)), (1, .int x_1), (2, .int x_5), (3, .int i_11), (5, .int i_21), (6, .int i_22)]) hx hb dX13_personLine_243 hl (by decide) rfl (fun ls hl => ?_)
                          refine lv_iload hx hb dX13_personLine_245 (lv_at hl 5 rfl) ?_
                          refine lv_aload_n hx hb dX13_personLine_247 rfl (lv_at hl 1 rfl) ?_
                          refine gf_13_12 hx hb htg (htg _ lf_X13_17) hown hZ hW tz_64 dX13_personLine_248 ?_
                          refine lv_iload hx hb dX13_personLine_251 (lv_at hl 6 rfl) ?_
                          refine mld_i hx hb hZ hW tz_66 hf dX13_personLine_253 (fun hf => ?_)
                          refine lv_bipush (v := 97) hx hb dX13_personLine_254 (by decide) ?_
                          refine lv_isub hx hb dX13_personLine_256 ?_
                          refine lv_iconst (v := 2) hx hb dX13_personLine_257 (by decide) ?_
                          refine lv_iload hx hb dX13_personLine_258 (lv_at hl 6 rfl) ?_
                          refine lv_imul hx hb dX13_personLine_260 ?_
                          refine lv_ishl hx hb dX13_personLine_261 ?_
                          refine lv_ior hx hb dX13_personLine_262 ?_
                          refine mnmi hf (fun (x_34 : Int32) hf => ?_)
                          refine lv_istore (lv' := [(5, .int x_34), (4, .int r_33), (0, .ref (bs g 64)), (1, .int x_1), (2, .int x_5), (3, .int i_11), (6, .int i_22)]) hx hb dX13_personLine_263 hl (by decide) rfl (fun ls hl => ?_)
                          obtain ⟨x_35, e_36, hf⟩ := nm_s hf
                          refine lv_iinc (v := x_35) (lv' := [(6, .int x_35), (5, .int x_34), (4, .int r_33), (0, .ref (bs g 64)), (1, .int x_1), (2, .int x_5), (3, .int i_11)]) hx hb dX13_personLine_265 hl (k := 6) rfl (by rw [e_36]; rfl) (by decide) rfl (fun ls hl => ?_)
                          refine lv_goto (tgt := 215) hx hb dX13_personLine_268 (by decide) ?_
                          exact hk_23 r_33 x_34 x_35 hf H locs ls hW hS (lv_sub hl [3, 4, 5, 6, 2, 1, 0] rfl)
                  · refine lv_icmp_ne (tgt := 206) hx hb dX13_personLine_199 (by decide) (fun hc => ?_) (fun hc => ?_)
                    · have hf := iff_ hc hf
                      refine lv_iconst (v := 0) hx hb dX13_personLine_206 (by decide) ?_
                      exact hk_19 0 hf H locs ls hW hS (lv_sub hl [0, 1, 2, 3] rfl)
                    · have hf := ift hc hf
                      refine lv_iconst (v := 1) hx hb dX13_personLine_202 (by decide) ?_
                      refine lv_goto (tgt := 207) hx hb dX13_personLine_203 (by decide) ?_
                      exact hk_19 1 hf H locs ls hW hS (lv_sub hl [0, 1, 2, 3] rfl)
                · refine lv_icmp_eq (tgt := 189) hx hb dX13_personLine_177 (by decide) (fun hc => ?_) (fun hc => ?_)
                  · have hf := ift hc hf
                    exact hk_17 σ_15 hf H locs ls hW hS (lv_sub hl [0, 1, 2, 3] rfl)
                  · have hf := iff_ hc hf
                    refine lv_aload_n hx hb dX13_personLine_180 rfl (lv_at hl 0 rfl) ?_
                    refine lv_iconst (v := 1) hx hb dX13_personLine_181 (by decide) ?_
                    refine lv_aload_n hx hb dX13_personLine_182 rfl (lv_at hl 0 rfl) ?_
                    refine gf_13_4 hx hb htg (htg _ lf_X13_78) hown hZ hW tz_64 dX13_personLine_183 ?_
                    refine mcv hf hS (fun τ h => va_runV (As := [.int 1, .int (σ_15.1 64 4)]) (rest := []) ⟨hx, hb, hml, hown, hts⟩ (c_X13_wrong g l σ_15 1 (σ_15.1 64 4) τ h) (cl_X13_124 hts ⟨Nat.le_of_ble_eq_true rfl, Nat.le_of_ble_eq_true rfl⟩) (mpV_13 hZ hT hS hW tz_64 _) rfl rfl hl.1 rfl (lv_room (Nat.le_of_ble_eq_true rfl)) dX13_personLine_186 ⟨Nat.zero_le _, Nat.zero_le _⟩) (fun σ_37 H locs hf hW hS => ?_)
                    exact hk_17 σ_37 hf H locs ls hW hS (lv_sub hl [0, 1, 2, 3] rfl)
              · have hf := iff_ hc hf
                subst hQ
                exact mrv hx hb hr hlocks hZ hT hS hW (Option.some.inj hf) dX13_personLine_167
            · refine lv_if_ge (tgt := 160) hx hb dX13_personLine_148 (by decide) (fun hc => ?_) (fun hc => ?_)
              · have hf := ift hc hf
                exact hk_14 σ_9 hf H locs ls hW hS (lv_sub hl [1, 2, 3, 0] rfl)
              · have hf := iff_ hc hf
                refine lv_aload_n hx hb dX13_personLine_151 rfl (lv_at hl 1 rfl) ?_
                refine lv_iconst (v := 1) hx hb dX13_personLine_152 (by decide) ?_
                refine lv_aload_n hx hb dX13_personLine_153 rfl (lv_at hl 1 rfl) ?_
                refine gf_13_4 hx hb htg (htg _ lf_X13_78) hown hZ hW tz_64 dX13_personLine_154 ?_
                refine mcv hf hS (fun τ h => va_runV (As := [.int 1, .int (σ_9.1 64 4)]) (rest := []) ⟨hx, hb, hml, hown, hts⟩ (c_X13_wrong g l σ_9 1 (σ_9.1 64 4) τ h) (cl_X13_124 hts ⟨Nat.le_of_ble_eq_true rfl, Nat.le_of_ble_eq_true rfl⟩) (mpV_13 hZ hT hS hW tz_64 _) rfl rfl hl.1 rfl (lv_room (Nat.le_of_ble_eq_true rfl)) dX13_personLine_157 ⟨Nat.zero_le _, Nat.zero_le _⟩) (fun σ_38 H locs hf hW hS => ?_)
                exact hk_14 σ_38 hf H locs ls hW hS (lv_sub hl [1, 2, 3, 0] rfl)
          · refine lv_if_eq (tgt := 106) hx hb dX13_personLine_99 (by decide) (fun hc => ?_) (fun hc => ?_)
            · have hf := ift hc hf
              refine lv_aload_n hx hb dX13_personLine_106 rfl (lv_at hl 0 rfl) ?_
              refine va_ldcS (q := adS g 16) hx hb hown (lr_X13_227 hZ) dX13_personLine_107 ?_
              refine mcip hf hS (fun r h => va_runV (As := [.ref (adS g 16)]) (rest := []) ⟨hx, hb, hml, hown, hts⟩ (c_X13_isWord g l σ_9 16 (show 16 < 19 by decide) r h) (cl_X13_114 hts ⟨Nat.le_of_ble_eq_true rfl, Nat.le_of_ble_eq_true rfl⟩) (mpV_13 hZ hT hS hW tz_64 _) rfl rfl hl.1 rfl (lv_room (Nat.le_of_ble_eq_true rfl)) dX13_personLine_109 ⟨Nat.zero_le _, Nat.zero_le _⟩) (fun r_39 H locs hf hW hS => ?_)
              refine lv_if_eq (tgt := 119) hx hb dX13_personLine_112 (by decide) (fun hc => ?_) (fun hc => ?_)
              · have hf := ift hc hf
                refine lv_aload_n hx hb dX13_personLine_119 rfl (lv_at hl 0 rfl) ?_
                refine va_ldcS (q := adS g 17) hx hb hown (lr_X13_229 hZ) dX13_personLine_120 ?_
                refine mcip hf hS (fun r h => va_runV (As := [.ref (adS g 17)]) (rest := []) ⟨hx, hb, hml, hown, hts⟩ (c_X13_isWord g l σ_9 17 (show 17 < 19 by decide) r h) (cl_X13_114 hts ⟨Nat.le_of_ble_eq_true rfl, Nat.le_of_ble_eq_true rfl⟩) (mpV_13 hZ hT hS hW tz_64 _) rfl rfl hl.1 rfl (lv_room (Nat.le_of_ble_eq_true rfl)) dX13_personLine_122 ⟨Nat.zero_le _, Nat.zero_le _⟩) (fun r_40 H locs hf hW hS => ?_)
                refine lv_if_eq (tgt := 132) hx hb dX13_personLine_125 (by decide) (fun hc => ?_) (fun hc => ?_)
                · have hf := ift hc hf
                  refine lv_aload_n hx hb dX13_personLine_132 rfl (lv_at hl 0 rfl) ?_
                  refine va_ldcS (q := adS g 18) hx hb hown (lr_X13_231 hZ) dX13_personLine_133 ?_
                  refine mcip hf hS (fun r h => va_runV (As := [.ref (adS g 18)]) (rest := []) ⟨hx, hb, hml, hown, hts⟩ (c_X13_isWord g l σ_9 18 (show 18 < 19 by decide) r h) (cl_X13_114 hts ⟨Nat.le_of_ble_eq_true rfl, Nat.le_of_ble_eq_true rfl⟩) (mpV_13 hZ hT hS hW tz_64 _) rfl rfl hl.1 rfl (lv_room (Nat.le_of_ble_eq_true rfl)) dX13_personLine_135 ⟨Nat.zero_le _, Nat.zero_le _⟩) (fun r_41 H locs hf hW hS => ?_)
                  refine lv_if_eq (tgt := 145) hx hb dX13_personLine_138 (by decide) (fun hc => ?_) (fun hc => ?_)
                  · have hf := ift hc hf
                    refine lv_iconst (v := (-1)) hx hb dX13_personLine_145 (by decide) ?_
                    exact hk_12 (-1) hf H locs ls hW hS (lv_sub hl [0, 1, 2] rfl)
                  · have hf := iff_ hc hf
                    refine lv_iconst (v := 3) hx hb dX13_personLine_141 (by decide) ?_
                    refine lv_goto (tgt := 146) hx hb dX13_personLine_142 (by decide) ?_
                    exact hk_12 3 hf H locs ls hW hS (lv_sub hl [0, 1, 2] rfl)
                · have hf := iff_ hc hf
                  refine lv_iconst (v := 2) hx hb dX13_personLine_128 (by decide) ?_
                  refine lv_goto (tgt := 146) hx hb dX13_personLine_129 (by decide) ?_
                  exact hk_12 2 hf H locs ls hW hS (lv_sub hl [0, 1, 2] rfl)
              · have hf := iff_ hc hf
                refine lv_iconst (v := 1) hx hb dX13_personLine_115 (by decide) ?_
                refine lv_goto (tgt := 146) hx hb dX13_personLine_116 (by decide) ?_
                exact hk_12 1 hf H locs ls hW hS (lv_sub hl [0, 1, 2] rfl)
            · have hf := iff_ hc hf
              refine lv_iconst (v := 0) hx hb dX13_personLine_102 (by decide) ?_
              refine lv_goto (tgt := 146) hx hb dX13_personLine_103 (by decide) ?_
              exact hk_12 0 hf H locs ls hW hS (lv_sub hl [0, 1, 2] rfl)
        · have hf := iff_ hc hf
          refine lv_aload_n hx hb dX13_personLine_62 rfl (lv_at hl 0 rfl) ?_
          refine gf_13_16 hx hb htg (htg _ lf_X13_23) hown hZ hW tz_64 dX13_personLine_63 ?_
          refine lv_sipush (v := 135) hx hb dX13_personLine_66 (by decide) ?_
          refine lv_bipush (v := 8) hx hb dX13_personLine_69 (by decide) ?_
          refine lv_iload_n hx hb dX13_personLine_71 rfl (lv_at hl 1 rfl) ?_
          refine lv_imul hx hb dX13_personLine_72 ?_
          refine lv_iadd hx hb dX13_personLine_73 ?_
          refine lv_iload_n hx hb dX13_personLine_74 rfl (lv_at hl 3 rfl) ?_
          refine lv_iadd hx hb dX13_personLine_75 ?_
          refine lv_aload_n hx hb dX13_personLine_76 rfl (lv_at hl 0 rfl) ?_
          refine gf_13_12 hx hb htg (htg _ lf_X13_17) hown hZ hW tz_64 dX13_personLine_77 ?_
          refine lv_iload_n hx hb dX13_personLine_80 rfl (lv_at hl 3 rfl) ?_
          refine mld_i hx hb hZ hW tz_66 hf dX13_personLine_81 (fun hf => ?_)
          refine mst_i hx hb hZ hW hS tz_68 hf dX13_personLine_82 (fun σ_42 H locs hf hW hS => ?_)
          obtain ⟨x_43, e_44, hf⟩ := nm_s hf
          refine lv_iinc (v := x_43) (lv' := [(3, .int x_43), (0, .ref (bs g 64)), (1, .int x_1), (2, .int x_5)]) hx hb dX13_personLine_83 hl (k := 3) rfl (by rw [e_44]; rfl) (by decide) rfl (fun ls hl => ?_)
          refine lv_goto (tgt := 57) hx hb dX13_personLine_86 (by decide) ?_
          exact hk_8 x_43 σ_42 hf H locs ls hW hS (lv_sub hl [1, 2, 3, 0] rfl)
      · have hf := iff_ hc hf
        subst hQ
        exact mrv hx hb hr hlocks hZ hT hS hW (Option.some.inj hf) dX13_personLine_49
    · refine lv_if_ne (tgt := 42) hx hb dX13_personLine_23 (by decide) (fun hc => ?_) (fun hc => ?_)
      · have hf := iff_ hc hf
        exact hk_4 σ_2 hf H locs ls hW hS (lv_sub hl [1, 0] rfl)
      · have hf := ift hc hf
        refine lv_aload_n hx hb dX13_personLine_26 rfl (lv_at hl 1 rfl) ?_
        refine mcip hf hS (fun r h => va_runV (As := []) (rest := []) ⟨hx, hb, hml, hown, hts⟩ (c_X13_find g l σ_2 r h) (cl_X13_145 hts ⟨Nat.le_of_ble_eq_true rfl, Nat.le_of_ble_eq_true rfl⟩) (mpV_13 hZ hT hS hW tz_64 _) rfl rfl hl.1 rfl (lv_room (Nat.le_of_ble_eq_true rfl)) dX13_personLine_27 ⟨Nat.zero_le _, Nat.zero_le _⟩) (fun r_45 H locs hf hW hS => ?_)
        refine lv_if_lt (tgt := 42) hx hb dX13_personLine_30 (by decide) (fun hc => ?_) (fun hc => ?_)
        · have hf := ift hc hf
          exact hk_4 σ_2 hf H locs ls hW hS (lv_sub hl [1, 0] rfl)
        · have hf := iff_ hc hf
          refine lv_aload_n hx hb dX13_personLine_33 rfl (lv_at hl 1 rfl) ?_
          refine lv_iconst (v := 3) hx hb dX13_personLine_34 (by decide) ?_
          refine lv_aload_n hx hb dX13_personLine_35 rfl (lv_at hl 1 rfl) ?_
          refine gf_13_4 hx hb htg (htg _ lf_X13_78) hown hZ hW tz_64 dX13_personLine_36 ?_
          refine mcv hf hS (fun τ h => va_runV (As := [.int 3, .int (σ_2.1 64 4)]) (rest := []) ⟨hx, hb, hml, hown, hts⟩ (c_X13_wrong g l σ_2 3 (σ_2.1 64 4) τ h) (cl_X13_124 hts ⟨Nat.le_of_ble_eq_true rfl, Nat.le_of_ble_eq_true rfl⟩) (mpV_13 hZ hT hS hW tz_64 _) rfl rfl hl.1 rfl (lv_room (Nat.le_of_ble_eq_true rfl)) dX13_personLine_39 ⟨Nat.zero_le _, Nat.zero_le _⟩) (fun σ_46 H locs hf hW hS => ?_)
          exact hk_4 σ_46 hf H locs ls hW hS (lv_sub hl [1, 0] rfl)
  · have hf := iff_ hc hf
    subst hQ
    exact mrv hx hb hr hlocks hZ hT hS hW (Option.some.inj hf) dX13_personLine_7
def f_X13_changeLine (σ : Mem)  : Option (Mem) :=
  (if (σ.1 64 13) = 0 then ixd 5 (aln 68) (nm (20 + (4 * (σ.1 68 (5 : Int32).toNatClampNeg))) (fun (x_1 : Int32) => bd2 (f_X13_personPassed σ) (fun (r_2 : Int32) (σ_3 : Mem) => ixd x_1 (aln 68) (nm (sI σ_3 68 x_1.toNatClampNeg r_2) (fun (σ_4 : Mem) => bd2 (f_X13_after σ_4 11 0 29) (fun (r_5 : Int32) (σ_6 : Mem) => ixd (x_1 + 1) (aln 68) (nm (sI σ_6 68 (x_1 + 1).toNatClampNeg r_5) (fun (σ_7 : Mem) => ixd 0 (aln 68) (bd2 (f_X13_after σ_7 12 0 ((σ_7.1 68 (0 : Int32).toNatClampNeg) - 1)) (fun (r_8 : Int32) (σ_9 : Mem) => ixd (x_1 + 2) (aln 68) (nm (sI σ_9 68 (x_1 + 2).toNatClampNeg r_8) (fun (σ_10 : Mem) => bd2 (f_X13_after σ_10 13 1 3) (fun (r_11 : Int32) (σ_12 : Mem) => ixd (x_1 + 3) (aln 68) (nm (sI σ_12 68 (x_1 + 3).toNatClampNeg r_11) (fun (σ_13 : Mem) => (if (σ_13.1 64 13) = 0 then ixd 5 (aln 68) (ixd 5 (aln 68) (nm (sI σ_13 68 (5 : Int32).toNatClampNeg ((σ_13.1 68 (5 : Int32).toNatClampNeg) + 1)) (fun (σ_14 : Mem) => some σ_14))) else some σ_13)))))))))))))))) else some σ)
set_option maxHeartbeats 4000000 in
set_option maxRecDepth 100000 in
theorem c_X13_changeLine (g : XG) (l : Launch) (σ : Mem) (τ : Mem) (hf : f_X13_changeLine σ = some τ) : Met l yX13_changeLine (wx (.code yX13_changeLine cX13_changeLine 2 none)) (kr 8 173) (va_Pc [.ref (bs g 64)] (WS g 0 81 σ)) (Qv' g 0 81 τ) 0 0 (Ag g 0) := by
  refine Met.ofW (cc := cX13_changeLine) (maxL := 2) (ret := none) (by decide) rfl ?_
  intro p e s m args below meth c s₁ B hml hv
  obtain ⟨rfl, hZ, hT, hW⟩ := hv
  have hx := B.exec
  have hb := B.bytes
  have hr := B.returns
  have hts : ∀ w ∈ wx (.code yX13_changeLine cX13_changeLine 2 none), w.before _ s = true := atoms_spec B.pre
  have htg : ∀ w ∈ lwg, w.before _ s = true := fun w h => hts w (List.mem_cons_of_mem _ h)
  have hown : s.vm.findClass RX13 = some m.cls := findClass_of_methodNamed B.named
  have hlocks := B.notSynchronized
  change W p l e (kr 8 173) s m (List.toArray [.ref (bs g 64)]) below meth c s.heap [] 0 0 (MQ below (Qv' g 0 81 τ) (List.toArray [.ref (bs g 64)]) s 0 0 (Ag g 0)) _
  generalize hQ : MQ below (Qv' g 0 81 τ) (List.toArray [.ref (bs g 64)]) s 0 0 (Ag g 0) = Q
  have hS : va_S (Ag g 0) s.heap s.heap [] := va_S.rf
  have hl := lv_entry ([.ref (bs g 64)]) (n := 2) (Nat.le_of_ble_eq_true rfl)
  rw [lg_entry_eq]
  generalize (lg_sl ([.ref (bs g 64)]) ++ List.replicate (2 - (lg_sl ([.ref (bs g 64)])).length) Slot.unset).toArray = ls at hl ⊢
  have hl : lv_has ls 2 [(0, .ref (bs g 64))] := hl
  delta f_X13_changeLine at hf
  obtain ⟨H, hH⟩ : ∃ H, H = s.heap := ⟨_, rfl⟩
  obtain ⟨locs, hLc⟩ : ∃ z : List Loc, z = [] := ⟨_, rfl⟩
  have hS : va_S (Ag g 0) s.heap H locs := by rw [hH, hLc]; exact hS
  have hW : Wd g 0 81 σ H := by rw [hH]; exact hW
  suffices hG : W p l e (kr 8 173) s m (List.toArray [.ref (bs g 64)]) below meth c H locs 0 0 Q (F0 m 0 ls []) by rw [hH, hLc] at hG; exact hG
  clear hH hLc
  refine lv_aload_n hx hb dX13_changeLine_0 rfl (lv_at hl 0 rfl) ?_
  refine gf_13_13 hx hb htg (htg _ lf_X13_97) hown hZ hW tz_64 dX13_changeLine_1 ?_
  refine lv_if_eq (tgt := 8) hx hb dX13_changeLine_4 (by decide) (fun hc => ?_) (fun hc => ?_)
  · have hf := ift hc hf
    refine lv_bipush (v := 20) hx hb dX13_changeLine_8 (by decide) ?_
    refine lv_iconst (v := 4) hx hb dX13_changeLine_10 (by decide) ?_
    refine lv_aload_n hx hb dX13_changeLine_11 rfl (lv_at hl 0 rfl) ?_
    refine gf_13_16 hx hb htg (htg _ lf_X13_23) hown hZ hW tz_64 dX13_changeLine_12 ?_
    refine lv_iconst (v := 5) hx hb dX13_changeLine_15 (by decide) ?_
    refine mld_i hx hb hZ hW tz_68 hf dX13_changeLine_16 (fun hf => ?_)
    refine lv_imul hx hb dX13_changeLine_17 ?_
    refine lv_iadd hx hb dX13_changeLine_18 ?_
    refine mnmi hf (fun (x_1 : Int32) hf => ?_)
    refine lv_istore_n (lv' := [(1, .int x_1), (0, .ref (bs g 64))]) hx hb dX13_changeLine_19 rfl hl (by decide) rfl (fun ls hl => ?_)
    refine lv_aload_n hx hb dX13_changeLine_20 rfl (lv_at hl 1 rfl) ?_
    refine gf_13_16 hx hb htg (htg _ lf_X13_23) hown hZ hW tz_64 dX13_changeLine_21 ?_
    refine lv_iload_n hx hb dX13_changeLine_24 rfl (lv_at hl 0 rfl) ?_
    refine lv_aload_n hx hb dX13_changeLine_25 rfl (lv_at hl 1 rfl) ?_
    refine mci hf hS (fun r τ h => va_runV (As := []) (rest := [.int x_1, .ref (bs g 68)]) ⟨hx, hb, hml, hown, hts⟩ (c_X13_personPassed g l σ r τ h) (cl_X13_233 hts ⟨Nat.le_of_ble_eq_true rfl, Nat.le_of_ble_eq_true rfl⟩) (mpV_13 hZ hT hS hW tz_64 _) rfl rfl hl.1 rfl (lv_room (Nat.le_of_ble_eq_true rfl)) dX13_changeLine_26 ⟨Nat.zero_le _, Nat.zero_le _⟩) (fun r_2 σ_3 H locs hf hW hS => ?_)
    refine mst_i hx hb hZ hW hS tz_68 hf dX13_changeLine_29 (fun σ_4 H locs hf hW hS => ?_)
    refine lv_aload_n hx hb dX13_changeLine_30 rfl (lv_at hl 1 rfl) ?_
    refine gf_13_16 hx hb htg (htg _ lf_X13_23) hown hZ hW tz_64 dX13_changeLine_31 ?_
    refine lv_iload_n hx hb dX13_changeLine_34 rfl (lv_at hl 0 rfl) ?_
    refine lv_iconst (v := 1) hx hb dX13_changeLine_35 (by decide) ?_
    refine lv_iadd hx hb dX13_changeLine_36 ?_
    refine lv_aload_n hx hb dX13_changeLine_37 rfl (lv_at hl 1 rfl) ?_
    refine va_ldcS (q := adS g 11) hx hb hown (lr_X13_236 hZ) dX13_changeLine_38 ?_
    refine lv_iconst (v := 0) hx hb dX13_changeLine_40 (by decide) ?_
    refine lv_bipush (v := 29) hx hb dX13_changeLine_41 (by decide) ?_
    refine mci hf hS (fun r τ h => va_runV (As := [.ref (adS g 11), .int 0, .int 29]) (rest := [.int (x_1 + 1), .ref (bs g 68)]) ⟨hx, hb, hml, hown, hts⟩ (c_X13_after g l σ_4 11 0 29 (show 11 < 19 by decide) r τ h) (cl_X13_215 hts ⟨Nat.le_of_ble_eq_true rfl, Nat.le_of_ble_eq_true rfl⟩) (mpV_13 hZ hT hS hW tz_64 _) rfl rfl hl.1 rfl (lv_room (Nat.le_of_ble_eq_true rfl)) dX13_changeLine_43 ⟨Nat.zero_le _, Nat.zero_le _⟩) (fun r_5 σ_6 H locs hf hW hS => ?_)
    refine mst_i hx hb hZ hW hS tz_68 hf dX13_changeLine_46 (fun σ_7 H locs hf hW hS => ?_)
    refine lv_aload_n hx hb dX13_changeLine_47 rfl (lv_at hl 1 rfl) ?_
    refine gf_13_16 hx hb htg (htg _ lf_X13_23) hown hZ hW tz_64 dX13_changeLine_48 ?_
    refine lv_iload_n hx hb dX13_changeLine_51 rfl (lv_at hl 0 rfl) ?_
    refine lv_iconst (v := 2) hx hb dX13_changeLine_52 (by decide) ?_
    refine lv_iadd hx hb dX13_changeLine_53 ?_
    refine lv_aload_n hx hb dX13_changeLine_54 rfl (lv_at hl 1 rfl) ?_
    refine va_ldcS (q := adS g 12) hx hb hown (lr_X13_238 hZ) dX13_changeLine_55 ?_
    refine lv_iconst (v := 0) hx hb dX13_changeLine_57 (by decide) ?_
    refine lv_aload_n hx hb dX13_changeLine_58 rfl (lv_at hl 1 rfl) ?_
    refine gf_13_16 hx hb htg (htg _ lf_X13_23) hown hZ hW tz_64 dX13_changeLine_59 ?_
    refine lv_iconst (v := 0) hx hb dX13_changeLine_62 (by decide) ?_
    refine mld_i hx hb hZ hW tz_68 hf dX13_changeLine_63 (fun hf => ?_)
    refine lv_iconst (v := 1) hx hb dX13_changeLine_64 (by decide) ?_
    refine lv_isub hx hb dX13_changeLine_65 ?_
    refine mci hf hS (fun r τ h => va_runV (As := [.ref (adS g 12), .int 0, .int ((σ_7.1 68 (0 : Int32).toNatClampNeg) - 1)]) (rest := [.int (x_1 + 2), .ref (bs g 68)]) ⟨hx, hb, hml, hown, hts⟩ (c_X13_after g l σ_7 12 0 ((σ_7.1 68 (0 : Int32).toNatClampNeg) - 1) (show 12 < 19 by decide) r τ h) (cl_X13_215 hts ⟨Nat.le_of_ble_eq_true rfl, Nat.le_of_ble_eq_true rfl⟩) (mpV_13 hZ hT hS hW tz_64 _) rfl rfl hl.1 rfl (lv_room (Nat.le_of_ble_eq_true rfl)) dX13_changeLine_66 ⟨Nat.zero_le _, Nat.zero_le _⟩) (fun r_8 σ_9 H locs hf hW hS => ?_)
    refine mst_i hx hb hZ hW hS tz_68 hf dX13_changeLine_69 (fun σ_10 H locs hf hW hS => ?_)
    refine lv_aload_n hx hb dX13_changeLine_70 rfl (lv_at hl 1 rfl) ?_
    refine gf_13_16 hx hb htg (htg _ lf_X13_23) hown hZ hW tz_64 dX13_changeLine_71 ?_
    refine lv_iload_n hx hb dX13_changeLine_74 rfl (lv_at hl 0 rfl) ?_
    refine lv_iconst (v := 3) hx hb dX13_changeLine_75 (by decide) ?_
    refine lv_iadd hx hb dX13_changeLine_76 ?_
    refine lv_aload_n hx hb dX13_changeLine_77 rfl (lv_at hl 1 rfl) ?_
    refine va_ldcS (q := adS g 13) hx hb hown (lr_X13_240 hZ) dX13_changeLine_78 ?_
    refine lv_iconst (v := 1) hx hb dX13_changeLine_80 (by decide) ?_
    refine lv_iconst (v := 3) hx hb dX13_changeLine_81 (by decide) ?_
    refine mci hf hS (fun r τ h => va_runV (As := [.ref (adS g 13), .int 1, .int 3]) (rest := [.int (x_1 + 3), .ref (bs g 68)]) ⟨hx, hb, hml, hown, hts⟩ (c_X13_after g l σ_10 13 1 3 (show 13 < 19 by decide) r τ h) (cl_X13_215 hts ⟨Nat.le_of_ble_eq_true rfl, Nat.le_of_ble_eq_true rfl⟩) (mpV_13 hZ hT hS hW tz_64 _) rfl rfl hl.1 rfl (lv_room (Nat.le_of_ble_eq_true rfl)) dX13_changeLine_82 ⟨Nat.zero_le _, Nat.zero_le _⟩) (fun r_11 σ_12 H locs hf hW hS => ?_)
    refine mst_i hx hb hZ hW hS tz_68 hf dX13_changeLine_85 (fun σ_13 H locs hf hW hS => ?_)
    refine lv_aload_n hx hb dX13_changeLine_86 rfl (lv_at hl 1 rfl) ?_
    refine gf_13_13 hx hb htg (htg _ lf_X13_97) hown hZ hW tz_64 dX13_changeLine_87 ?_
    refine lv_if_ne (tgt := 103) hx hb dX13_changeLine_90 (by decide) (fun hc => ?_) (fun hc => ?_)
    · have hf := iff_ hc hf
      subst hQ
      exact mrv hx hb hr hlocks hZ hT hS hW (Option.some.inj hf) dX13_changeLine_103
    · have hf := ift hc hf
      refine lv_aload_n hx hb dX13_changeLine_93 rfl (lv_at hl 1 rfl) ?_
      refine gf_13_16 hx hb htg (htg _ lf_X13_23) hown hZ hW tz_64 dX13_changeLine_94 ?_
      refine lv_iconst (v := 5) hx hb dX13_changeLine_97 (by decide) ?_
      refine lv_dup2_11 hx hb dX13_changeLine_98 rfl rfl ?_
      refine mld_i hx hb hZ hW tz_68 hf dX13_changeLine_99 (fun hf => ?_)
      refine lv_iconst (v := 1) hx hb dX13_changeLine_100 (by decide) ?_
      refine lv_iadd hx hb dX13_changeLine_101 ?_
      refine mst_i hx hb hZ hW hS tz_68 hf dX13_changeLine_102 (fun σ_14 H locs hf hW hS => ?_)
      subst hQ
      exact mrv hx hb hr hlocks hZ hT hS hW (Option.some.inj hf) dX13_changeLine_103
  · have hf := iff_ hc hf
    subst hQ
    exact mrv hx hb hr hlocks hZ hT hS hW (Option.some.inj hf) dX13_changeLine_7
def f_X13_visitLine (σ : Mem)  : Option (Mem) :=
  (if (σ.1 64 13) = 0 then bd2 (f_X13_personPassed σ) (fun (r_1 : Int32) (σ_2 : Mem) => bd2 (f_X13_afterHere σ_2 11 0 29) (fun (r_3 : Int32) (σ_4 : Mem) => jn1 (fun (σ_5 : Mem) => jn1 (fun (σ_7 : Mem) => (if (σ_7.1 64 13) = 0 then bd1 (f_X13_next σ_7) (fun (σ_9 : Mem) => ixd (60 + r_3) (aln 68) (nm (sI σ_9 68 (60 + r_3).toNatClampNeg (r_1 + 1)) (fun (σ_10 : Mem) => ixd 6 (aln 68) (ixd 6 (aln 68) (nm (sI σ_10 68 (6 : Int32).toNatClampNeg ((σ_10.1 68 (6 : Int32).toNatClampNeg) + 1)) (fun (σ_11 : Mem) => some σ_11)))))) else some σ_7)) (fun k_8 => (if (σ_5.1 64 13) = 0 then dvd 7 (ixd 3 (aln 68) ((if (r_3 - r_3 / 7 * 7) = (σ_5.1 68 (3 : Int32).toNatClampNeg) then bd1 (f_X13_wrong σ_5 8 (σ_5.1 64 4)) (fun (σ_12 : Mem) => k_8 σ_12) else k_8 σ_5))) else k_8 σ_5))) (fun k_6 => (if (σ_4.1 64 13) = 0 then ixd (60 + r_3) (aln 68) ((if (σ_4.1 68 (60 + r_3).toNatClampNeg) ≤ 0 then k_6 σ_4 else bd1 (f_X13_wrong σ_4 3 (σ_4.1 64 4)) (fun (σ_13 : Mem) => k_6 σ_13))) else k_6 σ_4)))) else some σ)
set_option maxHeartbeats 4000000 in
set_option maxRecDepth 100000 in
theorem c_X13_visitLine (g : XG) (l : Launch) (σ : Mem) (τ : Mem) (hf : f_X13_visitLine σ = some τ) : Met l yX13_visitLine (wx (.code yX13_visitLine cX13_visitLine 3 none)) (kr 8 173) (va_Pc [.ref (bs g 64)] (WS g 0 81 σ)) (Qv' g 0 81 τ) 0 0 (Ag g 0) := by
  refine Met.ofW (cc := cX13_visitLine) (maxL := 3) (ret := none) (by decide) rfl ?_
  intro p e s m args below meth c s₁ B hml hv
  obtain ⟨rfl, hZ, hT, hW⟩ := hv
  have hx := B.exec
  have hb := B.bytes
  have hr := B.returns
  have hts : ∀ w ∈ wx (.code yX13_visitLine cX13_visitLine 3 none), w.before _ s = true := atoms_spec B.pre
  have htg : ∀ w ∈ lwg, w.before _ s = true := fun w h => hts w (List.mem_cons_of_mem _ h)
  have hown : s.vm.findClass RX13 = some m.cls := findClass_of_methodNamed B.named
  have hlocks := B.notSynchronized
  change W p l e (kr 8 173) s m (List.toArray [.ref (bs g 64)]) below meth c s.heap [] 0 0 (MQ below (Qv' g 0 81 τ) (List.toArray [.ref (bs g 64)]) s 0 0 (Ag g 0)) _
  generalize hQ : MQ below (Qv' g 0 81 τ) (List.toArray [.ref (bs g 64)]) s 0 0 (Ag g 0) = Q
  have hS : va_S (Ag g 0) s.heap s.heap [] := va_S.rf
  have hl := lv_entry ([.ref (bs g 64)]) (n := 3) (Nat.le_of_ble_eq_true rfl)
  rw [lg_entry_eq]
  generalize (lg_sl ([.ref (bs g 64)]) ++ List.replicate (3 - (lg_sl ([.ref (bs g 64)])).length) Slot.unset).toArray = ls at hl ⊢
  have hl : lv_has ls 3 [(0, .ref (bs g 64))] := hl
  delta f_X13_visitLine at hf
  obtain ⟨H, hH⟩ : ∃ H, H = s.heap := ⟨_, rfl⟩
  obtain ⟨locs, hLc⟩ : ∃ z : List Loc, z = [] := ⟨_, rfl⟩
  have hS : va_S (Ag g 0) s.heap H locs := by rw [hH, hLc]; exact hS
  have hW : Wd g 0 81 σ H := by rw [hH]; exact hW
  suffices hG : W p l e (kr 8 173) s m (List.toArray [.ref (bs g 64)]) below meth c H locs 0 0 Q (F0 m 0 ls []) by rw [hH, hLc] at hG; exact hG
  clear hH hLc
  refine lv_aload_n hx hb dX13_visitLine_0 rfl (lv_at hl 0 rfl) ?_
  refine gf_13_13 hx hb htg (htg _ lf_X13_97) hown hZ hW tz_64 dX13_visitLine_1 ?_
  refine lv_if_eq (tgt := 8) hx hb dX13_visitLine_4 (by decide) (fun hc => ?_) (fun hc => ?_)
  · have hf := ift hc hf
    refine lv_aload_n hx hb dX13_visitLine_8 rfl (lv_at hl 0 rfl) ?_
    refine mci hf hS (fun r τ h => va_runV (As := []) (rest := []) ⟨hx, hb, hml, hown, hts⟩ (c_X13_personPassed g l σ r τ h) (cl_X13_233 hts ⟨Nat.le_of_ble_eq_true rfl, Nat.le_of_ble_eq_true rfl⟩) (mpV_13 hZ hT hS hW tz_64 _) rfl rfl hl.1 rfl (lv_room (Nat.le_of_ble_eq_true rfl)) dX13_visitLine_9 ⟨Nat.zero_le _, Nat.zero_le _⟩) (fun r_1 σ_2 H locs hf hW hS => ?_)
    refine lv_istore_n (lv' := [(1, .int r_1), (0, .ref (bs g 64))]) hx hb dX13_visitLine_12 rfl hl (by decide) rfl (fun ls hl => ?_)
    refine lv_aload_n hx hb dX13_visitLine_13 rfl (lv_at hl 1 rfl) ?_
    refine va_ldcS (q := adS g 11) hx hb hown (lr_X13_236 hZ) dX13_visitLine_14 ?_
    refine lv_iconst (v := 0) hx hb dX13_visitLine_16 (by decide) ?_
    refine lv_bipush (v := 29) hx hb dX13_visitLine_17 (by decide) ?_
    refine mci hf hS (fun r τ h => va_runV (As := [.ref (adS g 11), .int 0, .int 29]) (rest := []) ⟨hx, hb, hml, hown, hts⟩ (c_X13_afterHere g l σ_2 11 0 29 (show 11 < 19 by decide) r τ h) (cl_X13_242 hts ⟨Nat.le_of_ble_eq_true rfl, Nat.le_of_ble_eq_true rfl⟩) (mpV_13 hZ hT hS hW tz_64 _) rfl rfl hl.1 rfl (lv_room (Nat.le_of_ble_eq_true rfl)) dX13_visitLine_19 ⟨Nat.zero_le _, Nat.zero_le _⟩) (fun r_3 σ_4 H locs hf hW hS => ?_)
    refine lv_istore_n (lv' := [(2, .int r_3), (1, .int r_1), (0, .ref (bs g 64))]) hx hb dX13_visitLine_22 rfl hl (by decide) rfl (fun ls hl => ?_)
    refine lv_aload_n hx hb dX13_visitLine_23 rfl (lv_at hl 2 rfl) ?_
    refine gf_13_13 hx hb htg (htg _ lf_X13_97) hown hZ hW tz_64 dX13_visitLine_24 ?_
    refine jn1_W (fun (σ_5 : Mem) => ∀ (H : Heap) (locs : List Loc) (ls : Array Slot), Wd g 0 81 σ_5 H → va_S (Ag g 0) s.heap H locs → lv_has ls 3 [(0, .ref (bs g 64)), (1, .int r_1), (2, .int r_3)] → W p l e (kr 8 173) s m (List.toArray [.ref (bs g 64)]) below meth c H locs 0 0 Q (F0 m 51 ls [])) hf (fun σ_5 hf => ?_) (fun k_6 hk_6 hf => ?_)
    · intro H locs ls hW hS hl
      refine lv_aload_n hx hb dX13_visitLine_51 rfl (lv_at hl 0 rfl) ?_
      refine gf_13_13 hx hb htg (htg _ lf_X13_97) hown hZ hW tz_64 dX13_visitLine_52 ?_
      refine jn1_W (fun (σ_7 : Mem) => ∀ (H : Heap) (locs : List Loc) (ls : Array Slot), Wd g 0 81 σ_7 H → va_S (Ag g 0) s.heap H locs → lv_has ls 3 [(0, .ref (bs g 64)), (1, .int r_1), (2, .int r_3)] → W p l e (kr 8 173) s m (List.toArray [.ref (bs g 64)]) below meth c H locs 0 0 Q (F0 m 81 ls [])) hf (fun σ_7 hf => ?_) (fun k_8 hk_8 hf => ?_)
      · intro H locs ls hW hS hl
        refine lv_aload_n hx hb dX13_visitLine_81 rfl (lv_at hl 0 rfl) ?_
        refine gf_13_13 hx hb htg (htg _ lf_X13_97) hown hZ hW tz_64 dX13_visitLine_82 ?_
        refine lv_if_eq (tgt := 89) hx hb dX13_visitLine_85 (by decide) (fun hc => ?_) (fun hc => ?_)
        · have hf := ift hc hf
          refine lv_aload_n hx hb dX13_visitLine_89 rfl (lv_at hl 0 rfl) ?_
          refine mcv hf hS (fun τ h => va_runV (As := []) (rest := []) ⟨hx, hb, hml, hown, hts⟩ (c_X13_next g l σ_7 τ h) (cl_X13_118 hts ⟨Nat.le_of_ble_eq_true rfl, Nat.le_of_ble_eq_true rfl⟩) (mpV_13 hZ hT hS hW tz_64 _) rfl rfl hl.1 rfl (lv_room (Nat.le_of_ble_eq_true rfl)) dX13_visitLine_90 ⟨Nat.zero_le _, Nat.zero_le _⟩) (fun σ_9 H locs hf hW hS => ?_)
          refine lv_aload_n hx hb dX13_visitLine_93 rfl (lv_at hl 0 rfl) ?_
          refine gf_13_16 hx hb htg (htg _ lf_X13_23) hown hZ hW tz_64 dX13_visitLine_94 ?_
          refine lv_bipush (v := 60) hx hb dX13_visitLine_97 (by decide) ?_
          refine lv_iload_n hx hb dX13_visitLine_99 rfl (lv_at hl 2 rfl) ?_
          refine lv_iadd hx hb dX13_visitLine_100 ?_
          refine lv_iload_n hx hb dX13_visitLine_101 rfl (lv_at hl 1 rfl) ?_
          refine lv_iconst (v := 1) hx hb dX13_visitLine_102 (by decide) ?_
          refine lv_iadd hx hb dX13_visitLine_103 ?_
          refine mst_i hx hb hZ hW hS tz_68 hf dX13_visitLine_104 (fun σ_10 H locs hf hW hS => ?_)
          refine lv_aload_n hx hb dX13_visitLine_105 rfl (lv_at hl 0 rfl) ?_
          refine gf_13_16 hx hb htg (htg _ lf_X13_23) hown hZ hW tz_64 dX13_visitLine_106 ?_
          refine lv_bipush (v := 6) hx hb dX13_visitLine_109 (by decide) ?_
          refine lv_dup2_11 hx hb dX13_visitLine_111 rfl rfl ?_
          refine mld_i hx hb hZ hW tz_68 hf dX13_visitLine_112 (fun hf => ?_)
          refine lv_iconst (v := 1) hx hb dX13_visitLine_113 (by decide) ?_
          refine lv_iadd hx hb dX13_visitLine_114 ?_
          refine mst_i hx hb hZ hW hS tz_68 hf dX13_visitLine_115 (fun σ_11 H locs hf hW hS => ?_)
          subst hQ
          exact mrv hx hb hr hlocks hZ hT hS hW (Option.some.inj hf) dX13_visitLine_116
        · have hf := iff_ hc hf
          subst hQ
          exact mrv hx hb hr hlocks hZ hT hS hW (Option.some.inj hf) dX13_visitLine_88
      · refine lv_if_ne (tgt := 81) hx hb dX13_visitLine_55 (by decide) (fun hc => ?_) (fun hc => ?_)
        · have hf := iff_ hc hf
          exact hk_8 σ_5 hf H locs ls hW hS (lv_sub hl [0, 1, 2] rfl)
        · have hf := ift hc hf
          refine lv_iload_n hx hb dX13_visitLine_58 rfl (lv_at hl 2 rfl) ?_
          refine lv_bipush (v := 7) hx hb dX13_visitLine_59 (by decide) ?_
          obtain ⟨hd, hf⟩ := dvd_s hf
          refine lv_irem hx hb dX13_visitLine_61 hd ?_
          refine lv_aload_n hx hb dX13_visitLine_62 rfl (lv_at hl 0 rfl) ?_
          refine gf_13_16 hx hb htg (htg _ lf_X13_23) hown hZ hW tz_64 dX13_visitLine_63 ?_
          refine lv_iconst (v := 3) hx hb dX13_visitLine_66 (by decide) ?_
          refine mld_i hx hb hZ hW tz_68 hf dX13_visitLine_67 (fun hf => ?_)
          refine lv_icmp_ne (tgt := 81) hx hb dX13_visitLine_68 (by decide) (fun hc => ?_) (fun hc => ?_)
          · have hf := iff_ hc hf
            exact hk_8 σ_5 hf H locs ls hW hS (lv_sub hl [0, 1, 2] rfl)
          · have hf := ift hc hf
            refine lv_aload_n hx hb dX13_visitLine_71 rfl (lv_at hl 0 rfl) ?_
            refine lv_bipush (v := 8) hx hb dX13_visitLine_72 (by decide) ?_
            refine lv_aload_n hx hb dX13_visitLine_74 rfl (lv_at hl 0 rfl) ?_
            refine gf_13_4 hx hb htg (htg _ lf_X13_78) hown hZ hW tz_64 dX13_visitLine_75 ?_
            refine mcv hf hS (fun τ h => va_runV (As := [.int 8, .int (σ_5.1 64 4)]) (rest := []) ⟨hx, hb, hml, hown, hts⟩ (c_X13_wrong g l σ_5 8 (σ_5.1 64 4) τ h) (cl_X13_124 hts ⟨Nat.le_of_ble_eq_true rfl, Nat.le_of_ble_eq_true rfl⟩) (mpV_13 hZ hT hS hW tz_64 _) rfl rfl hl.1 rfl (lv_room (Nat.le_of_ble_eq_true rfl)) dX13_visitLine_78 ⟨Nat.zero_le _, Nat.zero_le _⟩) (fun σ_12 H locs hf hW hS => ?_)
            exact hk_8 σ_12 hf H locs ls hW hS (lv_sub hl [0, 1, 2] rfl)
    · refine lv_if_ne (tgt := 51) hx hb dX13_visitLine_27 (by decide) (fun hc => ?_) (fun hc => ?_)
      · have hf := iff_ hc hf
        exact hk_6 σ_4 hf H locs ls hW hS (lv_sub hl [2, 1, 0] rfl)
      · have hf := ift hc hf
        refine lv_aload_n hx hb dX13_visitLine_30 rfl (lv_at hl 2 rfl) ?_
        refine gf_13_16 hx hb htg (htg _ lf_X13_23) hown hZ hW tz_64 dX13_visitLine_31 ?_
        refine lv_bipush (v := 60) hx hb dX13_visitLine_34 (by decide) ?_
        refine lv_iload_n hx hb dX13_visitLine_36 rfl (lv_at hl 0 rfl) ?_
        refine lv_iadd hx hb dX13_visitLine_37 ?_
        refine mld_i hx hb hZ hW tz_68 hf dX13_visitLine_38 (fun hf => ?_)
        refine lv_if_le (tgt := 51) hx hb dX13_visitLine_39 (by decide) (fun hc => ?_) (fun hc => ?_)
        · have hf := ift hc hf
          exact hk_6 σ_4 hf H locs ls hW hS (lv_sub hl [2, 1, 0] rfl)
        · have hf := iff_ hc hf
          refine lv_aload_n hx hb dX13_visitLine_42 rfl (lv_at hl 2 rfl) ?_
          refine lv_iconst (v := 3) hx hb dX13_visitLine_43 (by decide) ?_
          refine lv_aload_n hx hb dX13_visitLine_44 rfl (lv_at hl 2 rfl) ?_
          refine gf_13_4 hx hb htg (htg _ lf_X13_78) hown hZ hW tz_64 dX13_visitLine_45 ?_
          refine mcv hf hS (fun τ h => va_runV (As := [.int 3, .int (σ_4.1 64 4)]) (rest := []) ⟨hx, hb, hml, hown, hts⟩ (c_X13_wrong g l σ_4 3 (σ_4.1 64 4) τ h) (cl_X13_124 hts ⟨Nat.le_of_ble_eq_true rfl, Nat.le_of_ble_eq_true rfl⟩) (mpV_13 hZ hT hS hW tz_64 _) rfl rfl hl.1 rfl (lv_room (Nat.le_of_ble_eq_true rfl)) dX13_visitLine_48 ⟨Nat.zero_le _, Nat.zero_le _⟩) (fun σ_13 H locs hf hW hS => ?_)
          exact hk_6 σ_13 hf H locs ls hW hS (lv_sub hl [2, 1, 0] rfl)
  · have hf := iff_ hc hf
    subst hQ
    exact mrv hx hb hr hlocks hZ hT hS hW (Option.some.inj hf) dX13_visitLine_7
def f_X13_wishLine (σ : Mem)  : Option (Mem) :=
  (if (σ.1 64 13) = 0 then ixd 7 (aln 68) (nm (90 + (2 * (σ.1 68 (7 : Int32).toNatClampNeg))) (fun (x_1 : Int32) => bd2 (f_X13_personPassed σ) (fun (r_2 : Int32) (σ_3 : Mem) => bd2 (f_X13_afterHere σ_3 11 0 29) (fun (r_4 : Int32) (σ_5 : Mem) => fx2 FU (fun k_8 (i_6 : Int32) (σ_7 : Mem) => ixd 7 (aln 68) ((if (σ_7.1 68 (7 : Int32).toNatClampNeg) ≤ i_6 then (if (σ_7.1 64 13) = 0 then bd1 (f_X13_next σ_7) (fun (σ_9 : Mem) => ixd x_1 (aln 68) (nm (sI σ_9 68 x_1.toNatClampNeg r_2) (fun (σ_10 : Mem) => ixd (x_1 + 1) (aln 68) (nm (sI σ_10 68 (x_1 + 1).toNatClampNeg r_4) (fun (σ_11 : Mem) => ixd 7 (aln 68) (ixd 7 (aln 68) (nm (sI σ_11 68 (7 : Int32).toNatClampNeg ((σ_11.1 68 (7 : Int32).toNatClampNeg) + 1)) (fun (σ_12 : Mem) => some σ_12)))))))) else some σ_7) else jn1 (fun (σ_13 : Mem) => nm (i_6 + 1) (fun (x_15 : Int32) => k_8 x_15 σ_13)) (fun k_14 => (if (σ_7.1 64 13) = 0 then ixd (90 + (2 * i_6)) (aln 68) ((if (σ_7.1 68 (90 + (2 * i_6)).toNatClampNeg) = r_2 then ixd ((90 + (2 * i_6)) + 1) (aln 68) ((if (σ_7.1 68 ((90 + (2 * i_6)) + 1).toNatClampNeg) = r_4 then bd1 (f_X13_wrong σ_7 3 (σ_7.1 64 4)) (fun (σ_17 : Mem) => k_14 σ_17) else k_14 σ_7)) else k_14 σ_7)) else k_14 σ_7))))) 0 σ_5)))) else some σ)
set_option maxHeartbeats 4000000 in
set_option maxRecDepth 100000 in
theorem c_X13_wishLine (g : XG) (l : Launch) (σ : Mem) (τ : Mem) (hf : f_X13_wishLine σ = some τ) : Met l yX13_wishLine (wx (.code yX13_wishLine cX13_wishLine 5 none)) (kr 8 173) (va_Pc [.ref (bs g 64)] (WS g 0 81 σ)) (Qv' g 0 81 τ) 0 0 (Ag g 0) := by
  refine Met.ofW (cc := cX13_wishLine) (maxL := 5) (ret := none) (by decide) rfl ?_
  intro p e s m args below meth c s₁ B hml hv
  obtain ⟨rfl, hZ, hT, hW⟩ := hv
  have hx := B.exec
  have hb := B.bytes
  have hr := B.returns
  have hts : ∀ w ∈ wx (.code yX13_wishLine cX13_wishLine 5 none), w.before _ s = true := atoms_spec B.pre
  have htg : ∀ w ∈ lwg, w.before _ s = true := fun w h => hts w (List.mem_cons_of_mem _ h)
  have hown : s.vm.findClass RX13 = some m.cls := findClass_of_methodNamed B.named
  have hlocks := B.notSynchronized
  change W p l e (kr 8 173) s m (List.toArray [.ref (bs g 64)]) below meth c s.heap [] 0 0 (MQ below (Qv' g 0 81 τ) (List.toArray [.ref (bs g 64)]) s 0 0 (Ag g 0)) _
  generalize hQ : MQ below (Qv' g 0 81 τ) (List.toArray [.ref (bs g 64)]) s 0 0 (Ag g 0) = Q
  have hS : va_S (Ag g 0) s.heap s.heap [] := va_S.rf
  have hl := lv_entry ([.ref (bs g 64)]) (n := 5) (Nat.le_of_ble_eq_true rfl)
  rw [lg_entry_eq]
  generalize (lg_sl ([.ref (bs g 64)]) ++ List.replicate (5 - (lg_sl ([.ref (bs g 64)])).length) Slot.unset).toArray = ls at hl ⊢
  have hl : lv_has ls 5 [(0, .ref (bs g 64))] := hl
  delta f_X13_wishLine at hf
  obtain ⟨H, hH⟩ : ∃ H, H = s.heap := ⟨_, rfl⟩
  obtain ⟨locs, hLc⟩ : ∃ z : List Loc, z = [] := ⟨_, rfl⟩
  have hS : va_S (Ag g 0) s.heap H locs := by rw [hH, hLc]; exact hS
  have hW : Wd g 0 81 σ H := by rw [hH]; exact hW
  suffices hG : W p l e (kr 8 173) s m (List.toArray [.ref (bs g 64)]) below meth c H locs 0 0 Q (F0 m 0 ls []) by rw [hH, hLc] at hG; exact hG
  clear hH hLc
  refine lv_aload_n hx hb dX13_wishLine_0 rfl (lv_at hl 0 rfl) ?_
  refine gf_13_13 hx hb htg (htg _ lf_X13_97) hown hZ hW tz_64 dX13_wishLine_1 ?_
  refine lv_if_eq (tgt := 8) hx hb dX13_wishLine_4 (by decide) (fun hc => ?_) (fun hc => ?_)
  · have hf := ift hc hf
    refine lv_bipush (v := 90) hx hb dX13_wishLine_8 (by decide) ?_
    refine lv_iconst (v := 2) hx hb dX13_wishLine_10 (by decide) ?_
    refine lv_aload_n hx hb dX13_wishLine_11 rfl (lv_at hl 0 rfl) ?_
    refine gf_13_16 hx hb htg (htg _ lf_X13_23) hown hZ hW tz_64 dX13_wishLine_12 ?_
    refine lv_bipush (v := 7) hx hb dX13_wishLine_15 (by decide) ?_
    refine mld_i hx hb hZ hW tz_68 hf dX13_wishLine_17 (fun hf => ?_)
    refine lv_imul hx hb dX13_wishLine_18 ?_
    refine lv_iadd hx hb dX13_wishLine_19 ?_
    refine mnmi hf (fun (x_1 : Int32) hf => ?_)
    refine lv_istore_n (lv' := [(1, .int x_1), (0, .ref (bs g 64))]) hx hb dX13_wishLine_20 rfl hl (by decide) rfl (fun ls hl => ?_)
    refine lv_aload_n hx hb dX13_wishLine_21 rfl (lv_at hl 1 rfl) ?_
    refine mci hf hS (fun r τ h => va_runV (As := []) (rest := []) ⟨hx, hb, hml, hown, hts⟩ (c_X13_personPassed g l σ r τ h) (cl_X13_233 hts ⟨Nat.le_of_ble_eq_true rfl, Nat.le_of_ble_eq_true rfl⟩) (mpV_13 hZ hT hS hW tz_64 _) rfl rfl hl.1 rfl (lv_room (Nat.le_of_ble_eq_true rfl)) dX13_wishLine_22 ⟨Nat.zero_le _, Nat.zero_le _⟩) (fun r_2 σ_3 H locs hf hW hS => ?_)
    refine lv_istore_n (lv' := [(2, .int r_2), (1, .int x_1), (0, .ref (bs g 64))]) hx hb dX13_wishLine_25 rfl hl (by decide) rfl (fun ls hl => ?_)
    refine lv_aload_n hx hb dX13_wishLine_26 rfl (lv_at hl 2 rfl) ?_
    refine va_ldcS (q := adS g 11) hx hb hown (lr_X13_236 hZ) dX13_wishLine_27 ?_
    refine lv_iconst (v := 0) hx hb dX13_wishLine_29 (by decide) ?_
    refine lv_bipush (v := 29) hx hb dX13_wishLine_30 (by decide) ?_
    refine mci hf hS (fun r τ h => va_runV (As := [.ref (adS g 11), .int 0, .int 29]) (rest := []) ⟨hx, hb, hml, hown, hts⟩ (c_X13_afterHere g l σ_3 11 0 29 (show 11 < 19 by decide) r τ h) (cl_X13_242 hts ⟨Nat.le_of_ble_eq_true rfl, Nat.le_of_ble_eq_true rfl⟩) (mpV_13 hZ hT hS hW tz_64 _) rfl rfl hl.1 rfl (lv_room (Nat.le_of_ble_eq_true rfl)) dX13_wishLine_32 ⟨Nat.zero_le _, Nat.zero_le _⟩) (fun r_4 σ_5 H locs hf hW hS => ?_)
    refine lv_istore_n (lv' := [(3, .int r_4), (2, .int r_2), (1, .int x_1), (0, .ref (bs g 64))]) hx hb dX13_wishLine_35 rfl hl (by decide) rfl (fun ls hl => ?_)
    refine lv_iconst (v := 0) hx hb dX13_wishLine_36 (by decide) ?_
    refine lv_istore (lv' := [(4, .int 0), (3, .int r_4), (2, .int r_2), (1, .int x_1), (0, .ref (bs g 64))]) hx hb dX13_wishLine_37 hl (by decide) rfl (fun ls hl => ?_)
    refine fx2_W (fun (i_6 : Int32) (σ_7 : Mem) => ∀ (H : Heap) (locs : List Loc) (ls : Array Slot), Wd g 0 81 σ_7 H → va_S (Ag g 0) s.heap H locs → lv_has ls 5 [(0, .ref (bs g 64)), (1, .int x_1), (2, .int r_2), (3, .int r_4), (4, .int i_6)] → W p l e (kr 8 173) s m (List.toArray [.ref (bs g 64)]) below meth c H locs 0 0 Q (F0 m 39 ls [])) (fun k_8 hk_8 i_6 σ_7 hf => ?_) FU 0 σ_5 hf H locs ls hW hS (lv_sub hl [4, 3, 2, 1, 0] rfl)
    intro H locs ls hW hS hl
    refine lv_iload hx hb dX13_wishLine_39 (lv_at hl 4 rfl) ?_
    refine lv_aload_n hx hb dX13_wishLine_41 rfl (lv_at hl 0 rfl) ?_
    refine gf_13_16 hx hb htg (htg _ lf_X13_23) hown hZ hW tz_64 dX13_wishLine_42 ?_
    refine lv_bipush (v := 7) hx hb dX13_wishLine_45 (by decide) ?_
    refine mld_i hx hb hZ hW tz_68 hf dX13_wishLine_47 (fun hf => ?_)
    refine lv_icmp_ge (tgt := 107) hx hb dX13_wishLine_48 (by decide) (fun hc => ?_) (fun hc => ?_)
    · have hf := ift hc hf
      refine lv_aload_n hx hb dX13_wishLine_107 rfl (lv_at hl 0 rfl) ?_
      refine gf_13_13 hx hb htg (htg _ lf_X13_97) hown hZ hW tz_64 dX13_wishLine_108 ?_
      refine lv_if_eq (tgt := 115) hx hb dX13_wishLine_111 (by decide) (fun hc => ?_) (fun hc => ?_)
      · have hf := ift hc hf
        refine lv_aload_n hx hb dX13_wishLine_115 rfl (lv_at hl 0 rfl) ?_
        refine mcv hf hS (fun τ h => va_runV (As := []) (rest := []) ⟨hx, hb, hml, hown, hts⟩ (c_X13_next g l σ_7 τ h) (cl_X13_118 hts ⟨Nat.le_of_ble_eq_true rfl, Nat.le_of_ble_eq_true rfl⟩) (mpV_13 hZ hT hS hW tz_64 _) rfl rfl hl.1 rfl (lv_room (Nat.le_of_ble_eq_true rfl)) dX13_wishLine_116 ⟨Nat.zero_le _, Nat.zero_le _⟩) (fun σ_9 H locs hf hW hS => ?_)
        refine lv_aload_n hx hb dX13_wishLine_119 rfl (lv_at hl 0 rfl) ?_
        refine gf_13_16 hx hb htg (htg _ lf_X13_23) hown hZ hW tz_64 dX13_wishLine_120 ?_
        refine lv_iload_n hx hb dX13_wishLine_123 rfl (lv_at hl 1 rfl) ?_
        refine lv_iload_n hx hb dX13_wishLine_124 rfl (lv_at hl 2 rfl) ?_
        refine mst_i hx hb hZ hW hS tz_68 hf dX13_wishLine_125 (fun σ_10 H locs hf hW hS => ?_)
        refine lv_aload_n hx hb dX13_wishLine_126 rfl (lv_at hl 0 rfl) ?_
        refine gf_13_16 hx hb htg (htg _ lf_X13_23) hown hZ hW tz_64 dX13_wishLine_127 ?_
        refine lv_iload_n hx hb dX13_wishLine_130 rfl (lv_at hl 1 rfl) ?_
        refine lv_iconst (v := 1) hx hb dX13_wishLine_131 (by decide) ?_
        refine lv_iadd hx hb dX13_wishLine_132 ?_
        refine lv_iload_n hx hb dX13_wishLine_133 rfl (lv_at hl 3 rfl) ?_
        refine mst_i hx hb hZ hW hS tz_68 hf dX13_wishLine_134 (fun σ_11 H locs hf hW hS => ?_)
        refine lv_aload_n hx hb dX13_wishLine_135 rfl (lv_at hl 0 rfl) ?_
        refine gf_13_16 hx hb htg (htg _ lf_X13_23) hown hZ hW tz_64 dX13_wishLine_136 ?_
        refine lv_bipush (v := 7) hx hb dX13_wishLine_139 (by decide) ?_
        refine lv_dup2_11 hx hb dX13_wishLine_141 rfl rfl ?_
        refine mld_i hx hb hZ hW tz_68 hf dX13_wishLine_142 (fun hf => ?_)
        refine lv_iconst (v := 1) hx hb dX13_wishLine_143 (by decide) ?_
        refine lv_iadd hx hb dX13_wishLine_144 ?_
        refine mst_i hx hb hZ hW hS tz_68 hf dX13_wishLine_145 (fun σ_12 H locs hf hW hS => ?_)
        subst hQ
        exact mrv hx hb hr hlocks hZ hT hS hW (Option.some.inj hf) dX13_wishLine_146
      · have hf := iff_ hc hf
        subst hQ
        exact mrv hx hb hr hlocks hZ hT hS hW (Option.some.inj hf) dX13_wishLine_114
    · have hf := iff_ hc hf
      refine lv_aload_n hx hb dX13_wishLine_51 rfl (lv_at hl 0 rfl) ?_
      refine gf_13_13 hx hb htg (htg _ lf_X13_97) hown hZ hW tz_64 dX13_wishLine_52 ?_
      refine jn1_W (fun (σ_13 : Mem) => ∀ (H : Heap) (locs : List Loc) (ls : Array Slot), Wd g 0 81 σ_13 H → va_S (Ag g 0) s.heap H locs → lv_has ls 5 [(0, .ref (bs g 64)), (1, .int x_1), (2, .int r_2), (3, .int r_4), (4, .int i_6)] → W p l e (kr 8 173) s m (List.toArray [.ref (bs g 64)]) below meth c H locs 0 0 Q (F0 m 101 ls [])) hf (fun σ_13 hf => ?_) (fun k_14 hk_14 hf => ?_)
      · intro H locs ls hW hS hl
        obtain ⟨x_15, e_16, hf⟩ := nm_s hf
        refine lv_iinc (v := x_15) (lv' := [(4, .int x_15), (0, .ref (bs g 64)), (1, .int x_1), (2, .int r_2), (3, .int r_4)]) hx hb dX13_wishLine_101 hl (k := 4) rfl (by rw [e_16]; rfl) (by decide) rfl (fun ls hl => ?_)
        refine lv_goto (tgt := 39) hx hb dX13_wishLine_104 (by decide) ?_
        exact hk_8 x_15 σ_13 hf H locs ls hW hS (lv_sub hl [1, 2, 3, 4, 0] rfl)
      · refine lv_if_ne (tgt := 101) hx hb dX13_wishLine_55 (by decide) (fun hc => ?_) (fun hc => ?_)
        · have hf := iff_ hc hf
          exact hk_14 σ_7 hf H locs ls hW hS (lv_sub hl [0, 1, 2, 3, 4] rfl)
        · have hf := ift hc hf
          refine lv_aload_n hx hb dX13_wishLine_58 rfl (lv_at hl 0 rfl) ?_
          refine gf_13_16 hx hb htg (htg _ lf_X13_23) hown hZ hW tz_64 dX13_wishLine_59 ?_
          refine lv_bipush (v := 90) hx hb dX13_wishLine_62 (by decide) ?_
          refine lv_iconst (v := 2) hx hb dX13_wishLine_64 (by decide) ?_
          refine lv_iload hx hb dX13_wishLine_65 (lv_at hl 4 rfl) ?_
          refine lv_imul hx hb dX13_wishLine_67 ?_
          refine lv_iadd hx hb dX13_wishLine_68 ?_
          refine mld_i hx hb hZ hW tz_68 hf dX13_wishLine_69 (fun hf => ?_)
          refine lv_iload_n hx hb dX13_wishLine_70 rfl (lv_at hl 2 rfl) ?_
          refine lv_icmp_ne (tgt := 101) hx hb dX13_wishLine_71 (by decide) (fun hc => ?_) (fun hc => ?_)
          · have hf := iff_ hc hf
            exact hk_14 σ_7 hf H locs ls hW hS (lv_sub hl [0, 1, 2, 3, 4] rfl)
          · have hf := ift hc hf
            refine lv_aload_n hx hb dX13_wishLine_74 rfl (lv_at hl 0 rfl) ?_
            refine gf_13_16 hx hb htg (htg _ lf_X13_23) hown hZ hW tz_64 dX13_wishLine_75 ?_
            refine lv_bipush (v := 90) hx hb dX13_wishLine_78 (by decide) ?_
            refine lv_iconst (v := 2) hx hb dX13_wishLine_80 (by decide) ?_
            refine lv_iload hx hb dX13_wishLine_81 (lv_at hl 4 rfl) ?_
            refine lv_imul hx hb dX13_wishLine_83 ?_
            refine lv_iadd hx hb dX13_wishLine_84 ?_
            refine lv_iconst (v := 1) hx hb dX13_wishLine_85 (by decide) ?_
            refine lv_iadd hx hb dX13_wishLine_86 ?_
            refine mld_i hx hb hZ hW tz_68 hf dX13_wishLine_87 (fun hf => ?_)
            refine lv_iload_n hx hb dX13_wishLine_88 rfl (lv_at hl 3 rfl) ?_
            refine lv_icmp_ne (tgt := 101) hx hb dX13_wishLine_89 (by decide) (fun hc => ?_) (fun hc => ?_)
            · have hf := iff_ hc hf
              exact hk_14 σ_7 hf H locs ls hW hS (lv_sub hl [0, 1, 2, 3, 4] rfl)
            · have hf := ift hc hf
              refine lv_aload_n hx hb dX13_wishLine_92 rfl (lv_at hl 0 rfl) ?_
              refine lv_iconst (v := 3) hx hb dX13_wishLine_93 (by decide) ?_
              refine lv_aload_n hx hb dX13_wishLine_94 rfl (lv_at hl 0 rfl) ?_
              refine gf_13_4 hx hb htg (htg _ lf_X13_78) hown hZ hW tz_64 dX13_wishLine_95 ?_
              refine mcv hf hS (fun τ h => va_runV (As := [.int 3, .int (σ_7.1 64 4)]) (rest := []) ⟨hx, hb, hml, hown, hts⟩ (c_X13_wrong g l σ_7 3 (σ_7.1 64 4) τ h) (cl_X13_124 hts ⟨Nat.le_of_ble_eq_true rfl, Nat.le_of_ble_eq_true rfl⟩) (mpV_13 hZ hT hS hW tz_64 _) rfl rfl hl.1 rfl (lv_room (Nat.le_of_ble_eq_true rfl)) dX13_wishLine_98 ⟨Nat.zero_le _, Nat.zero_le _⟩) (fun σ_17 H locs hf hW hS => ?_)
              exact hk_14 σ_17 hf H locs ls hW hS (lv_sub hl [0, 1, 2, 3, 4] rfl)
  · have hf := iff_ hc hf
    subst hQ
    exact mrv hx hb hr hlocks hZ hT hS hW (Option.some.inj hf) dX13_wishLine_7
def f_X13_asksLine (σ : Mem)  : Option (Mem) :=
  (if (σ.1 64 13) = 0 then bd2 (f_X13_personPassed σ) (fun (r_1 : Int32) (σ_2 : Mem) => bd2 (f_X13_personHere σ_2) (fun (r_3 : Int32) (σ_4 : Mem) => jn1 (fun (σ_5 : Mem) => (if (σ_5.1 64 13) = 0 then bd1 (f_X13_next σ_5) (fun (σ_7 : Mem) => bd2 (f_X13_after σ_7 14 0 100) (fun (r_8 : Int32) (σ_9 : Mem) => (if (σ_9.1 64 13) = 0 then ixd ((100 + (5 * r_1)) + r_3) (aln 68) (nm (sI σ_9 68 ((100 + (5 * r_1)) + r_3).toNatClampNeg (r_8 + 1)) (fun (σ_10 : Mem) => ixd 8 (aln 68) (ixd 8 (aln 68) (nm (sI σ_10 68 (8 : Int32).toNatClampNeg ((σ_10.1 68 (8 : Int32).toNatClampNeg) + 1)) (fun (σ_11 : Mem) => some σ_11))))) else some σ_9))) else some σ_5)) (fun k_6 => (if (σ_4.1 64 13) = 0 then jn0 (bd1 (f_X13_wrong σ_4 3 (σ_4.1 64 4)) (fun (σ_13 : Mem) => k_6 σ_13)) (fun k_12 => (if r_1 = r_3 then k_12 else ixd ((100 + (5 * r_1)) + r_3) (aln 68) ((if (σ_4.1 68 ((100 + (5 * r_1)) + r_3).toNatClampNeg) ≤ 0 then k_6 σ_4 else k_12)))) else k_6 σ_4)))) else some σ)
set_option maxHeartbeats 4000000 in
set_option maxRecDepth 100000 in
theorem c_X13_asksLine (g : XG) (l : Launch) (σ : Mem) (τ : Mem) (hf : f_X13_asksLine σ = some τ) : Met l yX13_asksLine (wx (.code yX13_asksLine cX13_asksLine 4 none)) (kr 8 173) (va_Pc [.ref (bs g 64)] (WS g 0 81 σ)) (Qv' g 0 81 τ) 0 0 (Ag g 0) := by
  refine Met.ofW (cc := cX13_asksLine) (maxL := 4) (ret := none) (by decide) rfl ?_
  intro p e s m args below meth c s₁ B hml hv
  obtain ⟨rfl, hZ, hT, hW⟩ := hv
  have hx := B.exec
  have hb := B.bytes
  have hr := B.returns
  have hts : ∀ w ∈ wx (.code yX13_asksLine cX13_asksLine 4 none), w.before _ s = true := atoms_spec B.pre
  have htg : ∀ w ∈ lwg, w.before _ s = true := fun w h => hts w (List.mem_cons_of_mem _ h)
  have hown : s.vm.findClass RX13 = some m.cls := findClass_of_methodNamed B.named
  have hlocks := B.notSynchronized
  change W p l e (kr 8 173) s m (List.toArray [.ref (bs g 64)]) below meth c s.heap [] 0 0 (MQ below (Qv' g 0 81 τ) (List.toArray [.ref (bs g 64)]) s 0 0 (Ag g 0)) _
  generalize hQ : MQ below (Qv' g 0 81 τ) (List.toArray [.ref (bs g 64)]) s 0 0 (Ag g 0) = Q
  have hS : va_S (Ag g 0) s.heap s.heap [] := va_S.rf
  have hl := lv_entry ([.ref (bs g 64)]) (n := 4) (Nat.le_of_ble_eq_true rfl)
  rw [lg_entry_eq]
  generalize (lg_sl ([.ref (bs g 64)]) ++ List.replicate (4 - (lg_sl ([.ref (bs g 64)])).length) Slot.unset).toArray = ls at hl ⊢
  have hl : lv_has ls 4 [(0, .ref (bs g 64))] := hl
  delta f_X13_asksLine at hf
  obtain ⟨H, hH⟩ : ∃ H, H = s.heap := ⟨_, rfl⟩
  obtain ⟨locs, hLc⟩ : ∃ z : List Loc, z = [] := ⟨_, rfl⟩
  have hS : va_S (Ag g 0) s.heap H locs := by rw [hH, hLc]; exact hS
  have hW : Wd g 0 81 σ H := by rw [hH]; exact hW
  suffices hG : W p l e (kr 8 173) s m (List.toArray [.ref (bs g 64)]) below meth c H locs 0 0 Q (F0 m 0 ls []) by rw [hH, hLc] at hG; exact hG
  clear hH hLc
  refine lv_aload_n hx hb dX13_asksLine_0 rfl (lv_at hl 0 rfl) ?_
  refine gf_13_13 hx hb htg (htg _ lf_X13_97) hown hZ hW tz_64 dX13_asksLine_1 ?_
  refine lv_if_eq (tgt := 8) hx hb dX13_asksLine_4 (by decide) (fun hc => ?_) (fun hc => ?_)
  · have hf := ift hc hf
    refine lv_aload_n hx hb dX13_asksLine_8 rfl (lv_at hl 0 rfl) ?_
    refine mci hf hS (fun r τ h => va_runV (As := []) (rest := []) ⟨hx, hb, hml, hown, hts⟩ (c_X13_personPassed g l σ r τ h) (cl_X13_233 hts ⟨Nat.le_of_ble_eq_true rfl, Nat.le_of_ble_eq_true rfl⟩) (mpV_13 hZ hT hS hW tz_64 _) rfl rfl hl.1 rfl (lv_room (Nat.le_of_ble_eq_true rfl)) dX13_asksLine_9 ⟨Nat.zero_le _, Nat.zero_le _⟩) (fun r_1 σ_2 H locs hf hW hS => ?_)
    refine lv_istore_n (lv' := [(1, .int r_1), (0, .ref (bs g 64))]) hx hb dX13_asksLine_12 rfl hl (by decide) rfl (fun ls hl => ?_)
    refine lv_aload_n hx hb dX13_asksLine_13 rfl (lv_at hl 1 rfl) ?_
    refine mci hf hS (fun r τ h => va_runV (As := []) (rest := []) ⟨hx, hb, hml, hown, hts⟩ (c_X13_personHere g l σ_2 r τ h) (cl_X13_148 hts ⟨Nat.le_of_ble_eq_true rfl, Nat.le_of_ble_eq_true rfl⟩) (mpV_13 hZ hT hS hW tz_64 _) rfl rfl hl.1 rfl (lv_room (Nat.le_of_ble_eq_true rfl)) dX13_asksLine_14 ⟨Nat.zero_le _, Nat.zero_le _⟩) (fun r_3 σ_4 H locs hf hW hS => ?_)
    refine lv_istore_n (lv' := [(2, .int r_3), (1, .int r_1), (0, .ref (bs g 64))]) hx hb dX13_asksLine_17 rfl hl (by decide) rfl (fun ls hl => ?_)
    refine lv_aload_n hx hb dX13_asksLine_18 rfl (lv_at hl 2 rfl) ?_
    refine gf_13_13 hx hb htg (htg _ lf_X13_97) hown hZ hW tz_64 dX13_asksLine_19 ?_
    refine jn1_W (fun (σ_5 : Mem) => ∀ (H : Heap) (locs : List Loc) (ls : Array Slot), Wd g 0 81 σ_5 H → va_S (Ag g 0) s.heap H locs → lv_has ls 4 [(0, .ref (bs g 64)), (1, .int r_1), (2, .int r_3)] → W p l e (kr 8 173) s m (List.toArray [.ref (bs g 64)]) below meth c H locs 0 0 Q (F0 m 55 ls [])) hf (fun σ_5 hf => ?_) (fun k_6 hk_6 hf => ?_)
    · intro H locs ls hW hS hl
      refine lv_aload_n hx hb dX13_asksLine_55 rfl (lv_at hl 0 rfl) ?_
      refine gf_13_13 hx hb htg (htg _ lf_X13_97) hown hZ hW tz_64 dX13_asksLine_56 ?_
      refine lv_if_eq (tgt := 63) hx hb dX13_asksLine_59 (by decide) (fun hc => ?_) (fun hc => ?_)
      · have hf := ift hc hf
        refine lv_aload_n hx hb dX13_asksLine_63 rfl (lv_at hl 0 rfl) ?_
        refine mcv hf hS (fun τ h => va_runV (As := []) (rest := []) ⟨hx, hb, hml, hown, hts⟩ (c_X13_next g l σ_5 τ h) (cl_X13_118 hts ⟨Nat.le_of_ble_eq_true rfl, Nat.le_of_ble_eq_true rfl⟩) (mpV_13 hZ hT hS hW tz_64 _) rfl rfl hl.1 rfl (lv_room (Nat.le_of_ble_eq_true rfl)) dX13_asksLine_64 ⟨Nat.zero_le _, Nat.zero_le _⟩) (fun σ_7 H locs hf hW hS => ?_)
        refine lv_aload_n hx hb dX13_asksLine_67 rfl (lv_at hl 0 rfl) ?_
        refine va_ldcS (q := adS g 14) hx hb hown (lr_X13_245 hZ) dX13_asksLine_68 ?_
        refine lv_iconst (v := 0) hx hb dX13_asksLine_70 (by decide) ?_
        refine lv_bipush (v := 100) hx hb dX13_asksLine_71 (by decide) ?_
        refine mci hf hS (fun r τ h => va_runV (As := [.ref (adS g 14), .int 0, .int 100]) (rest := []) ⟨hx, hb, hml, hown, hts⟩ (c_X13_after g l σ_7 14 0 100 (show 14 < 19 by decide) r τ h) (cl_X13_215 hts ⟨Nat.le_of_ble_eq_true rfl, Nat.le_of_ble_eq_true rfl⟩) (mpV_13 hZ hT hS hW tz_64 _) rfl rfl hl.1 rfl (lv_room (Nat.le_of_ble_eq_true rfl)) dX13_asksLine_73 ⟨Nat.zero_le _, Nat.zero_le _⟩) (fun r_8 σ_9 H locs hf hW hS => ?_)
        refine lv_istore_n (lv' := [(3, .int r_8), (0, .ref (bs g 64)), (1, .int r_1), (2, .int r_3)]) hx hb dX13_asksLine_76 rfl hl (by decide) rfl (fun ls hl => ?_)
        refine lv_aload_n hx hb dX13_asksLine_77 rfl (lv_at hl 1 rfl) ?_
        refine gf_13_13 hx hb htg (htg _ lf_X13_97) hown hZ hW tz_64 dX13_asksLine_78 ?_
        refine lv_if_eq (tgt := 85) hx hb dX13_asksLine_81 (by decide) (fun hc => ?_) (fun hc => ?_)
        · have hf := ift hc hf
          refine lv_aload_n hx hb dX13_asksLine_85 rfl (lv_at hl 1 rfl) ?_
          refine gf_13_16 hx hb htg (htg _ lf_X13_23) hown hZ hW tz_64 dX13_asksLine_86 ?_
          refine lv_bipush (v := 100) hx hb dX13_asksLine_89 (by decide) ?_
          refine lv_iconst (v := 5) hx hb dX13_asksLine_91 (by decide) ?_
          refine lv_iload_n hx hb dX13_asksLine_92 rfl (lv_at hl 2 rfl) ?_
          refine lv_imul hx hb dX13_asksLine_93 ?_
          refine lv_iadd hx hb dX13_asksLine_94 ?_
          refine lv_iload_n hx hb dX13_asksLine_95 rfl (lv_at hl 3 rfl) ?_
          refine lv_iadd hx hb dX13_asksLine_96 ?_
          refine lv_iload_n hx hb dX13_asksLine_97 rfl (lv_at hl 0 rfl) ?_
          refine lv_iconst (v := 1) hx hb dX13_asksLine_98 (by decide) ?_
          refine lv_iadd hx hb dX13_asksLine_99 ?_
          refine mst_i hx hb hZ hW hS tz_68 hf dX13_asksLine_100 (fun σ_10 H locs hf hW hS => ?_)
          refine lv_aload_n hx hb dX13_asksLine_101 rfl (lv_at hl 1 rfl) ?_
          refine gf_13_16 hx hb htg (htg _ lf_X13_23) hown hZ hW tz_64 dX13_asksLine_102 ?_
          refine lv_bipush (v := 8) hx hb dX13_asksLine_105 (by decide) ?_
          refine lv_dup2_11 hx hb dX13_asksLine_107 rfl rfl ?_
          refine mld_i hx hb hZ hW tz_68 hf dX13_asksLine_108 (fun hf => ?_)
          refine lv_iconst (v := 1) hx hb dX13_asksLine_109 (by decide) ?_
          refine lv_iadd hx hb dX13_asksLine_110 ?_
          refine mst_i hx hb hZ hW hS tz_68 hf dX13_asksLine_111 (fun σ_11 H locs hf hW hS => ?_)
          subst hQ
          exact mrv hx hb hr hlocks hZ hT hS hW (Option.some.inj hf) dX13_asksLine_112
        · have hf := iff_ hc hf
          subst hQ
          exact mrv hx hb hr hlocks hZ hT hS hW (Option.some.inj hf) dX13_asksLine_84
      · have hf := iff_ hc hf
        subst hQ
        exact mrv hx hb hr hlocks hZ hT hS hW (Option.some.inj hf) dX13_asksLine_62
    · refine lv_if_ne (tgt := 55) hx hb dX13_asksLine_22 (by decide) (fun hc => ?_) (fun hc => ?_)
      · have hf := iff_ hc hf
        exact hk_6 σ_4 hf H locs ls hW hS (lv_sub hl [2, 1, 0] rfl)
      · have hf := ift hc hf
        refine lv_iload_n hx hb dX13_asksLine_25 rfl (lv_at hl 1 rfl) ?_
        refine lv_iload_n hx hb dX13_asksLine_26 rfl (lv_at hl 0 rfl) ?_
        refine jn0_W (∀ (H : Heap) (locs : List Loc) (ls : Array Slot), Wd g 0 81 σ_4 H → va_S (Ag g 0) s.heap H locs → lv_has ls 4 [(0, .ref (bs g 64)), (1, .int r_1), (2, .int r_3)] → W p l e (kr 8 173) s m (List.toArray [.ref (bs g 64)]) below meth c H locs 0 0 Q (F0 m 46 ls [])) hf (fun  hf => ?_) (fun k_12 hk_12 hf => ?_)
        · intro H locs ls hW hS hl
          refine lv_aload_n hx hb dX13_asksLine_46 rfl (lv_at hl 0 rfl) ?_
          refine lv_iconst (v := 3) hx hb dX13_asksLine_47 (by decide) ?_
          refine lv_aload_n hx hb dX13_asksLine_48 rfl (lv_at hl 0 rfl) ?_
          refine gf_13_4 hx hb htg (htg _ lf_X13_78) hown hZ hW tz_64 dX13_asksLine_49 ?_
          refine mcv hf hS (fun τ h => va_runV (As := [.int 3, .int (σ_4.1 64 4)]) (rest := []) ⟨hx, hb, hml, hown, hts⟩ (c_X13_wrong g l σ_4 3 (σ_4.1 64 4) τ h) (cl_X13_124 hts ⟨Nat.le_of_ble_eq_true rfl, Nat.le_of_ble_eq_true rfl⟩) (mpV_13 hZ hT hS hW tz_64 _) rfl rfl hl.1 rfl (lv_room (Nat.le_of_ble_eq_true rfl)) dX13_asksLine_52 ⟨Nat.zero_le _, Nat.zero_le _⟩) (fun σ_13 H locs hf hW hS => ?_)
          exact hk_6 σ_13 hf H locs ls hW hS (lv_sub hl [0, 1, 2] rfl)
        · refine lv_icmp_eq (tgt := 46) hx hb dX13_asksLine_27 (by decide) (fun hc => ?_) (fun hc => ?_)
          · have hf := ift hc hf
            exact hk_12  hf H locs ls hW hS (lv_sub hl [2, 1, 0] rfl)
          · have hf := iff_ hc hf
            refine lv_aload_n hx hb dX13_asksLine_30 rfl (lv_at hl 2 rfl) ?_
            refine gf_13_16 hx hb htg (htg _ lf_X13_23) hown hZ hW tz_64 dX13_asksLine_31 ?_
            refine lv_bipush (v := 100) hx hb dX13_asksLine_34 (by decide) ?_
            refine lv_iconst (v := 5) hx hb dX13_asksLine_36 (by decide) ?_
            refine lv_iload_n hx hb dX13_asksLine_37 rfl (lv_at hl 1 rfl) ?_
            refine lv_imul hx hb dX13_asksLine_38 ?_
            refine lv_iadd hx hb dX13_asksLine_39 ?_
            refine lv_iload_n hx hb dX13_asksLine_40 rfl (lv_at hl 0 rfl) ?_
            refine lv_iadd hx hb dX13_asksLine_41 ?_
            refine mld_i hx hb hZ hW tz_68 hf dX13_asksLine_42 (fun hf => ?_)
            refine lv_if_le (tgt := 55) hx hb dX13_asksLine_43 (by decide) (fun hc => ?_) (fun hc => ?_)
            · have hf := ift hc hf
              exact hk_6 σ_4 hf H locs ls hW hS (lv_sub hl [2, 1, 0] rfl)
            · have hf := iff_ hc hf
              exact hk_12  hf H locs ls hW hS (lv_sub hl [2, 1, 0] rfl)
  · have hf := iff_ hc hf
    subst hQ
    exact mrv hx hb hr hlocks hZ hT hS hW (Option.some.inj hf) dX13_asksLine_7
def f_X13_stareLine (σ : Mem)  : Option (Mem) :=
  (if (σ.1 64 13) = 0 then bd2 (f_X13_personHere σ) (fun (r_1 : Int32) (σ_2 : Mem) => jn1 (fun (σ_3 : Mem) => (if (σ_3.1 64 13) = 0 then bd1 (f_X13_next σ_3) (fun (σ_5 : Mem) => ixd 0 (aln 68) (bd2 (f_X13_number σ_5 0 (σ_5.1 68 (0 : Int32).toNatClampNeg)) (fun (r_6 : Int32) (σ_7 : Mem) => (if (σ_7.1 64 13) = 0 then ixd (125 + r_1) (aln 68) (nm (sI σ_7 68 (125 + r_1).toNatClampNeg (r_6 + 1)) (fun (σ_8 : Mem) => ixd 9 (aln 68) (ixd 9 (aln 68) (nm (sI σ_8 68 (9 : Int32).toNatClampNeg ((σ_8.1 68 (9 : Int32).toNatClampNeg) + 1)) (fun (σ_9 : Mem) => some σ_9))))) else some σ_7)))) else some σ_3)) (fun k_4 => (if (σ_2.1 64 13) = 0 then ixd (125 + r_1) (aln 68) ((if (σ_2.1 68 (125 + r_1).toNatClampNeg) ≤ 0 then k_4 σ_2 else bd1 (f_X13_wrong σ_2 3 (σ_2.1 64 4)) (fun (σ_10 : Mem) => k_4 σ_10))) else k_4 σ_2))) else some σ)
set_option maxHeartbeats 4000000 in
set_option maxRecDepth 100000 in
theorem c_X13_stareLine (g : XG) (l : Launch) (σ : Mem) (τ : Mem) (hf : f_X13_stareLine σ = some τ) : Met l yX13_stareLine (wx (.code yX13_stareLine cX13_stareLine 3 none)) (kr 7 149) (va_Pc [.ref (bs g 64)] (WS g 0 81 σ)) (Qv' g 0 81 τ) 0 0 (Ag g 0) := by
  refine Met.ofW (cc := cX13_stareLine) (maxL := 3) (ret := none) (by decide) rfl ?_
  intro p e s m args below meth c s₁ B hml hv
  obtain ⟨rfl, hZ, hT, hW⟩ := hv
  have hx := B.exec
  have hb := B.bytes
  have hr := B.returns
  have hts : ∀ w ∈ wx (.code yX13_stareLine cX13_stareLine 3 none), w.before _ s = true := atoms_spec B.pre
  have htg : ∀ w ∈ lwg, w.before _ s = true := fun w h => hts w (List.mem_cons_of_mem _ h)
  have hown : s.vm.findClass RX13 = some m.cls := findClass_of_methodNamed B.named
  have hlocks := B.notSynchronized
  change W p l e (kr 7 149) s m (List.toArray [.ref (bs g 64)]) below meth c s.heap [] 0 0 (MQ below (Qv' g 0 81 τ) (List.toArray [.ref (bs g 64)]) s 0 0 (Ag g 0)) _
  generalize hQ : MQ below (Qv' g 0 81 τ) (List.toArray [.ref (bs g 64)]) s 0 0 (Ag g 0) = Q
  have hS : va_S (Ag g 0) s.heap s.heap [] := va_S.rf
  have hl := lv_entry ([.ref (bs g 64)]) (n := 3) (Nat.le_of_ble_eq_true rfl)
  rw [lg_entry_eq]
  generalize (lg_sl ([.ref (bs g 64)]) ++ List.replicate (3 - (lg_sl ([.ref (bs g 64)])).length) Slot.unset).toArray = ls at hl ⊢
  have hl : lv_has ls 3 [(0, .ref (bs g 64))] := hl
  delta f_X13_stareLine at hf
  obtain ⟨H, hH⟩ : ∃ H, H = s.heap := ⟨_, rfl⟩
  obtain ⟨locs, hLc⟩ : ∃ z : List Loc, z = [] := ⟨_, rfl⟩
  have hS : va_S (Ag g 0) s.heap H locs := by rw [hH, hLc]; exact hS
  have hW : Wd g 0 81 σ H := by rw [hH]; exact hW
  suffices hG : W p l e (kr 7 149) s m (List.toArray [.ref (bs g 64)]) below meth c H locs 0 0 Q (F0 m 0 ls []) by rw [hH, hLc] at hG; exact hG
  clear hH hLc
  refine lv_aload_n hx hb dX13_stareLine_0 rfl (lv_at hl 0 rfl) ?_
  refine gf_13_13 hx hb htg (htg _ lf_X13_97) hown hZ hW tz_64 dX13_stareLine_1 ?_
  refine lv_if_eq (tgt := 8) hx hb dX13_stareLine_4 (by decide) (fun hc => ?_) (fun hc => ?_)
  · have hf := ift hc hf
    refine lv_aload_n hx hb dX13_stareLine_8 rfl (lv_at hl 0 rfl) ?_
    refine mci hf hS (fun r τ h => va_runV (As := []) (rest := []) ⟨hx, hb, hml, hown, hts⟩ (c_X13_personHere g l σ r τ h) (cl_X13_148 hts ⟨Nat.le_of_ble_eq_true rfl, Nat.le_of_ble_eq_true rfl⟩) (mpV_13 hZ hT hS hW tz_64 _) rfl rfl hl.1 rfl (lv_room (Nat.le_of_ble_eq_true rfl)) dX13_stareLine_9 ⟨Nat.zero_le _, Nat.zero_le _⟩) (fun r_1 σ_2 H locs hf hW hS => ?_)
    refine lv_istore_n (lv' := [(1, .int r_1), (0, .ref (bs g 64))]) hx hb dX13_stareLine_12 rfl hl (by decide) rfl (fun ls hl => ?_)
    refine lv_aload_n hx hb dX13_stareLine_13 rfl (lv_at hl 1 rfl) ?_
    refine gf_13_13 hx hb htg (htg _ lf_X13_97) hown hZ hW tz_64 dX13_stareLine_14 ?_
    refine jn1_W (fun (σ_3 : Mem) => ∀ (H : Heap) (locs : List Loc) (ls : Array Slot), Wd g 0 81 σ_3 H → va_S (Ag g 0) s.heap H locs → lv_has ls 3 [(0, .ref (bs g 64)), (1, .int r_1)] → W p l e (kr 7 149) s m (List.toArray [.ref (bs g 64)]) below meth c H locs 0 0 Q (F0 m 41 ls [])) hf (fun σ_3 hf => ?_) (fun k_4 hk_4 hf => ?_)
    · intro H locs ls hW hS hl
      refine lv_aload_n hx hb dX13_stareLine_41 rfl (lv_at hl 0 rfl) ?_
      refine gf_13_13 hx hb htg (htg _ lf_X13_97) hown hZ hW tz_64 dX13_stareLine_42 ?_
      refine lv_if_eq (tgt := 49) hx hb dX13_stareLine_45 (by decide) (fun hc => ?_) (fun hc => ?_)
      · have hf := ift hc hf
        refine lv_aload_n hx hb dX13_stareLine_49 rfl (lv_at hl 0 rfl) ?_
        refine mcv hf hS (fun τ h => va_runV (As := []) (rest := []) ⟨hx, hb, hml, hown, hts⟩ (c_X13_next g l σ_3 τ h) (cl_X13_118 hts ⟨Nat.le_of_ble_eq_true rfl, Nat.le_of_ble_eq_true rfl⟩) (mpV_13 hZ hT hS hW tz_64 _) rfl rfl hl.1 rfl (lv_room (Nat.le_of_ble_eq_true rfl)) dX13_stareLine_50 ⟨Nat.zero_le _, Nat.zero_le _⟩) (fun σ_5 H locs hf hW hS => ?_)
        refine lv_aload_n hx hb dX13_stareLine_53 rfl (lv_at hl 0 rfl) ?_
        refine lv_iconst (v := 0) hx hb dX13_stareLine_54 (by decide) ?_
        refine lv_aload_n hx hb dX13_stareLine_55 rfl (lv_at hl 0 rfl) ?_
        refine gf_13_16 hx hb htg (htg _ lf_X13_23) hown hZ hW tz_64 dX13_stareLine_56 ?_
        refine lv_iconst (v := 0) hx hb dX13_stareLine_59 (by decide) ?_
        refine mld_i hx hb hZ hW tz_68 hf dX13_stareLine_60 (fun hf => ?_)
        refine mci hf hS (fun r τ h => va_runV (As := [.int 0, .int (σ_5.1 68 (0 : Int32).toNatClampNeg)]) (rest := []) ⟨hx, hb, hml, hown, hts⟩ (c_X13_number g l σ_5 0 (σ_5.1 68 (0 : Int32).toNatClampNeg) r τ h) (cl_X13_163 hts ⟨Nat.le_of_ble_eq_true rfl, Nat.le_of_ble_eq_true rfl⟩) (mpV_13 hZ hT hS hW tz_64 _) rfl rfl hl.1 rfl (lv_room (Nat.le_of_ble_eq_true rfl)) dX13_stareLine_61 ⟨Nat.zero_le _, Nat.zero_le _⟩) (fun r_6 σ_7 H locs hf hW hS => ?_)
        refine lv_istore_n (lv' := [(2, .int r_6), (0, .ref (bs g 64)), (1, .int r_1)]) hx hb dX13_stareLine_64 rfl hl (by decide) rfl (fun ls hl => ?_)
        refine lv_aload_n hx hb dX13_stareLine_65 rfl (lv_at hl 1 rfl) ?_
        refine gf_13_13 hx hb htg (htg _ lf_X13_97) hown hZ hW tz_64 dX13_stareLine_66 ?_
        refine lv_if_eq (tgt := 73) hx hb dX13_stareLine_69 (by decide) (fun hc => ?_) (fun hc => ?_)
        · have hf := ift hc hf
          refine lv_aload_n hx hb dX13_stareLine_73 rfl (lv_at hl 1 rfl) ?_
          refine gf_13_16 hx hb htg (htg _ lf_X13_23) hown hZ hW tz_64 dX13_stareLine_74 ?_
          refine lv_bipush (v := 125) hx hb dX13_stareLine_77 (by decide) ?_
          refine lv_iload_n hx hb dX13_stareLine_79 rfl (lv_at hl 2 rfl) ?_
          refine lv_iadd hx hb dX13_stareLine_80 ?_
          refine lv_iload_n hx hb dX13_stareLine_81 rfl (lv_at hl 0 rfl) ?_
          refine lv_iconst (v := 1) hx hb dX13_stareLine_82 (by decide) ?_
          refine lv_iadd hx hb dX13_stareLine_83 ?_
          refine mst_i hx hb hZ hW hS tz_68 hf dX13_stareLine_84 (fun σ_8 H locs hf hW hS => ?_)
          refine lv_aload_n hx hb dX13_stareLine_85 rfl (lv_at hl 1 rfl) ?_
          refine gf_13_16 hx hb htg (htg _ lf_X13_23) hown hZ hW tz_64 dX13_stareLine_86 ?_
          refine lv_bipush (v := 9) hx hb dX13_stareLine_89 (by decide) ?_
          refine lv_dup2_11 hx hb dX13_stareLine_91 rfl rfl ?_
          refine mld_i hx hb hZ hW tz_68 hf dX13_stareLine_92 (fun hf => ?_)
          refine lv_iconst (v := 1) hx hb dX13_stareLine_93 (by decide) ?_
          refine lv_iadd hx hb dX13_stareLine_94 ?_
          refine mst_i hx hb hZ hW hS tz_68 hf dX13_stareLine_95 (fun σ_9 H locs hf hW hS => ?_)
          subst hQ
          exact mrv hx hb hr hlocks hZ hT hS hW (Option.some.inj hf) dX13_stareLine_96
        · have hf := iff_ hc hf
          subst hQ
          exact mrv hx hb hr hlocks hZ hT hS hW (Option.some.inj hf) dX13_stareLine_72
      · have hf := iff_ hc hf
        subst hQ
        exact mrv hx hb hr hlocks hZ hT hS hW (Option.some.inj hf) dX13_stareLine_48
    · refine lv_if_ne (tgt := 41) hx hb dX13_stareLine_17 (by decide) (fun hc => ?_) (fun hc => ?_)
      · have hf := iff_ hc hf
        exact hk_4 σ_2 hf H locs ls hW hS (lv_sub hl [1, 0] rfl)
      · have hf := ift hc hf
        refine lv_aload_n hx hb dX13_stareLine_20 rfl (lv_at hl 1 rfl) ?_
        refine gf_13_16 hx hb htg (htg _ lf_X13_23) hown hZ hW tz_64 dX13_stareLine_21 ?_
        refine lv_bipush (v := 125) hx hb dX13_stareLine_24 (by decide) ?_
        refine lv_iload_n hx hb dX13_stareLine_26 rfl (lv_at hl 0 rfl) ?_
        refine lv_iadd hx hb dX13_stareLine_27 ?_
        refine mld_i hx hb hZ hW tz_68 hf dX13_stareLine_28 (fun hf => ?_)
        refine lv_if_le (tgt := 41) hx hb dX13_stareLine_29 (by decide) (fun hc => ?_) (fun hc => ?_)
        · have hf := ift hc hf
          exact hk_4 σ_2 hf H locs ls hW hS (lv_sub hl [1, 0] rfl)
        · have hf := iff_ hc hf
          refine lv_aload_n hx hb dX13_stareLine_32 rfl (lv_at hl 1 rfl) ?_
          refine lv_iconst (v := 3) hx hb dX13_stareLine_33 (by decide) ?_
          refine lv_aload_n hx hb dX13_stareLine_34 rfl (lv_at hl 1 rfl) ?_
          refine gf_13_4 hx hb htg (htg _ lf_X13_78) hown hZ hW tz_64 dX13_stareLine_35 ?_
          refine mcv hf hS (fun τ h => va_runV (As := [.int 3, .int (σ_2.1 64 4)]) (rest := []) ⟨hx, hb, hml, hown, hts⟩ (c_X13_wrong g l σ_2 3 (σ_2.1 64 4) τ h) (cl_X13_124 hts ⟨Nat.le_of_ble_eq_true rfl, Nat.le_of_ble_eq_true rfl⟩) (mpV_13 hZ hT hS hW tz_64 _) rfl rfl hl.1 rfl (lv_room (Nat.le_of_ble_eq_true rfl)) dX13_stareLine_38 ⟨Nat.zero_le _, Nat.zero_le _⟩) (fun σ_10 H locs hf hW hS => ?_)
          exact hk_4 σ_10 hf H locs ls hW hS (lv_sub hl [1, 0] rfl)
  · have hf := iff_ hc hf
    subst hQ
    exact mrv hx hb hr hlocks hZ hT hS hW (Option.some.inj hf) dX13_stareLine_7
def f_X13_readLine (σ : Mem)  : Option (Mem) :=
  bd1 (f_X13_isWord σ 0) (fun (r_1 : Int32) => (if r_1 = 0 then ixd 4 (aln 68) (jn1 (fun (i_2 : Int32) => bd2 (f_X13_begins σ 1 i_2) (fun (r_4 : Int32) (σ_5 : Mem) => (if r_4 = 0 then ixd 5 (aln 68) (jn1 (fun (i_6 : Int32) => bd2 (f_X13_begins σ_5 2 i_6) (fun (r_8 : Int32) (σ_9 : Mem) => (if r_8 = 0 then ixd 6 (aln 68) (jn1 (fun (i_10 : Int32) => bd2 (f_X13_begins σ_9 3 i_10) (fun (r_12 : Int32) (σ_13 : Mem) => (if r_12 = 0 then ixd 7 (aln 68) (jn1 (fun (i_14 : Int32) => bd2 (f_X13_begins σ_13 4 i_14) (fun (r_16 : Int32) (σ_17 : Mem) => (if r_16 = 0 then ixd 8 (aln 68) (jn1 (fun (i_18 : Int32) => bd2 (f_X13_begins σ_17 5 i_18) (fun (r_20 : Int32) (σ_21 : Mem) => (if r_20 = 0 then ixd 9 (aln 68) (jn1 (fun (i_22 : Int32) => bd2 (f_X13_begins σ_21 6 i_22) (fun (r_24 : Int32) (σ_25 : Mem) => (if r_24 = 0 then bd1 (f_X13_wrong σ_25 1 (σ_25.1 64 4)) (fun (σ_26 : Mem) => some σ_26) else bd1 (f_X13_stareLine σ_25) (fun (σ_27 : Mem) => some σ_27)))) (fun k_23 => (if 5 ≤ (σ_21.1 68 (9 : Int32).toNatClampNeg) then k_23 0 else k_23 1))) else bd1 (f_X13_asksLine σ_21) (fun (σ_28 : Mem) => some σ_28)))) (fun k_19 => (if 8 ≤ (σ_17.1 68 (8 : Int32).toNatClampNeg) then k_19 0 else k_19 1))) else bd1 (f_X13_wishLine σ_17) (fun (σ_29 : Mem) => some σ_29)))) (fun k_15 => (if 5 ≤ (σ_13.1 68 (7 : Int32).toNatClampNeg) then k_15 0 else k_15 1))) else bd1 (f_X13_visitLine σ_13) (fun (σ_30 : Mem) => some σ_30)))) (fun k_11 => (if 10 ≤ (σ_9.1 68 (6 : Int32).toNatClampNeg) then k_11 0 else k_11 1))) else bd1 (f_X13_changeLine σ_9) (fun (σ_31 : Mem) => some σ_31)))) (fun k_7 => (if 10 ≤ (σ_5.1 68 (5 : Int32).toNatClampNeg) then k_7 0 else k_7 1))) else bd1 (f_X13_personLine σ_5) (fun (σ_32 : Mem) => some σ_32)))) (fun k_3 => (if 5 ≤ (σ.1 68 (4 : Int32).toNatClampNeg) then k_3 0 else k_3 1))) else bd1 (f_X13_townLine σ) (fun (σ_33 : Mem) => some σ_33)))
set_option maxHeartbeats 4000000 in
set_option maxRecDepth 100000 in
theorem c_X13_readLine (g : XG) (l : Launch) (σ : Mem) (τ : Mem) (hf : f_X13_readLine σ = some τ) : Met l yX13_readLine (wx (.code yX13_readLine cX13_readLine 1 none)) (kr 9 197) (va_Pc [.ref (bs g 64)] (WS g 0 81 σ)) (Qv' g 0 81 τ) 0 0 (Ag g 0) := by
  refine Met.ofW (cc := cX13_readLine) (maxL := 1) (ret := none) (by decide) rfl ?_
  intro p e s m args below meth c s₁ B hml hv
  obtain ⟨rfl, hZ, hT, hW⟩ := hv
  have hx := B.exec
  have hb := B.bytes
  have hr := B.returns
  have hts : ∀ w ∈ wx (.code yX13_readLine cX13_readLine 1 none), w.before _ s = true := atoms_spec B.pre
  have htg : ∀ w ∈ lwg, w.before _ s = true := fun w h => hts w (List.mem_cons_of_mem _ h)
  have hown : s.vm.findClass RX13 = some m.cls := findClass_of_methodNamed B.named
  have hlocks := B.notSynchronized
  change W p l e (kr 9 197) s m (List.toArray [.ref (bs g 64)]) below meth c s.heap [] 0 0 (MQ below (Qv' g 0 81 τ) (List.toArray [.ref (bs g 64)]) s 0 0 (Ag g 0)) _
  generalize hQ : MQ below (Qv' g 0 81 τ) (List.toArray [.ref (bs g 64)]) s 0 0 (Ag g 0) = Q
  have hS : va_S (Ag g 0) s.heap s.heap [] := va_S.rf
  have hl := lv_entry ([.ref (bs g 64)]) (n := 1) (Nat.le_of_ble_eq_true rfl)
  rw [lg_entry_eq]
  generalize (lg_sl ([.ref (bs g 64)]) ++ List.replicate (1 - (lg_sl ([.ref (bs g 64)])).length) Slot.unset).toArray = ls at hl ⊢
  have hl : lv_has ls 1 [(0, .ref (bs g 64))] := hl
  delta f_X13_readLine at hf
  obtain ⟨H, hH⟩ : ∃ H, H = s.heap := ⟨_, rfl⟩
  obtain ⟨locs, hLc⟩ : ∃ z : List Loc, z = [] := ⟨_, rfl⟩
  have hS : va_S (Ag g 0) s.heap H locs := by rw [hH, hLc]; exact hS
  have hW : Wd g 0 81 σ H := by rw [hH]; exact hW
  suffices hG : W p l e (kr 9 197) s m (List.toArray [.ref (bs g 64)]) below meth c H locs 0 0 Q (F0 m 0 ls []) by rw [hH, hLc] at hG; exact hG
  clear hH hLc
  refine lv_aload_n hx hb dX13_readLine_0 rfl (lv_at hl 0 rfl) ?_
  refine va_ldcS (q := adS g 0) hx hb hown (lr_X13_128 hZ) dX13_readLine_1 ?_
  refine mcip hf hS (fun r h => va_runV (As := [.ref (adS g 0)]) (rest := []) ⟨hx, hb, hml, hown, hts⟩ (c_X13_isWord g l σ 0 (show 0 < 19 by decide) r h) (cl_X13_114 hts ⟨Nat.le_of_ble_eq_true rfl, Nat.le_of_ble_eq_true rfl⟩) (mpV_13 hZ hT hS hW tz_64 _) rfl rfl hl.1 rfl (lv_room (Nat.le_of_ble_eq_true rfl)) dX13_readLine_3 ⟨Nat.zero_le _, Nat.zero_le _⟩) (fun r_1 H locs hf hW hS => ?_)
  refine lv_if_eq (tgt := 16) hx hb dX13_readLine_6 (by decide) (fun hc => ?_) (fun hc => ?_)
  · have hf := ift hc hf
    refine lv_aload_n hx hb dX13_readLine_16 rfl (lv_at hl 0 rfl) ?_
    refine va_ldcS (q := adS g 1) hx hb hown (lr_X13_130 hZ) dX13_readLine_17 ?_
    refine lv_aload_n hx hb dX13_readLine_19 rfl (lv_at hl 0 rfl) ?_
    refine gf_13_16 hx hb htg (htg _ lf_X13_23) hown hZ hW tz_64 dX13_readLine_20 ?_
    refine lv_iconst (v := 4) hx hb dX13_readLine_23 (by decide) ?_
    refine mld_i hx hb hZ hW tz_68 hf dX13_readLine_24 (fun hf => ?_)
    refine lv_iconst (v := 5) hx hb dX13_readLine_25 (by decide) ?_
    refine jn1_W (fun (i_2 : Int32) => ∀ (H : Heap) (locs : List Loc) (ls : Array Slot), Wd g 0 81 σ H → va_S (Ag g 0) s.heap H locs → lv_has ls 1 [(0, .ref (bs g 64))] → W p l e (kr 9 197) s m (List.toArray [.ref (bs g 64)]) below meth c H locs 0 0 Q (F0 m 34 ls [.int i_2, .ref (adS g 1), .ref (bs g 64)])) hf (fun i_2 hf => ?_) (fun k_3 hk_3 hf => ?_)
    · intro H locs ls hW hS hl
      refine mci hf hS (fun r τ h => va_runV (As := [.ref (adS g 1), .int i_2]) (rest := []) ⟨hx, hb, hml, hown, hts⟩ (c_X13_begins g l σ 1 i_2 (show 1 < 19 by decide) r τ h) (cl_X13_191 hts ⟨Nat.le_of_ble_eq_true rfl, Nat.le_of_ble_eq_true rfl⟩) (mpV_13 hZ hT hS hW tz_64 _) rfl rfl hl.1 rfl (lv_room (Nat.le_of_ble_eq_true rfl)) dX13_readLine_34 ⟨Nat.zero_le _, Nat.zero_le _⟩) (fun r_4 σ_5 H locs hf hW hS => ?_)
      refine lv_if_eq (tgt := 47) hx hb dX13_readLine_37 (by decide) (fun hc => ?_) (fun hc => ?_)
      · have hf := ift hc hf
        refine lv_aload_n hx hb dX13_readLine_47 rfl (lv_at hl 0 rfl) ?_
        refine va_ldcS (q := adS g 2) hx hb hown (lr_X13_132 hZ) dX13_readLine_48 ?_
        refine lv_aload_n hx hb dX13_readLine_50 rfl (lv_at hl 0 rfl) ?_
        refine gf_13_16 hx hb htg (htg _ lf_X13_23) hown hZ hW tz_64 dX13_readLine_51 ?_
        refine lv_iconst (v := 5) hx hb dX13_readLine_54 (by decide) ?_
        refine mld_i hx hb hZ hW tz_68 hf dX13_readLine_55 (fun hf => ?_)
        refine lv_bipush (v := 10) hx hb dX13_readLine_56 (by decide) ?_
        refine jn1_W (fun (i_6 : Int32) => ∀ (H : Heap) (locs : List Loc) (ls : Array Slot), Wd g 0 81 σ_5 H → va_S (Ag g 0) s.heap H locs → lv_has ls 1 [(0, .ref (bs g 64))] → W p l e (kr 9 197) s m (List.toArray [.ref (bs g 64)]) below meth c H locs 0 0 Q (F0 m 66 ls [.int i_6, .ref (adS g 2), .ref (bs g 64)])) hf (fun i_6 hf => ?_) (fun k_7 hk_7 hf => ?_)
        · intro H locs ls hW hS hl
          refine mci hf hS (fun r τ h => va_runV (As := [.ref (adS g 2), .int i_6]) (rest := []) ⟨hx, hb, hml, hown, hts⟩ (c_X13_begins g l σ_5 2 i_6 (show 2 < 19 by decide) r τ h) (cl_X13_191 hts ⟨Nat.le_of_ble_eq_true rfl, Nat.le_of_ble_eq_true rfl⟩) (mpV_13 hZ hT hS hW tz_64 _) rfl rfl hl.1 rfl (lv_room (Nat.le_of_ble_eq_true rfl)) dX13_readLine_66 ⟨Nat.zero_le _, Nat.zero_le _⟩) (fun r_8 σ_9 H locs hf hW hS => ?_)
          refine lv_if_eq (tgt := 79) hx hb dX13_readLine_69 (by decide) (fun hc => ?_) (fun hc => ?_)
          · have hf := ift hc hf
            refine lv_aload_n hx hb dX13_readLine_79 rfl (lv_at hl 0 rfl) ?_
            refine va_ldcS (q := adS g 3) hx hb hown (lr_X13_134 hZ) dX13_readLine_80 ?_
            refine lv_aload_n hx hb dX13_readLine_82 rfl (lv_at hl 0 rfl) ?_
            refine gf_13_16 hx hb htg (htg _ lf_X13_23) hown hZ hW tz_64 dX13_readLine_83 ?_
            refine lv_bipush (v := 6) hx hb dX13_readLine_86 (by decide) ?_
            refine mld_i hx hb hZ hW tz_68 hf dX13_readLine_88 (fun hf => ?_)
            refine lv_bipush (v := 10) hx hb dX13_readLine_89 (by decide) ?_
            refine jn1_W (fun (i_10 : Int32) => ∀ (H : Heap) (locs : List Loc) (ls : Array Slot), Wd g 0 81 σ_9 H → va_S (Ag g 0) s.heap H locs → lv_has ls 1 [(0, .ref (bs g 64))] → W p l e (kr 9 197) s m (List.toArray [.ref (bs g 64)]) below meth c H locs 0 0 Q (F0 m 99 ls [.int i_10, .ref (adS g 3), .ref (bs g 64)])) hf (fun i_10 hf => ?_) (fun k_11 hk_11 hf => ?_)
            · intro H locs ls hW hS hl
              refine mci hf hS (fun r τ h => va_runV (As := [.ref (adS g 3), .int i_10]) (rest := []) ⟨hx, hb, hml, hown, hts⟩ (c_X13_begins g l σ_9 3 i_10 (show 3 < 19 by decide) r τ h) (cl_X13_191 hts ⟨Nat.le_of_ble_eq_true rfl, Nat.le_of_ble_eq_true rfl⟩) (mpV_13 hZ hT hS hW tz_64 _) rfl rfl hl.1 rfl (lv_room (Nat.le_of_ble_eq_true rfl)) dX13_readLine_99 ⟨Nat.zero_le _, Nat.zero_le _⟩) (fun r_12 σ_13 H locs hf hW hS => ?_)
              refine lv_if_eq (tgt := 112) hx hb dX13_readLine_102 (by decide) (fun hc => ?_) (fun hc => ?_)
              · have hf := ift hc hf
                refine lv_aload_n hx hb dX13_readLine_112 rfl (lv_at hl 0 rfl) ?_
                refine va_ldcS (q := adS g 4) hx hb hown (lr_X13_136 hZ) dX13_readLine_113 ?_
                refine lv_aload_n hx hb dX13_readLine_115 rfl (lv_at hl 0 rfl) ?_
                refine gf_13_16 hx hb htg (htg _ lf_X13_23) hown hZ hW tz_64 dX13_readLine_116 ?_
                refine lv_bipush (v := 7) hx hb dX13_readLine_119 (by decide) ?_
                refine mld_i hx hb hZ hW tz_68 hf dX13_readLine_121 (fun hf => ?_)
                refine lv_iconst (v := 5) hx hb dX13_readLine_122 (by decide) ?_
                refine jn1_W (fun (i_14 : Int32) => ∀ (H : Heap) (locs : List Loc) (ls : Array Slot), Wd g 0 81 σ_13 H → va_S (Ag g 0) s.heap H locs → lv_has ls 1 [(0, .ref (bs g 64))] → W p l e (kr 9 197) s m (List.toArray [.ref (bs g 64)]) below meth c H locs 0 0 Q (F0 m 131 ls [.int i_14, .ref (adS g 4), .ref (bs g 64)])) hf (fun i_14 hf => ?_) (fun k_15 hk_15 hf => ?_)
                · intro H locs ls hW hS hl
                  refine mci hf hS (fun r τ h => va_runV (As := [.ref (adS g 4), .int i_14]) (rest := []) ⟨hx, hb, hml, hown, hts⟩ (c_X13_begins g l σ_13 4 i_14 (show 4 < 19 by decide) r τ h) (cl_X13_191 hts ⟨Nat.le_of_ble_eq_true rfl, Nat.le_of_ble_eq_true rfl⟩) (mpV_13 hZ hT hS hW tz_64 _) rfl rfl hl.1 rfl (lv_room (Nat.le_of_ble_eq_true rfl)) dX13_readLine_131 ⟨Nat.zero_le _, Nat.zero_le _⟩) (fun r_16 σ_17 H locs hf hW hS => ?_)
                  refine lv_if_eq (tgt := 144) hx hb dX13_readLine_134 (by decide) (fun hc => ?_) (fun hc => ?_)
                  · have hf := ift hc hf
                    refine lv_aload_n hx hb dX13_readLine_144 rfl (lv_at hl 0 rfl) ?_
                    refine va_ldcS (q := adS g 5) hx hb hown (lr_X13_138 hZ) dX13_readLine_145 ?_
                    refine lv_aload_n hx hb dX13_readLine_147 rfl (lv_at hl 0 rfl) ?_
                    refine gf_13_16 hx hb htg (htg _ lf_X13_23) hown hZ hW tz_64 dX13_readLine_148 ?_
                    refine lv_bipush (v := 8) hx hb dX13_readLine_151 (by decide) ?_
                    refine mld_i hx hb hZ hW tz_68 hf dX13_readLine_153 (fun hf => ?_)
                    refine lv_bipush (v := 8) hx hb dX13_readLine_154 (by decide) ?_
                    refine jn1_W (fun (i_18 : Int32) => ∀ (H : Heap) (locs : List Loc) (ls : Array Slot), Wd g 0 81 σ_17 H → va_S (Ag g 0) s.heap H locs → lv_has ls 1 [(0, .ref (bs g 64))] → W p l e (kr 9 197) s m (List.toArray [.ref (bs g 64)]) below meth c H locs 0 0 Q (F0 m 164 ls [.int i_18, .ref (adS g 5), .ref (bs g 64)])) hf (fun i_18 hf => ?_) (fun k_19 hk_19 hf => ?_)
                    · intro H locs ls hW hS hl
                      refine mci hf hS (fun r τ h => va_runV (As := [.ref (adS g 5), .int i_18]) (rest := []) ⟨hx, hb, hml, hown, hts⟩ (c_X13_begins g l σ_17 5 i_18 (show 5 < 19 by decide) r τ h) (cl_X13_191 hts ⟨Nat.le_of_ble_eq_true rfl, Nat.le_of_ble_eq_true rfl⟩) (mpV_13 hZ hT hS hW tz_64 _) rfl rfl hl.1 rfl (lv_room (Nat.le_of_ble_eq_true rfl)) dX13_readLine_164 ⟨Nat.zero_le _, Nat.zero_le _⟩) (fun r_20 σ_21 H locs hf hW hS => ?_)
                      refine lv_if_eq (tgt := 177) hx hb dX13_readLine_167 (by decide) (fun hc => ?_) (fun hc => ?_)
                      · have hf := ift hc hf
                        refine lv_aload_n hx hb dX13_readLine_177 rfl (lv_at hl 0 rfl) ?_
                        refine va_ldcS (q := adS g 6) hx hb hown (lr_X13_140 hZ) dX13_readLine_178 ?_
                        refine lv_aload_n hx hb dX13_readLine_180 rfl (lv_at hl 0 rfl) ?_
                        refine gf_13_16 hx hb htg (htg _ lf_X13_23) hown hZ hW tz_64 dX13_readLine_181 ?_
                        refine lv_bipush (v := 9) hx hb dX13_readLine_184 (by decide) ?_
                        refine mld_i hx hb hZ hW tz_68 hf dX13_readLine_186 (fun hf => ?_)
                        refine lv_iconst (v := 5) hx hb dX13_readLine_187 (by decide) ?_
                        refine jn1_W (fun (i_22 : Int32) => ∀ (H : Heap) (locs : List Loc) (ls : Array Slot), Wd g 0 81 σ_21 H → va_S (Ag g 0) s.heap H locs → lv_has ls 1 [(0, .ref (bs g 64))] → W p l e (kr 9 197) s m (List.toArray [.ref (bs g 64)]) below meth c H locs 0 0 Q (F0 m 196 ls [.int i_22, .ref (adS g 6), .ref (bs g 64)])) hf (fun i_22 hf => ?_) (fun k_23 hk_23 hf => ?_)
                        · intro H locs ls hW hS hl
                          refine mci hf hS (fun r τ h => va_runV (As := [.ref (adS g 6), .int i_22]) (rest := []) ⟨hx, hb, hml, hown, hts⟩ (c_X13_begins g l σ_21 6 i_22 (show 6 < 19 by decide) r τ h) (cl_X13_191 hts ⟨Nat.le_of_ble_eq_true rfl, Nat.le_of_ble_eq_true rfl⟩) (mpV_13 hZ hT hS hW tz_64 _) rfl rfl hl.1 rfl (lv_room (Nat.le_of_ble_eq_true rfl)) dX13_readLine_196 ⟨Nat.zero_le _, Nat.zero_le _⟩) (fun r_24 σ_25 H locs hf hW hS => ?_)
                          refine lv_if_eq (tgt := 209) hx hb dX13_readLine_199 (by decide) (fun hc => ?_) (fun hc => ?_)
                          · have hf := ift hc hf
                            refine lv_aload_n hx hb dX13_readLine_209 rfl (lv_at hl 0 rfl) ?_
                            refine lv_iconst (v := 1) hx hb dX13_readLine_210 (by decide) ?_
                            refine lv_aload_n hx hb dX13_readLine_211 rfl (lv_at hl 0 rfl) ?_
                            refine gf_13_4 hx hb htg (htg _ lf_X13_78) hown hZ hW tz_64 dX13_readLine_212 ?_
                            refine mcv hf hS (fun τ h => va_runV (As := [.int 1, .int (σ_25.1 64 4)]) (rest := []) ⟨hx, hb, hml, hown, hts⟩ (c_X13_wrong g l σ_25 1 (σ_25.1 64 4) τ h) (cl_X13_124 hts ⟨Nat.le_of_ble_eq_true rfl, Nat.le_of_ble_eq_true rfl⟩) (mpV_13 hZ hT hS hW tz_64 _) rfl rfl hl.1 rfl (lv_room (Nat.le_of_ble_eq_true rfl)) dX13_readLine_215 ⟨Nat.zero_le _, Nat.zero_le _⟩) (fun σ_26 H locs hf hW hS => ?_)
                            subst hQ
                            exact mrv hx hb hr hlocks hZ hT hS hW (Option.some.inj hf) dX13_readLine_218
                          · have hf := iff_ hc hf
                            refine lv_aload_n hx hb dX13_readLine_202 rfl (lv_at hl 0 rfl) ?_
                            refine mcv hf hS (fun τ h => va_runV (As := []) (rest := []) ⟨hx, hb, hml, hown, hts⟩ (c_X13_stareLine g l σ_25 τ h) (cl_X13_210 hts ⟨Nat.le_of_ble_eq_true rfl, Nat.le_of_ble_eq_true rfl⟩) (mpV_13 hZ hT hS hW tz_64 _) rfl rfl hl.1 rfl (lv_room (Nat.le_of_ble_eq_true rfl)) dX13_readLine_203 ⟨Nat.zero_le _, Nat.zero_le _⟩) (fun σ_27 H locs hf hW hS => ?_)
                            refine lv_goto (tgt := 218) hx hb dX13_readLine_206 (by decide) ?_
                            subst hQ
                            exact mrv hx hb hr hlocks hZ hT hS hW (Option.some.inj hf) dX13_readLine_218
                        · refine lv_icmp_ge (tgt := 195) hx hb dX13_readLine_188 (by decide) (fun hc => ?_) (fun hc => ?_)
                          · have hf := ift hc hf
                            refine lv_iconst (v := 0) hx hb dX13_readLine_195 (by decide) ?_
                            exact hk_23 0 hf H locs ls hW hS (lv_sub hl [0] rfl)
                          · have hf := iff_ hc hf
                            refine lv_iconst (v := 1) hx hb dX13_readLine_191 (by decide) ?_
                            refine lv_goto (tgt := 196) hx hb dX13_readLine_192 (by decide) ?_
                            exact hk_23 1 hf H locs ls hW hS (lv_sub hl [0] rfl)
                      · have hf := iff_ hc hf
                        refine lv_aload_n hx hb dX13_readLine_170 rfl (lv_at hl 0 rfl) ?_
                        refine mcv hf hS (fun τ h => va_runV (As := []) (rest := []) ⟨hx, hb, hml, hown, hts⟩ (c_X13_asksLine g l σ_21 τ h) (cl_X13_207 hts ⟨Nat.le_of_ble_eq_true rfl, Nat.le_of_ble_eq_true rfl⟩) (mpV_13 hZ hT hS hW tz_64 _) rfl rfl hl.1 rfl (lv_room (Nat.le_of_ble_eq_true rfl)) dX13_readLine_171 ⟨Nat.zero_le _, Nat.zero_le _⟩) (fun σ_28 H locs hf hW hS => ?_)
                        refine lv_goto (tgt := 218) hx hb dX13_readLine_174 (by decide) ?_
                        subst hQ
                        exact mrv hx hb hr hlocks hZ hT hS hW (Option.some.inj hf) dX13_readLine_218
                    · refine lv_icmp_ge (tgt := 163) hx hb dX13_readLine_156 (by decide) (fun hc => ?_) (fun hc => ?_)
                      · have hf := ift hc hf
                        refine lv_iconst (v := 0) hx hb dX13_readLine_163 (by decide) ?_
                        exact hk_19 0 hf H locs ls hW hS (lv_sub hl [0] rfl)
                      · have hf := iff_ hc hf
                        refine lv_iconst (v := 1) hx hb dX13_readLine_159 (by decide) ?_
                        refine lv_goto (tgt := 164) hx hb dX13_readLine_160 (by decide) ?_
                        exact hk_19 1 hf H locs ls hW hS (lv_sub hl [0] rfl)
                  · have hf := iff_ hc hf
                    refine lv_aload_n hx hb dX13_readLine_137 rfl (lv_at hl 0 rfl) ?_
                    refine mcv hf hS (fun τ h => va_runV (As := []) (rest := []) ⟨hx, hb, hml, hown, hts⟩ (c_X13_wishLine g l σ_17 τ h) (cl_X13_204 hts ⟨Nat.le_of_ble_eq_true rfl, Nat.le_of_ble_eq_true rfl⟩) (mpV_13 hZ hT hS hW tz_64 _) rfl rfl hl.1 rfl (lv_room (Nat.le_of_ble_eq_true rfl)) dX13_readLine_138 ⟨Nat.zero_le _, Nat.zero_le _⟩) (fun σ_29 H locs hf hW hS => ?_)
                    refine lv_goto (tgt := 218) hx hb dX13_readLine_141 (by decide) ?_
                    subst hQ
                    exact mrv hx hb hr hlocks hZ hT hS hW (Option.some.inj hf) dX13_readLine_218
                · refine lv_icmp_ge (tgt := 130) hx hb dX13_readLine_123 (by decide) (fun hc => ?_) (fun hc => ?_)
                  · have hf := ift hc hf
                    refine lv_iconst (v := 0) hx hb dX13_readLine_130 (by decide) ?_
                    exact hk_15 0 hf H locs ls hW hS (lv_sub hl [0] rfl)
                  · have hf := iff_ hc hf
                    refine lv_iconst (v := 1) hx hb dX13_readLine_126 (by decide) ?_
                    refine lv_goto (tgt := 131) hx hb dX13_readLine_127 (by decide) ?_
                    exact hk_15 1 hf H locs ls hW hS (lv_sub hl [0] rfl)
              · have hf := iff_ hc hf
                refine lv_aload_n hx hb dX13_readLine_105 rfl (lv_at hl 0 rfl) ?_
                refine mcv hf hS (fun τ h => va_runV (As := []) (rest := []) ⟨hx, hb, hml, hown, hts⟩ (c_X13_visitLine g l σ_13 τ h) (cl_X13_201 hts ⟨Nat.le_of_ble_eq_true rfl, Nat.le_of_ble_eq_true rfl⟩) (mpV_13 hZ hT hS hW tz_64 _) rfl rfl hl.1 rfl (lv_room (Nat.le_of_ble_eq_true rfl)) dX13_readLine_106 ⟨Nat.zero_le _, Nat.zero_le _⟩) (fun σ_30 H locs hf hW hS => ?_)
                refine lv_goto (tgt := 218) hx hb dX13_readLine_109 (by decide) ?_
                subst hQ
                exact mrv hx hb hr hlocks hZ hT hS hW (Option.some.inj hf) dX13_readLine_218
            · refine lv_icmp_ge (tgt := 98) hx hb dX13_readLine_91 (by decide) (fun hc => ?_) (fun hc => ?_)
              · have hf := ift hc hf
                refine lv_iconst (v := 0) hx hb dX13_readLine_98 (by decide) ?_
                exact hk_11 0 hf H locs ls hW hS (lv_sub hl [0] rfl)
              · have hf := iff_ hc hf
                refine lv_iconst (v := 1) hx hb dX13_readLine_94 (by decide) ?_
                refine lv_goto (tgt := 99) hx hb dX13_readLine_95 (by decide) ?_
                exact hk_11 1 hf H locs ls hW hS (lv_sub hl [0] rfl)
          · have hf := iff_ hc hf
            refine lv_aload_n hx hb dX13_readLine_72 rfl (lv_at hl 0 rfl) ?_
            refine mcv hf hS (fun τ h => va_runV (As := []) (rest := []) ⟨hx, hb, hml, hown, hts⟩ (c_X13_changeLine g l σ_9 τ h) (cl_X13_198 hts ⟨Nat.le_of_ble_eq_true rfl, Nat.le_of_ble_eq_true rfl⟩) (mpV_13 hZ hT hS hW tz_64 _) rfl rfl hl.1 rfl (lv_room (Nat.le_of_ble_eq_true rfl)) dX13_readLine_73 ⟨Nat.zero_le _, Nat.zero_le _⟩) (fun σ_31 H locs hf hW hS => ?_)
            refine lv_goto (tgt := 218) hx hb dX13_readLine_76 (by decide) ?_
            subst hQ
            exact mrv hx hb hr hlocks hZ hT hS hW (Option.some.inj hf) dX13_readLine_218
        · refine lv_icmp_ge (tgt := 65) hx hb dX13_readLine_58 (by decide) (fun hc => ?_) (fun hc => ?_)
          · have hf := ift hc hf
            refine lv_iconst (v := 0) hx hb dX13_readLine_65 (by decide) ?_
            exact hk_7 0 hf H locs ls hW hS (lv_sub hl [0] rfl)
          · have hf := iff_ hc hf
            refine lv_iconst (v := 1) hx hb dX13_readLine_61 (by decide) ?_
            refine lv_goto (tgt := 66) hx hb dX13_readLine_62 (by decide) ?_
            exact hk_7 1 hf H locs ls hW hS (lv_sub hl [0] rfl)
      · have hf := iff_ hc hf
        refine lv_aload_n hx hb dX13_readLine_40 rfl (lv_at hl 0 rfl) ?_
        refine mcv hf hS (fun τ h => va_runV (As := []) (rest := []) ⟨hx, hb, hml, hown, hts⟩ (c_X13_personLine g l σ_5 τ h) (cl_X13_195 hts ⟨Nat.le_of_ble_eq_true rfl, Nat.le_of_ble_eq_true rfl⟩) (mpV_13 hZ hT hS hW tz_64 _) rfl rfl hl.1 rfl (lv_room (Nat.le_of_ble_eq_true rfl)) dX13_readLine_41 ⟨Nat.zero_le _, Nat.zero_le _⟩) (fun σ_32 H locs hf hW hS => ?_)
        refine lv_goto (tgt := 218) hx hb dX13_readLine_44 (by decide) ?_
        subst hQ
        exact mrv hx hb hr hlocks hZ hT hS hW (Option.some.inj hf) dX13_readLine_218
    · refine lv_icmp_ge (tgt := 33) hx hb dX13_readLine_26 (by decide) (fun hc => ?_) (fun hc => ?_)
      · have hf := ift hc hf
        refine lv_iconst (v := 0) hx hb dX13_readLine_33 (by decide) ?_
        exact hk_3 0 hf H locs ls hW hS (lv_sub hl [0] rfl)
      · have hf := iff_ hc hf
        refine lv_iconst (v := 1) hx hb dX13_readLine_29 (by decide) ?_
        refine lv_goto (tgt := 34) hx hb dX13_readLine_30 (by decide) ?_
        exact hk_3 1 hf H locs ls hW hS (lv_sub hl [0] rfl)
  · have hf := iff_ hc hf
    refine lv_aload_n hx hb dX13_readLine_9 rfl (lv_at hl 0 rfl) ?_
    refine mcv hf hS (fun τ h => va_runV (As := []) (rest := []) ⟨hx, hb, hml, hown, hts⟩ (c_X13_townLine g l σ τ h) (cl_X13_188 hts ⟨Nat.le_of_ble_eq_true rfl, Nat.le_of_ble_eq_true rfl⟩) (mpV_13 hZ hT hS hW tz_64 _) rfl rfl hl.1 rfl (lv_room (Nat.le_of_ble_eq_true rfl)) dX13_readLine_10 ⟨Nat.zero_le _, Nat.zero_le _⟩) (fun σ_33 H locs hf hW hS => ?_)
    refine lv_goto (tgt := 218) hx hb dX13_readLine_13 (by decide) ?_
    subst hQ
    exact mrv hx hb hr hlocks hZ hT hS hW (Option.some.inj hf) dX13_readLine_218
