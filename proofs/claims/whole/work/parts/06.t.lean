def f_X12_set (σ : Mem) (p0 : Nat) (a1 : Int32) (a2 : Int32) : Option (Mem) :=
  (if a1 < 0 then some σ else (if (nI (aln p0)) ≤ a1 then some σ else ixd a1 (aln p0) (nm (sI σ p0 a1.toNatClampNeg a2) (fun (σ_1 : Mem) => some σ_1))))
set_option maxHeartbeats 4000000 in
set_option maxRecDepth 100000 in
theorem c_X12_set (g : XG) (l : Launch) (lo n : Nat) (σ : Mem) (p0 : Nat) (a1 : Int32) (a2 : Int32) (t0 : tp 20 lo n p0) (τ : Mem) (hf : f_X12_set σ p0 a1 a2 = some τ) : Met l yX12_set (wx (.code yX12_set cX12_set 3 none)) (kr 0 0) (va_Pc [.ref (bs g p0), .int a1, .int a2] (WS g lo n σ)) (Qv' g lo n τ) 0 0 (Ag g lo) := by
  refine Met.ofW (cc := cX12_set) (maxL := 3) (ret := none) (by decide) rfl ?_
  intro p e s m args below meth c s₁ B hml hv
  obtain ⟨rfl, hZ, hT, hW⟩ := hv
  have hx := B.exec
  have hb := B.bytes
  have hr := B.returns
  have hts : ∀ w ∈ wx (.code yX12_set cX12_set 3 none), w.before _ s = true := atoms_spec B.pre
  have htg : ∀ w ∈ lwg, w.before _ s = true := fun w h => hts w (List.mem_cons_of_mem _ h)
  have hown : s.vm.findClass RX12 = some m.cls := findClass_of_methodNamed B.named
  have hlocks := B.notSynchronized
  change W p l e (kr 0 0) s m (List.toArray [.ref (bs g p0), .int a1, .int a2]) below meth c s.heap [] 0 0 (MQ below (Qv' g lo n τ) (List.toArray [.ref (bs g p0), .int a1, .int a2]) s 0 0 (Ag g lo)) _
  generalize hQ : MQ below (Qv' g lo n τ) (List.toArray [.ref (bs g p0), .int a1, .int a2]) s 0 0 (Ag g lo) = Q
  have hS : va_S (Ag g lo) s.heap s.heap [] := va_S.rf
  have hl := lv_entry ([.ref (bs g p0), .int a1, .int a2]) (n := 3) (Nat.le_of_ble_eq_true rfl)
  rw [lg_entry_eq]
  generalize (lg_sl ([.ref (bs g p0), .int a1, .int a2]) ++ List.replicate (3 - (lg_sl ([.ref (bs g p0), .int a1, .int a2])).length) Slot.unset).toArray = ls at hl ⊢
  have hl : lv_has ls 3 [(0, .ref (bs g p0)), (1, .int a1), (2, .int a2)] := hl
  delta f_X12_set at hf
  obtain ⟨H, hH⟩ : ∃ H, H = s.heap := ⟨_, rfl⟩
  obtain ⟨locs, hLc⟩ : ∃ z : List Loc, z = [] := ⟨_, rfl⟩
  have hS : va_S (Ag g lo) s.heap H locs := by rw [hH, hLc]; exact hS
  have hW : Wd g lo n σ H := by rw [hH]; exact hW
  suffices hG : W p l e (kr 0 0) s m (List.toArray [.ref (bs g p0), .int a1, .int a2]) below meth c H locs 0 0 Q (F0 m 0 ls []) by rw [hH, hLc] at hG; exact hG
  clear hH hLc
  refine lv_iload_n hx hb dX12_set_0 rfl (lv_at hl 1 rfl) ?_
  refine lv_if_lt (tgt := 14) hx hb dX12_set_1 (by decide) (fun hc => ?_) (fun hc => ?_)
  · have hf := ift hc hf
    subst hQ
    exact mrv hx hb hr hlocks hZ hT hS hW (Option.some.inj hf) dX12_set_14
  · have hf := iff_ hc hf
    refine lv_iload_n hx hb dX12_set_4 rfl (lv_at hl 1 rfl) ?_
    refine lv_aload_n hx hb dX12_set_5 rfl (lv_at hl 0 rfl) ?_
    refine mln_i hx hb hZ hW t0 dX12_set_6 ?_
    refine lv_icmp_ge (tgt := 14) hx hb dX12_set_7 (by decide) (fun hc => ?_) (fun hc => ?_)
    · have hf := ift hc hf
      subst hQ
      exact mrv hx hb hr hlocks hZ hT hS hW (Option.some.inj hf) dX12_set_14
    · have hf := iff_ hc hf
      refine lv_aload_n hx hb dX12_set_10 rfl (lv_at hl 0 rfl) ?_
      refine lv_iload_n hx hb dX12_set_11 rfl (lv_at hl 1 rfl) ?_
      refine lv_iload_n hx hb dX12_set_12 rfl (lv_at hl 2 rfl) ?_
      refine mst_i hx hb hZ hW hS t0 hf dX12_set_13 (fun σ_1 H locs hf hW hS => ?_)
      subst hQ
      exact mrv hx hb hr hlocks hZ hT hS hW (Option.some.inj hf) dX12_set_14
def f_X12_get (σ : Mem) (p0 : Nat) (a1 : Int32) : Option (Int32) :=
  jn0 (some 0) (fun k_1 => (if a1 < 0 then k_1 else (if (nI (aln p0)) ≤ a1 then k_1 else ixd a1 (aln p0) (some (σ.1 p0 a1.toNatClampNeg)))))
set_option maxHeartbeats 4000000 in
set_option maxRecDepth 100000 in
theorem c_X12_get (g : XG) (l : Launch) (lo n : Nat) (σ : Mem) (p0 : Nat) (a1 : Int32) (t0 : tp 20 lo n p0) (r : Int32) (hf : f_X12_get σ p0 a1 = some r) : Met l yX12_get (wx (.code yX12_get cX12_get 2 (some .int))) (kr 0 0) (va_Pc [.ref (bs g p0), .int a1] (WS g lo n σ)) (Qi' g lo n r σ) 0 0 (Ag g lo) := by
  refine Met.ofW (cc := cX12_get) (maxL := 2) (ret := (some .int)) (by decide) rfl ?_
  intro p e s m args below meth c s₁ B hml hv
  obtain ⟨rfl, hZ, hT, hW⟩ := hv
  have hx := B.exec
  have hb := B.bytes
  have hr := B.returns
  have hts : ∀ w ∈ wx (.code yX12_get cX12_get 2 (some .int)), w.before _ s = true := atoms_spec B.pre
  have htg : ∀ w ∈ lwg, w.before _ s = true := fun w h => hts w (List.mem_cons_of_mem _ h)
  have hown : s.vm.findClass RX12 = some m.cls := findClass_of_methodNamed B.named
  have hlocks := B.notSynchronized
  change W p l e (kr 0 0) s m (List.toArray [.ref (bs g p0), .int a1]) below meth c s.heap [] 0 0 (MQ below (Qi' g lo n r σ) (List.toArray [.ref (bs g p0), .int a1]) s 0 0 (Ag g lo)) _
  generalize hQ : MQ below (Qi' g lo n r σ) (List.toArray [.ref (bs g p0), .int a1]) s 0 0 (Ag g lo) = Q
  have hS : va_S (Ag g lo) s.heap s.heap [] := va_S.rf
  have hl := lv_entry ([.ref (bs g p0), .int a1]) (n := 2) (Nat.le_of_ble_eq_true rfl)
  rw [lg_entry_eq]
  generalize (lg_sl ([.ref (bs g p0), .int a1]) ++ List.replicate (2 - (lg_sl ([.ref (bs g p0), .int a1])).length) Slot.unset).toArray = ls at hl ⊢
  have hl : lv_has ls 2 [(0, .ref (bs g p0)), (1, .int a1)] := hl
  delta f_X12_get at hf
  obtain ⟨H, hH⟩ : ∃ H, H = s.heap := ⟨_, rfl⟩
  obtain ⟨locs, hLc⟩ : ∃ z : List Loc, z = [] := ⟨_, rfl⟩
  have hS : va_S (Ag g lo) s.heap H locs := by rw [hH, hLc]; exact hS
  have hW : Wd g lo n σ H := by rw [hH]; exact hW
  suffices hG : W p l e (kr 0 0) s m (List.toArray [.ref (bs g p0), .int a1]) below meth c H locs 0 0 Q (F0 m 0 ls []) by rw [hH, hLc] at hG; exact hG
  clear hH hLc
  refine lv_iload_n hx hb dX12_get_0 rfl (lv_at hl 1 rfl) ?_
  refine jn0_W (∀ (H : Heap) (locs : List Loc) (ls : Array Slot), Wd g lo n σ H → va_S (Ag g lo) s.heap H locs → lv_has ls 2 [] → W p l e (kr 0 0) s m (List.toArray [.ref (bs g p0), .int a1]) below meth c H locs 0 0 Q (F0 m 16 ls [])) hf (fun  hf => ?_) (fun k_1 hk_1 hf => ?_)
  · intro H locs ls hW hS hl
    refine lv_iconst (v := 0) hx hb dX12_get_16 (by decide) ?_
    subst hQ
    exact mri hx hb hr hlocks hZ hT hS hW ⟨Option.some.inj hf, rfl⟩ dX12_get_17
  · refine lv_if_lt (tgt := 16) hx hb dX12_get_1 (by decide) (fun hc => ?_) (fun hc => ?_)
    · have hf := ift hc hf
      exact hk_1  hf H locs ls hW hS (lv_sub hl [] rfl)
    · have hf := iff_ hc hf
      refine lv_iload_n hx hb dX12_get_4 rfl (lv_at hl 1 rfl) ?_
      refine lv_aload_n hx hb dX12_get_5 rfl (lv_at hl 0 rfl) ?_
      refine mln_i hx hb hZ hW t0 dX12_get_6 ?_
      refine lv_icmp_ge (tgt := 16) hx hb dX12_get_7 (by decide) (fun hc => ?_) (fun hc => ?_)
      · have hf := ift hc hf
        exact hk_1  hf H locs ls hW hS (lv_sub hl [] rfl)
      · have hf := iff_ hc hf
        refine lv_aload_n hx hb dX12_get_10 rfl (lv_at hl 0 rfl) ?_
        refine lv_iload_n hx hb dX12_get_11 rfl (lv_at hl 1 rfl) ?_
        refine mld_i hx hb hZ hW t0 hf dX12_get_12 (fun hf => ?_)
        refine lv_goto (tgt := 17) hx hb dX12_get_13 (by decide) ?_
        subst hQ
        exact mri hx hb hr hlocks hZ hT hS hW ⟨Option.some.inj hf, rfl⟩ dX12_get_17
def f_X12_inside (a0 : Int32) (a1 : Int32) : Option (Int32) :=
  jn0 (some 0) (fun k_1 => (if a0 < 0 then k_1 else (if a1 ≤ a0 then k_1 else some 1)))
set_option maxHeartbeats 4000000 in
set_option maxRecDepth 100000 in
theorem c_X12_inside (g : XG) (l : Launch) (lo n : Nat) (σ : Mem) (a0 : Int32) (a1 : Int32) (r : Int32) (hf : f_X12_inside a0 a1 = some r) : Met l yX12_inside (wx (.code yX12_inside cX12_inside 2 (some .boolean))) (kr 0 0) (va_Pc [.int a0, .int a1] (WS g lo n σ)) (Qi' g lo n r σ) 0 0 (Ag g lo) := by
  refine Met.ofW (cc := cX12_inside) (maxL := 2) (ret := (some .boolean)) (by decide) rfl ?_
  intro p e s m args below meth c s₁ B hml hv
  obtain ⟨rfl, hZ, hT, hW⟩ := hv
  have hx := B.exec
  have hb := B.bytes
  have hr := B.returns
  have hts : ∀ w ∈ wx (.code yX12_inside cX12_inside 2 (some .boolean)), w.before _ s = true := atoms_spec B.pre
  have htg : ∀ w ∈ lwg, w.before _ s = true := fun w h => hts w (List.mem_cons_of_mem _ h)
  have hown : s.vm.findClass RX12 = some m.cls := findClass_of_methodNamed B.named
  have hlocks := B.notSynchronized
  change W p l e (kr 0 0) s m (List.toArray [.int a0, .int a1]) below meth c s.heap [] 0 0 (MQ below (Qi' g lo n r σ) (List.toArray [.int a0, .int a1]) s 0 0 (Ag g lo)) _
  generalize hQ : MQ below (Qi' g lo n r σ) (List.toArray [.int a0, .int a1]) s 0 0 (Ag g lo) = Q
  have hS : va_S (Ag g lo) s.heap s.heap [] := va_S.rf
  have hl := lv_entry ([.int a0, .int a1]) (n := 2) (Nat.le_of_ble_eq_true rfl)
  rw [lg_entry_eq]
  generalize (lg_sl ([.int a0, .int a1]) ++ List.replicate (2 - (lg_sl ([.int a0, .int a1])).length) Slot.unset).toArray = ls at hl ⊢
  have hl : lv_has ls 2 [(0, .int a0), (1, .int a1)] := hl
  delta f_X12_inside at hf
  obtain ⟨H, hH⟩ : ∃ H, H = s.heap := ⟨_, rfl⟩
  obtain ⟨locs, hLc⟩ : ∃ z : List Loc, z = [] := ⟨_, rfl⟩
  have hS : va_S (Ag g lo) s.heap H locs := by rw [hH, hLc]; exact hS
  have hW : Wd g lo n σ H := by rw [hH]; exact hW
  suffices hG : W p l e (kr 0 0) s m (List.toArray [.int a0, .int a1]) below meth c H locs 0 0 Q (F0 m 0 ls []) by rw [hH, hLc] at hG; exact hG
  clear hH hLc
  refine lv_iload_n hx hb dX12_inside_0 rfl (lv_at hl 0 rfl) ?_
  refine jn0_W (∀ (H : Heap) (locs : List Loc) (ls : Array Slot), Wd g lo n σ H → va_S (Ag g lo) s.heap H locs → lv_has ls 2 [] → W p l e (kr 0 0) s m (List.toArray [.int a0, .int a1]) below meth c H locs 0 0 Q (F0 m 13 ls [])) hf (fun  hf => ?_) (fun k_1 hk_1 hf => ?_)
  · intro H locs ls hW hS hl
    refine lv_iconst (v := 0) hx hb dX12_inside_13 (by decide) ?_
    subst hQ
    exact mrz hx hb hr hlocks hZ hT hS hW (by decide) ⟨Option.some.inj hf, rfl⟩ dX12_inside_14
  · refine lv_if_lt (tgt := 13) hx hb dX12_inside_1 (by decide) (fun hc => ?_) (fun hc => ?_)
    · have hf := ift hc hf
      exact hk_1  hf H locs ls hW hS (lv_sub hl [] rfl)
    · have hf := iff_ hc hf
      refine lv_iload_n hx hb dX12_inside_4 rfl (lv_at hl 0 rfl) ?_
      refine lv_iload_n hx hb dX12_inside_5 rfl (lv_at hl 1 rfl) ?_
      refine lv_icmp_ge (tgt := 13) hx hb dX12_inside_6 (by decide) (fun hc => ?_) (fun hc => ?_)
      · have hf := ift hc hf
        exact hk_1  hf H locs ls hW hS (lv_sub hl [] rfl)
      · have hf := iff_ hc hf
        refine lv_iconst (v := 1) hx hb dX12_inside_9 (by decide) ?_
        refine lv_goto (tgt := 14) hx hb dX12_inside_10 (by decide) ?_
        subst hQ
        exact mrz hx hb hr hlocks hZ hT hS hW (by decide) ⟨Option.some.inj hf, rfl⟩ dX12_inside_14
def f_X5_at (σ : Mem) (p0 : Nat) (a1 : Int32) (a2 : Int32) : Option (Int32) :=
  nm ((a1 * 30) + a2) (fun (x_1 : Int32) => jn0 (some 0) (fun k_2 => (if a2 < 0 then k_2 else (if 30 ≤ a2 then k_2 else (if x_1 < 0 then k_2 else (if (nI (aln (p0 + 1))) ≤ x_1 then k_2 else ixd x_1 (aln (p0 + 1)) (some (σ.1 (p0 + 1) x_1.toNatClampNeg))))))))
set_option maxHeartbeats 4000000 in
set_option maxRecDepth 100000 in
theorem c_X5_at (g : XG) (l : Launch) (lo n : Nat) (σ : Mem) (p0 : Nat) (a1 : Int32) (a2 : Int32) (t0 : tp 5 lo n p0) (r : Int32) (hf : f_X5_at σ p0 a1 a2 = some r) : Met l yX5_at (wx (.code yX5_at cX5_at 4 (some .int))) (kr 0 0) (va_Pc [.ref (bs g p0), .int a1, .int a2] (WS g lo n σ)) (Qi' g lo n r σ) 0 0 (Ag g lo) := by
  refine Met.ofW (cc := cX5_at) (maxL := 4) (ret := (some .int)) (by decide) rfl ?_
  intro p e s m args below meth c s₁ B hml hv
  obtain ⟨rfl, hZ, hT, hW⟩ := hv
  have hx := B.exec
  have hb := B.bytes
  have hr := B.returns
  have hts : ∀ w ∈ wx (.code yX5_at cX5_at 4 (some .int)), w.before _ s = true := atoms_spec B.pre
  have htg : ∀ w ∈ lwg, w.before _ s = true := fun w h => hts w (List.mem_cons_of_mem _ h)
  have hown : s.vm.findClass RX5 = some m.cls := findClass_of_methodNamed B.named
  have hlocks := B.notSynchronized
  change W p l e (kr 0 0) s m (List.toArray [.ref (bs g p0), .int a1, .int a2]) below meth c s.heap [] 0 0 (MQ below (Qi' g lo n r σ) (List.toArray [.ref (bs g p0), .int a1, .int a2]) s 0 0 (Ag g lo)) _
  generalize hQ : MQ below (Qi' g lo n r σ) (List.toArray [.ref (bs g p0), .int a1, .int a2]) s 0 0 (Ag g lo) = Q
  have hS : va_S (Ag g lo) s.heap s.heap [] := va_S.rf
  have hl := lv_entry ([.ref (bs g p0), .int a1, .int a2]) (n := 4) (Nat.le_of_ble_eq_true rfl)
  rw [lg_entry_eq]
  generalize (lg_sl ([.ref (bs g p0), .int a1, .int a2]) ++ List.replicate (4 - (lg_sl ([.ref (bs g p0), .int a1, .int a2])).length) Slot.unset).toArray = ls at hl ⊢
  have hl : lv_has ls 4 [(0, .ref (bs g p0)), (1, .int a1), (2, .int a2)] := hl
  delta f_X5_at at hf
  obtain ⟨H, hH⟩ : ∃ H, H = s.heap := ⟨_, rfl⟩
  obtain ⟨locs, hLc⟩ : ∃ z : List Loc, z = [] := ⟨_, rfl⟩
  have hS : va_S (Ag g lo) s.heap H locs := by rw [hH, hLc]; exact hS
  have hW : Wd g lo n σ H := by rw [hH]; exact hW
  suffices hG : W p l e (kr 0 0) s m (List.toArray [.ref (bs g p0), .int a1, .int a2]) below meth c H locs 0 0 Q (F0 m 0 ls []) by rw [hH, hLc] at hG; exact hG
  clear hH hLc
  refine lv_iload_n hx hb dX5_at_0 rfl (lv_at hl 1 rfl) ?_
  refine lv_bipush (v := 30) hx hb dX5_at_1 (by decide) ?_
  refine lv_imul hx hb dX5_at_3 ?_
  refine lv_iload_n hx hb dX5_at_4 rfl (lv_at hl 2 rfl) ?_
  refine lv_iadd hx hb dX5_at_5 ?_
  refine mnmi hf (fun (x_1 : Int32) hf => ?_)
  refine lv_istore_n (lv' := [(3, .int x_1), (0, .ref (bs g p0)), (1, .int a1), (2, .int a2)]) hx hb dX5_at_6 rfl hl (by decide) rfl (fun ls hl => ?_)
  refine lv_iload_n hx hb dX5_at_7 rfl (lv_at hl 3 rfl) ?_
  refine jn0_W (∀ (H : Heap) (locs : List Loc) (ls : Array Slot), Wd g lo n σ H → va_S (Ag g lo) s.heap H locs → lv_has ls 4 [] → W p l e (kr 0 0) s m (List.toArray [.ref (bs g p0), .int a1, .int a2]) below meth c H locs 0 0 Q (F0 m 39 ls [])) hf (fun  hf => ?_) (fun k_2 hk_2 hf => ?_)
  · intro H locs ls hW hS hl
    refine lv_iconst (v := 0) hx hb dX5_at_39 (by decide) ?_
    subst hQ
    exact mri hx hb hr hlocks hZ hT hS hW ⟨Option.some.inj hf, rfl⟩ dX5_at_40
  · refine lv_if_lt (tgt := 39) hx hb dX5_at_8 (by decide) (fun hc => ?_) (fun hc => ?_)
    · have hf := ift hc hf
      exact hk_2  hf H locs ls hW hS (lv_sub hl [] rfl)
    · have hf := iff_ hc hf
      refine lv_iload_n hx hb dX5_at_11 rfl (lv_at hl 3 rfl) ?_
      refine lv_bipush (v := 30) hx hb dX5_at_12 (by decide) ?_
      refine lv_icmp_ge (tgt := 39) hx hb dX5_at_14 (by decide) (fun hc => ?_) (fun hc => ?_)
      · have hf := ift hc hf
        exact hk_2  hf H locs ls hW hS (lv_sub hl [] rfl)
      · have hf := iff_ hc hf
        refine lv_iload_n hx hb dX5_at_17 rfl (lv_at hl 0 rfl) ?_
        refine lv_if_lt (tgt := 39) hx hb dX5_at_18 (by decide) (fun hc => ?_) (fun hc => ?_)
        · have hf := ift hc hf
          exact hk_2  hf H locs ls hW hS (lv_sub hl [] rfl)
        · have hf := iff_ hc hf
          refine lv_iload_n hx hb dX5_at_21 rfl (lv_at hl 0 rfl) ?_
          refine lv_aload_n hx hb dX5_at_22 rfl (lv_at hl 1 rfl) ?_
          refine gf_5_0 hx hb htg (htg _ lf_X5_9) hown hZ hW t0 dX5_at_23 ?_
          refine mln_i hx hb hZ hW (t0.sub 20 1 so_5_20_1) dX5_at_26 ?_
          refine lv_icmp_ge (tgt := 39) hx hb dX5_at_27 (by decide) (fun hc => ?_) (fun hc => ?_)
          · have hf := ift hc hf
            exact hk_2  hf H locs ls hW hS (lv_sub hl [] rfl)
          · have hf := iff_ hc hf
            refine lv_aload_n hx hb dX5_at_30 rfl (lv_at hl 1 rfl) ?_
            refine gf_5_0 hx hb htg (htg _ lf_X5_9) hown hZ hW t0 dX5_at_31 ?_
            refine lv_iload_n hx hb dX5_at_34 rfl (lv_at hl 0 rfl) ?_
            refine mld_i hx hb hZ hW (t0.sub 20 1 so_5_20_1) hf dX5_at_35 (fun hf => ?_)
            refine lv_goto (tgt := 40) hx hb dX5_at_36 (by decide) ?_
            subst hQ
            exact mri hx hb hr hlocks hZ hT hS hW ⟨Option.some.inj hf, rfl⟩ dX5_at_40
def f_X5_goneOn (a0 : Int32) (a1 : Int32) (a2 : Int32) : Option (Int32) :=
  nm (2 * (5 - a1)) (fun (x_1 : Int32) => nm (((a0 >>> (x_1 &&& 31)) + a2) &&& 3) (fun (x_2 : Int32) => some ((a0 &&& ((3 <<< (x_1 &&& 31)) ^^^ (-1))) ||| (x_2 <<< (x_1 &&& 31)))))
set_option maxHeartbeats 4000000 in
set_option maxRecDepth 100000 in
theorem c_X5_goneOn (g : XG) (l : Launch) (lo n : Nat) (σ : Mem) (a0 : Int32) (a1 : Int32) (a2 : Int32) (r : Int32) (hf : f_X5_goneOn a0 a1 a2 = some r) : Met l yX5_goneOn (wx (.code yX5_goneOn cX5_goneOn 5 (some .int))) (kr 0 0) (va_Pc [.int a0, .int a1, .int a2] (WS g lo n σ)) (Qi' g lo n r σ) 0 0 (Ag g lo) := by
  refine Met.ofW (cc := cX5_goneOn) (maxL := 5) (ret := (some .int)) (by decide) rfl ?_
  intro p e s m args below meth c s₁ B hml hv
  obtain ⟨rfl, hZ, hT, hW⟩ := hv
  have hx := B.exec
  have hb := B.bytes
  have hr := B.returns
  have hts : ∀ w ∈ wx (.code yX5_goneOn cX5_goneOn 5 (some .int)), w.before _ s = true := atoms_spec B.pre
  have htg : ∀ w ∈ lwg, w.before _ s = true := fun w h => hts w (List.mem_cons_of_mem _ h)
  have hown : s.vm.findClass RX5 = some m.cls := findClass_of_methodNamed B.named
  have hlocks := B.notSynchronized
  change W p l e (kr 0 0) s m (List.toArray [.int a0, .int a1, .int a2]) below meth c s.heap [] 0 0 (MQ below (Qi' g lo n r σ) (List.toArray [.int a0, .int a1, .int a2]) s 0 0 (Ag g lo)) _
  generalize hQ : MQ below (Qi' g lo n r σ) (List.toArray [.int a0, .int a1, .int a2]) s 0 0 (Ag g lo) = Q
  have hS : va_S (Ag g lo) s.heap s.heap [] := va_S.rf
  have hl := lv_entry ([.int a0, .int a1, .int a2]) (n := 5) (Nat.le_of_ble_eq_true rfl)
  rw [lg_entry_eq]
  generalize (lg_sl ([.int a0, .int a1, .int a2]) ++ List.replicate (5 - (lg_sl ([.int a0, .int a1, .int a2])).length) Slot.unset).toArray = ls at hl ⊢
  have hl : lv_has ls 5 [(0, .int a0), (1, .int a1), (2, .int a2)] := hl
  delta f_X5_goneOn at hf
  obtain ⟨H, hH⟩ : ∃ H, H = s.heap := ⟨_, rfl⟩
  obtain ⟨locs, hLc⟩ : ∃ z : List Loc, z = [] := ⟨_, rfl⟩
  have hS : va_S (Ag g lo) s.heap H locs := by rw [hH, hLc]; exact hS
  have hW : Wd g lo n σ H := by rw [hH]; exact hW
  suffices hG : W p l e (kr 0 0) s m (List.toArray [.int a0, .int a1, .int a2]) below meth c H locs 0 0 Q (F0 m 0 ls []) by rw [hH, hLc] at hG; exact hG
  clear hH hLc
  refine lv_iconst (v := 2) hx hb dX5_goneOn_0 (by decide) ?_
  refine lv_iconst (v := 5) hx hb dX5_goneOn_1 (by decide) ?_
  refine lv_iload_n hx hb dX5_goneOn_2 rfl (lv_at hl 1 rfl) ?_
  refine lv_isub hx hb dX5_goneOn_3 ?_
  refine lv_imul hx hb dX5_goneOn_4 ?_
  refine mnmi hf (fun (x_1 : Int32) hf => ?_)
  refine lv_istore_n (lv' := [(3, .int x_1), (0, .int a0), (1, .int a1), (2, .int a2)]) hx hb dX5_goneOn_5 rfl hl (by decide) rfl (fun ls hl => ?_)
  refine lv_iload_n hx hb dX5_goneOn_6 rfl (lv_at hl 1 rfl) ?_
  refine lv_iload_n hx hb dX5_goneOn_7 rfl (lv_at hl 0 rfl) ?_
  refine lv_ishr hx hb dX5_goneOn_8 ?_
  refine lv_iload_n hx hb dX5_goneOn_9 rfl (lv_at hl 3 rfl) ?_
  refine lv_iadd hx hb dX5_goneOn_10 ?_
  refine lv_iconst (v := 3) hx hb dX5_goneOn_11 (by decide) ?_
  refine lv_iand hx hb dX5_goneOn_12 ?_
  refine mnmi hf (fun (x_2 : Int32) hf => ?_)
  refine lv_istore (lv' := [(4, .int x_2), (3, .int x_1), (0, .int a0), (1, .int a1), (2, .int a2)]) hx hb dX5_goneOn_13 hl (by decide) rfl (fun ls hl => ?_)
  refine lv_iload_n hx hb dX5_goneOn_15 rfl (lv_at hl 2 rfl) ?_
  refine lv_iconst (v := 3) hx hb dX5_goneOn_16 (by decide) ?_
  refine lv_iload_n hx hb dX5_goneOn_17 rfl (lv_at hl 1 rfl) ?_
  refine lv_ishl hx hb dX5_goneOn_18 ?_
  refine lv_iconst (v := (-1)) hx hb dX5_goneOn_19 (by decide) ?_
  refine lv_ixor hx hb dX5_goneOn_20 ?_
  refine lv_iand hx hb dX5_goneOn_21 ?_
  refine lv_iload hx hb dX5_goneOn_22 (lv_at hl 0 rfl) ?_
  refine lv_iload_n hx hb dX5_goneOn_24 rfl (lv_at hl 1 rfl) ?_
  refine lv_ishl hx hb dX5_goneOn_25 ?_
  refine lv_ior hx hb dX5_goneOn_26 ?_
  subst hQ
  exact mri hx hb hr hlocks hZ hT hS hW ⟨Option.some.inj hf, rfl⟩ dX5_goneOn_27
def f_X5_goOn (σ : Mem) (p0 : Nat) (a1 : Int32) (a2 : Int32) (a3 : Int32) (a4 : Int32) : Option (Mem) :=
  nm (if a3 < 0 then 0 else a3) (fun (x_1 : Int32) => fx2 FU (fun k_4 (i_2 : Int32) (σ_3 : Mem) => (if 30 ≤ i_2 then some σ_3 else bd1 (f_X12_inside a1 5) (fun (r_5 : Int32) => (if r_5 = 0 then some σ_3 else bd1 (f_X5_at σ_3 p0 a1 i_2) (fun (r_6 : Int32) => bd1 (f_X5_goneOn r_6 a2 a4) (fun (r_7 : Int32) => bd1 (f_X12_set σ_3 (p0 + 1) ((a1 * 30) + i_2) r_7) (fun (σ_8 : Mem) => nm (i_2 + 1) (fun (x_9 : Int32) => k_4 x_9 σ_8)))))))) x_1 σ)
set_option maxHeartbeats 4000000 in
set_option maxRecDepth 100000 in
theorem c_X5_goOn (g : XG) (l : Launch) (lo n : Nat) (σ : Mem) (p0 : Nat) (a1 : Int32) (a2 : Int32) (a3 : Int32) (a4 : Int32) (t0 : tp 5 lo n p0) (τ : Mem) (hf : f_X5_goOn σ p0 a1 a2 a3 a4 = some τ) : Met l yX5_goOn (wx (.code yX5_goOn cX5_goOn 6 none)) (kr 1 60) (va_Pc [.ref (bs g p0), .int a1, .int a2, .int a3, .int a4] (WS g lo n σ)) (Qv' g lo n τ) 0 0 (Ag g lo) := by
  refine Met.ofW (cc := cX5_goOn) (maxL := 6) (ret := none) (by decide) rfl ?_
  intro p e s m args below meth c s₁ B hml hv
  obtain ⟨rfl, hZ, hT, hW⟩ := hv
  have hx := B.exec
  have hb := B.bytes
  have hr := B.returns
  have hts : ∀ w ∈ wx (.code yX5_goOn cX5_goOn 6 none), w.before _ s = true := atoms_spec B.pre
  have htg : ∀ w ∈ lwg, w.before _ s = true := fun w h => hts w (List.mem_cons_of_mem _ h)
  have hown : s.vm.findClass RX5 = some m.cls := findClass_of_methodNamed B.named
  have hlocks := B.notSynchronized
  change W p l e (kr 1 60) s m (List.toArray [.ref (bs g p0), .int a1, .int a2, .int a3, .int a4]) below meth c s.heap [] 0 0 (MQ below (Qv' g lo n τ) (List.toArray [.ref (bs g p0), .int a1, .int a2, .int a3, .int a4]) s 0 0 (Ag g lo)) _
  generalize hQ : MQ below (Qv' g lo n τ) (List.toArray [.ref (bs g p0), .int a1, .int a2, .int a3, .int a4]) s 0 0 (Ag g lo) = Q
  have hS : va_S (Ag g lo) s.heap s.heap [] := va_S.rf
  have hl := lv_entry ([.ref (bs g p0), .int a1, .int a2, .int a3, .int a4]) (n := 6) (Nat.le_of_ble_eq_true rfl)
  rw [lg_entry_eq]
  generalize (lg_sl ([.ref (bs g p0), .int a1, .int a2, .int a3, .int a4]) ++ List.replicate (6 - (lg_sl ([.ref (bs g p0), .int a1, .int a2, .int a3, .int a4])).length) Slot.unset).toArray = ls at hl ⊢
  have hl : lv_has ls 6 [(0, .ref (bs g p0)), (1, .int a1), (2, .int a2), (3, .int a3), (4, .int a4)] := hl
  delta f_X5_goOn at hf
  obtain ⟨H, hH⟩ : ∃ H, H = s.heap := ⟨_, rfl⟩
  obtain ⟨locs, hLc⟩ : ∃ z : List Loc, z = [] := ⟨_, rfl⟩
  have hS : va_S (Ag g lo) s.heap H locs := by rw [hH, hLc]; exact hS
  have hW : Wd g lo n σ H := by rw [hH]; exact hW
  suffices hG : W p l e (kr 1 60) s m (List.toArray [.ref (bs g p0), .int a1, .int a2, .int a3, .int a4]) below meth c H locs 0 0 Q (F0 m 0 ls []) by rw [hH, hLc] at hG; exact hG
  clear hH hLc
  refine lv_iload_n hx hb dX5_goOn_0 rfl (lv_at hl 3 rfl) ?_
  refine lv_iconst (v := 0) hx hb dX5_goOn_1 (by decide) ?_
  refine va_mmax hx hb (hml.trans hl.1.symm) hown (htg _ lm_X5_23) (htg _ lst_Math_max) (htg _ ini_Math) (htg _ lc_Math_max) (Nat.le_of_ble_eq_true rfl) (Nat.le_of_ble_eq_true rfl) (Nat.zero_le _) (Nat.zero_le _) dX5_goOn_2 ?_
  refine mnmi hf (fun (x_1 : Int32) hf => ?_)
  refine lv_istore (lv' := [(5, .int x_1), (0, .ref (bs g p0)), (1, .int a1), (2, .int a2), (3, .int a3), (4, .int a4)]) hx hb dX5_goOn_5 hl (by decide) rfl (fun ls hl => ?_)
  refine fx2_W (fun (i_2 : Int32) (σ_3 : Mem) => ∀ (H : Heap) (locs : List Loc) (ls : Array Slot), Wd g lo n σ_3 H → va_S (Ag g lo) s.heap H locs → lv_has ls 6 [(0, .ref (bs g p0)), (1, .int a1), (2, .int a2), (4, .int a4), (5, .int i_2)] → W p l e (kr 1 60) s m (List.toArray [.ref (bs g p0), .int a1, .int a2, .int a3, .int a4]) below meth c H locs 0 0 Q (F0 m 7 ls [])) (fun k_4 hk_4 i_2 σ_3 hf => ?_) FU x_1 σ hf H locs ls hW hS (lv_sub hl [1, 2, 3, 5, 0] rfl)
  intro H locs ls hW hS hl
  refine lv_iload hx hb dX5_goOn_7 (lv_at hl 4 rfl) ?_
  refine lv_bipush (v := 30) hx hb dX5_goOn_9 (by decide) ?_
  refine lv_icmp_ge (tgt := 55) hx hb dX5_goOn_11 (by decide) (fun hc => ?_) (fun hc => ?_)
  · have hf := ift hc hf
    subst hQ
    exact mrv hx hb hr hlocks hZ hT hS hW (Option.some.inj hf) dX5_goOn_55
  · have hf := iff_ hc hf
    refine lv_iload_n hx hb dX5_goOn_14 rfl (lv_at hl 1 rfl) ?_
    refine lv_iconst (v := 5) hx hb dX5_goOn_15 (by decide) ?_
    refine mcip hf hS (fun r h => va_runSN (As := [.int a1, .int 5]) (rest := []) ⟨hx, hb, hml, hown, hts⟩ (c_X12_inside g l lo n σ_3 a1 5 r h) (cl_X5_15 hts hZ ⟨Nat.le_of_ble_eq_true rfl, Nat.le_of_ble_eq_true rfl⟩) (mpS hZ hT hS hW _) rfl rfl hl.1 rfl (lv_room (Nat.le_of_ble_eq_true rfl)) dX5_goOn_16 ⟨Nat.zero_le _, Nat.zero_le _⟩) (fun r_5 H locs hf hW hS => ?_)
    refine lv_if_eq (tgt := 55) hx hb dX5_goOn_19 (by decide) (fun hc => ?_) (fun hc => ?_)
    · have hf := ift hc hf
      subst hQ
      exact mrv hx hb hr hlocks hZ hT hS hW (Option.some.inj hf) dX5_goOn_55
    · have hf := iff_ hc hf
      refine lv_aload_n hx hb dX5_goOn_22 rfl (lv_at hl 0 rfl) ?_
      refine gf_5_0 hx hb htg (htg _ lf_X5_9) hown hZ hW t0 dX5_goOn_23 ?_
      refine lv_iload_n hx hb dX5_goOn_26 rfl (lv_at hl 1 rfl) ?_
      refine lv_bipush (v := 30) hx hb dX5_goOn_27 (by decide) ?_
      refine lv_imul hx hb dX5_goOn_29 ?_
      refine lv_iload hx hb dX5_goOn_30 (lv_at hl 4 rfl) ?_
      refine lv_iadd hx hb dX5_goOn_32 ?_
      refine lv_aload_n hx hb dX5_goOn_33 rfl (lv_at hl 0 rfl) ?_
      refine lv_iload_n hx hb dX5_goOn_34 rfl (lv_at hl 1 rfl) ?_
      refine lv_iload hx hb dX5_goOn_35 (lv_at hl 4 rfl) ?_
      refine mcip hf hS (fun r h => va_runV (As := [.int a1, .int i_2]) (rest := [.int ((a1 * 30) + i_2), .ref (bs g (p0 + 1))]) ⟨hx, hb, hml, hown, hts⟩ (c_X5_at g l lo n σ_3 p0 a1 i_2 t0 r h) (cl_X5_29 hts ⟨Nat.le_of_ble_eq_true rfl, Nat.le_of_ble_eq_true rfl⟩) (mpV_5 hZ hT hS hW t0 _) rfl rfl hl.1 rfl (lv_room (Nat.le_of_ble_eq_true rfl)) dX5_goOn_37 ⟨Nat.zero_le _, Nat.zero_le _⟩) (fun r_6 H locs hf hW hS => ?_)
      refine lv_iload_n hx hb dX5_goOn_40 rfl (lv_at hl 2 rfl) ?_
      refine lv_iload hx hb dX5_goOn_41 (lv_at hl 3 rfl) ?_
      refine mcip hf hS (fun r h => va_runS (As := [.int r_6, .int a2, .int a4]) (rest := [.int ((a1 * 30) + i_2), .ref (bs g (p0 + 1))]) ⟨hx, hb, hml, hown, hts⟩ (c_X5_goneOn g l lo n σ_3 r_6 a2 a4 r h) (cl_X5_32 hts ⟨Nat.le_of_ble_eq_true rfl, Nat.le_of_ble_eq_true rfl⟩) (mpS hZ hT hS hW _) rfl rfl hl.1 rfl (lv_room (Nat.le_of_ble_eq_true rfl)) dX5_goOn_43 ⟨Nat.zero_le _, Nat.zero_le _⟩) (fun r_7 H locs hf hW hS => ?_)
      refine mcv hf hS (fun τ h => va_runSN (As := [.ref (bs g (p0 + 1)), .int ((a1 * 30) + i_2), .int r_7]) (rest := []) ⟨hx, hb, hml, hown, hts⟩ (c_X12_set g l lo n σ_3 (p0 + 1) ((a1 * 30) + i_2) r_7 (t0.sub 20 1 so_5_20_1) τ h) (cl_X5_19 hts hZ ⟨Nat.le_of_ble_eq_true rfl, Nat.le_of_ble_eq_true rfl⟩) (mpS hZ hT hS hW _) rfl rfl hl.1 rfl (lv_room (Nat.le_of_ble_eq_true rfl)) dX5_goOn_46 ⟨Nat.zero_le _, Nat.zero_le _⟩) (fun σ_8 H locs hf hW hS => ?_)
      obtain ⟨x_9, e_10, hf⟩ := nm_s hf
      refine lv_iinc (v := x_9) (lv' := [(5, .int x_9), (0, .ref (bs g p0)), (1, .int a1), (2, .int a2), (4, .int a4)]) hx hb dX5_goOn_49 hl (k := 4) rfl (by rw [e_10]; rfl) (by decide) rfl (fun ls hl => ?_)
      refine lv_goto (tgt := 7) hx hb dX5_goOn_52 (by decide) ?_
      exact hk_4 x_9 σ_8 hf H locs ls hW hS (lv_sub hl [1, 2, 3, 4, 0] rfl)
def f_J6_bitCount_0f7a4 (a0 : Int32) : Option (Int32) :=
  nm (a0 - (((a0.toUInt32 >>> ((1 : Int32).toUInt32 &&& Int32.toUInt32 31)).toInt32) &&& 1431655765)) (fun (x_1 : Int32) => nm ((x_1 &&& 858993459) + (((x_1.toUInt32 >>> ((2 : Int32).toUInt32 &&& Int32.toUInt32 31)).toInt32) &&& 858993459)) (fun (x_2 : Int32) => nm ((x_2 + ((x_2.toUInt32 >>> ((4 : Int32).toUInt32 &&& Int32.toUInt32 31)).toInt32)) &&& 252645135) (fun (x_3 : Int32) => nm (x_3 + ((x_3.toUInt32 >>> ((8 : Int32).toUInt32 &&& Int32.toUInt32 31)).toInt32)) (fun (x_4 : Int32) => nm (x_4 + ((x_4.toUInt32 >>> ((16 : Int32).toUInt32 &&& Int32.toUInt32 31)).toInt32)) (fun (x_5 : Int32) => some (x_5 &&& 63))))))
set_option maxHeartbeats 4000000 in
set_option maxRecDepth 100000 in
theorem c_J6_bitCount_0f7a4 (g : XG) (l : Launch) (lo n : Nat) (σ : Mem) (a0 : Int32) (r : Int32) (hf : f_J6_bitCount_0f7a4 a0 = some r) : Met l yJ6_bitCount_0f7a4 (wx (.code yJ6_bitCount_0f7a4 cJ6_bitCount_0f7a4 1 (some .int))) (kr 0 0) (va_Pc [.int a0] (WS g lo n σ)) (Qi' g lo n r σ) 0 0 (Ag g lo) := by
  refine Met.ofW (cc := cJ6_bitCount_0f7a4) (maxL := 1) (ret := (some .int)) (by decide) rfl ?_
  intro p e s m args below meth c s₁ B hml hv
  obtain ⟨rfl, hZ, hT, hW⟩ := hv
  have hx := B.exec
  have hb := B.bytes
  have hr := B.returns
  have hts : ∀ w ∈ wx (.code yJ6_bitCount_0f7a4 cJ6_bitCount_0f7a4 1 (some .int)), w.before _ s = true := atoms_spec B.pre
  have htg : ∀ w ∈ lwg, w.before _ s = true := fun w h => hts w (List.mem_cons_of_mem _ h)
  have hown : s.vm.findClass RJ6 = some m.cls := findClass_of_methodNamed B.named
  have hlocks := B.notSynchronized
  change W p l e (kr 0 0) s m (List.toArray [.int a0]) below meth c s.heap [] 0 0 (MQ below (Qi' g lo n r σ) (List.toArray [.int a0]) s 0 0 (Ag g lo)) _
  generalize hQ : MQ below (Qi' g lo n r σ) (List.toArray [.int a0]) s 0 0 (Ag g lo) = Q
  have hS : va_S (Ag g lo) s.heap s.heap [] := va_S.rf
  have hl := lv_entry ([.int a0]) (n := 1) (Nat.le_of_ble_eq_true rfl)
  rw [lg_entry_eq]
  generalize (lg_sl ([.int a0]) ++ List.replicate (1 - (lg_sl ([.int a0])).length) Slot.unset).toArray = ls at hl ⊢
  have hl : lv_has ls 1 [(0, .int a0)] := hl
  delta f_J6_bitCount_0f7a4 at hf
  obtain ⟨H, hH⟩ : ∃ H, H = s.heap := ⟨_, rfl⟩
  obtain ⟨locs, hLc⟩ : ∃ z : List Loc, z = [] := ⟨_, rfl⟩
  have hS : va_S (Ag g lo) s.heap H locs := by rw [hH, hLc]; exact hS
  have hW : Wd g lo n σ H := by rw [hH]; exact hW
  suffices hG : W p l e (kr 0 0) s m (List.toArray [.int a0]) below meth c H locs 0 0 Q (F0 m 0 ls []) by rw [hH, hLc] at hG; exact hG
  clear hH hLc
  refine lv_iload_n hx hb dJ6_bitCount_0f7a4_0 rfl (lv_at hl 0 rfl) ?_
  refine lv_iload_n hx hb dJ6_bitCount_0f7a4_1 rfl (lv_at hl 0 rfl) ?_
  refine lv_iconst (v := 1) hx hb dJ6_bitCount_0f7a4_2 (by decide) ?_
  refine lv_iushr (v := (a0.toUInt32 >>> ((1 : Int32).toUInt32 &&& Int32.toUInt32 31)).toInt32) hx hb dJ6_bitCount_0f7a4_3 rfl ?_
  refine lv_ldcw (v := 1431655765) hx hb hown (htg _ lk_J6_265) dJ6_bitCount_0f7a4_4 ?_
  refine lv_iand hx hb dJ6_bitCount_0f7a4_7 ?_
  refine lv_isub hx hb dJ6_bitCount_0f7a4_8 ?_
  refine mnmi hf (fun (x_1 : Int32) hf => ?_)
  refine lv_istore_n (lv' := [(0, .int x_1)]) hx hb dJ6_bitCount_0f7a4_9 rfl hl (by decide) rfl (fun ls hl => ?_)
  refine lv_iload_n hx hb dJ6_bitCount_0f7a4_10 rfl (lv_at hl 0 rfl) ?_
  refine lv_ldcw (v := 858993459) hx hb hown (htg _ lk_J6_266) dJ6_bitCount_0f7a4_11 ?_
  refine lv_iand hx hb dJ6_bitCount_0f7a4_14 ?_
  refine lv_iload_n hx hb dJ6_bitCount_0f7a4_15 rfl (lv_at hl 0 rfl) ?_
  refine lv_iconst (v := 2) hx hb dJ6_bitCount_0f7a4_16 (by decide) ?_
  refine lv_iushr (v := (x_1.toUInt32 >>> ((2 : Int32).toUInt32 &&& Int32.toUInt32 31)).toInt32) hx hb dJ6_bitCount_0f7a4_17 rfl ?_
  refine lv_ldcw (v := 858993459) hx hb hown (htg _ lk_J6_266) dJ6_bitCount_0f7a4_18 ?_
  refine lv_iand hx hb dJ6_bitCount_0f7a4_21 ?_
  refine lv_iadd hx hb dJ6_bitCount_0f7a4_22 ?_
  refine mnmi hf (fun (x_2 : Int32) hf => ?_)
  refine lv_istore_n (lv' := [(0, .int x_2)]) hx hb dJ6_bitCount_0f7a4_23 rfl hl (by decide) rfl (fun ls hl => ?_)
  refine lv_iload_n hx hb dJ6_bitCount_0f7a4_24 rfl (lv_at hl 0 rfl) ?_
  refine lv_iload_n hx hb dJ6_bitCount_0f7a4_25 rfl (lv_at hl 0 rfl) ?_
  refine lv_iconst (v := 4) hx hb dJ6_bitCount_0f7a4_26 (by decide) ?_
  refine lv_iushr (v := (x_2.toUInt32 >>> ((4 : Int32).toUInt32 &&& Int32.toUInt32 31)).toInt32) hx hb dJ6_bitCount_0f7a4_27 rfl ?_
  refine lv_iadd hx hb dJ6_bitCount_0f7a4_28 ?_
  refine lv_ldcw (v := 252645135) hx hb hown (htg _ lk_J6_267) dJ6_bitCount_0f7a4_29 ?_
  refine lv_iand hx hb dJ6_bitCount_0f7a4_32 ?_
  refine mnmi hf (fun (x_3 : Int32) hf => ?_)
  refine lv_istore_n (lv' := [(0, .int x_3)]) hx hb dJ6_bitCount_0f7a4_33 rfl hl (by decide) rfl (fun ls hl => ?_)
  refine lv_iload_n hx hb dJ6_bitCount_0f7a4_34 rfl (lv_at hl 0 rfl) ?_
  refine lv_iload_n hx hb dJ6_bitCount_0f7a4_35 rfl (lv_at hl 0 rfl) ?_
  refine lv_bipush (v := 8) hx hb dJ6_bitCount_0f7a4_36 (by decide) ?_
  refine lv_iushr (v := (x_3.toUInt32 >>> ((8 : Int32).toUInt32 &&& Int32.toUInt32 31)).toInt32) hx hb dJ6_bitCount_0f7a4_38 rfl ?_
  refine lv_iadd hx hb dJ6_bitCount_0f7a4_39 ?_
  refine mnmi hf (fun (x_4 : Int32) hf => ?_)
  refine lv_istore_n (lv' := [(0, .int x_4)]) hx hb dJ6_bitCount_0f7a4_40 rfl hl (by decide) rfl (fun ls hl => ?_)
  refine lv_iload_n hx hb dJ6_bitCount_0f7a4_41 rfl (lv_at hl 0 rfl) ?_
  refine lv_iload_n hx hb dJ6_bitCount_0f7a4_42 rfl (lv_at hl 0 rfl) ?_
  refine lv_bipush (v := 16) hx hb dJ6_bitCount_0f7a4_43 (by decide) ?_
  refine lv_iushr (v := (x_4.toUInt32 >>> ((16 : Int32).toUInt32 &&& Int32.toUInt32 31)).toInt32) hx hb dJ6_bitCount_0f7a4_45 rfl ?_
  refine lv_iadd hx hb dJ6_bitCount_0f7a4_46 ?_
  refine mnmi hf (fun (x_5 : Int32) hf => ?_)
  refine lv_istore_n (lv' := [(0, .int x_5)]) hx hb dJ6_bitCount_0f7a4_47 rfl hl (by decide) rfl (fun ls hl => ?_)
  refine lv_iload_n hx hb dJ6_bitCount_0f7a4_48 rfl (lv_at hl 0 rfl) ?_
  refine lv_bipush (v := 63) hx hb dJ6_bitCount_0f7a4_49 (by decide) ?_
  refine lv_iand hx hb dJ6_bitCount_0f7a4_51 ?_
  subst hQ
  exact mri hx hb hr hlocks hZ hT hS hW ⟨Option.some.inj hf, rfl⟩ dJ6_bitCount_0f7a4_52
def f_X5_unlike (a0 : Int32) (a1 : Int32) : Option (Int32) :=
  nm (a0 ^^^ a1) (fun (x_1 : Int32) => bd1 (f_J6_bitCount_0f7a4 ((x_1 ||| (x_1 >>> (1 &&& 31))) &&& 1365)) (fun (r_2 : Int32) => some r_2))
set_option maxHeartbeats 4000000 in
set_option maxRecDepth 100000 in
theorem c_X5_unlike (g : XG) (l : Launch) (lo n : Nat) (σ : Mem) (a0 : Int32) (a1 : Int32) (r : Int32) (hf : f_X5_unlike a0 a1 = some r) : Met l yX5_unlike (wx (.code yX5_unlike cX5_unlike 3 (some .int))) (kr 1 20) (va_Pc [.int a0, .int a1] (WS g lo n σ)) (Qi' g lo n r σ) 0 0 (Ag g lo) := by
  refine Met.ofW (cc := cX5_unlike) (maxL := 3) (ret := (some .int)) (by decide) rfl ?_
  intro p e s m args below meth c s₁ B hml hv
  obtain ⟨rfl, hZ, hT, hW⟩ := hv
  have hx := B.exec
  have hb := B.bytes
  have hr := B.returns
  have hts : ∀ w ∈ wx (.code yX5_unlike cX5_unlike 3 (some .int)), w.before _ s = true := atoms_spec B.pre
  have htg : ∀ w ∈ lwg, w.before _ s = true := fun w h => hts w (List.mem_cons_of_mem _ h)
  have hown : s.vm.findClass RX5 = some m.cls := findClass_of_methodNamed B.named
  have hlocks := B.notSynchronized
  change W p l e (kr 1 20) s m (List.toArray [.int a0, .int a1]) below meth c s.heap [] 0 0 (MQ below (Qi' g lo n r σ) (List.toArray [.int a0, .int a1]) s 0 0 (Ag g lo)) _
  generalize hQ : MQ below (Qi' g lo n r σ) (List.toArray [.int a0, .int a1]) s 0 0 (Ag g lo) = Q
  have hS : va_S (Ag g lo) s.heap s.heap [] := va_S.rf
  have hl := lv_entry ([.int a0, .int a1]) (n := 3) (Nat.le_of_ble_eq_true rfl)
  rw [lg_entry_eq]
  generalize (lg_sl ([.int a0, .int a1]) ++ List.replicate (3 - (lg_sl ([.int a0, .int a1])).length) Slot.unset).toArray = ls at hl ⊢
  have hl : lv_has ls 3 [(0, .int a0), (1, .int a1)] := hl
  delta f_X5_unlike at hf
  obtain ⟨H, hH⟩ : ∃ H, H = s.heap := ⟨_, rfl⟩
  obtain ⟨locs, hLc⟩ : ∃ z : List Loc, z = [] := ⟨_, rfl⟩
  have hS : va_S (Ag g lo) s.heap H locs := by rw [hH, hLc]; exact hS
  have hW : Wd g lo n σ H := by rw [hH]; exact hW
  suffices hG : W p l e (kr 1 20) s m (List.toArray [.int a0, .int a1]) below meth c H locs 0 0 Q (F0 m 0 ls []) by rw [hH, hLc] at hG; exact hG
  clear hH hLc
  refine lv_iload_n hx hb dX5_unlike_0 rfl (lv_at hl 0 rfl) ?_
  refine lv_iload_n hx hb dX5_unlike_1 rfl (lv_at hl 1 rfl) ?_
  refine lv_ixor hx hb dX5_unlike_2 ?_
  refine mnmi hf (fun (x_1 : Int32) hf => ?_)
  refine lv_istore_n (lv' := [(2, .int x_1), (0, .int a0), (1, .int a1)]) hx hb dX5_unlike_3 rfl hl (by decide) rfl (fun ls hl => ?_)
  refine lv_iload_n hx hb dX5_unlike_4 rfl (lv_at hl 0 rfl) ?_
  refine lv_iload_n hx hb dX5_unlike_5 rfl (lv_at hl 0 rfl) ?_
  refine lv_iconst (v := 1) hx hb dX5_unlike_6 (by decide) ?_
  refine lv_ishr hx hb dX5_unlike_7 ?_
  refine lv_ior hx hb dX5_unlike_8 ?_
  refine lv_sipush (v := 1365) hx hb dX5_unlike_9 (by decide) ?_
  refine lv_iand hx hb dX5_unlike_12 ?_
  refine mcip hf hS (fun r h => va_runS (As := [.int ((x_1 ||| (x_1 >>> (1 &&& 31))) &&& 1365)]) (rest := []) ⟨hx, hb, hml, hown, hts⟩ (c_J6_bitCount_0f7a4 g l lo n σ ((x_1 ||| (x_1 >>> (1 &&& 31))) &&& 1365) r h) (cl_X5_40 hts ⟨Nat.le_of_ble_eq_true rfl, Nat.le_of_ble_eq_true rfl⟩) (mpS hZ hT hS hW _) rfl rfl hl.1 rfl (lv_room (Nat.le_of_ble_eq_true rfl)) dX5_unlike_13 ⟨Nat.zero_le _, Nat.zero_le _⟩) (fun r_2 H locs hf hW hS => ?_)
  subst hQ
  exact mri hx hb hr hlocks hZ hT hS hW ⟨Option.some.inj hf, rfl⟩ dX5_unlike_16
def f_X5_begin (σ : Mem) (p0 : Nat) (a1 : Int32) (a2 : Int32) : Option (Mem) :=
  fx2 FU (fun k_3 (i_1 : Int32) (σ_2 : Mem) => (if 30 ≤ i_1 then some σ_2 else bd1 (f_X12_inside a1 5) (fun (r_4 : Int32) => (if r_4 = 0 then some σ_2 else bd1 (f_X12_set σ_2 (p0 + 1) ((a1 * 30) + i_1) a2) (fun (σ_5 : Mem) => nm (i_1 + 1) (fun (x_6 : Int32) => k_3 x_6 σ_5)))))) 0 σ
set_option maxHeartbeats 4000000 in
set_option maxRecDepth 100000 in
theorem c_X5_begin (g : XG) (l : Launch) (lo n : Nat) (σ : Mem) (p0 : Nat) (a1 : Int32) (a2 : Int32) (t0 : tp 5 lo n p0) (τ : Mem) (hf : f_X5_begin σ p0 a1 a2 = some τ) : Met l yX5_begin (wx (.code yX5_begin cX5_begin 4 none)) (kr 1 22) (va_Pc [.ref (bs g p0), .int a1, .int a2] (WS g lo n σ)) (Qv' g lo n τ) 0 0 (Ag g lo) := by
  refine Met.ofW (cc := cX5_begin) (maxL := 4) (ret := none) (by decide) rfl ?_
  intro p e s m args below meth c s₁ B hml hv
  obtain ⟨rfl, hZ, hT, hW⟩ := hv
  have hx := B.exec
  have hb := B.bytes
  have hr := B.returns
  have hts : ∀ w ∈ wx (.code yX5_begin cX5_begin 4 none), w.before _ s = true := atoms_spec B.pre
  have htg : ∀ w ∈ lwg, w.before _ s = true := fun w h => hts w (List.mem_cons_of_mem _ h)
  have hown : s.vm.findClass RX5 = some m.cls := findClass_of_methodNamed B.named
  have hlocks := B.notSynchronized
  change W p l e (kr 1 22) s m (List.toArray [.ref (bs g p0), .int a1, .int a2]) below meth c s.heap [] 0 0 (MQ below (Qv' g lo n τ) (List.toArray [.ref (bs g p0), .int a1, .int a2]) s 0 0 (Ag g lo)) _
  generalize hQ : MQ below (Qv' g lo n τ) (List.toArray [.ref (bs g p0), .int a1, .int a2]) s 0 0 (Ag g lo) = Q
  have hS : va_S (Ag g lo) s.heap s.heap [] := va_S.rf
  have hl := lv_entry ([.ref (bs g p0), .int a1, .int a2]) (n := 4) (Nat.le_of_ble_eq_true rfl)
  rw [lg_entry_eq]
  generalize (lg_sl ([.ref (bs g p0), .int a1, .int a2]) ++ List.replicate (4 - (lg_sl ([.ref (bs g p0), .int a1, .int a2])).length) Slot.unset).toArray = ls at hl ⊢
  have hl : lv_has ls 4 [(0, .ref (bs g p0)), (1, .int a1), (2, .int a2)] := hl
  delta f_X5_begin at hf
  obtain ⟨H, hH⟩ : ∃ H, H = s.heap := ⟨_, rfl⟩
  obtain ⟨locs, hLc⟩ : ∃ z : List Loc, z = [] := ⟨_, rfl⟩
  have hS : va_S (Ag g lo) s.heap H locs := by rw [hH, hLc]; exact hS
  have hW : Wd g lo n σ H := by rw [hH]; exact hW
  suffices hG : W p l e (kr 1 22) s m (List.toArray [.ref (bs g p0), .int a1, .int a2]) below meth c H locs 0 0 Q (F0 m 0 ls []) by rw [hH, hLc] at hG; exact hG
  clear hH hLc
  refine lv_iconst (v := 0) hx hb dX5_begin_0 (by decide) ?_
  refine lv_istore_n (lv' := [(3, .int 0), (0, .ref (bs g p0)), (1, .int a1), (2, .int a2)]) hx hb dX5_begin_1 rfl hl (by decide) rfl (fun ls hl => ?_)
  refine fx2_W (fun (i_1 : Int32) (σ_2 : Mem) => ∀ (H : Heap) (locs : List Loc) (ls : Array Slot), Wd g lo n σ_2 H → va_S (Ag g lo) s.heap H locs → lv_has ls 4 [(0, .ref (bs g p0)), (1, .int a1), (2, .int a2), (3, .int i_1)] → W p l e (kr 1 22) s m (List.toArray [.ref (bs g p0), .int a1, .int a2]) below meth c H locs 0 0 Q (F0 m 2 ls [])) (fun k_3 hk_3 i_1 σ_2 hf => ?_) FU 0 σ hf H locs ls hW hS (lv_sub hl [1, 2, 3, 0] rfl)
  intro H locs ls hW hS hl
  refine lv_iload_n hx hb dX5_begin_2 rfl (lv_at hl 3 rfl) ?_
  refine lv_bipush (v := 30) hx hb dX5_begin_3 (by decide) ?_
  refine lv_icmp_ge (tgt := 36) hx hb dX5_begin_5 (by decide) (fun hc => ?_) (fun hc => ?_)
  · have hf := ift hc hf
    subst hQ
    exact mrv hx hb hr hlocks hZ hT hS hW (Option.some.inj hf) dX5_begin_36
  · have hf := iff_ hc hf
    refine lv_iload_n hx hb dX5_begin_8 rfl (lv_at hl 1 rfl) ?_
    refine lv_iconst (v := 5) hx hb dX5_begin_9 (by decide) ?_
    refine mcip hf hS (fun r h => va_runSN (As := [.int a1, .int 5]) (rest := []) ⟨hx, hb, hml, hown, hts⟩ (c_X12_inside g l lo n σ_2 a1 5 r h) (cl_X5_15 hts hZ ⟨Nat.le_of_ble_eq_true rfl, Nat.le_of_ble_eq_true rfl⟩) (mpS hZ hT hS hW _) rfl rfl hl.1 rfl (lv_room (Nat.le_of_ble_eq_true rfl)) dX5_begin_10 ⟨Nat.zero_le _, Nat.zero_le _⟩) (fun r_4 H locs hf hW hS => ?_)
    refine lv_if_eq (tgt := 36) hx hb dX5_begin_13 (by decide) (fun hc => ?_) (fun hc => ?_)
    · have hf := ift hc hf
      subst hQ
      exact mrv hx hb hr hlocks hZ hT hS hW (Option.some.inj hf) dX5_begin_36
    · have hf := iff_ hc hf
      refine lv_aload_n hx hb dX5_begin_16 rfl (lv_at hl 0 rfl) ?_
      refine gf_5_0 hx hb htg (htg _ lf_X5_9) hown hZ hW t0 dX5_begin_17 ?_
      refine lv_iload_n hx hb dX5_begin_20 rfl (lv_at hl 1 rfl) ?_
      refine lv_bipush (v := 30) hx hb dX5_begin_21 (by decide) ?_
      refine lv_imul hx hb dX5_begin_23 ?_
      refine lv_iload_n hx hb dX5_begin_24 rfl (lv_at hl 3 rfl) ?_
      refine lv_iadd hx hb dX5_begin_25 ?_
      refine lv_iload_n hx hb dX5_begin_26 rfl (lv_at hl 2 rfl) ?_
      refine mcv hf hS (fun τ h => va_runSN (As := [.ref (bs g (p0 + 1)), .int ((a1 * 30) + i_1), .int a2]) (rest := []) ⟨hx, hb, hml, hown, hts⟩ (c_X12_set g l lo n σ_2 (p0 + 1) ((a1 * 30) + i_1) a2 (t0.sub 20 1 so_5_20_1) τ h) (cl_X5_19 hts hZ ⟨Nat.le_of_ble_eq_true rfl, Nat.le_of_ble_eq_true rfl⟩) (mpS hZ hT hS hW _) rfl rfl hl.1 rfl (lv_room (Nat.le_of_ble_eq_true rfl)) dX5_begin_27 ⟨Nat.zero_le _, Nat.zero_le _⟩) (fun σ_5 H locs hf hW hS => ?_)
      obtain ⟨x_6, e_7, hf⟩ := nm_s hf
      refine lv_iinc (v := x_6) (lv' := [(3, .int x_6), (0, .ref (bs g p0)), (1, .int a1), (2, .int a2)]) hx hb dX5_begin_30 hl (k := 3) rfl (by rw [e_7]; rfl) (by decide) rfl (fun ls hl => ?_)
      refine lv_goto (tgt := 2) hx hb dX5_begin_33 (by decide) ?_
      exact hk_3 x_6 σ_5 hf H locs ls hW hS (lv_sub hl [1, 2, 3, 0] rfl)
def f_X12_copyRow (σ : Mem) (p0 : Nat) (p1 : Nat) : Option (Mem) :=
  nm (if (nI (aln p1)) < (nI (aln p0)) then (nI (aln p1)) else (nI (aln p0))) (fun (x_1 : Int32) => cpd 0 0 x_1 (aln p0) (aln p1) (nm (sA σ p1 (va_cpy (σ.1 p0) (σ.1 p1) (0 : Int32).toNatClampNeg (0 : Int32).toNatClampNeg x_1.toNatClampNeg)) (fun (σ_2 : Mem) => some σ_2)))
set_option maxHeartbeats 4000000 in
set_option maxRecDepth 100000 in
theorem c_X12_copyRow (g : XG) (l : Launch) (lo n : Nat) (σ : Mem) (p0 : Nat) (p1 : Nat) (t0 : tp 20 lo n p0) (t1 : tp 20 lo n p1) (τ : Mem) (hf : f_X12_copyRow σ p0 p1 = some τ) : Met l yX12_copyRow (wx (.code yX12_copyRow cX12_copyRow 2 none)) (kr 1 60) (va_Pc [.ref (bs g p0), .ref (bs g p1)] (WS g lo n σ)) (Qv' g lo n τ) 0 0 (Ag g lo) := by
  refine Met.ofW (cc := cX12_copyRow) (maxL := 2) (ret := none) (by decide) rfl ?_
  intro p e s m args below meth c s₁ B hml hv
  obtain ⟨rfl, hZ, hT, hW⟩ := hv
  have hx := B.exec
  have hb := B.bytes
  have hr := B.returns
  have hts : ∀ w ∈ wx (.code yX12_copyRow cX12_copyRow 2 none), w.before _ s = true := atoms_spec B.pre
  have htg : ∀ w ∈ lwg, w.before _ s = true := fun w h => hts w (List.mem_cons_of_mem _ h)
  have hown : s.vm.findClass RX12 = some m.cls := findClass_of_methodNamed B.named
  have hlocks := B.notSynchronized
  change W p l e (kr 1 60) s m (List.toArray [.ref (bs g p0), .ref (bs g p1)]) below meth c s.heap [] 0 0 (MQ below (Qv' g lo n τ) (List.toArray [.ref (bs g p0), .ref (bs g p1)]) s 0 0 (Ag g lo)) _
  generalize hQ : MQ below (Qv' g lo n τ) (List.toArray [.ref (bs g p0), .ref (bs g p1)]) s 0 0 (Ag g lo) = Q
  have hS : va_S (Ag g lo) s.heap s.heap [] := va_S.rf
  have hl := lv_entry ([.ref (bs g p0), .ref (bs g p1)]) (n := 2) (Nat.le_of_ble_eq_true rfl)
  rw [lg_entry_eq]
  generalize (lg_sl ([.ref (bs g p0), .ref (bs g p1)]) ++ List.replicate (2 - (lg_sl ([.ref (bs g p0), .ref (bs g p1)])).length) Slot.unset).toArray = ls at hl ⊢
  have hl : lv_has ls 2 [(0, .ref (bs g p0)), (1, .ref (bs g p1))] := hl
  delta f_X12_copyRow at hf
  obtain ⟨H, hH⟩ : ∃ H, H = s.heap := ⟨_, rfl⟩
  obtain ⟨locs, hLc⟩ : ∃ z : List Loc, z = [] := ⟨_, rfl⟩
  have hS : va_S (Ag g lo) s.heap H locs := by rw [hH, hLc]; exact hS
  have hW : Wd g lo n σ H := by rw [hH]; exact hW
  suffices hG : W p l e (kr 1 60) s m (List.toArray [.ref (bs g p0), .ref (bs g p1)]) below meth c H locs 0 0 Q (F0 m 0 ls []) by rw [hH, hLc] at hG; exact hG
  clear hH hLc
  refine lv_aload_n hx hb dX12_copyRow_0 rfl (lv_at hl 0 rfl) ?_
  refine lv_iconst (v := 0) hx hb dX12_copyRow_1 (by decide) ?_
  refine lv_aload_n hx hb dX12_copyRow_2 rfl (lv_at hl 1 rfl) ?_
  refine lv_iconst (v := 0) hx hb dX12_copyRow_3 (by decide) ?_
  refine lv_aload_n hx hb dX12_copyRow_4 rfl (lv_at hl 0 rfl) ?_
  refine mln_i hx hb hZ hW t0 dX12_copyRow_5 ?_
  refine lv_aload_n hx hb dX12_copyRow_6 rfl (lv_at hl 1 rfl) ?_
  refine mln_i hx hb hZ hW t1 dX12_copyRow_7 ?_
  refine va_mmin hx hb (hml.trans hl.1.symm) hown (htg _ lm_X12_368) (htg _ lst_Math_min) (htg _ ini_Math) (htg _ lc_Math_min) (Nat.le_of_ble_eq_true rfl) (Nat.le_of_ble_eq_true rfl) (Nat.zero_le _) (Nat.zero_le _) dX12_copyRow_8 ?_
  refine mnmi hf (fun (x_1 : Int32) hf => ?_)
  refine mcpy hx hb (hml.trans hl.1.symm) htg hown lm_X12_371 hZ hW hS t0 t1 hf (Nat.le_of_ble_eq_true rfl) (Nat.le_of_ble_eq_true rfl) dX12_copyRow_11 (fun σ_2 H locs hf hW hS => ?_)
  subst hQ
  exact mrv hx hb hr hlocks hZ hT hS hW (Option.some.inj hf) dX12_copyRow_14
def f_X5_copy (σ : Mem) (p0 : Nat) (p1 : Nat) : Option (Mem) :=
  bd1 (f_X12_copyRow σ (p1 + 1) (p0 + 1)) (fun (σ_1 : Mem) => some σ_1)
set_option maxHeartbeats 4000000 in
set_option maxRecDepth 100000 in
theorem c_X5_copy (g : XG) (l : Launch) (lo n : Nat) (σ : Mem) (p0 : Nat) (p1 : Nat) (t0 : tp 5 lo n p0) (t1 : tp 5 lo n p1) (τ : Mem) (hf : f_X5_copy σ p0 p1 = some τ) : Met l yX5_copy (wx (.code yX5_copy cX5_copy 2 none)) (kr 2 81) (va_Pc [.ref (bs g p0), .ref (bs g p1)] (WS g lo n σ)) (Qv' g lo n τ) 0 0 (Ag g lo) := by
  refine Met.ofW (cc := cX5_copy) (maxL := 2) (ret := none) (by decide) rfl ?_
  intro p e s m args below meth c s₁ B hml hv
  obtain ⟨rfl, hZ, hT, hW⟩ := hv
  have hx := B.exec
  have hb := B.bytes
  have hr := B.returns
  have hts : ∀ w ∈ wx (.code yX5_copy cX5_copy 2 none), w.before _ s = true := atoms_spec B.pre
  have htg : ∀ w ∈ lwg, w.before _ s = true := fun w h => hts w (List.mem_cons_of_mem _ h)
  have hown : s.vm.findClass RX5 = some m.cls := findClass_of_methodNamed B.named
  have hlocks := B.notSynchronized
  change W p l e (kr 2 81) s m (List.toArray [.ref (bs g p0), .ref (bs g p1)]) below meth c s.heap [] 0 0 (MQ below (Qv' g lo n τ) (List.toArray [.ref (bs g p0), .ref (bs g p1)]) s 0 0 (Ag g lo)) _
  generalize hQ : MQ below (Qv' g lo n τ) (List.toArray [.ref (bs g p0), .ref (bs g p1)]) s 0 0 (Ag g lo) = Q
  have hS : va_S (Ag g lo) s.heap s.heap [] := va_S.rf
  have hl := lv_entry ([.ref (bs g p0), .ref (bs g p1)]) (n := 2) (Nat.le_of_ble_eq_true rfl)
  rw [lg_entry_eq]
  generalize (lg_sl ([.ref (bs g p0), .ref (bs g p1)]) ++ List.replicate (2 - (lg_sl ([.ref (bs g p0), .ref (bs g p1)])).length) Slot.unset).toArray = ls at hl ⊢
  have hl : lv_has ls 2 [(0, .ref (bs g p0)), (1, .ref (bs g p1))] := hl
  delta f_X5_copy at hf
  obtain ⟨H, hH⟩ : ∃ H, H = s.heap := ⟨_, rfl⟩
  obtain ⟨locs, hLc⟩ : ∃ z : List Loc, z = [] := ⟨_, rfl⟩
  have hS : va_S (Ag g lo) s.heap H locs := by rw [hH, hLc]; exact hS
  have hW : Wd g lo n σ H := by rw [hH]; exact hW
  suffices hG : W p l e (kr 2 81) s m (List.toArray [.ref (bs g p0), .ref (bs g p1)]) below meth c H locs 0 0 Q (F0 m 0 ls []) by rw [hH, hLc] at hG; exact hG
  clear hH hLc
  refine lv_aload_n hx hb dX5_copy_0 rfl (lv_at hl 1 rfl) ?_
  refine gf_5_0 hx hb htg (htg _ lf_X5_9) hown hZ hW t1 dX5_copy_1 ?_
  refine lv_aload_n hx hb dX5_copy_4 rfl (lv_at hl 0 rfl) ?_
  refine gf_5_0 hx hb htg (htg _ lf_X5_9) hown hZ hW t0 dX5_copy_5 ?_
  refine mcv hf hS (fun τ h => va_runSN (As := [.ref (bs g (p1 + 1)), .ref (bs g (p0 + 1))]) (rest := []) ⟨hx, hb, hml, hown, hts⟩ (c_X12_copyRow g l lo n σ (p1 + 1) (p0 + 1) (t1.sub 20 1 so_5_20_1) (t0.sub 20 1 so_5_20_1) τ h) (cl_X5_36 hts hZ ⟨Nat.le_of_ble_eq_true rfl, Nat.le_of_ble_eq_true rfl⟩) (mpS hZ hT hS hW _) rfl rfl hl.1 rfl (lv_room (Nat.le_of_ble_eq_true rfl)) dX5_copy_8 ⟨Nat.zero_le _, Nat.zero_le _⟩) (fun σ_1 H locs hf hW hS => ?_)
  subst hQ
  exact mrv hx hb hr hlocks hZ hT hS hW (Option.some.inj hf) dX5_copy_11
def f_X5_letter (a0 : Int32) (a1 : Int32) : Option (Int32) :=
  some ((a0 >>> ((2 * (5 - a1)) &&& 31)) &&& 3)
set_option maxHeartbeats 4000000 in
set_option maxRecDepth 100000 in
theorem c_X5_letter (g : XG) (l : Launch) (lo n : Nat) (σ : Mem) (a0 : Int32) (a1 : Int32) (r : Int32) (hf : f_X5_letter a0 a1 = some r) : Met l yX5_letter (wx (.code yX5_letter cX5_letter 2 (some .int))) (kr 0 0) (va_Pc [.int a0, .int a1] (WS g lo n σ)) (Qi' g lo n r σ) 0 0 (Ag g lo) := by
  refine Met.ofW (cc := cX5_letter) (maxL := 2) (ret := (some .int)) (by decide) rfl ?_
  intro p e s m args below meth c s₁ B hml hv
  obtain ⟨rfl, hZ, hT, hW⟩ := hv
  have hx := B.exec
  have hb := B.bytes
  have hr := B.returns
  have hts : ∀ w ∈ wx (.code yX5_letter cX5_letter 2 (some .int)), w.before _ s = true := atoms_spec B.pre
  have htg : ∀ w ∈ lwg, w.before _ s = true := fun w h => hts w (List.mem_cons_of_mem _ h)
  have hown : s.vm.findClass RX5 = some m.cls := findClass_of_methodNamed B.named
  have hlocks := B.notSynchronized
  change W p l e (kr 0 0) s m (List.toArray [.int a0, .int a1]) below meth c s.heap [] 0 0 (MQ below (Qi' g lo n r σ) (List.toArray [.int a0, .int a1]) s 0 0 (Ag g lo)) _
  generalize hQ : MQ below (Qi' g lo n r σ) (List.toArray [.int a0, .int a1]) s 0 0 (Ag g lo) = Q
  have hS : va_S (Ag g lo) s.heap s.heap [] := va_S.rf
  have hl := lv_entry ([.int a0, .int a1]) (n := 2) (Nat.le_of_ble_eq_true rfl)
  rw [lg_entry_eq]
  generalize (lg_sl ([.int a0, .int a1]) ++ List.replicate (2 - (lg_sl ([.int a0, .int a1])).length) Slot.unset).toArray = ls at hl ⊢
  have hl : lv_has ls 2 [(0, .int a0), (1, .int a1)] := hl
  delta f_X5_letter at hf
  obtain ⟨H, hH⟩ : ∃ H, H = s.heap := ⟨_, rfl⟩
  obtain ⟨locs, hLc⟩ : ∃ z : List Loc, z = [] := ⟨_, rfl⟩
  have hS : va_S (Ag g lo) s.heap H locs := by rw [hH, hLc]; exact hS
  have hW : Wd g lo n σ H := by rw [hH]; exact hW
  suffices hG : W p l e (kr 0 0) s m (List.toArray [.int a0, .int a1]) below meth c H locs 0 0 Q (F0 m 0 ls []) by rw [hH, hLc] at hG; exact hG
  clear hH hLc
  refine lv_iload_n hx hb dX5_letter_0 rfl (lv_at hl 0 rfl) ?_
  refine lv_iconst (v := 2) hx hb dX5_letter_1 (by decide) ?_
  refine lv_iconst (v := 5) hx hb dX5_letter_2 (by decide) ?_
  refine lv_iload_n hx hb dX5_letter_3 rfl (lv_at hl 1 rfl) ?_
  refine lv_isub hx hb dX5_letter_4 ?_
  refine lv_imul hx hb dX5_letter_5 ?_
  refine lv_ishr hx hb dX5_letter_6 ?_
  refine lv_iconst (v := 3) hx hb dX5_letter_7 (by decide) ?_
  refine lv_iand hx hb dX5_letter_8 ?_
  subst hQ
  exact mri hx hb hr hlocks hZ hT hS hW ⟨Option.some.inj hf, rfl⟩ dX5_letter_9
def f_X5_unlikeMarks (a0 : Int32) (a1 : Int32) : Option (Int32) :=
  fx2 FU (fun k_3 (i_1 : Int32) (i_2 : Int32) => (if 6 ≤ i_2 then some i_1 else bd1 (f_X5_letter a0 i_2) (fun (r_4 : Int32) => bd1 (f_X5_letter a1 i_2) (fun (r_5 : Int32) => jn1 (fun (i_6 : Int32) => nm (i_1 ||| i_6) (fun (x_8 : Int32) => nm (i_2 + 1) (fun (x_9 : Int32) => k_3 x_8 x_9))) (fun k_7 => (if r_4 = r_5 then k_7 0 else k_7 (1 <<< (i_2 &&& 31)))))))) 0 0
set_option maxHeartbeats 4000000 in
set_option maxRecDepth 100000 in
theorem c_X5_unlikeMarks (g : XG) (l : Launch) (lo n : Nat) (σ : Mem) (a0 : Int32) (a1 : Int32) (r : Int32) (hf : f_X5_unlikeMarks a0 a1 = some r) : Met l yX5_unlikeMarks (wx (.code yX5_unlikeMarks cX5_unlikeMarks 4 (some .int))) (kr 1 21) (va_Pc [.int a0, .int a1] (WS g lo n σ)) (Qi' g lo n r σ) 0 0 (Ag g lo) := by
  refine Met.ofW (cc := cX5_unlikeMarks) (maxL := 4) (ret := (some .int)) (by decide) rfl ?_
  intro p e s m args below meth c s₁ B hml hv
  obtain ⟨rfl, hZ, hT, hW⟩ := hv
  have hx := B.exec
  have hb := B.bytes
  have hr := B.returns
  have hts : ∀ w ∈ wx (.code yX5_unlikeMarks cX5_unlikeMarks 4 (some .int)), w.before _ s = true := atoms_spec B.pre
  have htg : ∀ w ∈ lwg, w.before _ s = true := fun w h => hts w (List.mem_cons_of_mem _ h)
  have hown : s.vm.findClass RX5 = some m.cls := findClass_of_methodNamed B.named
  have hlocks := B.notSynchronized
  change W p l e (kr 1 21) s m (List.toArray [.int a0, .int a1]) below meth c s.heap [] 0 0 (MQ below (Qi' g lo n r σ) (List.toArray [.int a0, .int a1]) s 0 0 (Ag g lo)) _
  generalize hQ : MQ below (Qi' g lo n r σ) (List.toArray [.int a0, .int a1]) s 0 0 (Ag g lo) = Q
  have hS : va_S (Ag g lo) s.heap s.heap [] := va_S.rf
  have hl := lv_entry ([.int a0, .int a1]) (n := 4) (Nat.le_of_ble_eq_true rfl)
  rw [lg_entry_eq]
  generalize (lg_sl ([.int a0, .int a1]) ++ List.replicate (4 - (lg_sl ([.int a0, .int a1])).length) Slot.unset).toArray = ls at hl ⊢
  have hl : lv_has ls 4 [(0, .int a0), (1, .int a1)] := hl
  delta f_X5_unlikeMarks at hf
  obtain ⟨H, hH⟩ : ∃ H, H = s.heap := ⟨_, rfl⟩
  obtain ⟨locs, hLc⟩ : ∃ z : List Loc, z = [] := ⟨_, rfl⟩
  have hS : va_S (Ag g lo) s.heap H locs := by rw [hH, hLc]; exact hS
  have hW : Wd g lo n σ H := by rw [hH]; exact hW
  suffices hG : W p l e (kr 1 21) s m (List.toArray [.int a0, .int a1]) below meth c H locs 0 0 Q (F0 m 0 ls []) by rw [hH, hLc] at hG; exact hG
  clear hH hLc
  refine lv_iconst (v := 0) hx hb dX5_unlikeMarks_0 (by decide) ?_
  refine lv_istore_n (lv' := [(2, .int 0), (0, .int a0), (1, .int a1)]) hx hb dX5_unlikeMarks_1 rfl hl (by decide) rfl (fun ls hl => ?_)
  refine lv_iconst (v := 0) hx hb dX5_unlikeMarks_2 (by decide) ?_
  refine lv_istore_n (lv' := [(3, .int 0), (2, .int 0), (0, .int a0), (1, .int a1)]) hx hb dX5_unlikeMarks_3 rfl hl (by decide) rfl (fun ls hl => ?_)
  refine fx2_W (fun (i_1 : Int32) (i_2 : Int32) => ∀ (H : Heap) (locs : List Loc) (ls : Array Slot), Wd g lo n σ H → va_S (Ag g lo) s.heap H locs → lv_has ls 4 [(0, .int a0), (1, .int a1), (2, .int i_1), (3, .int i_2)] → W p l e (kr 1 21) s m (List.toArray [.int a0, .int a1]) below meth c H locs 0 0 Q (F0 m 4 ls [])) (fun k_3 hk_3 i_1 i_2 hf => ?_) FU 0 0 hf H locs ls hW hS (lv_sub hl [2, 3, 1, 0] rfl)
  intro H locs ls hW hS hl
  refine lv_iload_n hx hb dX5_unlikeMarks_4 rfl (lv_at hl 3 rfl) ?_
  refine lv_bipush (v := 6) hx hb dX5_unlikeMarks_5 (by decide) ?_
  refine lv_icmp_ge (tgt := 39) hx hb dX5_unlikeMarks_7 (by decide) (fun hc => ?_) (fun hc => ?_)
  · have hf := ift hc hf
    refine lv_iload_n hx hb dX5_unlikeMarks_39 rfl (lv_at hl 2 rfl) ?_
    subst hQ
    exact mri hx hb hr hlocks hZ hT hS hW ⟨Option.some.inj hf, rfl⟩ dX5_unlikeMarks_40
  · have hf := iff_ hc hf
    refine lv_iload_n hx hb dX5_unlikeMarks_10 rfl (lv_at hl 2 rfl) ?_
    refine lv_iload_n hx hb dX5_unlikeMarks_11 rfl (lv_at hl 0 rfl) ?_
    refine lv_iload_n hx hb dX5_unlikeMarks_12 rfl (lv_at hl 3 rfl) ?_
    refine mcip hf hS (fun r h => va_runS (As := [.int a0, .int i_2]) (rest := [.int i_1]) ⟨hx, hb, hml, hown, hts⟩ (c_X5_letter g l lo n σ a0 i_2 r h) (cl_X5_46 hts ⟨Nat.le_of_ble_eq_true rfl, Nat.le_of_ble_eq_true rfl⟩) (mpS hZ hT hS hW _) rfl rfl hl.1 rfl (lv_room (Nat.le_of_ble_eq_true rfl)) dX5_unlikeMarks_13 ⟨Nat.zero_le _, Nat.zero_le _⟩) (fun r_4 H locs hf hW hS => ?_)
    refine lv_iload_n hx hb dX5_unlikeMarks_16 rfl (lv_at hl 1 rfl) ?_
    refine lv_iload_n hx hb dX5_unlikeMarks_17 rfl (lv_at hl 3 rfl) ?_
    refine mcip hf hS (fun r h => va_runS (As := [.int a1, .int i_2]) (rest := [.int r_4, .int i_1]) ⟨hx, hb, hml, hown, hts⟩ (c_X5_letter g l lo n σ a1 i_2 r h) (cl_X5_46 hts ⟨Nat.le_of_ble_eq_true rfl, Nat.le_of_ble_eq_true rfl⟩) (mpS hZ hT hS hW _) rfl rfl hl.1 rfl (lv_room (Nat.le_of_ble_eq_true rfl)) dX5_unlikeMarks_18 ⟨Nat.zero_le _, Nat.zero_le _⟩) (fun r_5 H locs hf hW hS => ?_)
    refine jn1_W (fun (i_6 : Int32) => ∀ (H : Heap) (locs : List Loc) (ls : Array Slot), Wd g lo n σ H → va_S (Ag g lo) s.heap H locs → lv_has ls 4 [(0, .int a0), (1, .int a1), (3, .int i_2)] → W p l e (kr 1 21) s m (List.toArray [.int a0, .int a1]) below meth c H locs 0 0 Q (F0 m 31 ls [.int i_6, .int i_1])) hf (fun i_6 hf => ?_) (fun k_7 hk_7 hf => ?_)
    · intro H locs ls hW hS hl
      refine lv_ior hx hb dX5_unlikeMarks_31 ?_
      refine mnmi hf (fun (x_8 : Int32) hf => ?_)
      refine lv_istore_n (lv' := [(2, .int x_8), (0, .int a0), (1, .int a1), (3, .int i_2)]) hx hb dX5_unlikeMarks_32 rfl hl (by decide) rfl (fun ls hl => ?_)
      obtain ⟨x_9, e_10, hf⟩ := nm_s hf
      refine lv_iinc (v := x_9) (lv' := [(3, .int x_9), (2, .int x_8), (0, .int a0), (1, .int a1)]) hx hb dX5_unlikeMarks_33 hl (k := 3) rfl (by rw [e_10]; rfl) (by decide) rfl (fun ls hl => ?_)
      refine lv_goto (tgt := 4) hx hb dX5_unlikeMarks_36 (by decide) ?_
      exact hk_3 x_8 x_9 hf H locs ls hW hS (lv_sub hl [2, 3, 1, 0] rfl)
    · refine lv_icmp_eq (tgt := 30) hx hb dX5_unlikeMarks_21 (by decide) (fun hc => ?_) (fun hc => ?_)
      · have hf := ift hc hf
        refine lv_iconst (v := 0) hx hb dX5_unlikeMarks_30 (by decide) ?_
        exact hk_7 0 hf H locs ls hW hS (lv_sub hl [0, 1, 3] rfl)
      · have hf := iff_ hc hf
        refine lv_iconst (v := 1) hx hb dX5_unlikeMarks_24 (by decide) ?_
        refine lv_iload_n hx hb dX5_unlikeMarks_25 rfl (lv_at hl 3 rfl) ?_
        refine lv_ishl hx hb dX5_unlikeMarks_26 ?_
        refine lv_goto (tgt := 31) hx hb dX5_unlikeMarks_27 (by decide) ?_
        exact hk_7 (1 <<< (i_2 &&& 31)) hf H locs ls hW hS (lv_sub hl [0, 1, 3] rfl)
def f_X5_digits (a0 : Int32) (a1 : Int32) : Option (Int32) :=
  fx2 FU (fun k_3 (i_1 : Int32) (i_2 : Int32) => (if a1 ≤ i_2 then some i_1 else bd1 (f_X5_letter a0 i_2) (fun (r_4 : Int32) => nm (((10 * i_1) + r_4) + 1) (fun (x_5 : Int32) => nm (i_2 + 1) (fun (x_6 : Int32) => k_3 x_5 x_6))))) 0 0
set_option maxHeartbeats 4000000 in
set_option maxRecDepth 100000 in
theorem c_X5_digits (g : XG) (l : Launch) (lo n : Nat) (σ : Mem) (a0 : Int32) (a1 : Int32) (r : Int32) (hf : f_X5_digits a0 a1 = some r) : Met l yX5_digits (wx (.code yX5_digits cX5_digits 4 (some .int))) (kr 1 21) (va_Pc [.int a0, .int a1] (WS g lo n σ)) (Qi' g lo n r σ) 0 0 (Ag g lo) := by
  refine Met.ofW (cc := cX5_digits) (maxL := 4) (ret := (some .int)) (by decide) rfl ?_
  intro p e s m args below meth c s₁ B hml hv
  obtain ⟨rfl, hZ, hT, hW⟩ := hv
  have hx := B.exec
  have hb := B.bytes
  have hr := B.returns
  have hts : ∀ w ∈ wx (.code yX5_digits cX5_digits 4 (some .int)), w.before _ s = true := atoms_spec B.pre
  have htg : ∀ w ∈ lwg, w.before _ s = true := fun w h => hts w (List.mem_cons_of_mem _ h)
  have hown : s.vm.findClass RX5 = some m.cls := findClass_of_methodNamed B.named
  have hlocks := B.notSynchronized
  change W p l e (kr 1 21) s m (List.toArray [.int a0, .int a1]) below meth c s.heap [] 0 0 (MQ below (Qi' g lo n r σ) (List.toArray [.int a0, .int a1]) s 0 0 (Ag g lo)) _
  generalize hQ : MQ below (Qi' g lo n r σ) (List.toArray [.int a0, .int a1]) s 0 0 (Ag g lo) = Q
  have hS : va_S (Ag g lo) s.heap s.heap [] := va_S.rf
  have hl := lv_entry ([.int a0, .int a1]) (n := 4) (Nat.le_of_ble_eq_true rfl)
  rw [lg_entry_eq]
  generalize (lg_sl ([.int a0, .int a1]) ++ List.replicate (4 - (lg_sl ([.int a0, .int a1])).length) Slot.unset).toArray = ls at hl ⊢
  have hl : lv_has ls 4 [(0, .int a0), (1, .int a1)] := hl
  delta f_X5_digits at hf
  obtain ⟨H, hH⟩ : ∃ H, H = s.heap := ⟨_, rfl⟩
  obtain ⟨locs, hLc⟩ : ∃ z : List Loc, z = [] := ⟨_, rfl⟩
  have hS : va_S (Ag g lo) s.heap H locs := by rw [hH, hLc]; exact hS
  have hW : Wd g lo n σ H := by rw [hH]; exact hW
  suffices hG : W p l e (kr 1 21) s m (List.toArray [.int a0, .int a1]) below meth c H locs 0 0 Q (F0 m 0 ls []) by rw [hH, hLc] at hG; exact hG
  clear hH hLc
  refine lv_iconst (v := 0) hx hb dX5_digits_0 (by decide) ?_
  refine lv_istore_n (lv' := [(2, .int 0), (0, .int a0), (1, .int a1)]) hx hb dX5_digits_1 rfl hl (by decide) rfl (fun ls hl => ?_)
  refine lv_iconst (v := 0) hx hb dX5_digits_2 (by decide) ?_
  refine lv_istore_n (lv' := [(3, .int 0), (2, .int 0), (0, .int a0), (1, .int a1)]) hx hb dX5_digits_3 rfl hl (by decide) rfl (fun ls hl => ?_)
  refine fx2_W (fun (i_1 : Int32) (i_2 : Int32) => ∀ (H : Heap) (locs : List Loc) (ls : Array Slot), Wd g lo n σ H → va_S (Ag g lo) s.heap H locs → lv_has ls 4 [(0, .int a0), (1, .int a1), (2, .int i_1), (3, .int i_2)] → W p l e (kr 1 21) s m (List.toArray [.int a0, .int a1]) below meth c H locs 0 0 Q (F0 m 4 ls [])) (fun k_3 hk_3 i_1 i_2 hf => ?_) FU 0 0 hf H locs ls hW hS (lv_sub hl [2, 3, 1, 0] rfl)
  intro H locs ls hW hS hl
  refine lv_iload_n hx hb dX5_digits_4 rfl (lv_at hl 3 rfl) ?_
  refine lv_iload_n hx hb dX5_digits_5 rfl (lv_at hl 1 rfl) ?_
  refine lv_icmp_ge (tgt := 28) hx hb dX5_digits_6 (by decide) (fun hc => ?_) (fun hc => ?_)
  · have hf := ift hc hf
    refine lv_iload_n hx hb dX5_digits_28 rfl (lv_at hl 2 rfl) ?_
    subst hQ
    exact mri hx hb hr hlocks hZ hT hS hW ⟨Option.some.inj hf, rfl⟩ dX5_digits_29
  · have hf := iff_ hc hf
    refine lv_bipush (v := 10) hx hb dX5_digits_9 (by decide) ?_
    refine lv_iload_n hx hb dX5_digits_11 rfl (lv_at hl 2 rfl) ?_
    refine lv_imul hx hb dX5_digits_12 ?_
    refine lv_iload_n hx hb dX5_digits_13 rfl (lv_at hl 0 rfl) ?_
    refine lv_iload_n hx hb dX5_digits_14 rfl (lv_at hl 3 rfl) ?_
    refine mcip hf hS (fun r h => va_runS (As := [.int a0, .int i_2]) (rest := [.int (10 * i_1)]) ⟨hx, hb, hml, hown, hts⟩ (c_X5_letter g l lo n σ a0 i_2 r h) (cl_X5_46 hts ⟨Nat.le_of_ble_eq_true rfl, Nat.le_of_ble_eq_true rfl⟩) (mpS hZ hT hS hW _) rfl rfl hl.1 rfl (lv_room (Nat.le_of_ble_eq_true rfl)) dX5_digits_15 ⟨Nat.zero_le _, Nat.zero_le _⟩) (fun r_4 H locs hf hW hS => ?_)
    refine lv_iadd hx hb dX5_digits_18 ?_
    refine lv_iconst (v := 1) hx hb dX5_digits_19 (by decide) ?_
    refine lv_iadd hx hb dX5_digits_20 ?_
    refine mnmi hf (fun (x_5 : Int32) hf => ?_)
    refine lv_istore_n (lv' := [(2, .int x_5), (0, .int a0), (1, .int a1), (3, .int i_2)]) hx hb dX5_digits_21 rfl hl (by decide) rfl (fun ls hl => ?_)
    obtain ⟨x_6, e_7, hf⟩ := nm_s hf
    refine lv_iinc (v := x_6) (lv' := [(3, .int x_6), (2, .int x_5), (0, .int a0), (1, .int a1)]) hx hb dX5_digits_22 hl (k := 3) rfl (by rw [e_7]; rfl) (by decide) rfl (fun ls hl => ?_)
    refine lv_goto (tgt := 4) hx hb dX5_digits_25 (by decide) ?_
    exact hk_3 x_5 x_6 hf H locs ls hW hS (lv_sub hl [2, 3, 1, 0] rfl)
def f_X12_fill (σ : Mem) (p0 : Nat) (a1 : Int32) : Option (Mem) :=
  fx2 FU (fun k_3 (i_1 : Int32) (σ_2 : Mem) => (if (nI (aln p0)) ≤ i_1 then some σ_2 else ixd i_1 (aln p0) (nm (sI σ_2 p0 i_1.toNatClampNeg a1) (fun (σ_4 : Mem) => nm (i_1 + 1) (fun (x_5 : Int32) => k_3 x_5 σ_4))))) 0 σ
set_option maxHeartbeats 4000000 in
set_option maxRecDepth 100000 in
theorem c_X12_fill (g : XG) (l : Launch) (lo n : Nat) (σ : Mem) (p0 : Nat) (a1 : Int32) (t0 : tp 20 lo n p0) (τ : Mem) (hf : f_X12_fill σ p0 a1 = some τ) : Met l yX12_fill (wx (.code yX12_fill cX12_fill 3 none)) (kr 0 0) (va_Pc [.ref (bs g p0), .int a1] (WS g lo n σ)) (Qv' g lo n τ) 0 0 (Ag g lo) := by
  refine Met.ofW (cc := cX12_fill) (maxL := 3) (ret := none) (by decide) rfl ?_
  intro p e s m args below meth c s₁ B hml hv
  obtain ⟨rfl, hZ, hT, hW⟩ := hv
  have hx := B.exec
  have hb := B.bytes
  have hr := B.returns
  have hts : ∀ w ∈ wx (.code yX12_fill cX12_fill 3 none), w.before _ s = true := atoms_spec B.pre
  have htg : ∀ w ∈ lwg, w.before _ s = true := fun w h => hts w (List.mem_cons_of_mem _ h)
  have hown : s.vm.findClass RX12 = some m.cls := findClass_of_methodNamed B.named
  have hlocks := B.notSynchronized
  change W p l e (kr 0 0) s m (List.toArray [.ref (bs g p0), .int a1]) below meth c s.heap [] 0 0 (MQ below (Qv' g lo n τ) (List.toArray [.ref (bs g p0), .int a1]) s 0 0 (Ag g lo)) _
  generalize hQ : MQ below (Qv' g lo n τ) (List.toArray [.ref (bs g p0), .int a1]) s 0 0 (Ag g lo) = Q
  have hS : va_S (Ag g lo) s.heap s.heap [] := va_S.rf
  have hl := lv_entry ([.ref (bs g p0), .int a1]) (n := 3) (Nat.le_of_ble_eq_true rfl)
  rw [lg_entry_eq]
  generalize (lg_sl ([.ref (bs g p0), .int a1]) ++ List.replicate (3 - (lg_sl ([.ref (bs g p0), .int a1])).length) Slot.unset).toArray = ls at hl ⊢
  have hl : lv_has ls 3 [(0, .ref (bs g p0)), (1, .int a1)] := hl
  delta f_X12_fill at hf
  obtain ⟨H, hH⟩ : ∃ H, H = s.heap := ⟨_, rfl⟩
  obtain ⟨locs, hLc⟩ : ∃ z : List Loc, z = [] := ⟨_, rfl⟩
  have hS : va_S (Ag g lo) s.heap H locs := by rw [hH, hLc]; exact hS
  have hW : Wd g lo n σ H := by rw [hH]; exact hW
  suffices hG : W p l e (kr 0 0) s m (List.toArray [.ref (bs g p0), .int a1]) below meth c H locs 0 0 Q (F0 m 0 ls []) by rw [hH, hLc] at hG; exact hG
  clear hH hLc
  refine lv_iconst (v := 0) hx hb dX12_fill_0 (by decide) ?_
  refine lv_istore_n (lv' := [(2, .int 0), (0, .ref (bs g p0)), (1, .int a1)]) hx hb dX12_fill_1 rfl hl (by decide) rfl (fun ls hl => ?_)
  refine fx2_W (fun (i_1 : Int32) (σ_2 : Mem) => ∀ (H : Heap) (locs : List Loc) (ls : Array Slot), Wd g lo n σ_2 H → va_S (Ag g lo) s.heap H locs → lv_has ls 3 [(0, .ref (bs g p0)), (1, .int a1), (2, .int i_1)] → W p l e (kr 0 0) s m (List.toArray [.ref (bs g p0), .int a1]) below meth c H locs 0 0 Q (F0 m 2 ls [])) (fun k_3 hk_3 i_1 σ_2 hf => ?_) FU 0 σ hf H locs ls hW hS (lv_sub hl [1, 2, 0] rfl)
  intro H locs ls hW hS hl
  refine lv_iload_n hx hb dX12_fill_2 rfl (lv_at hl 2 rfl) ?_
  refine lv_aload_n hx hb dX12_fill_3 rfl (lv_at hl 0 rfl) ?_
  refine mln_i hx hb hZ hW t0 dX12_fill_4 ?_
  refine lv_icmp_ge (tgt := 18) hx hb dX12_fill_5 (by decide) (fun hc => ?_) (fun hc => ?_)
  · have hf := ift hc hf
    subst hQ
    exact mrv hx hb hr hlocks hZ hT hS hW (Option.some.inj hf) dX12_fill_18
  · have hf := iff_ hc hf
    refine lv_aload_n hx hb dX12_fill_8 rfl (lv_at hl 0 rfl) ?_
    refine lv_iload_n hx hb dX12_fill_9 rfl (lv_at hl 2 rfl) ?_
    refine lv_iload_n hx hb dX12_fill_10 rfl (lv_at hl 1 rfl) ?_
    refine mst_i hx hb hZ hW hS t0 hf dX12_fill_11 (fun σ_4 H locs hf hW hS => ?_)
    obtain ⟨x_5, e_6, hf⟩ := nm_s hf
    refine lv_iinc (v := x_5) (lv' := [(2, .int x_5), (0, .ref (bs g p0)), (1, .int a1)]) hx hb dX12_fill_12 hl (k := 2) rfl (by rw [e_6]; rfl) (by decide) rfl (fun ls hl => ?_)
    refine lv_goto (tgt := 2) hx hb dX12_fill_15 (by decide) ?_
    exact hk_3 x_5 σ_4 hf H locs ls hW hS (lv_sub hl [1, 2, 0] rfl)
