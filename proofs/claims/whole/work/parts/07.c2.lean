set_option maxHeartbeats 4000000 in
set_option maxRecDepth 100000 in
theorem c_X10_init (g : XG) (l : Launch) (lo k : Nat) (σ : Mem) (hk : K0 k = 10) (hlo : lo ≤ k) (hz : ZA k σ) : Met l yX10_init (wx (.code yX10_init cX10_init 1 none)) ({ frames := 1, cells := 1, slots := 800, locals := 60 }) (va_Pc [.ref (bs g k)] (CP g lo k σ (.inr (8, [.null, .int 0, .int 0, .int 0, .int 0, .int 0])))) (va_Qv (fun u : Mem => u = σ) (WS g lo (k + 2)) (Ag g lo)) 1 800 (Ag g lo) := by
  refine Met.ofW (cc := cX10_init) (maxL := 1) (ret := none) (by decide) rfl ?_
  intro p e s m args below meth c s₁ B hml hv
  obtain ⟨rfl, hZ, hT, hsz, hP, hTR, hAO⟩ := hv
  have hx := B.exec
  have hb := B.bytes
  have hr := B.returns
  have hts : ∀ w ∈ wx (.code yX10_init cX10_init 1 none), w.before _ s = true := atoms_spec B.pre
  have htg : ∀ w ∈ lwg, w.before _ s = true := fun w h => hts w (List.mem_cons_of_mem _ h)
  have hown : s.vm.findClass RX10 = some m.cls := findClass_of_methodNamed B.named
  have hlocks := B.notSynchronized
  have hin : meth.name = "<init>" := (name_of_methodNamed B.named B.method).1
  change W p l e ({ frames := 1, cells := 1, slots := 800, locals := 60 }) s m _ below meth c s.heap [] 0 0 _ _
  have hS : va_S (Ag g lo) s.heap s.heap [] := va_S.rf
  have hl := lv_entry ([.ref (bs g k)]) (n := 1) (Nat.le_of_ble_eq_true rfl)
  rw [lg_entry_eq]
  generalize (lg_sl ([.ref (bs g k)]) ++ List.replicate (1 - (lg_sl ([.ref (bs g k)])).length) Slot.unset).toArray = ls at hl ⊢
  have hl : lv_has ls 1 [(0, .ref (bs g k))] := hl
  obtain ⟨H, hH⟩ : ∃ H, H = s.heap := ⟨_, rfl⟩
  obtain ⟨locs, hLc⟩ : ∃ z : List Loc, z = [] := ⟨_, rfl⟩
  have hS : va_S (Ag g lo) s.heap H locs := by rw [hH, hLc]; exact hS
  rw [← hH] at hP
  suffices hG : W p l e ({ frames := 1, cells := 1, slots := 800, locals := 60 }) s m _ below meth c H locs 0 0 _ (F0 m 0 ls []) by rw [hH, hLc] at hG; exact hG
  clear hH hLc
  have hcf := cfw.start (g := g) (σ := σ) hlo (.inr (8, [.null, .int 0, .int 0, .int 0, .int 0, .int 0]))
  generalize va_up (ct g σ) k _ = f at hP hcf
  refine lv_aload_n hx hb dX10_init_0 rfl (lv_at hl 0 rfl) ?_
  refine W.objInit hx hb hown (htg _ lm_X10_3) (htg _ lim_obj) (htg _ lc_obj) rfl (by rw [hml]; exact hl.1) rfl dX10_init_1 (Nat.le_of_ble_eq_true rfl) (Nat.le_of_ble_eq_true rfl) ?_
  refine W.eq (g2 := F0 m 4 ls []) rfl ?_
  refine lv_aload_n hx hb dX10_init_4 rfl (lv_at hl 0 rfl) ?_
  refine lv_sipush (v := 800) hx hb dX10_init_5 (by decide) ?_
  refine cna_b (n := k + 1) hx hb htg lac_byte hZ hP (by omega) (by rw [hsz]; exact bs_add g (k + 1) 0) hS (by decide) (N := 800) (by decide) (by decide) (Nat.le_of_ble_eq_true rfl) (Nat.le_of_ble_eq_true rfl) dX10_init_8 (fun H hP hS hH => ?_)
  have hcf : cfw g lo (k + 2) k σ (va_up f (k + 1) (Sum.inl (xB g, 800, .inl (fun _ => 0)) : va_E)) (.inr (8, [.null, .int 0, .int 0, .int 0, .int 0, .int 0])) := hcf.push (ctz_21 (g := g) hz (K0sub_10_1 hk) (al_10_1 hk))
  have hP : va_P g.1 vwCl (wc g lo (k + 2) (va_up f (k + 1) (Sum.inl (xB g, 800, .inl (fun _ => 0)) : va_E))) H := hP
  generalize va_up f (k + 1) (Sum.inl (xB g, 800, .inl (fun _ => 0)) : va_E) = f at hP hcf
  refine cputF (ci := 8) (C := RX10) (T := TX10) (N := 6) (fs := [.null, .int 0, .int 0, .int 0, .int 0, .int 0]) hx hb htg lays_10 tyX10 tyX10_ok nmX10 hown hZ hP hS ⟨hlo, by omega⟩ hcf.1 rfl 0 (by decide) lf_X10_11 (hsame := rfl) (hin2 := hin) (hfin := rfl) (hdecl := rfl) (v := .ref (bs g (k + 1))) rfl rfl (Nat.le_of_ble_eq_true rfl) dX10_init_10 (fun H locs hP hS => ?_)
  have hcf : cfw g lo (k + 2) k σ (va_up f k (Sum.inr (8, [.ref (bs g (k + 1)), .int 0, .int 0, .int 0, .int 0, .int 0]) : va_E)) (Sum.inr (8, [.ref (bs g (k + 1)), .int 0, .int 0, .int 0, .int 0, .int 0]) : va_E) := hcf.put
  have hP : va_P g.1 vwCl (wc g lo (k + 2) (va_up f k (Sum.inr (8, [.ref (bs g (k + 1)), .int 0, .int 0, .int 0, .int 0, .int 0]) : va_E))) H := hP
  generalize va_up f k (Sum.inr (8, [.ref (bs g (k + 1)), .int 0, .int 0, .int 0, .int 0, .int 0]) : va_E) = f at hP hcf
  have hW : Wd g lo (k + 2) σ H := ⟨hcf.done (by rw [ct_10 g σ hk, (hz k (Nat.le_refl k)).1, (hz k (Nat.le_refl k)).2.2]; rfl) hP, TRz hTR hz _ (Nat.le_add_right _ _)⟩
  refine W.widen (k := 1) (n := 800) (Nat.le_of_ble_eq_true rfl) (Nat.le_of_ble_eq_true rfl) ?_
  exact W.vret hx hb hr (fun t ht hw => ⟨⟨σ, rfl, rfl, ws_of hZ hT hS hW ht hw⟩, hS.F ht⟩) hS.2.2 dX10_init_13 hlocks
set_option maxHeartbeats 4000000 in
set_option maxRecDepth 100000 in
theorem c_X5_init (g : XG) (l : Launch) (lo k : Nat) (σ : Mem) (hk : K0 k = 5) (hlo : lo ≤ k) (hz : ZA k σ) : Met l yX5_init (wx (.code yX5_init cX5_init 1 none)) ({ frames := 1, cells := 1, slots := 150, locals := 60 }) (va_Pc [.ref (bs g k)] (CP g lo k σ (.inr (3, [.null])))) (va_Qv (fun u : Mem => u = σ) (WS g lo (k + 2)) (Ag g lo)) 1 150 (Ag g lo) := by
  refine Met.ofW (cc := cX5_init) (maxL := 1) (ret := none) (by decide) rfl ?_
  intro p e s m args below meth c s₁ B hml hv
  obtain ⟨rfl, hZ, hT, hsz, hP, hTR, hAO⟩ := hv
  have hx := B.exec
  have hb := B.bytes
  have hr := B.returns
  have hts : ∀ w ∈ wx (.code yX5_init cX5_init 1 none), w.before _ s = true := atoms_spec B.pre
  have htg : ∀ w ∈ lwg, w.before _ s = true := fun w h => hts w (List.mem_cons_of_mem _ h)
  have hown : s.vm.findClass RX5 = some m.cls := findClass_of_methodNamed B.named
  have hlocks := B.notSynchronized
  have hin : meth.name = "<init>" := (name_of_methodNamed B.named B.method).1
  change W p l e ({ frames := 1, cells := 1, slots := 150, locals := 60 }) s m _ below meth c s.heap [] 0 0 _ _
  have hS : va_S (Ag g lo) s.heap s.heap [] := va_S.rf
  have hl := lv_entry ([.ref (bs g k)]) (n := 1) (Nat.le_of_ble_eq_true rfl)
  rw [lg_entry_eq]
  generalize (lg_sl ([.ref (bs g k)]) ++ List.replicate (1 - (lg_sl ([.ref (bs g k)])).length) Slot.unset).toArray = ls at hl ⊢
  have hl : lv_has ls 1 [(0, .ref (bs g k))] := hl
  obtain ⟨H, hH⟩ : ∃ H, H = s.heap := ⟨_, rfl⟩
  obtain ⟨locs, hLc⟩ : ∃ z : List Loc, z = [] := ⟨_, rfl⟩
  have hS : va_S (Ag g lo) s.heap H locs := by rw [hH, hLc]; exact hS
  rw [← hH] at hP
  suffices hG : W p l e ({ frames := 1, cells := 1, slots := 150, locals := 60 }) s m _ below meth c H locs 0 0 _ (F0 m 0 ls []) by rw [hH, hLc] at hG; exact hG
  clear hH hLc
  have hcf := cfw.start (g := g) (σ := σ) hlo (.inr (3, [.null]))
  generalize va_up (ct g σ) k _ = f at hP hcf
  refine lv_aload_n hx hb dX5_init_0 rfl (lv_at hl 0 rfl) ?_
  refine W.objInit hx hb hown (htg _ lm_X5_3) (htg _ lim_obj) (htg _ lc_obj) rfl (by rw [hml]; exact hl.1) rfl dX5_init_1 (Nat.le_of_ble_eq_true rfl) (Nat.le_of_ble_eq_true rfl) ?_
  refine W.eq (g2 := F0 m 4 ls []) rfl ?_
  refine lv_aload_n hx hb dX5_init_4 rfl (lv_at hl 0 rfl) ?_
  refine lv_sipush (v := 150) hx hb dX5_init_5 (by decide) ?_
  refine cna_i (n := k + 1) hx hb htg lac_int hZ hP (by omega) (by rw [hsz]; exact bs_add g (k + 1) 0) hS (by decide) (N := 150) (by decide) (by decide) (Nat.le_of_ble_eq_true rfl) (Nat.le_of_ble_eq_true rfl) dX5_init_8 (fun H hP hS hH => ?_)
  have hcf : cfw g lo (k + 2) k σ (va_up f (k + 1) (Sum.inl (xI g, 150, .inl (fun _ => 0)) : va_E)) (.inr (3, [.null])) := hcf.push (ctz_20 (g := g) hz (K0sub_5_1 hk) (al_5_1 hk))
  have hP : va_P g.1 vwCl (wc g lo (k + 2) (va_up f (k + 1) (Sum.inl (xI g, 150, .inl (fun _ => 0)) : va_E))) H := hP
  generalize va_up f (k + 1) (Sum.inl (xI g, 150, .inl (fun _ => 0)) : va_E) = f at hP hcf
  refine cputF (ci := 3) (C := RX5) (T := TX5) (N := 1) (fs := [.null]) hx hb htg lays_5 tyX5 tyX5_ok nmX5 hown hZ hP hS ⟨hlo, by omega⟩ hcf.1 rfl 0 (by decide) lf_X5_9 (hsame := rfl) (hin2 := hin) (hfin := rfl) (hdecl := rfl) (v := .ref (bs g (k + 1))) rfl rfl (Nat.le_of_ble_eq_true rfl) dX5_init_10 (fun H locs hP hS => ?_)
  have hcf : cfw g lo (k + 2) k σ (va_up f k (Sum.inr (3, [.ref (bs g (k + 1))]) : va_E)) (Sum.inr (3, [.ref (bs g (k + 1))]) : va_E) := hcf.put
  have hP : va_P g.1 vwCl (wc g lo (k + 2) (va_up f k (Sum.inr (3, [.ref (bs g (k + 1))]) : va_E))) H := hP
  generalize va_up f k (Sum.inr (3, [.ref (bs g (k + 1))]) : va_E) = f at hP hcf
  have hW : Wd g lo (k + 2) σ H := ⟨hcf.done (by rw [ct_5 g σ hk, (hz k (Nat.le_refl k)).1, (hz k (Nat.le_refl k)).2.2]; rfl) hP, TRz hTR hz _ (Nat.le_add_right _ _)⟩
  refine W.widen (k := 1) (n := 150) (Nat.le_of_ble_eq_true rfl) (Nat.le_of_ble_eq_true rfl) ?_
  exact W.vret hx hb hr (fun t ht hw => ⟨⟨σ, rfl, rfl, ws_of hZ hT hS hW ht hw⟩, hS.F ht⟩) hS.2.2 dX5_init_13 hlocks
set_option maxHeartbeats 4000000 in
set_option maxRecDepth 100000 in
theorem c_X1_init (g : XG) (l : Launch) (lo k : Nat) (σ : Mem) (hk : K0 k = 1) (hlo : lo ≤ k) (hz : ZA k σ) : Met l yX1_init (wx (.code yX1_init cX1_init 1 none)) ({ frames := 1, cells := 1, slots := 64, locals := 60 }) (va_Pc [.ref (bs g k)] (CP g lo k σ (.inr (0, [.null, .int 0])))) (va_Qv (fun u : Mem => u = σ) (WS g lo (k + 2)) (Ag g lo)) 1 64 (Ag g lo) := by
  refine Met.ofW (cc := cX1_init) (maxL := 1) (ret := none) (by decide) rfl ?_
  intro p e s m args below meth c s₁ B hml hv
  obtain ⟨rfl, hZ, hT, hsz, hP, hTR, hAO⟩ := hv
  have hx := B.exec
  have hb := B.bytes
  have hr := B.returns
  have hts : ∀ w ∈ wx (.code yX1_init cX1_init 1 none), w.before _ s = true := atoms_spec B.pre
  have htg : ∀ w ∈ lwg, w.before _ s = true := fun w h => hts w (List.mem_cons_of_mem _ h)
  have hown : s.vm.findClass RX1 = some m.cls := findClass_of_methodNamed B.named
  have hlocks := B.notSynchronized
  have hin : meth.name = "<init>" := (name_of_methodNamed B.named B.method).1
  change W p l e ({ frames := 1, cells := 1, slots := 64, locals := 60 }) s m _ below meth c s.heap [] 0 0 _ _
  have hS : va_S (Ag g lo) s.heap s.heap [] := va_S.rf
  have hl := lv_entry ([.ref (bs g k)]) (n := 1) (Nat.le_of_ble_eq_true rfl)
  rw [lg_entry_eq]
  generalize (lg_sl ([.ref (bs g k)]) ++ List.replicate (1 - (lg_sl ([.ref (bs g k)])).length) Slot.unset).toArray = ls at hl ⊢
  have hl : lv_has ls 1 [(0, .ref (bs g k))] := hl
  obtain ⟨H, hH⟩ : ∃ H, H = s.heap := ⟨_, rfl⟩
  obtain ⟨locs, hLc⟩ : ∃ z : List Loc, z = [] := ⟨_, rfl⟩
  have hS : va_S (Ag g lo) s.heap H locs := by rw [hH, hLc]; exact hS
  rw [← hH] at hP
  suffices hG : W p l e ({ frames := 1, cells := 1, slots := 64, locals := 60 }) s m _ below meth c H locs 0 0 _ (F0 m 0 ls []) by rw [hH, hLc] at hG; exact hG
  clear hH hLc
  have hcf := cfw.start (g := g) (σ := σ) hlo (.inr (0, [.null, .int 0]))
  generalize va_up (ct g σ) k _ = f at hP hcf
  refine lv_aload_n hx hb dX1_init_0 rfl (lv_at hl 0 rfl) ?_
  refine W.objInit hx hb hown (htg _ lm_X1_3) (htg _ lim_obj) (htg _ lc_obj) rfl (by rw [hml]; exact hl.1) rfl dX1_init_1 (Nat.le_of_ble_eq_true rfl) (Nat.le_of_ble_eq_true rfl) ?_
  refine W.eq (g2 := F0 m 4 ls []) rfl ?_
  refine lv_aload_n hx hb dX1_init_4 rfl (lv_at hl 0 rfl) ?_
  refine lv_bipush (v := 64) hx hb dX1_init_5 (by decide) ?_
  refine cna_i (n := k + 1) hx hb htg lac_int hZ hP (by omega) (by rw [hsz]; exact bs_add g (k + 1) 0) hS (by decide) (N := 64) (by decide) (by decide) (Nat.le_of_ble_eq_true rfl) (Nat.le_of_ble_eq_true rfl) dX1_init_7 (fun H hP hS hH => ?_)
  have hcf : cfw g lo (k + 2) k σ (va_up f (k + 1) (Sum.inl (xI g, 64, .inl (fun _ => 0)) : va_E)) (.inr (0, [.null, .int 0])) := hcf.push (ctz_20 (g := g) hz (K0sub_1_1 hk) (al_1_1 hk))
  have hP : va_P g.1 vwCl (wc g lo (k + 2) (va_up f (k + 1) (Sum.inl (xI g, 64, .inl (fun _ => 0)) : va_E))) H := hP
  generalize va_up f (k + 1) (Sum.inl (xI g, 64, .inl (fun _ => 0)) : va_E) = f at hP hcf
  refine cputF (ci := 0) (C := RX1) (T := TX1) (N := 2) (fs := [.null, .int 0]) hx hb htg lays_1 tyX1 tyX1_ok nmX1 hown hZ hP hS ⟨hlo, by omega⟩ hcf.1 rfl 0 (by decide) lf_X1_11 (hsame := rfl) (hin2 := hin) (hfin := rfl) (hdecl := rfl) (v := .ref (bs g (k + 1))) rfl rfl (Nat.le_of_ble_eq_true rfl) dX1_init_9 (fun H locs hP hS => ?_)
  have hcf : cfw g lo (k + 2) k σ (va_up f k (Sum.inr (0, [.ref (bs g (k + 1)), .int 0]) : va_E)) (Sum.inr (0, [.ref (bs g (k + 1)), .int 0]) : va_E) := hcf.put
  have hP : va_P g.1 vwCl (wc g lo (k + 2) (va_up f k (Sum.inr (0, [.ref (bs g (k + 1)), .int 0]) : va_E))) H := hP
  generalize va_up f k (Sum.inr (0, [.ref (bs g (k + 1)), .int 0]) : va_E) = f at hP hcf
  have hW : Wd g lo (k + 2) σ H := ⟨hcf.done (by rw [ct_1 g σ hk, (hz k (Nat.le_refl k)).1, (hz k (Nat.le_refl k)).2.2]; rfl) hP, TRz hTR hz _ (Nat.le_add_right _ _)⟩
  refine W.widen (k := 1) (n := 64) (Nat.le_of_ble_eq_true rfl) (Nat.le_of_ble_eq_true rfl) ?_
  exact W.vret hx hb hr (fun t ht hw => ⟨⟨σ, rfl, rfl, ws_of hZ hT hS hW ht hw⟩, hS.F ht⟩) hS.2.2 dX1_init_12 hlocks
set_option maxHeartbeats 4000000 in
set_option maxRecDepth 100000 in
theorem c_X2_init (g : XG) (l : Launch) (lo k : Nat) (σ : Mem) (hk : K0 k = 2) (hlo : lo ≤ k) (hz : ZA k σ) : Met l yX2_init (wx (.code yX2_init cX2_init 1 none)) ({ frames := 1, cells := 1, slots := 6, locals := 60 }) (va_Pc [.ref (bs g k)] (CP g lo k σ (.inr (1, [.null])))) (va_Qv (fun u : Mem => u = σ) (WS g lo (k + 2)) (Ag g lo)) 1 6 (Ag g lo) := by
  refine Met.ofW (cc := cX2_init) (maxL := 1) (ret := none) (by decide) rfl ?_
  intro p e s m args below meth c s₁ B hml hv
  obtain ⟨rfl, hZ, hT, hsz, hP, hTR, hAO⟩ := hv
  have hx := B.exec
  have hb := B.bytes
  have hr := B.returns
  have hts : ∀ w ∈ wx (.code yX2_init cX2_init 1 none), w.before _ s = true := atoms_spec B.pre
  have htg : ∀ w ∈ lwg, w.before _ s = true := fun w h => hts w (List.mem_cons_of_mem _ h)
  have hown : s.vm.findClass RX2 = some m.cls := findClass_of_methodNamed B.named
  have hlocks := B.notSynchronized
  have hin : meth.name = "<init>" := (name_of_methodNamed B.named B.method).1
  change W p l e ({ frames := 1, cells := 1, slots := 6, locals := 60 }) s m _ below meth c s.heap [] 0 0 _ _
  have hS : va_S (Ag g lo) s.heap s.heap [] := va_S.rf
  have hl := lv_entry ([.ref (bs g k)]) (n := 1) (Nat.le_of_ble_eq_true rfl)
  rw [lg_entry_eq]
  generalize (lg_sl ([.ref (bs g k)]) ++ List.replicate (1 - (lg_sl ([.ref (bs g k)])).length) Slot.unset).toArray = ls at hl ⊢
  have hl : lv_has ls 1 [(0, .ref (bs g k))] := hl
  obtain ⟨H, hH⟩ : ∃ H, H = s.heap := ⟨_, rfl⟩
  obtain ⟨locs, hLc⟩ : ∃ z : List Loc, z = [] := ⟨_, rfl⟩
  have hS : va_S (Ag g lo) s.heap H locs := by rw [hH, hLc]; exact hS
  rw [← hH] at hP
  suffices hG : W p l e ({ frames := 1, cells := 1, slots := 6, locals := 60 }) s m _ below meth c H locs 0 0 _ (F0 m 0 ls []) by rw [hH, hLc] at hG; exact hG
  clear hH hLc
  have hcf := cfw.start (g := g) (σ := σ) hlo (.inr (1, [.null]))
  generalize va_up (ct g σ) k _ = f at hP hcf
  refine lv_aload_n hx hb dX2_init_0 rfl (lv_at hl 0 rfl) ?_
  refine W.objInit hx hb hown (htg _ lm_X2_3) (htg _ lim_obj) (htg _ lc_obj) rfl (by rw [hml]; exact hl.1) rfl dX2_init_1 (Nat.le_of_ble_eq_true rfl) (Nat.le_of_ble_eq_true rfl) ?_
  refine W.eq (g2 := F0 m 4 ls []) rfl ?_
  refine lv_aload_n hx hb dX2_init_4 rfl (lv_at hl 0 rfl) ?_
  refine lv_bipush (v := 6) hx hb dX2_init_5 (by decide) ?_
  refine cna_l (n := k + 1) hx hb htg lac_long hZ hP (by omega) (by rw [hsz]; exact bs_add g (k + 1) 0) hS (by decide) (N := 6) (by decide) (by decide) (Nat.le_of_ble_eq_true rfl) (Nat.le_of_ble_eq_true rfl) dX2_init_7 (fun H hP hS hH => ?_)
  have hcf : cfw g lo (k + 2) k σ (va_up f (k + 1) (Sum.inl (xJ g, 6, .inr (.inl (fun _ => 0))) : va_E)) (.inr (1, [.null])) := hcf.push (ctz_22 (g := g) hz (K0sub_2_1 hk) (al_2_1 hk))
  have hP : va_P g.1 vwCl (wc g lo (k + 2) (va_up f (k + 1) (Sum.inl (xJ g, 6, .inr (.inl (fun _ => 0))) : va_E))) H := hP
  generalize va_up f (k + 1) (Sum.inl (xJ g, 6, .inr (.inl (fun _ => 0))) : va_E) = f at hP hcf
  refine cputF (ci := 1) (C := RX2) (T := TX2) (N := 1) (fs := [.null]) hx hb htg lays_2 tyX2 tyX2_ok nmX2 hown hZ hP hS ⟨hlo, by omega⟩ hcf.1 rfl 0 (by decide) lf_X2_9 (hsame := rfl) (hin2 := hin) (hfin := rfl) (hdecl := rfl) (v := .ref (bs g (k + 1))) rfl rfl (Nat.le_of_ble_eq_true rfl) dX2_init_9 (fun H locs hP hS => ?_)
  have hcf : cfw g lo (k + 2) k σ (va_up f k (Sum.inr (1, [.ref (bs g (k + 1))]) : va_E)) (Sum.inr (1, [.ref (bs g (k + 1))]) : va_E) := hcf.put
  have hP : va_P g.1 vwCl (wc g lo (k + 2) (va_up f k (Sum.inr (1, [.ref (bs g (k + 1))]) : va_E))) H := hP
  generalize va_up f k (Sum.inr (1, [.ref (bs g (k + 1))]) : va_E) = f at hP hcf
  have hW : Wd g lo (k + 2) σ H := ⟨hcf.done (by rw [ct_2 g σ hk, (hz k (Nat.le_refl k)).1, (hz k (Nat.le_refl k)).2.2]; rfl) hP, TRz hTR hz _ (Nat.le_add_right _ _)⟩
  refine W.widen (k := 1) (n := 6) (Nat.le_of_ble_eq_true rfl) (Nat.le_of_ble_eq_true rfl) ?_
  exact W.vret hx hb hr (fun t ht hw => ⟨⟨σ, rfl, rfl, ws_of hZ hT hS hW ht hw⟩, hS.F ht⟩) hS.2.2 dX2_init_12 hlocks
set_option maxHeartbeats 4000000 in
set_option maxRecDepth 100000 in
theorem c_X3_init (g : XG) (l : Launch) (lo k : Nat) (σ : Mem) (hk : K0 k = 3) (hlo : lo ≤ k) (hz : ZA k σ) : Met l yX3_init (wx (.code yX3_init cX3_init 1 none)) ({ frames := 1, cells := 3, slots := 158, locals := 60 }) (va_Pc [.ref (bs g k)] (CP g lo k σ (.inr (2, [.null, .null, .null, .int 0, .int 0, .int 0, .int 0])))) (va_Qv (fun u : Mem => u = σ) (WS g lo (k + 4)) (Ag g lo)) 3 158 (Ag g lo) := by
  refine Met.ofW (cc := cX3_init) (maxL := 1) (ret := none) (by decide) rfl ?_
  intro p e s m args below meth c s₁ B hml hv
  obtain ⟨rfl, hZ, hT, hsz, hP, hTR, hAO⟩ := hv
  have hx := B.exec
  have hb := B.bytes
  have hr := B.returns
  have hts : ∀ w ∈ wx (.code yX3_init cX3_init 1 none), w.before _ s = true := atoms_spec B.pre
  have htg : ∀ w ∈ lwg, w.before _ s = true := fun w h => hts w (List.mem_cons_of_mem _ h)
  have hown : s.vm.findClass RX3 = some m.cls := findClass_of_methodNamed B.named
  have hlocks := B.notSynchronized
  have hin : meth.name = "<init>" := (name_of_methodNamed B.named B.method).1
  change W p l e ({ frames := 1, cells := 3, slots := 158, locals := 60 }) s m _ below meth c s.heap [] 0 0 _ _
  have hS : va_S (Ag g lo) s.heap s.heap [] := va_S.rf
  have hl := lv_entry ([.ref (bs g k)]) (n := 1) (Nat.le_of_ble_eq_true rfl)
  rw [lg_entry_eq]
  generalize (lg_sl ([.ref (bs g k)]) ++ List.replicate (1 - (lg_sl ([.ref (bs g k)])).length) Slot.unset).toArray = ls at hl ⊢
  have hl : lv_has ls 1 [(0, .ref (bs g k))] := hl
  obtain ⟨H, hH⟩ : ∃ H, H = s.heap := ⟨_, rfl⟩
  obtain ⟨locs, hLc⟩ : ∃ z : List Loc, z = [] := ⟨_, rfl⟩
  have hS : va_S (Ag g lo) s.heap H locs := by rw [hH, hLc]; exact hS
  rw [← hH] at hP
  suffices hG : W p l e ({ frames := 1, cells := 3, slots := 158, locals := 60 }) s m _ below meth c H locs 0 0 _ (F0 m 0 ls []) by rw [hH, hLc] at hG; exact hG
  clear hH hLc
  have hcf := cfw.start (g := g) (σ := σ) hlo (.inr (2, [.null, .null, .null, .int 0, .int 0, .int 0, .int 0]))
  generalize va_up (ct g σ) k _ = f at hP hcf
  refine lv_aload_n hx hb dX3_init_0 rfl (lv_at hl 0 rfl) ?_
  refine W.objInit hx hb hown (htg _ lm_X3_3) (htg _ lim_obj) (htg _ lc_obj) rfl (by rw [hml]; exact hl.1) rfl dX3_init_1 (Nat.le_of_ble_eq_true rfl) (Nat.le_of_ble_eq_true rfl) ?_
  refine W.eq (g2 := F0 m 4 ls []) rfl ?_
  refine lv_aload_n hx hb dX3_init_4 rfl (lv_at hl 0 rfl) ?_
  refine lv_sipush (v := 150) hx hb dX3_init_5 (by decide) ?_
  refine cna_i (n := k + 1) hx hb htg lac_int hZ hP (by omega) (by rw [hsz]; exact bs_add g (k + 1) 0) hS (by decide) (N := 150) (by decide) (by decide) (Nat.le_of_ble_eq_true rfl) (Nat.le_of_ble_eq_true rfl) dX3_init_8 (fun H hP hS hH => ?_)
  have hcf : cfw g lo (k + 2) k σ (va_up f (k + 1) (Sum.inl (xI g, 150, .inl (fun _ => 0)) : va_E)) (.inr (2, [.null, .null, .null, .int 0, .int 0, .int 0, .int 0])) := hcf.push (ctz_20 (g := g) hz (K0sub_3_1 hk) (al_3_1 hk))
  have hP : va_P g.1 vwCl (wc g lo (k + 2) (va_up f (k + 1) (Sum.inl (xI g, 150, .inl (fun _ => 0)) : va_E))) H := hP
  generalize va_up f (k + 1) (Sum.inl (xI g, 150, .inl (fun _ => 0)) : va_E) = f at hP hcf
  refine cputF (ci := 2) (C := RX3) (T := TX3) (N := 7) (fs := [.null, .null, .null, .int 0, .int 0, .int 0, .int 0]) hx hb htg lays_3 tyX3 tyX3_ok nmX3 hown hZ hP hS ⟨hlo, by omega⟩ hcf.1 rfl 0 (by decide) lf_X3_9 (hsame := rfl) (hin2 := hin) (hfin := rfl) (hdecl := rfl) (v := .ref (bs g (k + 1))) rfl rfl (Nat.le_of_ble_eq_true rfl) dX3_init_10 (fun H locs hP hS => ?_)
  have hcf : cfw g lo (k + 2) k σ (va_up f k (Sum.inr (2, [.ref (bs g (k + 1)), .null, .null, .int 0, .int 0, .int 0, .int 0]) : va_E)) (Sum.inr (2, [.ref (bs g (k + 1)), .null, .null, .int 0, .int 0, .int 0, .int 0]) : va_E) := hcf.put
  have hP : va_P g.1 vwCl (wc g lo (k + 2) (va_up f k (Sum.inr (2, [.ref (bs g (k + 1)), .null, .null, .int 0, .int 0, .int 0, .int 0]) : va_E))) H := hP
  generalize va_up f k (Sum.inr (2, [.ref (bs g (k + 1)), .null, .null, .int 0, .int 0, .int 0, .int 0]) : va_E) = f at hP hcf
  refine lv_aload_n hx hb dX3_init_13 rfl (lv_at hl 0 rfl) ?_
  refine lv_iconst (v := 5) hx hb dX3_init_14 (by decide) ?_
  refine cna_i (n := k + 2) hx hb htg lac_int hZ hP (by omega) (by rw [hsz]; exact bs_add g (k + 1) 1) hS (by decide) (N := 5) (by decide) (by decide) (Nat.le_of_ble_eq_true rfl) (Nat.le_of_ble_eq_true rfl) dX3_init_15 (fun H hP hS hH => ?_)
  have hcf : cfw g lo (k + 3) k σ (va_up f (k + 2) (Sum.inl (xI g, 5, .inl (fun _ => 0)) : va_E)) (.inr (2, [.ref (bs g (k + 1)), .null, .null, .int 0, .int 0, .int 0, .int 0])) := hcf.push (ctz_20 (g := g) hz (K0sub_3_2 hk) (al_3_2 hk))
  have hP : va_P g.1 vwCl (wc g lo (k + 3) (va_up f (k + 2) (Sum.inl (xI g, 5, .inl (fun _ => 0)) : va_E))) H := hP
  generalize va_up f (k + 2) (Sum.inl (xI g, 5, .inl (fun _ => 0)) : va_E) = f at hP hcf
  refine cputF (ci := 2) (C := RX3) (T := TX3) (N := 7) (fs := [.ref (bs g (k + 1)), .null, .null, .int 0, .int 0, .int 0, .int 0]) hx hb htg lays_3 tyX3 tyX3_ok nmX3 hown hZ hP hS ⟨hlo, by omega⟩ hcf.1 rfl 1 (by decide) lf_X3_15 (hsame := rfl) (hin2 := hin) (hfin := rfl) (hdecl := rfl) (v := .ref (bs g (k + 2))) rfl rfl (Nat.le_of_ble_eq_true rfl) dX3_init_17 (fun H locs hP hS => ?_)
  have hcf : cfw g lo (k + 3) k σ (va_up f k (Sum.inr (2, [.ref (bs g (k + 1)), .ref (bs g (k + 2)), .null, .int 0, .int 0, .int 0, .int 0]) : va_E)) (Sum.inr (2, [.ref (bs g (k + 1)), .ref (bs g (k + 2)), .null, .int 0, .int 0, .int 0, .int 0]) : va_E) := hcf.put
  have hP : va_P g.1 vwCl (wc g lo (k + 3) (va_up f k (Sum.inr (2, [.ref (bs g (k + 1)), .ref (bs g (k + 2)), .null, .int 0, .int 0, .int 0, .int 0]) : va_E))) H := hP
  generalize va_up f k (Sum.inr (2, [.ref (bs g (k + 1)), .ref (bs g (k + 2)), .null, .int 0, .int 0, .int 0, .int 0]) : va_E) = f at hP hcf
  refine lv_aload_n hx hb dX3_init_20 rfl (lv_at hl 0 rfl) ?_
  refine lv_iconst (v := 3) hx hb dX3_init_21 (by decide) ?_
  refine cna_i (n := k + 3) hx hb htg lac_int hZ hP (by omega) (by rw [hsz]; exact bs_add g (k + 1) 2) hS (by decide) (N := 3) (by decide) (by decide) (Nat.le_of_ble_eq_true rfl) (Nat.le_of_ble_eq_true rfl) dX3_init_22 (fun H hP hS hH => ?_)
  have hcf : cfw g lo (k + 4) k σ (va_up f (k + 3) (Sum.inl (xI g, 3, .inl (fun _ => 0)) : va_E)) (.inr (2, [.ref (bs g (k + 1)), .ref (bs g (k + 2)), .null, .int 0, .int 0, .int 0, .int 0])) := hcf.push (ctz_20 (g := g) hz (K0sub_3_3 hk) (al_3_3 hk))
  have hP : va_P g.1 vwCl (wc g lo (k + 4) (va_up f (k + 3) (Sum.inl (xI g, 3, .inl (fun _ => 0)) : va_E))) H := hP
  generalize va_up f (k + 3) (Sum.inl (xI g, 3, .inl (fun _ => 0)) : va_E) = f at hP hcf
  refine cputF (ci := 2) (C := RX3) (T := TX3) (N := 7) (fs := [.ref (bs g (k + 1)), .ref (bs g (k + 2)), .null, .int 0, .int 0, .int 0, .int 0]) hx hb htg lays_3 tyX3 tyX3_ok nmX3 hown hZ hP hS ⟨hlo, by omega⟩ hcf.1 rfl 2 (by decide) lf_X3_18 (hsame := rfl) (hin2 := hin) (hfin := rfl) (hdecl := rfl) (v := .ref (bs g (k + 3))) rfl rfl (Nat.le_of_ble_eq_true rfl) dX3_init_24 (fun H locs hP hS => ?_)
  have hcf : cfw g lo (k + 4) k σ (va_up f k (Sum.inr (2, [.ref (bs g (k + 1)), .ref (bs g (k + 2)), .ref (bs g (k + 3)), .int 0, .int 0, .int 0, .int 0]) : va_E)) (Sum.inr (2, [.ref (bs g (k + 1)), .ref (bs g (k + 2)), .ref (bs g (k + 3)), .int 0, .int 0, .int 0, .int 0]) : va_E) := hcf.put
  have hP : va_P g.1 vwCl (wc g lo (k + 4) (va_up f k (Sum.inr (2, [.ref (bs g (k + 1)), .ref (bs g (k + 2)), .ref (bs g (k + 3)), .int 0, .int 0, .int 0, .int 0]) : va_E))) H := hP
  generalize va_up f k (Sum.inr (2, [.ref (bs g (k + 1)), .ref (bs g (k + 2)), .ref (bs g (k + 3)), .int 0, .int 0, .int 0, .int 0]) : va_E) = f at hP hcf
  have hW : Wd g lo (k + 4) σ H := ⟨hcf.done (by rw [ct_3 g σ hk, (hz k (Nat.le_refl k)).1, (hz k (Nat.le_refl k)).2.2]; rfl) hP, TRz hTR hz _ (Nat.le_add_right _ _)⟩
  refine W.widen (k := 3) (n := 158) (Nat.le_of_ble_eq_true rfl) (Nat.le_of_ble_eq_true rfl) ?_
  exact W.vret hx hb hr (fun t ht hw => ⟨⟨σ, rfl, rfl, ws_of hZ hT hS hW ht hw⟩, hS.F ht⟩) hS.2.2 dX3_init_27 hlocks
set_option maxHeartbeats 4000000 in
set_option maxRecDepth 100000 in
theorem c_X8_init (g : XG) (l : Launch) (lo k : Nat) (σ : Mem) (hk : K0 k = 8) (hlo : lo ≤ k) (hz : ZA k σ) : Met l yX8_init (wx (.code yX8_init cX8_init 1 none)) ({ frames := 1, cells := 3, slots := 15, locals := 60 }) (va_Pc [.ref (bs g k)] (CP g lo k σ (.inr (6, [.null, .null, .null])))) (va_Qv (fun u : Mem => u = σ) (WS g lo (k + 4)) (Ag g lo)) 3 15 (Ag g lo) := by
  refine Met.ofW (cc := cX8_init) (maxL := 1) (ret := none) (by decide) rfl ?_
  intro p e s m args below meth c s₁ B hml hv
  obtain ⟨rfl, hZ, hT, hsz, hP, hTR, hAO⟩ := hv
  have hx := B.exec
  have hb := B.bytes
  have hr := B.returns
  have hts : ∀ w ∈ wx (.code yX8_init cX8_init 1 none), w.before _ s = true := atoms_spec B.pre
  have htg : ∀ w ∈ lwg, w.before _ s = true := fun w h => hts w (List.mem_cons_of_mem _ h)
  have hown : s.vm.findClass RX8 = some m.cls := findClass_of_methodNamed B.named
  have hlocks := B.notSynchronized
  have hin : meth.name = "<init>" := (name_of_methodNamed B.named B.method).1
  change W p l e ({ frames := 1, cells := 3, slots := 15, locals := 60 }) s m _ below meth c s.heap [] 0 0 _ _
  have hS : va_S (Ag g lo) s.heap s.heap [] := va_S.rf
  have hl := lv_entry ([.ref (bs g k)]) (n := 1) (Nat.le_of_ble_eq_true rfl)
  rw [lg_entry_eq]
  generalize (lg_sl ([.ref (bs g k)]) ++ List.replicate (1 - (lg_sl ([.ref (bs g k)])).length) Slot.unset).toArray = ls at hl ⊢
  have hl : lv_has ls 1 [(0, .ref (bs g k))] := hl
  obtain ⟨H, hH⟩ : ∃ H, H = s.heap := ⟨_, rfl⟩
  obtain ⟨locs, hLc⟩ : ∃ z : List Loc, z = [] := ⟨_, rfl⟩
  have hS : va_S (Ag g lo) s.heap H locs := by rw [hH, hLc]; exact hS
  rw [← hH] at hP
  suffices hG : W p l e ({ frames := 1, cells := 3, slots := 15, locals := 60 }) s m _ below meth c H locs 0 0 _ (F0 m 0 ls []) by rw [hH, hLc] at hG; exact hG
  clear hH hLc
  have hcf := cfw.start (g := g) (σ := σ) hlo (.inr (6, [.null, .null, .null]))
  generalize va_up (ct g σ) k _ = f at hP hcf
  refine lv_aload_n hx hb dX8_init_0 rfl (lv_at hl 0 rfl) ?_
  refine W.objInit hx hb hown (htg _ lm_X8_3) (htg _ lim_obj) (htg _ lc_obj) rfl (by rw [hml]; exact hl.1) rfl dX8_init_1 (Nat.le_of_ble_eq_true rfl) (Nat.le_of_ble_eq_true rfl) ?_
  refine W.eq (g2 := F0 m 4 ls []) rfl ?_
  refine lv_aload_n hx hb dX8_init_4 rfl (lv_at hl 0 rfl) ?_
  refine lv_iconst (v := 5) hx hb dX8_init_5 (by decide) ?_
  refine cna_i (n := k + 1) hx hb htg lac_int hZ hP (by omega) (by rw [hsz]; exact bs_add g (k + 1) 0) hS (by decide) (N := 5) (by decide) (by decide) (Nat.le_of_ble_eq_true rfl) (Nat.le_of_ble_eq_true rfl) dX8_init_6 (fun H hP hS hH => ?_)
  have hcf : cfw g lo (k + 2) k σ (va_up f (k + 1) (Sum.inl (xI g, 5, .inl (fun _ => 0)) : va_E)) (.inr (6, [.null, .null, .null])) := hcf.push (ctz_20 (g := g) hz (K0sub_8_1 hk) (al_8_1 hk))
  have hP : va_P g.1 vwCl (wc g lo (k + 2) (va_up f (k + 1) (Sum.inl (xI g, 5, .inl (fun _ => 0)) : va_E))) H := hP
  generalize va_up f (k + 1) (Sum.inl (xI g, 5, .inl (fun _ => 0)) : va_E) = f at hP hcf
  refine cputF (ci := 6) (C := RX8) (T := TX8) (N := 3) (fs := [.null, .null, .null]) hx hb htg lays_8 tyX8 tyX8_ok nmX8 hown hZ hP hS ⟨hlo, by omega⟩ hcf.1 rfl 0 (by decide) lf_X8_9 (hsame := rfl) (hin2 := hin) (hfin := rfl) (hdecl := rfl) (v := .ref (bs g (k + 1))) rfl rfl (Nat.le_of_ble_eq_true rfl) dX8_init_8 (fun H locs hP hS => ?_)
  have hcf : cfw g lo (k + 2) k σ (va_up f k (Sum.inr (6, [.ref (bs g (k + 1)), .null, .null]) : va_E)) (Sum.inr (6, [.ref (bs g (k + 1)), .null, .null]) : va_E) := hcf.put
  have hP : va_P g.1 vwCl (wc g lo (k + 2) (va_up f k (Sum.inr (6, [.ref (bs g (k + 1)), .null, .null]) : va_E))) H := hP
  generalize va_up f k (Sum.inr (6, [.ref (bs g (k + 1)), .null, .null]) : va_E) = f at hP hcf
  refine lv_aload_n hx hb dX8_init_11 rfl (lv_at hl 0 rfl) ?_
  refine lv_iconst (v := 5) hx hb dX8_init_12 (by decide) ?_
  refine cna_i (n := k + 2) hx hb htg lac_int hZ hP (by omega) (by rw [hsz]; exact bs_add g (k + 1) 1) hS (by decide) (N := 5) (by decide) (by decide) (Nat.le_of_ble_eq_true rfl) (Nat.le_of_ble_eq_true rfl) dX8_init_13 (fun H hP hS hH => ?_)
  have hcf : cfw g lo (k + 3) k σ (va_up f (k + 2) (Sum.inl (xI g, 5, .inl (fun _ => 0)) : va_E)) (.inr (6, [.ref (bs g (k + 1)), .null, .null])) := hcf.push (ctz_20 (g := g) hz (K0sub_8_2 hk) (al_8_2 hk))
  have hP : va_P g.1 vwCl (wc g lo (k + 3) (va_up f (k + 2) (Sum.inl (xI g, 5, .inl (fun _ => 0)) : va_E))) H := hP
  generalize va_up f (k + 2) (Sum.inl (xI g, 5, .inl (fun _ => 0)) : va_E) = f at hP hcf
  refine cputF (ci := 6) (C := RX8) (T := TX8) (N := 3) (fs := [.ref (bs g (k + 1)), .null, .null]) hx hb htg lays_8 tyX8 tyX8_ok nmX8 hown hZ hP hS ⟨hlo, by omega⟩ hcf.1 rfl 1 (by decide) lf_X8_15 (hsame := rfl) (hin2 := hin) (hfin := rfl) (hdecl := rfl) (v := .ref (bs g (k + 2))) rfl rfl (Nat.le_of_ble_eq_true rfl) dX8_init_15 (fun H locs hP hS => ?_)
  have hcf : cfw g lo (k + 3) k σ (va_up f k (Sum.inr (6, [.ref (bs g (k + 1)), .ref (bs g (k + 2)), .null]) : va_E)) (Sum.inr (6, [.ref (bs g (k + 1)), .ref (bs g (k + 2)), .null]) : va_E) := hcf.put
  have hP : va_P g.1 vwCl (wc g lo (k + 3) (va_up f k (Sum.inr (6, [.ref (bs g (k + 1)), .ref (bs g (k + 2)), .null]) : va_E))) H := hP
  generalize va_up f k (Sum.inr (6, [.ref (bs g (k + 1)), .ref (bs g (k + 2)), .null]) : va_E) = f at hP hcf
  refine lv_aload_n hx hb dX8_init_18 rfl (lv_at hl 0 rfl) ?_
  refine lv_iconst (v := 5) hx hb dX8_init_19 (by decide) ?_
  refine cna_i (n := k + 3) hx hb htg lac_int hZ hP (by omega) (by rw [hsz]; exact bs_add g (k + 1) 2) hS (by decide) (N := 5) (by decide) (by decide) (Nat.le_of_ble_eq_true rfl) (Nat.le_of_ble_eq_true rfl) dX8_init_20 (fun H hP hS hH => ?_)
  have hcf : cfw g lo (k + 4) k σ (va_up f (k + 3) (Sum.inl (xI g, 5, .inl (fun _ => 0)) : va_E)) (.inr (6, [.ref (bs g (k + 1)), .ref (bs g (k + 2)), .null])) := hcf.push (ctz_20 (g := g) hz (K0sub_8_3 hk) (al_8_3 hk))
  have hP : va_P g.1 vwCl (wc g lo (k + 4) (va_up f (k + 3) (Sum.inl (xI g, 5, .inl (fun _ => 0)) : va_E))) H := hP
  generalize va_up f (k + 3) (Sum.inl (xI g, 5, .inl (fun _ => 0)) : va_E) = f at hP hcf
  refine cputF (ci := 6) (C := RX8) (T := TX8) (N := 3) (fs := [.ref (bs g (k + 1)), .ref (bs g (k + 2)), .null]) hx hb htg lays_8 tyX8 tyX8_ok nmX8 hown hZ hP hS ⟨hlo, by omega⟩ hcf.1 rfl 2 (by decide) lf_X8_18 (hsame := rfl) (hin2 := hin) (hfin := rfl) (hdecl := rfl) (v := .ref (bs g (k + 3))) rfl rfl (Nat.le_of_ble_eq_true rfl) dX8_init_22 (fun H locs hP hS => ?_)
  have hcf : cfw g lo (k + 4) k σ (va_up f k (Sum.inr (6, [.ref (bs g (k + 1)), .ref (bs g (k + 2)), .ref (bs g (k + 3))]) : va_E)) (Sum.inr (6, [.ref (bs g (k + 1)), .ref (bs g (k + 2)), .ref (bs g (k + 3))]) : va_E) := hcf.put
  have hP : va_P g.1 vwCl (wc g lo (k + 4) (va_up f k (Sum.inr (6, [.ref (bs g (k + 1)), .ref (bs g (k + 2)), .ref (bs g (k + 3))]) : va_E))) H := hP
  generalize va_up f k (Sum.inr (6, [.ref (bs g (k + 1)), .ref (bs g (k + 2)), .ref (bs g (k + 3))]) : va_E) = f at hP hcf
  have hW : Wd g lo (k + 4) σ H := ⟨hcf.done (by rw [ct_8 g σ hk, (hz k (Nat.le_refl k)).1, (hz k (Nat.le_refl k)).2.2]; rfl) hP, TRz hTR hz _ (Nat.le_add_right _ _)⟩
  refine W.widen (k := 3) (n := 15) (Nat.le_of_ble_eq_true rfl) (Nat.le_of_ble_eq_true rfl) ?_
  exact W.vret hx hb hr (fun t ht hw => ⟨⟨σ, rfl, rfl, ws_of hZ hT hS hW ht hw⟩, hS.F ht⟩) hS.2.2 dX8_init_25 hlocks
set_option maxHeartbeats 4000000 in
set_option maxRecDepth 100000 in
theorem c_X7_init (g : XG) (l : Launch) (lo k : Nat) (σ : Mem) (hk : K0 k = 7) (hlo : lo ≤ k) (hz : ZA k σ) : Met l yX7_init (wx (.code yX7_init cX7_init 1 none)) ({ frames := 1, cells := 2, slots := 60, locals := 60 }) (va_Pc [.ref (bs g k)] (CP g lo k σ (.inr (5, [.null, .null, .int 0, .int 0, .int 0])))) (va_Qv (fun u : Mem => u = σ) (WS g lo (k + 3)) (Ag g lo)) 2 60 (Ag g lo) := by
  refine Met.ofW (cc := cX7_init) (maxL := 1) (ret := none) (by decide) rfl ?_
  intro p e s m args below meth c s₁ B hml hv
  obtain ⟨rfl, hZ, hT, hsz, hP, hTR, hAO⟩ := hv
  have hx := B.exec
  have hb := B.bytes
  have hr := B.returns
  have hts : ∀ w ∈ wx (.code yX7_init cX7_init 1 none), w.before _ s = true := atoms_spec B.pre
  have htg : ∀ w ∈ lwg, w.before _ s = true := fun w h => hts w (List.mem_cons_of_mem _ h)
  have hown : s.vm.findClass RX7 = some m.cls := findClass_of_methodNamed B.named
  have hlocks := B.notSynchronized
  have hin : meth.name = "<init>" := (name_of_methodNamed B.named B.method).1
  change W p l e ({ frames := 1, cells := 2, slots := 60, locals := 60 }) s m _ below meth c s.heap [] 0 0 _ _
  have hS : va_S (Ag g lo) s.heap s.heap [] := va_S.rf
  have hl := lv_entry ([.ref (bs g k)]) (n := 1) (Nat.le_of_ble_eq_true rfl)
  rw [lg_entry_eq]
  generalize (lg_sl ([.ref (bs g k)]) ++ List.replicate (1 - (lg_sl ([.ref (bs g k)])).length) Slot.unset).toArray = ls at hl ⊢
  have hl : lv_has ls 1 [(0, .ref (bs g k))] := hl
  obtain ⟨H, hH⟩ : ∃ H, H = s.heap := ⟨_, rfl⟩
  obtain ⟨locs, hLc⟩ : ∃ z : List Loc, z = [] := ⟨_, rfl⟩
  have hS : va_S (Ag g lo) s.heap H locs := by rw [hH, hLc]; exact hS
  rw [← hH] at hP
  suffices hG : W p l e ({ frames := 1, cells := 2, slots := 60, locals := 60 }) s m _ below meth c H locs 0 0 _ (F0 m 0 ls []) by rw [hH, hLc] at hG; exact hG
  clear hH hLc
  have hcf := cfw.start (g := g) (σ := σ) hlo (.inr (5, [.null, .null, .int 0, .int 0, .int 0]))
  generalize va_up (ct g σ) k _ = f at hP hcf
  refine lv_aload_n hx hb dX7_init_0 rfl (lv_at hl 0 rfl) ?_
  refine W.objInit hx hb hown (htg _ lm_X7_3) (htg _ lim_obj) (htg _ lc_obj) rfl (by rw [hml]; exact hl.1) rfl dX7_init_1 (Nat.le_of_ble_eq_true rfl) (Nat.le_of_ble_eq_true rfl) ?_
  refine W.eq (g2 := F0 m 4 ls []) rfl ?_
  refine lv_aload_n hx hb dX7_init_4 rfl (lv_at hl 0 rfl) ?_
  refine lv_bipush (v := 25) hx hb dX7_init_5 (by decide) ?_
  refine cna_i (n := k + 1) hx hb htg lac_int hZ hP (by omega) (by rw [hsz]; exact bs_add g (k + 1) 0) hS (by decide) (N := 25) (by decide) (by decide) (Nat.le_of_ble_eq_true rfl) (Nat.le_of_ble_eq_true rfl) dX7_init_7 (fun H hP hS hH => ?_)
  have hcf : cfw g lo (k + 2) k σ (va_up f (k + 1) (Sum.inl (xI g, 25, .inl (fun _ => 0)) : va_E)) (.inr (5, [.null, .null, .int 0, .int 0, .int 0])) := hcf.push (ctz_20 (g := g) hz (K0sub_7_1 hk) (al_7_1 hk))
  have hP : va_P g.1 vwCl (wc g lo (k + 2) (va_up f (k + 1) (Sum.inl (xI g, 25, .inl (fun _ => 0)) : va_E))) H := hP
  generalize va_up f (k + 1) (Sum.inl (xI g, 25, .inl (fun _ => 0)) : va_E) = f at hP hcf
  refine cputF (ci := 5) (C := RX7) (T := TX7) (N := 5) (fs := [.null, .null, .int 0, .int 0, .int 0]) hx hb htg lays_7 tyX7 tyX7_ok nmX7 hown hZ hP hS ⟨hlo, by omega⟩ hcf.1 rfl 0 (by decide) lf_X7_9 (hsame := rfl) (hin2 := hin) (hfin := rfl) (hdecl := rfl) (v := .ref (bs g (k + 1))) rfl rfl (Nat.le_of_ble_eq_true rfl) dX7_init_9 (fun H locs hP hS => ?_)
  have hcf : cfw g lo (k + 2) k σ (va_up f k (Sum.inr (5, [.ref (bs g (k + 1)), .null, .int 0, .int 0, .int 0]) : va_E)) (Sum.inr (5, [.ref (bs g (k + 1)), .null, .int 0, .int 0, .int 0]) : va_E) := hcf.put
  have hP : va_P g.1 vwCl (wc g lo (k + 2) (va_up f k (Sum.inr (5, [.ref (bs g (k + 1)), .null, .int 0, .int 0, .int 0]) : va_E))) H := hP
  generalize va_up f k (Sum.inr (5, [.ref (bs g (k + 1)), .null, .int 0, .int 0, .int 0]) : va_E) = f at hP hcf
  refine lv_aload_n hx hb dX7_init_12 rfl (lv_at hl 0 rfl) ?_
  refine lv_bipush (v := 35) hx hb dX7_init_13 (by decide) ?_
  refine cna_i (n := k + 2) hx hb htg lac_int hZ hP (by omega) (by rw [hsz]; exact bs_add g (k + 1) 1) hS (by decide) (N := 35) (by decide) (by decide) (Nat.le_of_ble_eq_true rfl) (Nat.le_of_ble_eq_true rfl) dX7_init_15 (fun H hP hS hH => ?_)
  have hcf : cfw g lo (k + 3) k σ (va_up f (k + 2) (Sum.inl (xI g, 35, .inl (fun _ => 0)) : va_E)) (.inr (5, [.ref (bs g (k + 1)), .null, .int 0, .int 0, .int 0])) := hcf.push (ctz_20 (g := g) hz (K0sub_7_2 hk) (al_7_2 hk))
  have hP : va_P g.1 vwCl (wc g lo (k + 3) (va_up f (k + 2) (Sum.inl (xI g, 35, .inl (fun _ => 0)) : va_E))) H := hP
  generalize va_up f (k + 2) (Sum.inl (xI g, 35, .inl (fun _ => 0)) : va_E) = f at hP hcf
  refine cputF (ci := 5) (C := RX7) (T := TX7) (N := 5) (fs := [.ref (bs g (k + 1)), .null, .int 0, .int 0, .int 0]) hx hb htg lays_7 tyX7 tyX7_ok nmX7 hown hZ hP hS ⟨hlo, by omega⟩ hcf.1 rfl 1 (by decide) lf_X7_15 (hsame := rfl) (hin2 := hin) (hfin := rfl) (hdecl := rfl) (v := .ref (bs g (k + 2))) rfl rfl (Nat.le_of_ble_eq_true rfl) dX7_init_17 (fun H locs hP hS => ?_)
  have hcf : cfw g lo (k + 3) k σ (va_up f k (Sum.inr (5, [.ref (bs g (k + 1)), .ref (bs g (k + 2)), .int 0, .int 0, .int 0]) : va_E)) (Sum.inr (5, [.ref (bs g (k + 1)), .ref (bs g (k + 2)), .int 0, .int 0, .int 0]) : va_E) := hcf.put
  have hP : va_P g.1 vwCl (wc g lo (k + 3) (va_up f k (Sum.inr (5, [.ref (bs g (k + 1)), .ref (bs g (k + 2)), .int 0, .int 0, .int 0]) : va_E))) H := hP
  generalize va_up f k (Sum.inr (5, [.ref (bs g (k + 1)), .ref (bs g (k + 2)), .int 0, .int 0, .int 0]) : va_E) = f at hP hcf
  have hW : Wd g lo (k + 3) σ H := ⟨hcf.done (by rw [ct_7 g σ hk, (hz k (Nat.le_refl k)).1, (hz k (Nat.le_refl k)).2.2]; rfl) hP, TRz hTR hz _ (Nat.le_add_right _ _)⟩
  refine W.widen (k := 2) (n := 60) (Nat.le_of_ble_eq_true rfl) (Nat.le_of_ble_eq_true rfl) ?_
  exact W.vret hx hb hr (fun t ht hw => ⟨⟨σ, rfl, rfl, ws_of hZ hT hS hW ht hw⟩, hS.F ht⟩) hS.2.2 dX7_init_20 hlocks
set_option maxHeartbeats 4000000 in
set_option maxRecDepth 100000 in
theorem c_X11_init (g : XG) (l : Launch) (lo k : Nat) (σ : Mem) (hk : K0 k = 11) (hlo : lo ≤ k) (hz : ZA k σ) (τ : Mem) (ho : f_X11_forget σ k = some τ) : Met l yX11_init (wx (.code yX11_init cX11_init 1 none)) ({ frames := 2, cells := 11, slots := 243, locals := 80 }) (va_Pc [.ref (bs g k)] (CP g lo k σ (.inr (9, [.int 0, .int 0, .int 0, .int 0, .null, .null, .null, .null, .null, .null, .null, .null, .null, .null])))) (va_Qv (fun u : Mem => u = τ) (WS g lo (k + 12)) (Ag g lo)) 11 243 (Ag g lo) := by
  refine Met.ofW (cc := cX11_init) (maxL := 1) (ret := none) (by decide) rfl ?_
  intro p e s m args below meth c s₁ B hml hv
  obtain ⟨rfl, hZ, hT, hsz, hP, hTR, hAO⟩ := hv
  have hx := B.exec
  have hb := B.bytes
  have hr := B.returns
  have hts : ∀ w ∈ wx (.code yX11_init cX11_init 1 none), w.before _ s = true := atoms_spec B.pre
  have htg : ∀ w ∈ lwg, w.before _ s = true := fun w h => hts w (List.mem_cons_of_mem _ h)
  have hown : s.vm.findClass RX11 = some m.cls := findClass_of_methodNamed B.named
  have hlocks := B.notSynchronized
  have hin : meth.name = "<init>" := (name_of_methodNamed B.named B.method).1
  change W p l e ({ frames := 2, cells := 11, slots := 243, locals := 80 }) s m _ below meth c s.heap [] 0 0 _ _
  have hS : va_S (Ag g lo) s.heap s.heap [] := va_S.rf
  have hl := lv_entry ([.ref (bs g k)]) (n := 1) (Nat.le_of_ble_eq_true rfl)
  rw [lg_entry_eq]
  generalize (lg_sl ([.ref (bs g k)]) ++ List.replicate (1 - (lg_sl ([.ref (bs g k)])).length) Slot.unset).toArray = ls at hl ⊢
  have hl : lv_has ls 1 [(0, .ref (bs g k))] := hl
  obtain ⟨H, hH⟩ : ∃ H, H = s.heap := ⟨_, rfl⟩
  obtain ⟨locs, hLc⟩ : ∃ z : List Loc, z = [] := ⟨_, rfl⟩
  have hS : va_S (Ag g lo) s.heap H locs := by rw [hH, hLc]; exact hS
  rw [← hH] at hP
  suffices hG : W p l e ({ frames := 2, cells := 11, slots := 243, locals := 80 }) s m _ below meth c H locs 0 0 _ (F0 m 0 ls []) by rw [hH, hLc] at hG; exact hG
  clear hH hLc
  have hcf := cfw.start (g := g) (σ := σ) hlo (.inr (9, [.int 0, .int 0, .int 0, .int 0, .null, .null, .null, .null, .null, .null, .null, .null, .null, .null]))
  generalize va_up (ct g σ) k _ = f at hP hcf
  refine lv_aload_n hx hb dX11_init_0 rfl (lv_at hl 0 rfl) ?_
  refine W.objInit hx hb hown (htg _ lm_X11_3) (htg _ lim_obj) (htg _ lc_obj) rfl (by rw [hml]; exact hl.1) rfl dX11_init_1 (Nat.le_of_ble_eq_true rfl) (Nat.le_of_ble_eq_true rfl) ?_
  refine W.eq (g2 := F0 m 4 ls []) rfl ?_
  refine lv_aload_n hx hb dX11_init_4 rfl (lv_at hl 0 rfl) ?_
  refine va_getsN hx hb (hT.1.2.1.narrow (fun q h => ag_a0 g lo q h)) hS hown (nuF hZ ln_X11_9) (fun _ h => h) dX11_init_5 ?_
  refine va_tlen hx hb (hT.1.2.2.narrow (fun q h => ag_a0 g lo q h)) hS (v := 7) (by decide) dX11_init_8 ?_
  refine cna_i (n := k + 1) hx hb htg lac_int hZ hP (by omega) (by rw [hsz]; exact bs_add g (k + 1) 0) hS (by decide) (N := 7) (by decide) (by decide) (Nat.le_of_ble_eq_true rfl) (Nat.le_of_ble_eq_true rfl) dX11_init_9 (fun H hP hS hH => ?_)
  have hcf : cfw g lo (k + 2) k σ (va_up f (k + 1) (Sum.inl (xI g, 7, .inl (fun _ => 0)) : va_E)) (.inr (9, [.int 0, .int 0, .int 0, .int 0, .null, .null, .null, .null, .null, .null, .null, .null, .null, .null])) := hcf.push (ctz_20 (g := g) hz (K0sub_11_1 hk) (al_11_1 hk))
  have hP : va_P g.1 vwCl (wc g lo (k + 2) (va_up f (k + 1) (Sum.inl (xI g, 7, .inl (fun _ => 0)) : va_E))) H := hP
  generalize va_up f (k + 1) (Sum.inl (xI g, 7, .inl (fun _ => 0)) : va_E) = f at hP hcf
  refine cputF (ci := 9) (C := RX11) (T := TX11) (N := 14) (fs := [.int 0, .int 0, .int 0, .int 0, .null, .null, .null, .null, .null, .null, .null, .null, .null, .null]) hx hb htg lays_11 tyX11 tyX11_ok nmX11 hown hZ hP hS ⟨hlo, by omega⟩ hcf.1 rfl 4 (by decide) lf_X11_13 (hsame := rfl) (hin2 := hin) (hfin := rfl) (hdecl := rfl) (v := .ref (bs g (k + 1))) rfl rfl (Nat.le_of_ble_eq_true rfl) dX11_init_11 (fun H locs hP hS => ?_)
  have hcf : cfw g lo (k + 2) k σ (va_up f k (Sum.inr (9, [.int 0, .int 0, .int 0, .int 0, .ref (bs g (k + 1)), .null, .null, .null, .null, .null, .null, .null, .null, .null]) : va_E)) (Sum.inr (9, [.int 0, .int 0, .int 0, .int 0, .ref (bs g (k + 1)), .null, .null, .null, .null, .null, .null, .null, .null, .null]) : va_E) := hcf.put
  have hP : va_P g.1 vwCl (wc g lo (k + 2) (va_up f k (Sum.inr (9, [.int 0, .int 0, .int 0, .int 0, .ref (bs g (k + 1)), .null, .null, .null, .null, .null, .null, .null, .null, .null]) : va_E))) H := hP
  generalize va_up f k (Sum.inr (9, [.int 0, .int 0, .int 0, .int 0, .ref (bs g (k + 1)), .null, .null, .null, .null, .null, .null, .null, .null, .null]) : va_E) = f at hP hcf
  refine lv_aload_n hx hb dX11_init_14 rfl (lv_at hl 0 rfl) ?_
  refine lv_iconst (v := 5) hx hb dX11_init_15 (by decide) ?_
  refine cna_l (n := k + 2) hx hb htg lac_long hZ hP (by omega) (by rw [hsz]; exact bs_add g (k + 1) 1) hS (by decide) (N := 5) (by decide) (by decide) (Nat.le_of_ble_eq_true rfl) (Nat.le_of_ble_eq_true rfl) dX11_init_16 (fun H hP hS hH => ?_)
  have hcf : cfw g lo (k + 3) k σ (va_up f (k + 2) (Sum.inl (xJ g, 5, .inr (.inl (fun _ => 0))) : va_E)) (.inr (9, [.int 0, .int 0, .int 0, .int 0, .ref (bs g (k + 1)), .null, .null, .null, .null, .null, .null, .null, .null, .null])) := hcf.push (ctz_22 (g := g) hz (K0sub_11_2 hk) (al_11_2 hk))
  have hP : va_P g.1 vwCl (wc g lo (k + 3) (va_up f (k + 2) (Sum.inl (xJ g, 5, .inr (.inl (fun _ => 0))) : va_E))) H := hP
  generalize va_up f (k + 2) (Sum.inl (xJ g, 5, .inr (.inl (fun _ => 0))) : va_E) = f at hP hcf
  refine cputF (ci := 9) (C := RX11) (T := TX11) (N := 14) (fs := [.int 0, .int 0, .int 0, .int 0, .ref (bs g (k + 1)), .null, .null, .null, .null, .null, .null, .null, .null, .null]) hx hb htg lays_11 tyX11 tyX11_ok nmX11 hown hZ hP hS ⟨hlo, by omega⟩ hcf.1 rfl 5 (by decide) lf_X11_19 (hsame := rfl) (hin2 := hin) (hfin := rfl) (hdecl := rfl) (v := .ref (bs g (k + 2))) rfl rfl (Nat.le_of_ble_eq_true rfl) dX11_init_18 (fun H locs hP hS => ?_)
  have hcf : cfw g lo (k + 3) k σ (va_up f k (Sum.inr (9, [.int 0, .int 0, .int 0, .int 0, .ref (bs g (k + 1)), .ref (bs g (k + 2)), .null, .null, .null, .null, .null, .null, .null, .null]) : va_E)) (Sum.inr (9, [.int 0, .int 0, .int 0, .int 0, .ref (bs g (k + 1)), .ref (bs g (k + 2)), .null, .null, .null, .null, .null, .null, .null, .null]) : va_E) := hcf.put
  have hP : va_P g.1 vwCl (wc g lo (k + 3) (va_up f k (Sum.inr (9, [.int 0, .int 0, .int 0, .int 0, .ref (bs g (k + 1)), .ref (bs g (k + 2)), .null, .null, .null, .null, .null, .null, .null, .null]) : va_E))) H := hP
  generalize va_up f k (Sum.inr (9, [.int 0, .int 0, .int 0, .int 0, .ref (bs g (k + 1)), .ref (bs g (k + 2)), .null, .null, .null, .null, .null, .null, .null, .null]) : va_E) = f at hP hcf
  refine lv_aload_n hx hb dX11_init_21 rfl (lv_at hl 0 rfl) ?_
  refine lv_iconst (v := 5) hx hb dX11_init_22 (by decide) ?_
  refine cna_i (n := k + 3) hx hb htg lac_int hZ hP (by omega) (by rw [hsz]; exact bs_add g (k + 1) 2) hS (by decide) (N := 5) (by decide) (by decide) (Nat.le_of_ble_eq_true rfl) (Nat.le_of_ble_eq_true rfl) dX11_init_23 (fun H hP hS hH => ?_)
  have hcf : cfw g lo (k + 4) k σ (va_up f (k + 3) (Sum.inl (xI g, 5, .inl (fun _ => 0)) : va_E)) (.inr (9, [.int 0, .int 0, .int 0, .int 0, .ref (bs g (k + 1)), .ref (bs g (k + 2)), .null, .null, .null, .null, .null, .null, .null, .null])) := hcf.push (ctz_20 (g := g) hz (K0sub_11_3 hk) (al_11_3 hk))
  have hP : va_P g.1 vwCl (wc g lo (k + 4) (va_up f (k + 3) (Sum.inl (xI g, 5, .inl (fun _ => 0)) : va_E))) H := hP
  generalize va_up f (k + 3) (Sum.inl (xI g, 5, .inl (fun _ => 0)) : va_E) = f at hP hcf
  refine cputF (ci := 9) (C := RX11) (T := TX11) (N := 14) (fs := [.int 0, .int 0, .int 0, .int 0, .ref (bs g (k + 1)), .ref (bs g (k + 2)), .null, .null, .null, .null, .null, .null, .null, .null]) hx hb htg lays_11 tyX11 tyX11_ok nmX11 hown hZ hP hS ⟨hlo, by omega⟩ hcf.1 rfl 6 (by decide) lf_X11_23 (hsame := rfl) (hin2 := hin) (hfin := rfl) (hdecl := rfl) (v := .ref (bs g (k + 3))) rfl rfl (Nat.le_of_ble_eq_true rfl) dX11_init_25 (fun H locs hP hS => ?_)
  have hcf : cfw g lo (k + 4) k σ (va_up f k (Sum.inr (9, [.int 0, .int 0, .int 0, .int 0, .ref (bs g (k + 1)), .ref (bs g (k + 2)), .ref (bs g (k + 3)), .null, .null, .null, .null, .null, .null, .null]) : va_E)) (Sum.inr (9, [.int 0, .int 0, .int 0, .int 0, .ref (bs g (k + 1)), .ref (bs g (k + 2)), .ref (bs g (k + 3)), .null, .null, .null, .null, .null, .null, .null]) : va_E) := hcf.put
  have hP : va_P g.1 vwCl (wc g lo (k + 4) (va_up f k (Sum.inr (9, [.int 0, .int 0, .int 0, .int 0, .ref (bs g (k + 1)), .ref (bs g (k + 2)), .ref (bs g (k + 3)), .null, .null, .null, .null, .null, .null, .null]) : va_E))) H := hP
  generalize va_up f k (Sum.inr (9, [.int 0, .int 0, .int 0, .int 0, .ref (bs g (k + 1)), .ref (bs g (k + 2)), .ref (bs g (k + 3)), .null, .null, .null, .null, .null, .null, .null]) : va_E) = f at hP hcf
  refine lv_aload_n hx hb dX11_init_28 rfl (lv_at hl 0 rfl) ?_
  refine lv_iconst (v := 5) hx hb dX11_init_29 (by decide) ?_
  refine cna_i (n := k + 4) hx hb htg lac_int hZ hP (by omega) (by rw [hsz]; exact bs_add g (k + 1) 3) hS (by decide) (N := 5) (by decide) (by decide) (Nat.le_of_ble_eq_true rfl) (Nat.le_of_ble_eq_true rfl) dX11_init_30 (fun H hP hS hH => ?_)
  have hcf : cfw g lo (k + 5) k σ (va_up f (k + 4) (Sum.inl (xI g, 5, .inl (fun _ => 0)) : va_E)) (.inr (9, [.int 0, .int 0, .int 0, .int 0, .ref (bs g (k + 1)), .ref (bs g (k + 2)), .ref (bs g (k + 3)), .null, .null, .null, .null, .null, .null, .null])) := hcf.push (ctz_20 (g := g) hz (K0sub_11_4 hk) (al_11_4 hk))
  have hP : va_P g.1 vwCl (wc g lo (k + 5) (va_up f (k + 4) (Sum.inl (xI g, 5, .inl (fun _ => 0)) : va_E))) H := hP
  generalize va_up f (k + 4) (Sum.inl (xI g, 5, .inl (fun _ => 0)) : va_E) = f at hP hcf
  refine cputF (ci := 9) (C := RX11) (T := TX11) (N := 14) (fs := [.int 0, .int 0, .int 0, .int 0, .ref (bs g (k + 1)), .ref (bs g (k + 2)), .ref (bs g (k + 3)), .null, .null, .null, .null, .null, .null, .null]) hx hb htg lays_11 tyX11 tyX11_ok nmX11 hown hZ hP hS ⟨hlo, by omega⟩ hcf.1 rfl 7 (by decide) lf_X11_26 (hsame := rfl) (hin2 := hin) (hfin := rfl) (hdecl := rfl) (v := .ref (bs g (k + 4))) rfl rfl (Nat.le_of_ble_eq_true rfl) dX11_init_32 (fun H locs hP hS => ?_)
  have hcf : cfw g lo (k + 5) k σ (va_up f k (Sum.inr (9, [.int 0, .int 0, .int 0, .int 0, .ref (bs g (k + 1)), .ref (bs g (k + 2)), .ref (bs g (k + 3)), .ref (bs g (k + 4)), .null, .null, .null, .null, .null, .null]) : va_E)) (Sum.inr (9, [.int 0, .int 0, .int 0, .int 0, .ref (bs g (k + 1)), .ref (bs g (k + 2)), .ref (bs g (k + 3)), .ref (bs g (k + 4)), .null, .null, .null, .null, .null, .null]) : va_E) := hcf.put
  have hP : va_P g.1 vwCl (wc g lo (k + 5) (va_up f k (Sum.inr (9, [.int 0, .int 0, .int 0, .int 0, .ref (bs g (k + 1)), .ref (bs g (k + 2)), .ref (bs g (k + 3)), .ref (bs g (k + 4)), .null, .null, .null, .null, .null, .null]) : va_E))) H := hP
  generalize va_up f k (Sum.inr (9, [.int 0, .int 0, .int 0, .int 0, .ref (bs g (k + 1)), .ref (bs g (k + 2)), .ref (bs g (k + 3)), .ref (bs g (k + 4)), .null, .null, .null, .null, .null, .null]) : va_E) = f at hP hcf
  refine lv_aload_n hx hb dX11_init_35 rfl (lv_at hl 0 rfl) ?_
  refine cnew (n := k + 5) (ci := 3) (fs := [.null]) hx hb htg lays_5 tyX5 tyX5_ok hown lcl_X11_29 lin_X5 ini_X5 hZ hP (by omega) (by rw [hsz]; exact bs_add g (k + 1) 4) hS rfl (fun j hj => by rcases (show j = 0 by omega) with rfl <;> rfl) (Nat.le_of_ble_eq_true rfl) (Nat.le_of_ble_eq_true rfl) dX11_init_36 (fun H hP2 hS hH => ?_)
  have hnew := wc_at hP2 (k := k + 5) ⟨by omega, by omega⟩
  rw [va_up, if_pos rfl] at hnew
  have hP : va_P g.1 vwCl (wc g lo (k + 5) f) H := wc_mk (fun i h1 h2 => by have h3 := wc_at hP2 (k := i) ⟨h1, by omega⟩; rw [va_up, if_neg (by omega)] at h3; exact h3)
  refine lv_dup hx hb dX11_init_39 rfl ?_
  have hC := c_X5_init g l (k + 5) (k + 5) σ (K0sub_11_5 hk) (Nat.le_refl _) (hz.up (Nat.le_add_right _ _))
  have hw0 : va_P g.1 vwCl (wc g (k + 5) (k + 5 + 1) (va_up (ct g σ) (k + 5) (.inr (3, [.null])))) H := wc_one hnew
  refine va_callv (va_runIN (As := []) (rest := [.ref (bs g (k + 5)), .ref (bs g k)]) ⟨hx, hb, hml, hown, hts⟩ hC (cl_X11_31 hts hZ ⟨Nat.le_of_ble_eq_true rfl, Nat.le_of_ble_eq_true rfl⟩) ⟨CP.blind g _ _ σ _ _, fun U hU hW => ⟨rfl, ⟨va_K.moved hW.alike hZ.1, NU.warm hW hZ.2⟩, ST.moved hW.alike (hT.kept (fun a h1 h2 => by rw [hU]; exact hS.2.1 a h1 (fun q => h2 (ag_a0 g lo a q)))), by rw [hU]; exact hH, by rw [hU]; exact hw0, (fun a j T h1 h2 h3 => absurd h2 (by omega)), va_AO.moved hW.alike hAO⟩⟩ rfl rfl hl.1 rfl (lv_room (Nat.le_of_ble_eq_true rfl)) dX11_init_40 ⟨Nat.le_of_ble_eq_true rfl, Nat.le_of_ble_eq_true rfl⟩) hS (fun q _ h => agle g (Nat.le_trans hlo (Nat.le_add_right _ _)) q h) (fun q h => agle g (Nat.le_trans hlo (Nat.le_add_right _ _)) q h) (fun u t H1 locs1 ht hvm hp hB hzz hkk hS1 => ?_)
  have hB1 := hB.2.2.1
  rw [ht, hp] at hB1
  have hP := cglue hP (Nat.le_refl _) hkk (f2 := ct g σ) hB1
  have hcf : cfw g lo (k + 7) k σ (fun i => if i < k + 5 then f i else ct g σ i) (.inr (9, [.int 0, .int 0, .int 0, .int 0, .ref (bs g (k + 1)), .ref (bs g (k + 2)), .ref (bs g (k + 3)), .ref (bs g (k + 4)), .null, .null, .null, .null, .null, .null])) := ⟨(if_pos (by omega)).trans hcf.1, ⟨by omega, hlo⟩, fun i h1 h2 h3 => by
      by_cases hi : i < k + 5
      · exact (if_pos hi).trans (hcf.2.2 i h1 hi h3)
      · exact if_neg hi⟩
  generalize (fun i => if i < k + 5 then f i else ct g σ i) = f at hP hcf
  have hS := hS1
  generalize H1 = H at hP hS
  generalize locs1 = locs at hS
  refine cputF (ci := 9) (C := RX11) (T := TX11) (N := 14) (fs := [.int 0, .int 0, .int 0, .int 0, .ref (bs g (k + 1)), .ref (bs g (k + 2)), .ref (bs g (k + 3)), .ref (bs g (k + 4)), .null, .null, .null, .null, .null, .null]) hx hb htg lays_11 tyX11 tyX11_ok nmX11 hown hZ hP hS ⟨hlo, by omega⟩ hcf.1 rfl 8 (by decide) lf_X11_32 (hsame := rfl) (hin2 := hin) (hfin := rfl) (hdecl := rfl) (v := .ref (bs g (k + 5))) rfl rfl (Nat.le_of_ble_eq_true rfl) dX11_init_43 (fun H locs hP hS => ?_)
  have hcf : cfw g lo (k + 7) k σ (va_up f k (Sum.inr (9, [.int 0, .int 0, .int 0, .int 0, .ref (bs g (k + 1)), .ref (bs g (k + 2)), .ref (bs g (k + 3)), .ref (bs g (k + 4)), .ref (bs g (k + 5)), .null, .null, .null, .null, .null]) : va_E)) (Sum.inr (9, [.int 0, .int 0, .int 0, .int 0, .ref (bs g (k + 1)), .ref (bs g (k + 2)), .ref (bs g (k + 3)), .ref (bs g (k + 4)), .ref (bs g (k + 5)), .null, .null, .null, .null, .null]) : va_E) := hcf.put
  have hP : va_P g.1 vwCl (wc g lo (k + 7) (va_up f k (Sum.inr (9, [.int 0, .int 0, .int 0, .int 0, .ref (bs g (k + 1)), .ref (bs g (k + 2)), .ref (bs g (k + 3)), .ref (bs g (k + 4)), .ref (bs g (k + 5)), .null, .null, .null, .null, .null]) : va_E))) H := hP
  generalize va_up f k (Sum.inr (9, [.int 0, .int 0, .int 0, .int 0, .ref (bs g (k + 1)), .ref (bs g (k + 2)), .ref (bs g (k + 3)), .ref (bs g (k + 4)), .ref (bs g (k + 5)), .null, .null, .null, .null, .null]) : va_E) = f at hP hcf
  refine lv_aload_n hx hb dX11_init_46 rfl (lv_at hl 0 rfl) ?_
  refine lv_bipush (v := 30) hx hb dX11_init_47 (by decide) ?_
  refine cna_i (n := k + 7) hx hb htg lac_int hZ hP (by omega) (by rw [hsz]; exact bs_add g (k + 1) 6) hS (by decide) (N := 30) (by decide) (by decide) (Nat.le_of_ble_eq_true rfl) (Nat.le_of_ble_eq_true rfl) dX11_init_49 (fun H hP hS hH => ?_)
  have hcf : cfw g lo (k + 8) k σ (va_up f (k + 7) (Sum.inl (xI g, 30, .inl (fun _ => 0)) : va_E)) (.inr (9, [.int 0, .int 0, .int 0, .int 0, .ref (bs g (k + 1)), .ref (bs g (k + 2)), .ref (bs g (k + 3)), .ref (bs g (k + 4)), .ref (bs g (k + 5)), .null, .null, .null, .null, .null])) := hcf.push (ctz_20 (g := g) hz (K0sub_11_7 hk) (al_11_7 hk))
  have hP : va_P g.1 vwCl (wc g lo (k + 8) (va_up f (k + 7) (Sum.inl (xI g, 30, .inl (fun _ => 0)) : va_E))) H := hP
  generalize va_up f (k + 7) (Sum.inl (xI g, 30, .inl (fun _ => 0)) : va_E) = f at hP hcf
  refine cputF (ci := 9) (C := RX11) (T := TX11) (N := 14) (fs := [.int 0, .int 0, .int 0, .int 0, .ref (bs g (k + 1)), .ref (bs g (k + 2)), .ref (bs g (k + 3)), .ref (bs g (k + 4)), .ref (bs g (k + 5)), .null, .null, .null, .null, .null]) hx hb htg lays_11 tyX11 tyX11_ok nmX11 hown hZ hP hS ⟨hlo, by omega⟩ hcf.1 rfl 9 (by decide) lf_X11_36 (hsame := rfl) (hin2 := hin) (hfin := rfl) (hdecl := rfl) (v := .ref (bs g (k + 7))) rfl rfl (Nat.le_of_ble_eq_true rfl) dX11_init_51 (fun H locs hP hS => ?_)
  have hcf : cfw g lo (k + 8) k σ (va_up f k (Sum.inr (9, [.int 0, .int 0, .int 0, .int 0, .ref (bs g (k + 1)), .ref (bs g (k + 2)), .ref (bs g (k + 3)), .ref (bs g (k + 4)), .ref (bs g (k + 5)), .ref (bs g (k + 7)), .null, .null, .null, .null]) : va_E)) (Sum.inr (9, [.int 0, .int 0, .int 0, .int 0, .ref (bs g (k + 1)), .ref (bs g (k + 2)), .ref (bs g (k + 3)), .ref (bs g (k + 4)), .ref (bs g (k + 5)), .ref (bs g (k + 7)), .null, .null, .null, .null]) : va_E) := hcf.put
  have hP : va_P g.1 vwCl (wc g lo (k + 8) (va_up f k (Sum.inr (9, [.int 0, .int 0, .int 0, .int 0, .ref (bs g (k + 1)), .ref (bs g (k + 2)), .ref (bs g (k + 3)), .ref (bs g (k + 4)), .ref (bs g (k + 5)), .ref (bs g (k + 7)), .null, .null, .null, .null]) : va_E))) H := hP
  generalize va_up f k (Sum.inr (9, [.int 0, .int 0, .int 0, .int 0, .ref (bs g (k + 1)), .ref (bs g (k + 2)), .ref (bs g (k + 3)), .ref (bs g (k + 4)), .ref (bs g (k + 5)), .ref (bs g (k + 7)), .null, .null, .null, .null]) : va_E) = f at hP hcf
  refine lv_aload_n hx hb dX11_init_54 rfl (lv_at hl 0 rfl) ?_
  refine lv_iconst (v := 5) hx hb dX11_init_55 (by decide) ?_
  refine cna_i (n := k + 8) hx hb htg lac_int hZ hP (by omega) (by rw [hsz]; exact bs_add g (k + 1) 7) hS (by decide) (N := 5) (by decide) (by decide) (Nat.le_of_ble_eq_true rfl) (Nat.le_of_ble_eq_true rfl) dX11_init_56 (fun H hP hS hH => ?_)
  have hcf : cfw g lo (k + 9) k σ (va_up f (k + 8) (Sum.inl (xI g, 5, .inl (fun _ => 0)) : va_E)) (.inr (9, [.int 0, .int 0, .int 0, .int 0, .ref (bs g (k + 1)), .ref (bs g (k + 2)), .ref (bs g (k + 3)), .ref (bs g (k + 4)), .ref (bs g (k + 5)), .ref (bs g (k + 7)), .null, .null, .null, .null])) := hcf.push (ctz_20 (g := g) hz (K0sub_11_8 hk) (al_11_8 hk))
  have hP : va_P g.1 vwCl (wc g lo (k + 9) (va_up f (k + 8) (Sum.inl (xI g, 5, .inl (fun _ => 0)) : va_E))) H := hP
  generalize va_up f (k + 8) (Sum.inl (xI g, 5, .inl (fun _ => 0)) : va_E) = f at hP hcf
  refine cputF (ci := 9) (C := RX11) (T := TX11) (N := 14) (fs := [.int 0, .int 0, .int 0, .int 0, .ref (bs g (k + 1)), .ref (bs g (k + 2)), .ref (bs g (k + 3)), .ref (bs g (k + 4)), .ref (bs g (k + 5)), .ref (bs g (k + 7)), .null, .null, .null, .null]) hx hb htg lays_11 tyX11 tyX11_ok nmX11 hown hZ hP hS ⟨hlo, by omega⟩ hcf.1 rfl 10 (by decide) lf_X11_39 (hsame := rfl) (hin2 := hin) (hfin := rfl) (hdecl := rfl) (v := .ref (bs g (k + 8))) rfl rfl (Nat.le_of_ble_eq_true rfl) dX11_init_58 (fun H locs hP hS => ?_)
  have hcf : cfw g lo (k + 9) k σ (va_up f k (Sum.inr (9, [.int 0, .int 0, .int 0, .int 0, .ref (bs g (k + 1)), .ref (bs g (k + 2)), .ref (bs g (k + 3)), .ref (bs g (k + 4)), .ref (bs g (k + 5)), .ref (bs g (k + 7)), .ref (bs g (k + 8)), .null, .null, .null]) : va_E)) (Sum.inr (9, [.int 0, .int 0, .int 0, .int 0, .ref (bs g (k + 1)), .ref (bs g (k + 2)), .ref (bs g (k + 3)), .ref (bs g (k + 4)), .ref (bs g (k + 5)), .ref (bs g (k + 7)), .ref (bs g (k + 8)), .null, .null, .null]) : va_E) := hcf.put
  have hP : va_P g.1 vwCl (wc g lo (k + 9) (va_up f k (Sum.inr (9, [.int 0, .int 0, .int 0, .int 0, .ref (bs g (k + 1)), .ref (bs g (k + 2)), .ref (bs g (k + 3)), .ref (bs g (k + 4)), .ref (bs g (k + 5)), .ref (bs g (k + 7)), .ref (bs g (k + 8)), .null, .null, .null]) : va_E))) H := hP
  generalize va_up f k (Sum.inr (9, [.int 0, .int 0, .int 0, .int 0, .ref (bs g (k + 1)), .ref (bs g (k + 2)), .ref (bs g (k + 3)), .ref (bs g (k + 4)), .ref (bs g (k + 5)), .ref (bs g (k + 7)), .ref (bs g (k + 8)), .null, .null, .null]) : va_E) = f at hP hcf
  refine lv_aload_n hx hb dX11_init_61 rfl (lv_at hl 0 rfl) ?_
  refine lv_iconst (v := 5) hx hb dX11_init_62 (by decide) ?_
  refine cna_i (n := k + 9) hx hb htg lac_int hZ hP (by omega) (by rw [hsz]; exact bs_add g (k + 1) 8) hS (by decide) (N := 5) (by decide) (by decide) (Nat.le_of_ble_eq_true rfl) (Nat.le_of_ble_eq_true rfl) dX11_init_63 (fun H hP hS hH => ?_)
  have hcf : cfw g lo (k + 10) k σ (va_up f (k + 9) (Sum.inl (xI g, 5, .inl (fun _ => 0)) : va_E)) (.inr (9, [.int 0, .int 0, .int 0, .int 0, .ref (bs g (k + 1)), .ref (bs g (k + 2)), .ref (bs g (k + 3)), .ref (bs g (k + 4)), .ref (bs g (k + 5)), .ref (bs g (k + 7)), .ref (bs g (k + 8)), .null, .null, .null])) := hcf.push (ctz_20 (g := g) hz (K0sub_11_9 hk) (al_11_9 hk))
  have hP : va_P g.1 vwCl (wc g lo (k + 10) (va_up f (k + 9) (Sum.inl (xI g, 5, .inl (fun _ => 0)) : va_E))) H := hP
  generalize va_up f (k + 9) (Sum.inl (xI g, 5, .inl (fun _ => 0)) : va_E) = f at hP hcf
  refine cputF (ci := 9) (C := RX11) (T := TX11) (N := 14) (fs := [.int 0, .int 0, .int 0, .int 0, .ref (bs g (k + 1)), .ref (bs g (k + 2)), .ref (bs g (k + 3)), .ref (bs g (k + 4)), .ref (bs g (k + 5)), .ref (bs g (k + 7)), .ref (bs g (k + 8)), .null, .null, .null]) hx hb htg lays_11 tyX11 tyX11_ok nmX11 hown hZ hP hS ⟨hlo, by omega⟩ hcf.1 rfl 11 (by decide) lf_X11_42 (hsame := rfl) (hin2 := hin) (hfin := rfl) (hdecl := rfl) (v := .ref (bs g (k + 9))) rfl rfl (Nat.le_of_ble_eq_true rfl) dX11_init_65 (fun H locs hP hS => ?_)
  have hcf : cfw g lo (k + 10) k σ (va_up f k (Sum.inr (9, [.int 0, .int 0, .int 0, .int 0, .ref (bs g (k + 1)), .ref (bs g (k + 2)), .ref (bs g (k + 3)), .ref (bs g (k + 4)), .ref (bs g (k + 5)), .ref (bs g (k + 7)), .ref (bs g (k + 8)), .ref (bs g (k + 9)), .null, .null]) : va_E)) (Sum.inr (9, [.int 0, .int 0, .int 0, .int 0, .ref (bs g (k + 1)), .ref (bs g (k + 2)), .ref (bs g (k + 3)), .ref (bs g (k + 4)), .ref (bs g (k + 5)), .ref (bs g (k + 7)), .ref (bs g (k + 8)), .ref (bs g (k + 9)), .null, .null]) : va_E) := hcf.put
  have hP : va_P g.1 vwCl (wc g lo (k + 10) (va_up f k (Sum.inr (9, [.int 0, .int 0, .int 0, .int 0, .ref (bs g (k + 1)), .ref (bs g (k + 2)), .ref (bs g (k + 3)), .ref (bs g (k + 4)), .ref (bs g (k + 5)), .ref (bs g (k + 7)), .ref (bs g (k + 8)), .ref (bs g (k + 9)), .null, .null]) : va_E))) H := hP
  generalize va_up f k (Sum.inr (9, [.int 0, .int 0, .int 0, .int 0, .ref (bs g (k + 1)), .ref (bs g (k + 2)), .ref (bs g (k + 3)), .ref (bs g (k + 4)), .ref (bs g (k + 5)), .ref (bs g (k + 7)), .ref (bs g (k + 8)), .ref (bs g (k + 9)), .null, .null]) : va_E) = f at hP hcf
  refine lv_aload_n hx hb dX11_init_68 rfl (lv_at hl 0 rfl) ?_
  refine lv_bipush (v := 25) hx hb dX11_init_69 (by decide) ?_
  refine cna_i (n := k + 10) hx hb htg lac_int hZ hP (by omega) (by rw [hsz]; exact bs_add g (k + 1) 9) hS (by decide) (N := 25) (by decide) (by decide) (Nat.le_of_ble_eq_true rfl) (Nat.le_of_ble_eq_true rfl) dX11_init_71 (fun H hP hS hH => ?_)
  have hcf : cfw g lo (k + 11) k σ (va_up f (k + 10) (Sum.inl (xI g, 25, .inl (fun _ => 0)) : va_E)) (.inr (9, [.int 0, .int 0, .int 0, .int 0, .ref (bs g (k + 1)), .ref (bs g (k + 2)), .ref (bs g (k + 3)), .ref (bs g (k + 4)), .ref (bs g (k + 5)), .ref (bs g (k + 7)), .ref (bs g (k + 8)), .ref (bs g (k + 9)), .null, .null])) := hcf.push (ctz_20 (g := g) hz (K0sub_11_10 hk) (al_11_10 hk))
  have hP : va_P g.1 vwCl (wc g lo (k + 11) (va_up f (k + 10) (Sum.inl (xI g, 25, .inl (fun _ => 0)) : va_E))) H := hP
  generalize va_up f (k + 10) (Sum.inl (xI g, 25, .inl (fun _ => 0)) : va_E) = f at hP hcf
  refine cputF (ci := 9) (C := RX11) (T := TX11) (N := 14) (fs := [.int 0, .int 0, .int 0, .int 0, .ref (bs g (k + 1)), .ref (bs g (k + 2)), .ref (bs g (k + 3)), .ref (bs g (k + 4)), .ref (bs g (k + 5)), .ref (bs g (k + 7)), .ref (bs g (k + 8)), .ref (bs g (k + 9)), .null, .null]) hx hb htg lays_11 tyX11 tyX11_ok nmX11 hown hZ hP hS ⟨hlo, by omega⟩ hcf.1 rfl 12 (by decide) lf_X11_45 (hsame := rfl) (hin2 := hin) (hfin := rfl) (hdecl := rfl) (v := .ref (bs g (k + 10))) rfl rfl (Nat.le_of_ble_eq_true rfl) dX11_init_73 (fun H locs hP hS => ?_)
  have hcf : cfw g lo (k + 11) k σ (va_up f k (Sum.inr (9, [.int 0, .int 0, .int 0, .int 0, .ref (bs g (k + 1)), .ref (bs g (k + 2)), .ref (bs g (k + 3)), .ref (bs g (k + 4)), .ref (bs g (k + 5)), .ref (bs g (k + 7)), .ref (bs g (k + 8)), .ref (bs g (k + 9)), .ref (bs g (k + 10)), .null]) : va_E)) (Sum.inr (9, [.int 0, .int 0, .int 0, .int 0, .ref (bs g (k + 1)), .ref (bs g (k + 2)), .ref (bs g (k + 3)), .ref (bs g (k + 4)), .ref (bs g (k + 5)), .ref (bs g (k + 7)), .ref (bs g (k + 8)), .ref (bs g (k + 9)), .ref (bs g (k + 10)), .null]) : va_E) := hcf.put
  have hP : va_P g.1 vwCl (wc g lo (k + 11) (va_up f k (Sum.inr (9, [.int 0, .int 0, .int 0, .int 0, .ref (bs g (k + 1)), .ref (bs g (k + 2)), .ref (bs g (k + 3)), .ref (bs g (k + 4)), .ref (bs g (k + 5)), .ref (bs g (k + 7)), .ref (bs g (k + 8)), .ref (bs g (k + 9)), .ref (bs g (k + 10)), .null]) : va_E))) H := hP
  generalize va_up f k (Sum.inr (9, [.int 0, .int 0, .int 0, .int 0, .ref (bs g (k + 1)), .ref (bs g (k + 2)), .ref (bs g (k + 3)), .ref (bs g (k + 4)), .ref (bs g (k + 5)), .ref (bs g (k + 7)), .ref (bs g (k + 8)), .ref (bs g (k + 9)), .ref (bs g (k + 10)), .null]) : va_E) = f at hP hcf
  refine lv_aload_n hx hb dX11_init_76 rfl (lv_at hl 0 rfl) ?_
  refine lv_iconst (v := 5) hx hb dX11_init_77 (by decide) ?_
  refine cna_i (n := k + 11) hx hb htg lac_int hZ hP (by omega) (by rw [hsz]; exact bs_add g (k + 1) 10) hS (by decide) (N := 5) (by decide) (by decide) (Nat.le_of_ble_eq_true rfl) (Nat.le_of_ble_eq_true rfl) dX11_init_78 (fun H hP hS hH => ?_)
  have hcf : cfw g lo (k + 12) k σ (va_up f (k + 11) (Sum.inl (xI g, 5, .inl (fun _ => 0)) : va_E)) (.inr (9, [.int 0, .int 0, .int 0, .int 0, .ref (bs g (k + 1)), .ref (bs g (k + 2)), .ref (bs g (k + 3)), .ref (bs g (k + 4)), .ref (bs g (k + 5)), .ref (bs g (k + 7)), .ref (bs g (k + 8)), .ref (bs g (k + 9)), .ref (bs g (k + 10)), .null])) := hcf.push (ctz_20 (g := g) hz (K0sub_11_11 hk) (al_11_11 hk))
  have hP : va_P g.1 vwCl (wc g lo (k + 12) (va_up f (k + 11) (Sum.inl (xI g, 5, .inl (fun _ => 0)) : va_E))) H := hP
  generalize va_up f (k + 11) (Sum.inl (xI g, 5, .inl (fun _ => 0)) : va_E) = f at hP hcf
  refine cputF (ci := 9) (C := RX11) (T := TX11) (N := 14) (fs := [.int 0, .int 0, .int 0, .int 0, .ref (bs g (k + 1)), .ref (bs g (k + 2)), .ref (bs g (k + 3)), .ref (bs g (k + 4)), .ref (bs g (k + 5)), .ref (bs g (k + 7)), .ref (bs g (k + 8)), .ref (bs g (k + 9)), .ref (bs g (k + 10)), .null]) hx hb htg lays_11 tyX11 tyX11_ok nmX11 hown hZ hP hS ⟨hlo, by omega⟩ hcf.1 rfl 13 (by decide) lf_X11_48 (hsame := rfl) (hin2 := hin) (hfin := rfl) (hdecl := rfl) (v := .ref (bs g (k + 11))) rfl rfl (Nat.le_of_ble_eq_true rfl) dX11_init_80 (fun H locs hP hS => ?_)
  have hcf : cfw g lo (k + 12) k σ (va_up f k (Sum.inr (9, [.int 0, .int 0, .int 0, .int 0, .ref (bs g (k + 1)), .ref (bs g (k + 2)), .ref (bs g (k + 3)), .ref (bs g (k + 4)), .ref (bs g (k + 5)), .ref (bs g (k + 7)), .ref (bs g (k + 8)), .ref (bs g (k + 9)), .ref (bs g (k + 10)), .ref (bs g (k + 11))]) : va_E)) (Sum.inr (9, [.int 0, .int 0, .int 0, .int 0, .ref (bs g (k + 1)), .ref (bs g (k + 2)), .ref (bs g (k + 3)), .ref (bs g (k + 4)), .ref (bs g (k + 5)), .ref (bs g (k + 7)), .ref (bs g (k + 8)), .ref (bs g (k + 9)), .ref (bs g (k + 10)), .ref (bs g (k + 11))]) : va_E) := hcf.put
  have hP : va_P g.1 vwCl (wc g lo (k + 12) (va_up f k (Sum.inr (9, [.int 0, .int 0, .int 0, .int 0, .ref (bs g (k + 1)), .ref (bs g (k + 2)), .ref (bs g (k + 3)), .ref (bs g (k + 4)), .ref (bs g (k + 5)), .ref (bs g (k + 7)), .ref (bs g (k + 8)), .ref (bs g (k + 9)), .ref (bs g (k + 10)), .ref (bs g (k + 11))]) : va_E))) H := hP
  generalize va_up f k (Sum.inr (9, [.int 0, .int 0, .int 0, .int 0, .ref (bs g (k + 1)), .ref (bs g (k + 2)), .ref (bs g (k + 3)), .ref (bs g (k + 4)), .ref (bs g (k + 5)), .ref (bs g (k + 7)), .ref (bs g (k + 8)), .ref (bs g (k + 9)), .ref (bs g (k + 10)), .ref (bs g (k + 11))]) : va_E) = f at hP hcf
  refine lv_aload_n hx hb dX11_init_83 rfl (lv_at hl 0 rfl) ?_
  have hW : Wd g lo (k + 12) σ H := ⟨hcf.done (by rw [ct_11 g σ hk, (hz k (Nat.le_refl k)).1, (hz k (Nat.le_refl k)).2.2]; rfl) hP, TRz hTR hz _ (Nat.le_add_right _ _)⟩
  have tk : tp 11 lo (k + 12) k := ⟨hk, hlo, Nat.le_refl _⟩
  refine mcv (K := fun τ1 => some τ1) (out := τ) (o := f_X11_forget σ k) (by rw [ho]; rfl) hS (fun τ1 h => va_runV (As := []) (rest := []) ⟨hx, hb, hml, hown, hts⟩ (c_X11_forget g l lo (k + 12) σ k tk τ1 h) (cl_X11_51 hts ⟨Nat.le_of_ble_eq_true rfl, Nat.le_of_ble_eq_true rfl⟩) (mpV_11 hZ hT hS hW tk _) rfl rfl hl.1 rfl (lv_room (Nat.le_of_ble_eq_true rfl)) dX11_init_84 ⟨Nat.le_of_ble_eq_true rfl, Nat.le_of_ble_eq_true rfl⟩) (fun τ1 H locs hf hW hS => ?_)
  obtain rfl : τ1 = τ := Option.some.inj hf
  refine W.widen (k := 11) (n := 243) (Nat.le_of_ble_eq_true rfl) (Nat.le_of_ble_eq_true rfl) ?_
  exact W.vret hx hb hr (fun t ht hw => ⟨⟨τ1, rfl, rfl, ws_of hZ hT hS hW ht hw⟩, hS.F ht⟩) hS.2.2 dX11_init_87 hlocks
set_option maxHeartbeats 4000000 in
set_option maxRecDepth 100000 in
theorem c_X9_init (g : XG) (l : Launch) (lo k : Nat) (σ : Mem) (hk : K0 k = 9) (hlo : lo ≤ k) (hz : ZA k σ) (T : Nat) (tT : tp 11 lo k T) (τ : Mem) (ho : f_X9_begin σ k T = some τ) : Met l yX9_init (wx (.code yX9_init cX9_init 2 none)) ({ frames := 4, cells := 3, slots := 181, locals := 123 }) (va_Pc [.ref (bs g k), .ref (bs g T)] (CP g lo k σ (.inr (7, [.null, .int 0, .int 0, .null, .null])))) (va_Qv (fun u : Mem => u = τ) (WS g lo (k + 4)) (Ag g lo)) 3 181 (Ag g lo) := by
  refine Met.ofW (cc := cX9_init) (maxL := 2) (ret := none) (by decide) rfl ?_
  intro p e s m args below meth c s₁ B hml hv
  obtain ⟨rfl, hZ, hT, hsz, hP, hTR, hAO⟩ := hv
  have hx := B.exec
  have hb := B.bytes
  have hr := B.returns
  have hts : ∀ w ∈ wx (.code yX9_init cX9_init 2 none), w.before _ s = true := atoms_spec B.pre
  have htg : ∀ w ∈ lwg, w.before _ s = true := fun w h => hts w (List.mem_cons_of_mem _ h)
  have hown : s.vm.findClass RX9 = some m.cls := findClass_of_methodNamed B.named
  have hlocks := B.notSynchronized
  have hin : meth.name = "<init>" := (name_of_methodNamed B.named B.method).1
  change W p l e ({ frames := 4, cells := 3, slots := 181, locals := 123 }) s m _ below meth c s.heap [] 0 0 _ _
  have hS : va_S (Ag g lo) s.heap s.heap [] := va_S.rf
  have hl := lv_entry ([.ref (bs g k), .ref (bs g T)]) (n := 2) (Nat.le_of_ble_eq_true rfl)
  rw [lg_entry_eq]
  generalize (lg_sl ([.ref (bs g k), .ref (bs g T)]) ++ List.replicate (2 - (lg_sl ([.ref (bs g k), .ref (bs g T)])).length) Slot.unset).toArray = ls at hl ⊢
  have hl : lv_has ls 2 [(0, .ref (bs g k)), (1, .ref (bs g T))] := hl
  obtain ⟨H, hH⟩ : ∃ H, H = s.heap := ⟨_, rfl⟩
  obtain ⟨locs, hLc⟩ : ∃ z : List Loc, z = [] := ⟨_, rfl⟩
  have hS : va_S (Ag g lo) s.heap H locs := by rw [hH, hLc]; exact hS
  rw [← hH] at hP
  suffices hG : W p l e ({ frames := 4, cells := 3, slots := 181, locals := 123 }) s m _ below meth c H locs 0 0 _ (F0 m 0 ls []) by rw [hH, hLc] at hG; exact hG
  clear hH hLc
  have hcf := cfw.start (g := g) (σ := σ) hlo (.inr (7, [.null, .int 0, .int 0, .null, .null]))
  generalize va_up (ct g σ) k _ = f at hP hcf
  refine lv_aload_n hx hb dX9_init_0 rfl (lv_at hl 0 rfl) ?_
  refine W.objInit hx hb hown (htg _ lm_X9_3) (htg _ lim_obj) (htg _ lc_obj) rfl (by rw [hml]; exact hl.1) rfl dX9_init_1 (Nat.le_of_ble_eq_true rfl) (Nat.le_of_ble_eq_true rfl) ?_
  refine W.eq (g2 := F0 m 4 ls []) rfl ?_
  refine lv_aload_n hx hb dX9_init_4 rfl (lv_at hl 0 rfl) ?_
  refine lv_bipush (v := 30) hx hb dX9_init_5 (by decide) ?_
  refine cna_i (n := k + 1) hx hb htg lac_int hZ hP (by omega) (by rw [hsz]; exact bs_add g (k + 1) 0) hS (by decide) (N := 30) (by decide) (by decide) (Nat.le_of_ble_eq_true rfl) (Nat.le_of_ble_eq_true rfl) dX9_init_7 (fun H hP hS hH => ?_)
  have hcf : cfw g lo (k + 2) k σ (va_up f (k + 1) (Sum.inl (xI g, 30, .inl (fun _ => 0)) : va_E)) (.inr (7, [.null, .int 0, .int 0, .null, .null])) := hcf.push (ctz_20 (g := g) hz (K0sub_9_1 hk) (al_9_1 hk))
  have hP : va_P g.1 vwCl (wc g lo (k + 2) (va_up f (k + 1) (Sum.inl (xI g, 30, .inl (fun _ => 0)) : va_E))) H := hP
  generalize va_up f (k + 1) (Sum.inl (xI g, 30, .inl (fun _ => 0)) : va_E) = f at hP hcf
  refine cputF (ci := 7) (C := RX9) (T := TX9) (N := 5) (fs := [.null, .int 0, .int 0, .null, .null]) hx hb htg lays_9 tyX9 tyX9_ok nmX9 hown hZ hP hS ⟨hlo, by omega⟩ hcf.1 rfl 3 (by decide) lf_X9_9 (hsame := rfl) (hin2 := hin) (hfin := rfl) (hdecl := rfl) (v := .ref (bs g (k + 1))) rfl rfl (Nat.le_of_ble_eq_true rfl) dX9_init_9 (fun H locs hP hS => ?_)
  have hcf : cfw g lo (k + 2) k σ (va_up f k (Sum.inr (7, [.null, .int 0, .int 0, .ref (bs g (k + 1)), .null]) : va_E)) (Sum.inr (7, [.null, .int 0, .int 0, .ref (bs g (k + 1)), .null]) : va_E) := hcf.put
  have hP : va_P g.1 vwCl (wc g lo (k + 2) (va_up f k (Sum.inr (7, [.null, .int 0, .int 0, .ref (bs g (k + 1)), .null]) : va_E))) H := hP
  generalize va_up f k (Sum.inr (7, [.null, .int 0, .int 0, .ref (bs g (k + 1)), .null]) : va_E) = f at hP hcf
  refine lv_aload_n hx hb dX9_init_12 rfl (lv_at hl 0 rfl) ?_
  refine cnew (n := k + 2) (ci := 3) (fs := [.null]) hx hb htg lays_5 tyX5 tyX5_ok hown lcl_X9_15 lin_X5 ini_X5 hZ hP (by omega) (by rw [hsz]; exact bs_add g (k + 1) 1) hS rfl (fun j hj => by rcases (show j = 0 by omega) with rfl <;> rfl) (Nat.le_of_ble_eq_true rfl) (Nat.le_of_ble_eq_true rfl) dX9_init_13 (fun H hP2 hS hH => ?_)
  have hnew := wc_at hP2 (k := k + 2) ⟨by omega, by omega⟩
  rw [va_up, if_pos rfl] at hnew
  have hP : va_P g.1 vwCl (wc g lo (k + 2) f) H := wc_mk (fun i h1 h2 => by have h3 := wc_at hP2 (k := i) ⟨h1, by omega⟩; rw [va_up, if_neg (by omega)] at h3; exact h3)
  refine lv_dup hx hb dX9_init_16 rfl ?_
  have hC := c_X5_init g l (k + 2) (k + 2) σ (K0sub_9_2 hk) (Nat.le_refl _) (hz.up (Nat.le_add_right _ _))
  have hw0 : va_P g.1 vwCl (wc g (k + 2) (k + 2 + 1) (va_up (ct g σ) (k + 2) (.inr (3, [.null])))) H := wc_one hnew
  refine va_callv (va_runIN (As := []) (rest := [.ref (bs g (k + 2)), .ref (bs g k)]) ⟨hx, hb, hml, hown, hts⟩ hC (cl_X9_17 hts hZ ⟨Nat.le_of_ble_eq_true rfl, Nat.le_of_ble_eq_true rfl⟩) ⟨CP.blind g _ _ σ _ _, fun U hU hW => ⟨rfl, ⟨va_K.moved hW.alike hZ.1, NU.warm hW hZ.2⟩, ST.moved hW.alike (hT.kept (fun a h1 h2 => by rw [hU]; exact hS.2.1 a h1 (fun q => h2 (ag_a0 g lo a q)))), by rw [hU]; exact hH, by rw [hU]; exact hw0, (fun a j T h1 h2 h3 => absurd h2 (by omega)), va_AO.moved hW.alike hAO⟩⟩ rfl rfl hl.1 rfl (lv_room (Nat.le_of_ble_eq_true rfl)) dX9_init_17 ⟨Nat.le_of_ble_eq_true rfl, Nat.le_of_ble_eq_true rfl⟩) hS (fun q _ h => agle g (Nat.le_trans hlo (Nat.le_add_right _ _)) q h) (fun q h => agle g (Nat.le_trans hlo (Nat.le_add_right _ _)) q h) (fun u t H1 locs1 ht hvm hp hB hzz hkk hS1 => ?_)
  have hB1 := hB.2.2.1
  rw [ht, hp] at hB1
  have hP := cglue hP (Nat.le_refl _) hkk (f2 := ct g σ) hB1
  have hcf : cfw g lo (k + 4) k σ (fun i => if i < k + 2 then f i else ct g σ i) (.inr (7, [.null, .int 0, .int 0, .ref (bs g (k + 1)), .null])) := ⟨(if_pos (by omega)).trans hcf.1, ⟨by omega, hlo⟩, fun i h1 h2 h3 => by
      by_cases hi : i < k + 2
      · exact (if_pos hi).trans (hcf.2.2 i h1 hi h3)
      · exact if_neg hi⟩
  generalize (fun i => if i < k + 2 then f i else ct g σ i) = f at hP hcf
  have hS := hS1
  generalize H1 = H at hP hS
  generalize locs1 = locs at hS
  refine cputF (ci := 7) (C := RX9) (T := TX9) (N := 5) (fs := [.null, .int 0, .int 0, .ref (bs g (k + 1)), .null]) hx hb htg lays_9 tyX9 tyX9_ok nmX9 hown hZ hP hS ⟨hlo, by omega⟩ hcf.1 rfl 4 (by decide) lf_X9_18 (hsame := rfl) (hin2 := hin) (hfin := rfl) (hdecl := rfl) (v := .ref (bs g (k + 2))) rfl rfl (Nat.le_of_ble_eq_true rfl) dX9_init_20 (fun H locs hP hS => ?_)
  have hcf : cfw g lo (k + 4) k σ (va_up f k (Sum.inr (7, [.null, .int 0, .int 0, .ref (bs g (k + 1)), .ref (bs g (k + 2))]) : va_E)) (Sum.inr (7, [.null, .int 0, .int 0, .ref (bs g (k + 1)), .ref (bs g (k + 2))]) : va_E) := hcf.put
  have hP : va_P g.1 vwCl (wc g lo (k + 4) (va_up f k (Sum.inr (7, [.null, .int 0, .int 0, .ref (bs g (k + 1)), .ref (bs g (k + 2))]) : va_E))) H := hP
  generalize va_up f k (Sum.inr (7, [.null, .int 0, .int 0, .ref (bs g (k + 1)), .ref (bs g (k + 2))]) : va_E) = f at hP hcf
  refine lv_aload_n hx hb dX9_init_23 rfl (lv_at hl 0 rfl) ?_
  refine lv_aload_n hx hb dX9_init_24 rfl (lv_at hl 1 rfl) ?_
  have hW : Wd g lo (k + 4) σ H := ⟨hcf.done (by rw [ct_9 g σ hk, (hz k (Nat.le_refl k)).1, (hz k (Nat.le_refl k)).2.2]; rfl) hP, TRz hTR hz _ (Nat.le_add_right _ _)⟩
  have tk : tp 9 lo (k + 4) k := ⟨hk, hlo, Nat.le_refl _⟩
  refine mcv (K := fun τ1 => some τ1) (out := τ) (o := f_X9_begin σ k T) (by rw [ho]; rfl) hS (fun τ1 h => va_runV (As := [.ref (bs g T)]) (rest := []) ⟨hx, hb, hml, hown, hts⟩ (c_X9_begin g l lo (k + 4) σ k T tk ⟨tT.1, tT.2.1, Nat.le_trans tT.2.2 (Nat.le_add_right _ _)⟩ τ1 h) (cl_X9_22 hts ⟨Nat.le_of_ble_eq_true rfl, Nat.le_of_ble_eq_true rfl⟩) (mpV_9 hZ hT hS hW tk _) rfl rfl hl.1 rfl (lv_room (Nat.le_of_ble_eq_true rfl)) dX9_init_25 ⟨Nat.le_of_ble_eq_true rfl, Nat.le_of_ble_eq_true rfl⟩) (fun τ1 H locs hf hW hS => ?_)
  obtain rfl : τ1 = τ := Option.some.inj hf
  refine W.widen (k := 3) (n := 181) (Nat.le_of_ble_eq_true rfl) (Nat.le_of_ble_eq_true rfl) ?_
  exact W.vret hx hb hr (fun t ht hw => ⟨⟨τ1, rfl, rfl, ws_of hZ hT hS hW ht hw⟩, hS.F ht⟩) hS.2.2 dX9_init_28 hlocks
set_option maxHeartbeats 4000000 in
set_option maxRecDepth 100000 in
theorem c_X6_init (g : XG) (l : Launch) (lo k : Nat) (σ : Mem) (hk : K0 k = 6) (hlo : lo ≤ k) (hz : ZA k σ) (T : Nat) (tT : tp 11 lo k T) (hk27 : k = 27) : Met l yX6_init (wx (.code yX6_init cX6_init 3 none)) ({ frames := 1, cells := 0, slots := 0, locals := 60 }) (va_Pc [.ref (bs g k), .ref (bs g 1), .ref (bs g T)] (CP g lo k σ (.inr (4, [.null, .null, .int 0, .int 0, .int 0])))) (va_Qv (fun u : Mem => u = (sR σ k 1 (some T))) (WS g lo (k + 1)) (Ag g lo)) 0 0 (Ag g lo) := by
  refine Met.ofW (cc := cX6_init) (maxL := 3) (ret := none) (by decide) rfl ?_
  intro p e s m args below meth c s₁ B hml hv
  obtain ⟨rfl, hZ, hT, hsz, hP, hTR, hAO⟩ := hv
  have hx := B.exec
  have hb := B.bytes
  have hr := B.returns
  have hts : ∀ w ∈ wx (.code yX6_init cX6_init 3 none), w.before _ s = true := atoms_spec B.pre
  have htg : ∀ w ∈ lwg, w.before _ s = true := fun w h => hts w (List.mem_cons_of_mem _ h)
  have hown : s.vm.findClass RX6 = some m.cls := findClass_of_methodNamed B.named
  have hlocks := B.notSynchronized
  have hin : meth.name = "<init>" := (name_of_methodNamed B.named B.method).1
  change W p l e ({ frames := 1, cells := 0, slots := 0, locals := 60 }) s m _ below meth c s.heap [] 0 0 _ _
  have hS : va_S (Ag g lo) s.heap s.heap [] := va_S.rf
  have hl := lv_entry ([.ref (bs g k), .ref (bs g 1), .ref (bs g T)]) (n := 3) (Nat.le_of_ble_eq_true rfl)
  rw [lg_entry_eq]
  generalize (lg_sl ([.ref (bs g k), .ref (bs g 1), .ref (bs g T)]) ++ List.replicate (3 - (lg_sl ([.ref (bs g k), .ref (bs g 1), .ref (bs g T)])).length) Slot.unset).toArray = ls at hl ⊢
  have hl : lv_has ls 3 [(0, .ref (bs g k)), (1, .ref (bs g 1)), (2, .ref (bs g T))] := hl
  obtain ⟨H, hH⟩ : ∃ H, H = s.heap := ⟨_, rfl⟩
  obtain ⟨locs, hLc⟩ : ∃ z : List Loc, z = [] := ⟨_, rfl⟩
  have hS : va_S (Ag g lo) s.heap H locs := by rw [hH, hLc]; exact hS
  rw [← hH] at hP
  suffices hG : W p l e ({ frames := 1, cells := 0, slots := 0, locals := 60 }) s m _ below meth c H locs 0 0 _ (F0 m 0 ls []) by rw [hH, hLc] at hG; exact hG
  clear hH hLc
  have hcf := cfw.start (g := g) (σ := σ) hlo (.inr (4, [.null, .null, .int 0, .int 0, .int 0]))
  generalize va_up (ct g σ) k _ = f at hP hcf
  refine lv_aload_n hx hb dX6_init_0 rfl (lv_at hl 0 rfl) ?_
  refine W.objInit hx hb hown (htg _ lm_X6_3) (htg _ lim_obj) (htg _ lc_obj) rfl (by rw [hml]; exact hl.1) rfl dX6_init_1 (Nat.le_of_ble_eq_true rfl) (Nat.le_of_ble_eq_true rfl) ?_
  refine W.eq (g2 := F0 m 4 ls []) rfl ?_
  refine lv_aload_n hx hb dX6_init_4 rfl (lv_at hl 0 rfl) ?_
  refine lv_aload_n hx hb dX6_init_5 rfl (lv_at hl 1 rfl) ?_
  refine cputF (ci := 4) (C := RX6) (T := TX6) (N := 5) (fs := [.null, .null, .int 0, .int 0, .int 0]) hx hb htg lays_6 tyX6 tyX6_ok nmX6 hown hZ hP hS ⟨hlo, by omega⟩ hcf.1 rfl 0 (by decide) lf_X6_9 (hsame := rfl) (hin2 := hin) (hfin := rfl) (hdecl := rfl) (v := .ref (bs g 1)) rfl rfl (Nat.le_of_ble_eq_true rfl) dX6_init_6 (fun H locs hP hS => ?_)
  have hcf : cfw g lo (k + 1) k σ (va_up f k (Sum.inr (4, [.ref (bs g 1), .null, .int 0, .int 0, .int 0]) : va_E)) (Sum.inr (4, [.ref (bs g 1), .null, .int 0, .int 0, .int 0]) : va_E) := hcf.put
  have hP : va_P g.1 vwCl (wc g lo (k + 1) (va_up f k (Sum.inr (4, [.ref (bs g 1), .null, .int 0, .int 0, .int 0]) : va_E))) H := hP
  generalize va_up f k (Sum.inr (4, [.ref (bs g 1), .null, .int 0, .int 0, .int 0]) : va_E) = f at hP hcf
  refine lv_aload_n hx hb dX6_init_9 rfl (lv_at hl 0 rfl) ?_
  refine lv_aload_n hx hb dX6_init_10 rfl (lv_at hl 2 rfl) ?_
  refine cput (ci := 4) (C := RX6) (T := TX6) (N := 5) (fs := [.ref (bs g 1), .null, .int 0, .int 0, .int 0]) hx hb htg lays_6 tyX6 tyX6_ok nmX6 hown hZ hP hS ⟨hlo, by omega⟩ hcf.1 rfl 1 (by decide) lf_X6_15 (hsame := rfl) (hfin := rfl) (v := .ref (bs g T)) rfl rfl (Nat.le_of_ble_eq_true rfl) dX6_init_11 (fun H locs hP hS => ?_)
  have hcf : cfw g lo (k + 1) k σ (va_up f k (Sum.inr (4, [.ref (bs g 1), .ref (bs g T), .int 0, .int 0, .int 0]) : va_E)) (Sum.inr (4, [.ref (bs g 1), .ref (bs g T), .int 0, .int 0, .int 0]) : va_E) := hcf.put
  have hP : va_P g.1 vwCl (wc g lo (k + 1) (va_up f k (Sum.inr (4, [.ref (bs g 1), .ref (bs g T), .int 0, .int 0, .int 0]) : va_E))) H := hP
  generalize va_up f k (Sum.inr (4, [.ref (bs g 1), .ref (bs g T), .int 0, .int 0, .int 0]) : va_E) = f at hP hcf
  have hW : Wd g lo (k + 1) (sR σ k 1 (some T)) H := ⟨hcf.done2 (sR σ k 1 (some T)) (by rw [ct_6 g _ hk, show (sR σ k 1 (some T)).2.2 k = va_up (σ.2.2 k) 1 (some T) from if_pos rfl, show (sR σ k 1 (some T)).1 k = σ.1 k from rfl, (hz k (Nat.le_refl k)).1]; rfl) (fun i hi => ct_sR_ne g σ _ _ hi) hP, TR_sR (TRz hTR hz _ (Nat.le_add_right _ _)) 1 (by rw [hk]; decide) ⟨tT.1, tT.2.1, Nat.le_trans tT.2.2 (Nat.le_add_right _ _)⟩⟩
  refine W.widen (k := 0) (n := 0) (Nat.le_of_ble_eq_true rfl) (Nat.le_of_ble_eq_true rfl) ?_
  exact W.vret hx hb hr (fun t ht hw => ⟨⟨(sR σ k 1 (some T)), rfl, rfl, ws_of hZ hT hS hW ht hw⟩, hS.F ht⟩) hS.2.2 dX6_init_14 hlocks
set_option maxHeartbeats 4000000 in
set_option maxRecDepth 100000 in
theorem c_X13_init (g : XG) (l : Launch) (lo k : Nat) (σ : Mem) (hk : K0 k = 13) (hlo : lo ≤ k) (hz : ZA k σ) (hk64 : k = 64) : Met l yX13_init (wx (.code yX13_init cX13_init 1 none)) ({ frames := 1, cells := 15, slots := 2874, locals := 60 }) (va_Pc [.ref (bs g k)] (CP g lo k σ (.inr (11, [.int 0, .null, .int 0, .int 0, .int 0, .int 0, .int 0, .int 0, .int 0, .int 0, .int 0, .int 0, .null, .int 0, .int 0, .null, .null, .null, .null, .null, .int 0, .int 0, .null, .null, .int 0, .null, .null, .null, .null, .null, .int 0, .null, .int 0])))) (va_Qv (fun u : Mem => u = (sI σ k 10 (-1))) (WS g lo (k + 16)) (Ag g lo)) 15 2874 (Ag g lo) := by
  refine Met.ofW (cc := cX13_init) (maxL := 1) (ret := none) (by decide) rfl ?_
  intro p e s m args below meth c s₁ B hml hv
  obtain ⟨rfl, hZ, hT, hsz, hP, hTR, hAO⟩ := hv
  have hx := B.exec
  have hb := B.bytes
  have hr := B.returns
  have hts : ∀ w ∈ wx (.code yX13_init cX13_init 1 none), w.before _ s = true := atoms_spec B.pre
  have htg : ∀ w ∈ lwg, w.before _ s = true := fun w h => hts w (List.mem_cons_of_mem _ h)
  have hown : s.vm.findClass RX13 = some m.cls := findClass_of_methodNamed B.named
  have hlocks := B.notSynchronized
  have hin : meth.name = "<init>" := (name_of_methodNamed B.named B.method).1
  change W p l e ({ frames := 1, cells := 15, slots := 2874, locals := 60 }) s m _ below meth c s.heap [] 0 0 _ _
  have hS : va_S (Ag g lo) s.heap s.heap [] := va_S.rf
  have hl := lv_entry ([.ref (bs g k)]) (n := 1) (Nat.le_of_ble_eq_true rfl)
  rw [lg_entry_eq]
  generalize (lg_sl ([.ref (bs g k)]) ++ List.replicate (1 - (lg_sl ([.ref (bs g k)])).length) Slot.unset).toArray = ls at hl ⊢
  have hl : lv_has ls 1 [(0, .ref (bs g k))] := hl
  obtain ⟨H, hH⟩ : ∃ H, H = s.heap := ⟨_, rfl⟩
  obtain ⟨locs, hLc⟩ : ∃ z : List Loc, z = [] := ⟨_, rfl⟩
  have hS : va_S (Ag g lo) s.heap H locs := by rw [hH, hLc]; exact hS
  rw [← hH] at hP
  suffices hG : W p l e ({ frames := 1, cells := 15, slots := 2874, locals := 60 }) s m _ below meth c H locs 0 0 _ (F0 m 0 ls []) by rw [hH, hLc] at hG; exact hG
  clear hH hLc
  have hcf := cfw.start (g := g) (σ := σ) hlo (.inr (11, [.int 0, .null, .int 0, .int 0, .int 0, .int 0, .int 0, .int 0, .int 0, .int 0, .int 0, .int 0, .null, .int 0, .int 0, .null, .null, .null, .null, .null, .int 0, .int 0, .null, .null, .int 0, .null, .null, .null, .null, .null, .int 0, .null, .int 0]))
  generalize va_up (ct g σ) k _ = f at hP hcf
  refine lv_aload_n hx hb dX13_init_0 rfl (lv_at hl 0 rfl) ?_
  refine W.objInit hx hb hown (htg _ lm_X13_1) (htg _ lim_obj) (htg _ lc_obj) rfl (by rw [hml]; exact hl.1) rfl dX13_init_1 (Nat.le_of_ble_eq_true rfl) (Nat.le_of_ble_eq_true rfl) ?_
  refine W.eq (g2 := F0 m 4 ls []) rfl ?_
  refine lv_aload_n hx hb dX13_init_4 rfl (lv_at hl 0 rfl) ?_
  refine lv_sipush (v := 800) hx hb dX13_init_5 (by decide) ?_
  refine cna_i (n := k + 1) hx hb htg lac_int hZ hP (by omega) (by rw [hsz]; exact bs_add g (k + 1) 0) hS (by decide) (N := 800) (by decide) (by decide) (Nat.le_of_ble_eq_true rfl) (Nat.le_of_ble_eq_true rfl) dX13_init_8 (fun H hP hS hH => ?_)
  have hcf : cfw g lo (k + 2) k σ (va_up f (k + 1) (Sum.inl (xI g, 800, .inl (fun _ => 0)) : va_E)) (.inr (11, [.int 0, .null, .int 0, .int 0, .int 0, .int 0, .int 0, .int 0, .int 0, .int 0, .int 0, .int 0, .null, .int 0, .int 0, .null, .null, .null, .null, .null, .int 0, .int 0, .null, .null, .int 0, .null, .null, .null, .null, .null, .int 0, .null, .int 0])) := hcf.push (ctz_20 (g := g) hz (K0sub_13_1 hk) (al_13_1 hk))
  have hP : va_P g.1 vwCl (wc g lo (k + 2) (va_up f (k + 1) (Sum.inl (xI g, 800, .inl (fun _ => 0)) : va_E))) H := hP
  generalize va_up f (k + 1) (Sum.inl (xI g, 800, .inl (fun _ => 0)) : va_E) = f at hP hcf
  refine cputF (ci := 11) (C := RX13) (T := TX13) (N := 33) (fs := [.int 0, .null, .int 0, .int 0, .int 0, .int 0, .int 0, .int 0, .int 0, .int 0, .int 0, .int 0, .null, .int 0, .int 0, .null, .null, .null, .null, .null, .int 0, .int 0, .null, .null, .int 0, .null, .null, .null, .null, .null, .int 0, .null, .int 0]) hx hb htg lays_13 tyX13 tyX13_ok nmX13 hown hZ hP hS ⟨hlo, by omega⟩ hcf.1 rfl 1 (by decide) lf_X13_7 (hsame := rfl) (hin2 := hin) (hfin := rfl) (hdecl := rfl) (v := .ref (bs g (k + 1))) rfl rfl (Nat.le_of_ble_eq_true rfl) dX13_init_10 (fun H locs hP hS => ?_)
  have hcf : cfw g lo (k + 2) k σ (va_up f k (Sum.inr (11, [.int 0, .ref (bs g (k + 1)), .int 0, .int 0, .int 0, .int 0, .int 0, .int 0, .int 0, .int 0, .int 0, .int 0, .null, .int 0, .int 0, .null, .null, .null, .null, .null, .int 0, .int 0, .null, .null, .int 0, .null, .null, .null, .null, .null, .int 0, .null, .int 0]) : va_E)) (Sum.inr (11, [.int 0, .ref (bs g (k + 1)), .int 0, .int 0, .int 0, .int 0, .int 0, .int 0, .int 0, .int 0, .int 0, .int 0, .null, .int 0, .int 0, .null, .null, .null, .null, .null, .int 0, .int 0, .null, .null, .int 0, .null, .null, .null, .null, .null, .int 0, .null, .int 0]) : va_E) := hcf.put
  have hP : va_P g.1 vwCl (wc g lo (k + 2) (va_up f k (Sum.inr (11, [.int 0, .ref (bs g (k + 1)), .int 0, .int 0, .int 0, .int 0, .int 0, .int 0, .int 0, .int 0, .int 0, .int 0, .null, .int 0, .int 0, .null, .null, .null, .null, .null, .int 0, .int 0, .null, .null, .int 0, .null, .null, .null, .null, .null, .int 0, .null, .int 0]) : va_E))) H := hP
  generalize va_up f k (Sum.inr (11, [.int 0, .ref (bs g (k + 1)), .int 0, .int 0, .int 0, .int 0, .int 0, .int 0, .int 0, .int 0, .int 0, .int 0, .null, .int 0, .int 0, .null, .null, .null, .null, .null, .int 0, .int 0, .null, .null, .int 0, .null, .null, .null, .null, .null, .int 0, .null, .int 0]) : va_E) = f at hP hcf
  refine lv_aload_n hx hb dX13_init_13 rfl (lv_at hl 0 rfl) ?_
  refine lv_iconst (v := (-1)) hx hb dX13_init_14 (by decide) ?_
  refine cput (ci := 11) (C := RX13) (T := TX13) (N := 33) (fs := [.int 0, .ref (bs g (k + 1)), .int 0, .int 0, .int 0, .int 0, .int 0, .int 0, .int 0, .int 0, .int 0, .int 0, .null, .int 0, .int 0, .null, .null, .null, .null, .null, .int 0, .int 0, .null, .null, .int 0, .null, .null, .null, .null, .null, .int 0, .null, .int 0]) hx hb htg lays_13 tyX13 tyX13_ok nmX13 hown hZ hP hS ⟨hlo, by omega⟩ hcf.1 rfl 10 (by decide) lf_X13_13 (hsame := rfl) (hfin := rfl) (v := .int (-1)) rfl rfl (Nat.le_of_ble_eq_true rfl) dX13_init_15 (fun H locs hP hS => ?_)
  have hcf : cfw g lo (k + 2) k σ (va_up f k (Sum.inr (11, [.int 0, .ref (bs g (k + 1)), .int 0, .int 0, .int 0, .int 0, .int 0, .int 0, .int 0, .int 0, .int (-1), .int 0, .null, .int 0, .int 0, .null, .null, .null, .null, .null, .int 0, .int 0, .null, .null, .int 0, .null, .null, .null, .null, .null, .int 0, .null, .int 0]) : va_E)) (Sum.inr (11, [.int 0, .ref (bs g (k + 1)), .int 0, .int 0, .int 0, .int 0, .int 0, .int 0, .int 0, .int 0, .int (-1), .int 0, .null, .int 0, .int 0, .null, .null, .null, .null, .null, .int 0, .int 0, .null, .null, .int 0, .null, .null, .null, .null, .null, .int 0, .null, .int 0]) : va_E) := hcf.put
  have hP : va_P g.1 vwCl (wc g lo (k + 2) (va_up f k (Sum.inr (11, [.int 0, .ref (bs g (k + 1)), .int 0, .int 0, .int 0, .int 0, .int 0, .int 0, .int 0, .int 0, .int (-1), .int 0, .null, .int 0, .int 0, .null, .null, .null, .null, .null, .int 0, .int 0, .null, .null, .int 0, .null, .null, .null, .null, .null, .int 0, .null, .int 0]) : va_E))) H := hP
  generalize va_up f k (Sum.inr (11, [.int 0, .ref (bs g (k + 1)), .int 0, .int 0, .int 0, .int 0, .int 0, .int 0, .int 0, .int 0, .int (-1), .int 0, .null, .int 0, .int 0, .null, .null, .null, .null, .null, .int 0, .int 0, .null, .null, .int 0, .null, .null, .null, .null, .null, .int 0, .null, .int 0]) : va_E) = f at hP hcf
  refine lv_aload_n hx hb dX13_init_18 rfl (lv_at hl 0 rfl) ?_
  refine lv_bipush (v := 8) hx hb dX13_init_19 (by decide) ?_
  refine cna_i (n := k + 2) hx hb htg lac_int hZ hP (by omega) (by rw [hsz]; exact bs_add g (k + 1) 1) hS (by decide) (N := 8) (by decide) (by decide) (Nat.le_of_ble_eq_true rfl) (Nat.le_of_ble_eq_true rfl) dX13_init_21 (fun H hP hS hH => ?_)
  have hcf : cfw g lo (k + 3) k σ (va_up f (k + 2) (Sum.inl (xI g, 8, .inl (fun _ => 0)) : va_E)) (.inr (11, [.int 0, .ref (bs g (k + 1)), .int 0, .int 0, .int 0, .int 0, .int 0, .int 0, .int 0, .int 0, .int (-1), .int 0, .null, .int 0, .int 0, .null, .null, .null, .null, .null, .int 0, .int 0, .null, .null, .int 0, .null, .null, .null, .null, .null, .int 0, .null, .int 0])) := hcf.push (ctz_20 (g := g) hz (K0sub_13_2 hk) (al_13_2 hk))
  have hP : va_P g.1 vwCl (wc g lo (k + 3) (va_up f (k + 2) (Sum.inl (xI g, 8, .inl (fun _ => 0)) : va_E))) H := hP
  generalize va_up f (k + 2) (Sum.inl (xI g, 8, .inl (fun _ => 0)) : va_E) = f at hP hcf
  refine cputF (ci := 11) (C := RX13) (T := TX13) (N := 33) (fs := [.int 0, .ref (bs g (k + 1)), .int 0, .int 0, .int 0, .int 0, .int 0, .int 0, .int 0, .int 0, .int (-1), .int 0, .null, .int 0, .int 0, .null, .null, .null, .null, .null, .int 0, .int 0, .null, .null, .int 0, .null, .null, .null, .null, .null, .int 0, .null, .int 0]) hx hb htg lays_13 tyX13 tyX13_ok nmX13 hown hZ hP hS ⟨hlo, by omega⟩ hcf.1 rfl 12 (by decide) lf_X13_17 (hsame := rfl) (hin2 := hin) (hfin := rfl) (hdecl := rfl) (v := .ref (bs g (k + 2))) rfl rfl (Nat.le_of_ble_eq_true rfl) dX13_init_23 (fun H locs hP hS => ?_)
  have hcf : cfw g lo (k + 3) k σ (va_up f k (Sum.inr (11, [.int 0, .ref (bs g (k + 1)), .int 0, .int 0, .int 0, .int 0, .int 0, .int 0, .int 0, .int 0, .int (-1), .int 0, .ref (bs g (k + 2)), .int 0, .int 0, .null, .null, .null, .null, .null, .int 0, .int 0, .null, .null, .int 0, .null, .null, .null, .null, .null, .int 0, .null, .int 0]) : va_E)) (Sum.inr (11, [.int 0, .ref (bs g (k + 1)), .int 0, .int 0, .int 0, .int 0, .int 0, .int 0, .int 0, .int 0, .int (-1), .int 0, .ref (bs g (k + 2)), .int 0, .int 0, .null, .null, .null, .null, .null, .int 0, .int 0, .null, .null, .int 0, .null, .null, .null, .null, .null, .int 0, .null, .int 0]) : va_E) := hcf.put
  have hP : va_P g.1 vwCl (wc g lo (k + 3) (va_up f k (Sum.inr (11, [.int 0, .ref (bs g (k + 1)), .int 0, .int 0, .int 0, .int 0, .int 0, .int 0, .int 0, .int 0, .int (-1), .int 0, .ref (bs g (k + 2)), .int 0, .int 0, .null, .null, .null, .null, .null, .int 0, .int 0, .null, .null, .int 0, .null, .null, .null, .null, .null, .int 0, .null, .int 0]) : va_E))) H := hP
  generalize va_up f k (Sum.inr (11, [.int 0, .ref (bs g (k + 1)), .int 0, .int 0, .int 0, .int 0, .int 0, .int 0, .int 0, .int 0, .int (-1), .int 0, .ref (bs g (k + 2)), .int 0, .int 0, .null, .null, .null, .null, .null, .int 0, .int 0, .null, .null, .int 0, .null, .null, .null, .null, .null, .int 0, .null, .int 0]) : va_E) = f at hP hcf
  refine lv_aload_n hx hb dX13_init_26 rfl (lv_at hl 0 rfl) ?_
  refine lv_sipush (v := 175) hx hb dX13_init_27 (by decide) ?_
  refine cna_i (n := k + 3) hx hb htg lac_int hZ hP (by omega) (by rw [hsz]; exact bs_add g (k + 1) 2) hS (by decide) (N := 175) (by decide) (by decide) (Nat.le_of_ble_eq_true rfl) (Nat.le_of_ble_eq_true rfl) dX13_init_30 (fun H hP hS hH => ?_)
  have hcf : cfw g lo (k + 4) k σ (va_up f (k + 3) (Sum.inl (xI g, 175, .inl (fun _ => 0)) : va_E)) (.inr (11, [.int 0, .ref (bs g (k + 1)), .int 0, .int 0, .int 0, .int 0, .int 0, .int 0, .int 0, .int 0, .int (-1), .int 0, .ref (bs g (k + 2)), .int 0, .int 0, .null, .null, .null, .null, .null, .int 0, .int 0, .null, .null, .int 0, .null, .null, .null, .null, .null, .int 0, .null, .int 0])) := hcf.push (ctz_20 (g := g) hz (K0sub_13_3 hk) (al_13_3 hk))
  have hP : va_P g.1 vwCl (wc g lo (k + 4) (va_up f (k + 3) (Sum.inl (xI g, 175, .inl (fun _ => 0)) : va_E))) H := hP
  generalize va_up f (k + 3) (Sum.inl (xI g, 175, .inl (fun _ => 0)) : va_E) = f at hP hcf
  refine cputF (ci := 11) (C := RX13) (T := TX13) (N := 33) (fs := [.int 0, .ref (bs g (k + 1)), .int 0, .int 0, .int 0, .int 0, .int 0, .int 0, .int 0, .int 0, .int (-1), .int 0, .ref (bs g (k + 2)), .int 0, .int 0, .null, .null, .null, .null, .null, .int 0, .int 0, .null, .null, .int 0, .null, .null, .null, .null, .null, .int 0, .null, .int 0]) hx hb htg lays_13 tyX13 tyX13_ok nmX13 hown hZ hP hS ⟨hlo, by omega⟩ hcf.1 rfl 15 (by decide) lf_X13_20 (hsame := rfl) (hin2 := hin) (hfin := rfl) (hdecl := rfl) (v := .ref (bs g (k + 3))) rfl rfl (Nat.le_of_ble_eq_true rfl) dX13_init_32 (fun H locs hP hS => ?_)
  have hcf : cfw g lo (k + 4) k σ (va_up f k (Sum.inr (11, [.int 0, .ref (bs g (k + 1)), .int 0, .int 0, .int 0, .int 0, .int 0, .int 0, .int 0, .int 0, .int (-1), .int 0, .ref (bs g (k + 2)), .int 0, .int 0, .ref (bs g (k + 3)), .null, .null, .null, .null, .int 0, .int 0, .null, .null, .int 0, .null, .null, .null, .null, .null, .int 0, .null, .int 0]) : va_E)) (Sum.inr (11, [.int 0, .ref (bs g (k + 1)), .int 0, .int 0, .int 0, .int 0, .int 0, .int 0, .int 0, .int 0, .int (-1), .int 0, .ref (bs g (k + 2)), .int 0, .int 0, .ref (bs g (k + 3)), .null, .null, .null, .null, .int 0, .int 0, .null, .null, .int 0, .null, .null, .null, .null, .null, .int 0, .null, .int 0]) : va_E) := hcf.put
  have hP : va_P g.1 vwCl (wc g lo (k + 4) (va_up f k (Sum.inr (11, [.int 0, .ref (bs g (k + 1)), .int 0, .int 0, .int 0, .int 0, .int 0, .int 0, .int 0, .int 0, .int (-1), .int 0, .ref (bs g (k + 2)), .int 0, .int 0, .ref (bs g (k + 3)), .null, .null, .null, .null, .int 0, .int 0, .null, .null, .int 0, .null, .null, .null, .null, .null, .int 0, .null, .int 0]) : va_E))) H := hP
  generalize va_up f k (Sum.inr (11, [.int 0, .ref (bs g (k + 1)), .int 0, .int 0, .int 0, .int 0, .int 0, .int 0, .int 0, .int 0, .int (-1), .int 0, .ref (bs g (k + 2)), .int 0, .int 0, .ref (bs g (k + 3)), .null, .null, .null, .null, .int 0, .int 0, .null, .null, .int 0, .null, .null, .null, .null, .null, .int 0, .null, .int 0]) : va_E) = f at hP hcf
  refine lv_aload_n hx hb dX13_init_35 rfl (lv_at hl 0 rfl) ?_
  refine lv_sipush (v := 175) hx hb dX13_init_36 (by decide) ?_
  refine cna_i (n := k + 4) hx hb htg lac_int hZ hP (by omega) (by rw [hsz]; exact bs_add g (k + 1) 3) hS (by decide) (N := 175) (by decide) (by decide) (Nat.le_of_ble_eq_true rfl) (Nat.le_of_ble_eq_true rfl) dX13_init_39 (fun H hP hS hH => ?_)
  have hcf : cfw g lo (k + 5) k σ (va_up f (k + 4) (Sum.inl (xI g, 175, .inl (fun _ => 0)) : va_E)) (.inr (11, [.int 0, .ref (bs g (k + 1)), .int 0, .int 0, .int 0, .int 0, .int 0, .int 0, .int 0, .int 0, .int (-1), .int 0, .ref (bs g (k + 2)), .int 0, .int 0, .ref (bs g (k + 3)), .null, .null, .null, .null, .int 0, .int 0, .null, .null, .int 0, .null, .null, .null, .null, .null, .int 0, .null, .int 0])) := hcf.push (ctz_20 (g := g) hz (K0sub_13_4 hk) (al_13_4 hk))
  have hP : va_P g.1 vwCl (wc g lo (k + 5) (va_up f (k + 4) (Sum.inl (xI g, 175, .inl (fun _ => 0)) : va_E))) H := hP
  generalize va_up f (k + 4) (Sum.inl (xI g, 175, .inl (fun _ => 0)) : va_E) = f at hP hcf
  refine cputF (ci := 11) (C := RX13) (T := TX13) (N := 33) (fs := [.int 0, .ref (bs g (k + 1)), .int 0, .int 0, .int 0, .int 0, .int 0, .int 0, .int 0, .int 0, .int (-1), .int 0, .ref (bs g (k + 2)), .int 0, .int 0, .ref (bs g (k + 3)), .null, .null, .null, .null, .int 0, .int 0, .null, .null, .int 0, .null, .null, .null, .null, .null, .int 0, .null, .int 0]) hx hb htg lays_13 tyX13 tyX13_ok nmX13 hown hZ hP hS ⟨hlo, by omega⟩ hcf.1 rfl 16 (by decide) lf_X13_23 (hsame := rfl) (hin2 := hin) (hfin := rfl) (hdecl := rfl) (v := .ref (bs g (k + 4))) rfl rfl (Nat.le_of_ble_eq_true rfl) dX13_init_41 (fun H locs hP hS => ?_)
  have hcf : cfw g lo (k + 5) k σ (va_up f k (Sum.inr (11, [.int 0, .ref (bs g (k + 1)), .int 0, .int 0, .int 0, .int 0, .int 0, .int 0, .int 0, .int 0, .int (-1), .int 0, .ref (bs g (k + 2)), .int 0, .int 0, .ref (bs g (k + 3)), .ref (bs g (k + 4)), .null, .null, .null, .int 0, .int 0, .null, .null, .int 0, .null, .null, .null, .null, .null, .int 0, .null, .int 0]) : va_E)) (Sum.inr (11, [.int 0, .ref (bs g (k + 1)), .int 0, .int 0, .int 0, .int 0, .int 0, .int 0, .int 0, .int 0, .int (-1), .int 0, .ref (bs g (k + 2)), .int 0, .int 0, .ref (bs g (k + 3)), .ref (bs g (k + 4)), .null, .null, .null, .int 0, .int 0, .null, .null, .int 0, .null, .null, .null, .null, .null, .int 0, .null, .int 0]) : va_E) := hcf.put
  have hP : va_P g.1 vwCl (wc g lo (k + 5) (va_up f k (Sum.inr (11, [.int 0, .ref (bs g (k + 1)), .int 0, .int 0, .int 0, .int 0, .int 0, .int 0, .int 0, .int 0, .int (-1), .int 0, .ref (bs g (k + 2)), .int 0, .int 0, .ref (bs g (k + 3)), .ref (bs g (k + 4)), .null, .null, .null, .int 0, .int 0, .null, .null, .int 0, .null, .null, .null, .null, .null, .int 0, .null, .int 0]) : va_E))) H := hP
  generalize va_up f k (Sum.inr (11, [.int 0, .ref (bs g (k + 1)), .int 0, .int 0, .int 0, .int 0, .int 0, .int 0, .int 0, .int 0, .int (-1), .int 0, .ref (bs g (k + 2)), .int 0, .int 0, .ref (bs g (k + 3)), .ref (bs g (k + 4)), .null, .null, .null, .int 0, .int 0, .null, .null, .int 0, .null, .null, .null, .null, .null, .int 0, .null, .int 0]) : va_E) = f at hP hcf
  refine lv_aload_n hx hb dX13_init_44 rfl (lv_at hl 0 rfl) ?_
  refine lv_bipush (v := 80) hx hb dX13_init_45 (by decide) ?_
  refine cna_i (n := k + 5) hx hb htg lac_int hZ hP (by omega) (by rw [hsz]; exact bs_add g (k + 1) 4) hS (by decide) (N := 80) (by decide) (by decide) (Nat.le_of_ble_eq_true rfl) (Nat.le_of_ble_eq_true rfl) dX13_init_47 (fun H hP hS hH => ?_)
  have hcf : cfw g lo (k + 6) k σ (va_up f (k + 5) (Sum.inl (xI g, 80, .inl (fun _ => 0)) : va_E)) (.inr (11, [.int 0, .ref (bs g (k + 1)), .int 0, .int 0, .int 0, .int 0, .int 0, .int 0, .int 0, .int 0, .int (-1), .int 0, .ref (bs g (k + 2)), .int 0, .int 0, .ref (bs g (k + 3)), .ref (bs g (k + 4)), .null, .null, .null, .int 0, .int 0, .null, .null, .int 0, .null, .null, .null, .null, .null, .int 0, .null, .int 0])) := hcf.push (ctz_20 (g := g) hz (K0sub_13_5 hk) (al_13_5 hk))
  have hP : va_P g.1 vwCl (wc g lo (k + 6) (va_up f (k + 5) (Sum.inl (xI g, 80, .inl (fun _ => 0)) : va_E))) H := hP
  generalize va_up f (k + 5) (Sum.inl (xI g, 80, .inl (fun _ => 0)) : va_E) = f at hP hcf
  refine cputF (ci := 11) (C := RX13) (T := TX13) (N := 33) (fs := [.int 0, .ref (bs g (k + 1)), .int 0, .int 0, .int 0, .int 0, .int 0, .int 0, .int 0, .int 0, .int (-1), .int 0, .ref (bs g (k + 2)), .int 0, .int 0, .ref (bs g (k + 3)), .ref (bs g (k + 4)), .null, .null, .null, .int 0, .int 0, .null, .null, .int 0, .null, .null, .null, .null, .null, .int 0, .null, .int 0]) hx hb htg lays_13 tyX13 tyX13_ok nmX13 hown hZ hP hS ⟨hlo, by omega⟩ hcf.1 rfl 17 (by decide) lf_X13_26 (hsame := rfl) (hin2 := hin) (hfin := rfl) (hdecl := rfl) (v := .ref (bs g (k + 5))) rfl rfl (Nat.le_of_ble_eq_true rfl) dX13_init_49 (fun H locs hP hS => ?_)
  have hcf : cfw g lo (k + 6) k σ (va_up f k (Sum.inr (11, [.int 0, .ref (bs g (k + 1)), .int 0, .int 0, .int 0, .int 0, .int 0, .int 0, .int 0, .int 0, .int (-1), .int 0, .ref (bs g (k + 2)), .int 0, .int 0, .ref (bs g (k + 3)), .ref (bs g (k + 4)), .ref (bs g (k + 5)), .null, .null, .int 0, .int 0, .null, .null, .int 0, .null, .null, .null, .null, .null, .int 0, .null, .int 0]) : va_E)) (Sum.inr (11, [.int 0, .ref (bs g (k + 1)), .int 0, .int 0, .int 0, .int 0, .int 0, .int 0, .int 0, .int 0, .int (-1), .int 0, .ref (bs g (k + 2)), .int 0, .int 0, .ref (bs g (k + 3)), .ref (bs g (k + 4)), .ref (bs g (k + 5)), .null, .null, .int 0, .int 0, .null, .null, .int 0, .null, .null, .null, .null, .null, .int 0, .null, .int 0]) : va_E) := hcf.put
  have hP : va_P g.1 vwCl (wc g lo (k + 6) (va_up f k (Sum.inr (11, [.int 0, .ref (bs g (k + 1)), .int 0, .int 0, .int 0, .int 0, .int 0, .int 0, .int 0, .int 0, .int (-1), .int 0, .ref (bs g (k + 2)), .int 0, .int 0, .ref (bs g (k + 3)), .ref (bs g (k + 4)), .ref (bs g (k + 5)), .null, .null, .int 0, .int 0, .null, .null, .int 0, .null, .null, .null, .null, .null, .int 0, .null, .int 0]) : va_E))) H := hP
  generalize va_up f k (Sum.inr (11, [.int 0, .ref (bs g (k + 1)), .int 0, .int 0, .int 0, .int 0, .int 0, .int 0, .int 0, .int 0, .int (-1), .int 0, .ref (bs g (k + 2)), .int 0, .int 0, .ref (bs g (k + 3)), .ref (bs g (k + 4)), .ref (bs g (k + 5)), .null, .null, .int 0, .int 0, .null, .null, .int 0, .null, .null, .null, .null, .null, .int 0, .null, .int 0]) : va_E) = f at hP hcf
  refine lv_aload_n hx hb dX13_init_52 rfl (lv_at hl 0 rfl) ?_
  refine lv_sipush (v := 1280) hx hb dX13_init_53 (by decide) ?_
  refine cna_i (n := k + 6) hx hb htg lac_int hZ hP (by omega) (by rw [hsz]; exact bs_add g (k + 1) 5) hS (by decide) (N := 1280) (by decide) (by decide) (Nat.le_of_ble_eq_true rfl) (Nat.le_of_ble_eq_true rfl) dX13_init_56 (fun H hP hS hH => ?_)
  have hcf : cfw g lo (k + 7) k σ (va_up f (k + 6) (Sum.inl (xI g, 1280, .inl (fun _ => 0)) : va_E)) (.inr (11, [.int 0, .ref (bs g (k + 1)), .int 0, .int 0, .int 0, .int 0, .int 0, .int 0, .int 0, .int 0, .int (-1), .int 0, .ref (bs g (k + 2)), .int 0, .int 0, .ref (bs g (k + 3)), .ref (bs g (k + 4)), .ref (bs g (k + 5)), .null, .null, .int 0, .int 0, .null, .null, .int 0, .null, .null, .null, .null, .null, .int 0, .null, .int 0])) := hcf.push (ctz_20 (g := g) hz (K0sub_13_6 hk) (al_13_6 hk))
  have hP : va_P g.1 vwCl (wc g lo (k + 7) (va_up f (k + 6) (Sum.inl (xI g, 1280, .inl (fun _ => 0)) : va_E))) H := hP
  generalize va_up f (k + 6) (Sum.inl (xI g, 1280, .inl (fun _ => 0)) : va_E) = f at hP hcf
  refine cputF (ci := 11) (C := RX13) (T := TX13) (N := 33) (fs := [.int 0, .ref (bs g (k + 1)), .int 0, .int 0, .int 0, .int 0, .int 0, .int 0, .int 0, .int 0, .int (-1), .int 0, .ref (bs g (k + 2)), .int 0, .int 0, .ref (bs g (k + 3)), .ref (bs g (k + 4)), .ref (bs g (k + 5)), .null, .null, .int 0, .int 0, .null, .null, .int 0, .null, .null, .null, .null, .null, .int 0, .null, .int 0]) hx hb htg lays_13 tyX13 tyX13_ok nmX13 hown hZ hP hS ⟨hlo, by omega⟩ hcf.1 rfl 18 (by decide) lf_X13_29 (hsame := rfl) (hin2 := hin) (hfin := rfl) (hdecl := rfl) (v := .ref (bs g (k + 6))) rfl rfl (Nat.le_of_ble_eq_true rfl) dX13_init_58 (fun H locs hP hS => ?_)
  have hcf : cfw g lo (k + 7) k σ (va_up f k (Sum.inr (11, [.int 0, .ref (bs g (k + 1)), .int 0, .int 0, .int 0, .int 0, .int 0, .int 0, .int 0, .int 0, .int (-1), .int 0, .ref (bs g (k + 2)), .int 0, .int 0, .ref (bs g (k + 3)), .ref (bs g (k + 4)), .ref (bs g (k + 5)), .ref (bs g (k + 6)), .null, .int 0, .int 0, .null, .null, .int 0, .null, .null, .null, .null, .null, .int 0, .null, .int 0]) : va_E)) (Sum.inr (11, [.int 0, .ref (bs g (k + 1)), .int 0, .int 0, .int 0, .int 0, .int 0, .int 0, .int 0, .int 0, .int (-1), .int 0, .ref (bs g (k + 2)), .int 0, .int 0, .ref (bs g (k + 3)), .ref (bs g (k + 4)), .ref (bs g (k + 5)), .ref (bs g (k + 6)), .null, .int 0, .int 0, .null, .null, .int 0, .null, .null, .null, .null, .null, .int 0, .null, .int 0]) : va_E) := hcf.put
  have hP : va_P g.1 vwCl (wc g lo (k + 7) (va_up f k (Sum.inr (11, [.int 0, .ref (bs g (k + 1)), .int 0, .int 0, .int 0, .int 0, .int 0, .int 0, .int 0, .int 0, .int (-1), .int 0, .ref (bs g (k + 2)), .int 0, .int 0, .ref (bs g (k + 3)), .ref (bs g (k + 4)), .ref (bs g (k + 5)), .ref (bs g (k + 6)), .null, .int 0, .int 0, .null, .null, .int 0, .null, .null, .null, .null, .null, .int 0, .null, .int 0]) : va_E))) H := hP
  generalize va_up f k (Sum.inr (11, [.int 0, .ref (bs g (k + 1)), .int 0, .int 0, .int 0, .int 0, .int 0, .int 0, .int 0, .int 0, .int (-1), .int 0, .ref (bs g (k + 2)), .int 0, .int 0, .ref (bs g (k + 3)), .ref (bs g (k + 4)), .ref (bs g (k + 5)), .ref (bs g (k + 6)), .null, .int 0, .int 0, .null, .null, .int 0, .null, .null, .null, .null, .null, .int 0, .null, .int 0]) : va_E) = f at hP hcf
  refine lv_aload_n hx hb dX13_init_61 rfl (lv_at hl 0 rfl) ?_
  refine lv_sipush (v := 240) hx hb dX13_init_62 (by decide) ?_
  refine cna_i (n := k + 7) hx hb htg lac_int hZ hP (by omega) (by rw [hsz]; exact bs_add g (k + 1) 6) hS (by decide) (N := 240) (by decide) (by decide) (Nat.le_of_ble_eq_true rfl) (Nat.le_of_ble_eq_true rfl) dX13_init_65 (fun H hP hS hH => ?_)
  have hcf : cfw g lo (k + 8) k σ (va_up f (k + 7) (Sum.inl (xI g, 240, .inl (fun _ => 0)) : va_E)) (.inr (11, [.int 0, .ref (bs g (k + 1)), .int 0, .int 0, .int 0, .int 0, .int 0, .int 0, .int 0, .int 0, .int (-1), .int 0, .ref (bs g (k + 2)), .int 0, .int 0, .ref (bs g (k + 3)), .ref (bs g (k + 4)), .ref (bs g (k + 5)), .ref (bs g (k + 6)), .null, .int 0, .int 0, .null, .null, .int 0, .null, .null, .null, .null, .null, .int 0, .null, .int 0])) := hcf.push (ctz_20 (g := g) hz (K0sub_13_7 hk) (al_13_7 hk))
  have hP : va_P g.1 vwCl (wc g lo (k + 8) (va_up f (k + 7) (Sum.inl (xI g, 240, .inl (fun _ => 0)) : va_E))) H := hP
  generalize va_up f (k + 7) (Sum.inl (xI g, 240, .inl (fun _ => 0)) : va_E) = f at hP hcf
  refine cputF (ci := 11) (C := RX13) (T := TX13) (N := 33) (fs := [.int 0, .ref (bs g (k + 1)), .int 0, .int 0, .int 0, .int 0, .int 0, .int 0, .int 0, .int 0, .int (-1), .int 0, .ref (bs g (k + 2)), .int 0, .int 0, .ref (bs g (k + 3)), .ref (bs g (k + 4)), .ref (bs g (k + 5)), .ref (bs g (k + 6)), .null, .int 0, .int 0, .null, .null, .int 0, .null, .null, .null, .null, .null, .int 0, .null, .int 0]) hx hb htg lays_13 tyX13 tyX13_ok nmX13 hown hZ hP hS ⟨hlo, by omega⟩ hcf.1 rfl 19 (by decide) lf_X13_32 (hsame := rfl) (hin2 := hin) (hfin := rfl) (hdecl := rfl) (v := .ref (bs g (k + 7))) rfl rfl (Nat.le_of_ble_eq_true rfl) dX13_init_67 (fun H locs hP hS => ?_)
  have hcf : cfw g lo (k + 8) k σ (va_up f k (Sum.inr (11, [.int 0, .ref (bs g (k + 1)), .int 0, .int 0, .int 0, .int 0, .int 0, .int 0, .int 0, .int 0, .int (-1), .int 0, .ref (bs g (k + 2)), .int 0, .int 0, .ref (bs g (k + 3)), .ref (bs g (k + 4)), .ref (bs g (k + 5)), .ref (bs g (k + 6)), .ref (bs g (k + 7)), .int 0, .int 0, .null, .null, .int 0, .null, .null, .null, .null, .null, .int 0, .null, .int 0]) : va_E)) (Sum.inr (11, [.int 0, .ref (bs g (k + 1)), .int 0, .int 0, .int 0, .int 0, .int 0, .int 0, .int 0, .int 0, .int (-1), .int 0, .ref (bs g (k + 2)), .int 0, .int 0, .ref (bs g (k + 3)), .ref (bs g (k + 4)), .ref (bs g (k + 5)), .ref (bs g (k + 6)), .ref (bs g (k + 7)), .int 0, .int 0, .null, .null, .int 0, .null, .null, .null, .null, .null, .int 0, .null, .int 0]) : va_E) := hcf.put
  have hP : va_P g.1 vwCl (wc g lo (k + 8) (va_up f k (Sum.inr (11, [.int 0, .ref (bs g (k + 1)), .int 0, .int 0, .int 0, .int 0, .int 0, .int 0, .int 0, .int 0, .int (-1), .int 0, .ref (bs g (k + 2)), .int 0, .int 0, .ref (bs g (k + 3)), .ref (bs g (k + 4)), .ref (bs g (k + 5)), .ref (bs g (k + 6)), .ref (bs g (k + 7)), .int 0, .int 0, .null, .null, .int 0, .null, .null, .null, .null, .null, .int 0, .null, .int 0]) : va_E))) H := hP
  generalize va_up f k (Sum.inr (11, [.int 0, .ref (bs g (k + 1)), .int 0, .int 0, .int 0, .int 0, .int 0, .int 0, .int 0, .int 0, .int (-1), .int 0, .ref (bs g (k + 2)), .int 0, .int 0, .ref (bs g (k + 3)), .ref (bs g (k + 4)), .ref (bs g (k + 5)), .ref (bs g (k + 6)), .ref (bs g (k + 7)), .int 0, .int 0, .null, .null, .int 0, .null, .null, .null, .null, .null, .int 0, .null, .int 0]) : va_E) = f at hP hcf
  refine lv_aload_n hx hb dX13_init_70 rfl (lv_at hl 0 rfl) ?_
  refine lv_bipush (v := 30) hx hb dX13_init_71 (by decide) ?_
  refine cna_i (n := k + 8) hx hb htg lac_int hZ hP (by omega) (by rw [hsz]; exact bs_add g (k + 1) 7) hS (by decide) (N := 30) (by decide) (by decide) (Nat.le_of_ble_eq_true rfl) (Nat.le_of_ble_eq_true rfl) dX13_init_73 (fun H hP hS hH => ?_)
  have hcf : cfw g lo (k + 9) k σ (va_up f (k + 8) (Sum.inl (xI g, 30, .inl (fun _ => 0)) : va_E)) (.inr (11, [.int 0, .ref (bs g (k + 1)), .int 0, .int 0, .int 0, .int 0, .int 0, .int 0, .int 0, .int 0, .int (-1), .int 0, .ref (bs g (k + 2)), .int 0, .int 0, .ref (bs g (k + 3)), .ref (bs g (k + 4)), .ref (bs g (k + 5)), .ref (bs g (k + 6)), .ref (bs g (k + 7)), .int 0, .int 0, .null, .null, .int 0, .null, .null, .null, .null, .null, .int 0, .null, .int 0])) := hcf.push (ctz_20 (g := g) hz (K0sub_13_8 hk) (al_13_8 hk))
  have hP : va_P g.1 vwCl (wc g lo (k + 9) (va_up f (k + 8) (Sum.inl (xI g, 30, .inl (fun _ => 0)) : va_E))) H := hP
  generalize va_up f (k + 8) (Sum.inl (xI g, 30, .inl (fun _ => 0)) : va_E) = f at hP hcf
  refine cputF (ci := 11) (C := RX13) (T := TX13) (N := 33) (fs := [.int 0, .ref (bs g (k + 1)), .int 0, .int 0, .int 0, .int 0, .int 0, .int 0, .int 0, .int 0, .int (-1), .int 0, .ref (bs g (k + 2)), .int 0, .int 0, .ref (bs g (k + 3)), .ref (bs g (k + 4)), .ref (bs g (k + 5)), .ref (bs g (k + 6)), .ref (bs g (k + 7)), .int 0, .int 0, .null, .null, .int 0, .null, .null, .null, .null, .null, .int 0, .null, .int 0]) hx hb htg lays_13 tyX13 tyX13_ok nmX13 hown hZ hP hS ⟨hlo, by omega⟩ hcf.1 rfl 22 (by decide) lf_X13_35 (hsame := rfl) (hin2 := hin) (hfin := rfl) (hdecl := rfl) (v := .ref (bs g (k + 8))) rfl rfl (Nat.le_of_ble_eq_true rfl) dX13_init_75 (fun H locs hP hS => ?_)
  have hcf : cfw g lo (k + 9) k σ (va_up f k (Sum.inr (11, [.int 0, .ref (bs g (k + 1)), .int 0, .int 0, .int 0, .int 0, .int 0, .int 0, .int 0, .int 0, .int (-1), .int 0, .ref (bs g (k + 2)), .int 0, .int 0, .ref (bs g (k + 3)), .ref (bs g (k + 4)), .ref (bs g (k + 5)), .ref (bs g (k + 6)), .ref (bs g (k + 7)), .int 0, .int 0, .ref (bs g (k + 8)), .null, .int 0, .null, .null, .null, .null, .null, .int 0, .null, .int 0]) : va_E)) (Sum.inr (11, [.int 0, .ref (bs g (k + 1)), .int 0, .int 0, .int 0, .int 0, .int 0, .int 0, .int 0, .int 0, .int (-1), .int 0, .ref (bs g (k + 2)), .int 0, .int 0, .ref (bs g (k + 3)), .ref (bs g (k + 4)), .ref (bs g (k + 5)), .ref (bs g (k + 6)), .ref (bs g (k + 7)), .int 0, .int 0, .ref (bs g (k + 8)), .null, .int 0, .null, .null, .null, .null, .null, .int 0, .null, .int 0]) : va_E) := hcf.put
  have hP : va_P g.1 vwCl (wc g lo (k + 9) (va_up f k (Sum.inr (11, [.int 0, .ref (bs g (k + 1)), .int 0, .int 0, .int 0, .int 0, .int 0, .int 0, .int 0, .int 0, .int (-1), .int 0, .ref (bs g (k + 2)), .int 0, .int 0, .ref (bs g (k + 3)), .ref (bs g (k + 4)), .ref (bs g (k + 5)), .ref (bs g (k + 6)), .ref (bs g (k + 7)), .int 0, .int 0, .ref (bs g (k + 8)), .null, .int 0, .null, .null, .null, .null, .null, .int 0, .null, .int 0]) : va_E))) H := hP
  generalize va_up f k (Sum.inr (11, [.int 0, .ref (bs g (k + 1)), .int 0, .int 0, .int 0, .int 0, .int 0, .int 0, .int 0, .int 0, .int (-1), .int 0, .ref (bs g (k + 2)), .int 0, .int 0, .ref (bs g (k + 3)), .ref (bs g (k + 4)), .ref (bs g (k + 5)), .ref (bs g (k + 6)), .ref (bs g (k + 7)), .int 0, .int 0, .ref (bs g (k + 8)), .null, .int 0, .null, .null, .null, .null, .null, .int 0, .null, .int 0]) : va_E) = f at hP hcf
  refine lv_aload_n hx hb dX13_init_78 rfl (lv_at hl 0 rfl) ?_
  refine lv_bipush (v := 30) hx hb dX13_init_79 (by decide) ?_
  refine cna_i (n := k + 9) hx hb htg lac_int hZ hP (by omega) (by rw [hsz]; exact bs_add g (k + 1) 8) hS (by decide) (N := 30) (by decide) (by decide) (Nat.le_of_ble_eq_true rfl) (Nat.le_of_ble_eq_true rfl) dX13_init_81 (fun H hP hS hH => ?_)
  have hcf : cfw g lo (k + 10) k σ (va_up f (k + 9) (Sum.inl (xI g, 30, .inl (fun _ => 0)) : va_E)) (.inr (11, [.int 0, .ref (bs g (k + 1)), .int 0, .int 0, .int 0, .int 0, .int 0, .int 0, .int 0, .int 0, .int (-1), .int 0, .ref (bs g (k + 2)), .int 0, .int 0, .ref (bs g (k + 3)), .ref (bs g (k + 4)), .ref (bs g (k + 5)), .ref (bs g (k + 6)), .ref (bs g (k + 7)), .int 0, .int 0, .ref (bs g (k + 8)), .null, .int 0, .null, .null, .null, .null, .null, .int 0, .null, .int 0])) := hcf.push (ctz_20 (g := g) hz (K0sub_13_9 hk) (al_13_9 hk))
  have hP : va_P g.1 vwCl (wc g lo (k + 10) (va_up f (k + 9) (Sum.inl (xI g, 30, .inl (fun _ => 0)) : va_E))) H := hP
  generalize va_up f (k + 9) (Sum.inl (xI g, 30, .inl (fun _ => 0)) : va_E) = f at hP hcf
  refine cputF (ci := 11) (C := RX13) (T := TX13) (N := 33) (fs := [.int 0, .ref (bs g (k + 1)), .int 0, .int 0, .int 0, .int 0, .int 0, .int 0, .int 0, .int 0, .int (-1), .int 0, .ref (bs g (k + 2)), .int 0, .int 0, .ref (bs g (k + 3)), .ref (bs g (k + 4)), .ref (bs g (k + 5)), .ref (bs g (k + 6)), .ref (bs g (k + 7)), .int 0, .int 0, .ref (bs g (k + 8)), .null, .int 0, .null, .null, .null, .null, .null, .int 0, .null, .int 0]) hx hb htg lays_13 tyX13 tyX13_ok nmX13 hown hZ hP hS ⟨hlo, by omega⟩ hcf.1 rfl 23 (by decide) lf_X13_38 (hsame := rfl) (hin2 := hin) (hfin := rfl) (hdecl := rfl) (v := .ref (bs g (k + 9))) rfl rfl (Nat.le_of_ble_eq_true rfl) dX13_init_83 (fun H locs hP hS => ?_)
  have hcf : cfw g lo (k + 10) k σ (va_up f k (Sum.inr (11, [.int 0, .ref (bs g (k + 1)), .int 0, .int 0, .int 0, .int 0, .int 0, .int 0, .int 0, .int 0, .int (-1), .int 0, .ref (bs g (k + 2)), .int 0, .int 0, .ref (bs g (k + 3)), .ref (bs g (k + 4)), .ref (bs g (k + 5)), .ref (bs g (k + 6)), .ref (bs g (k + 7)), .int 0, .int 0, .ref (bs g (k + 8)), .ref (bs g (k + 9)), .int 0, .null, .null, .null, .null, .null, .int 0, .null, .int 0]) : va_E)) (Sum.inr (11, [.int 0, .ref (bs g (k + 1)), .int 0, .int 0, .int 0, .int 0, .int 0, .int 0, .int 0, .int 0, .int (-1), .int 0, .ref (bs g (k + 2)), .int 0, .int 0, .ref (bs g (k + 3)), .ref (bs g (k + 4)), .ref (bs g (k + 5)), .ref (bs g (k + 6)), .ref (bs g (k + 7)), .int 0, .int 0, .ref (bs g (k + 8)), .ref (bs g (k + 9)), .int 0, .null, .null, .null, .null, .null, .int 0, .null, .int 0]) : va_E) := hcf.put
  have hP : va_P g.1 vwCl (wc g lo (k + 10) (va_up f k (Sum.inr (11, [.int 0, .ref (bs g (k + 1)), .int 0, .int 0, .int 0, .int 0, .int 0, .int 0, .int 0, .int 0, .int (-1), .int 0, .ref (bs g (k + 2)), .int 0, .int 0, .ref (bs g (k + 3)), .ref (bs g (k + 4)), .ref (bs g (k + 5)), .ref (bs g (k + 6)), .ref (bs g (k + 7)), .int 0, .int 0, .ref (bs g (k + 8)), .ref (bs g (k + 9)), .int 0, .null, .null, .null, .null, .null, .int 0, .null, .int 0]) : va_E))) H := hP
  generalize va_up f k (Sum.inr (11, [.int 0, .ref (bs g (k + 1)), .int 0, .int 0, .int 0, .int 0, .int 0, .int 0, .int 0, .int 0, .int (-1), .int 0, .ref (bs g (k + 2)), .int 0, .int 0, .ref (bs g (k + 3)), .ref (bs g (k + 4)), .ref (bs g (k + 5)), .ref (bs g (k + 6)), .ref (bs g (k + 7)), .int 0, .int 0, .ref (bs g (k + 8)), .ref (bs g (k + 9)), .int 0, .null, .null, .null, .null, .null, .int 0, .null, .int 0]) : va_E) = f at hP hcf
  refine lv_aload_n hx hb dX13_init_86 rfl (lv_at hl 0 rfl) ?_
  refine lv_iconst (v := 3) hx hb dX13_init_87 (by decide) ?_
  refine cna_i (n := k + 10) hx hb htg lac_int hZ hP (by omega) (by rw [hsz]; exact bs_add g (k + 1) 9) hS (by decide) (N := 3) (by decide) (by decide) (Nat.le_of_ble_eq_true rfl) (Nat.le_of_ble_eq_true rfl) dX13_init_88 (fun H hP hS hH => ?_)
  have hcf : cfw g lo (k + 11) k σ (va_up f (k + 10) (Sum.inl (xI g, 3, .inl (fun _ => 0)) : va_E)) (.inr (11, [.int 0, .ref (bs g (k + 1)), .int 0, .int 0, .int 0, .int 0, .int 0, .int 0, .int 0, .int 0, .int (-1), .int 0, .ref (bs g (k + 2)), .int 0, .int 0, .ref (bs g (k + 3)), .ref (bs g (k + 4)), .ref (bs g (k + 5)), .ref (bs g (k + 6)), .ref (bs g (k + 7)), .int 0, .int 0, .ref (bs g (k + 8)), .ref (bs g (k + 9)), .int 0, .null, .null, .null, .null, .null, .int 0, .null, .int 0])) := hcf.push (ctz_20 (g := g) hz (K0sub_13_10 hk) (al_13_10 hk))
  have hP : va_P g.1 vwCl (wc g lo (k + 11) (va_up f (k + 10) (Sum.inl (xI g, 3, .inl (fun _ => 0)) : va_E))) H := hP
  generalize va_up f (k + 10) (Sum.inl (xI g, 3, .inl (fun _ => 0)) : va_E) = f at hP hcf
  refine cputF (ci := 11) (C := RX13) (T := TX13) (N := 33) (fs := [.int 0, .ref (bs g (k + 1)), .int 0, .int 0, .int 0, .int 0, .int 0, .int 0, .int 0, .int 0, .int (-1), .int 0, .ref (bs g (k + 2)), .int 0, .int 0, .ref (bs g (k + 3)), .ref (bs g (k + 4)), .ref (bs g (k + 5)), .ref (bs g (k + 6)), .ref (bs g (k + 7)), .int 0, .int 0, .ref (bs g (k + 8)), .ref (bs g (k + 9)), .int 0, .null, .null, .null, .null, .null, .int 0, .null, .int 0]) hx hb htg lays_13 tyX13 tyX13_ok nmX13 hown hZ hP hS ⟨hlo, by omega⟩ hcf.1 rfl 25 (by decide) lf_X13_41 (hsame := rfl) (hin2 := hin) (hfin := rfl) (hdecl := rfl) (v := .ref (bs g (k + 10))) rfl rfl (Nat.le_of_ble_eq_true rfl) dX13_init_90 (fun H locs hP hS => ?_)
  have hcf : cfw g lo (k + 11) k σ (va_up f k (Sum.inr (11, [.int 0, .ref (bs g (k + 1)), .int 0, .int 0, .int 0, .int 0, .int 0, .int 0, .int 0, .int 0, .int (-1), .int 0, .ref (bs g (k + 2)), .int 0, .int 0, .ref (bs g (k + 3)), .ref (bs g (k + 4)), .ref (bs g (k + 5)), .ref (bs g (k + 6)), .ref (bs g (k + 7)), .int 0, .int 0, .ref (bs g (k + 8)), .ref (bs g (k + 9)), .int 0, .ref (bs g (k + 10)), .null, .null, .null, .null, .int 0, .null, .int 0]) : va_E)) (Sum.inr (11, [.int 0, .ref (bs g (k + 1)), .int 0, .int 0, .int 0, .int 0, .int 0, .int 0, .int 0, .int 0, .int (-1), .int 0, .ref (bs g (k + 2)), .int 0, .int 0, .ref (bs g (k + 3)), .ref (bs g (k + 4)), .ref (bs g (k + 5)), .ref (bs g (k + 6)), .ref (bs g (k + 7)), .int 0, .int 0, .ref (bs g (k + 8)), .ref (bs g (k + 9)), .int 0, .ref (bs g (k + 10)), .null, .null, .null, .null, .int 0, .null, .int 0]) : va_E) := hcf.put
  have hP : va_P g.1 vwCl (wc g lo (k + 11) (va_up f k (Sum.inr (11, [.int 0, .ref (bs g (k + 1)), .int 0, .int 0, .int 0, .int 0, .int 0, .int 0, .int 0, .int 0, .int (-1), .int 0, .ref (bs g (k + 2)), .int 0, .int 0, .ref (bs g (k + 3)), .ref (bs g (k + 4)), .ref (bs g (k + 5)), .ref (bs g (k + 6)), .ref (bs g (k + 7)), .int 0, .int 0, .ref (bs g (k + 8)), .ref (bs g (k + 9)), .int 0, .ref (bs g (k + 10)), .null, .null, .null, .null, .int 0, .null, .int 0]) : va_E))) H := hP
  generalize va_up f k (Sum.inr (11, [.int 0, .ref (bs g (k + 1)), .int 0, .int 0, .int 0, .int 0, .int 0, .int 0, .int 0, .int 0, .int (-1), .int 0, .ref (bs g (k + 2)), .int 0, .int 0, .ref (bs g (k + 3)), .ref (bs g (k + 4)), .ref (bs g (k + 5)), .ref (bs g (k + 6)), .ref (bs g (k + 7)), .int 0, .int 0, .ref (bs g (k + 8)), .ref (bs g (k + 9)), .int 0, .ref (bs g (k + 10)), .null, .null, .null, .null, .int 0, .null, .int 0]) : va_E) = f at hP hcf
  refine lv_aload_n hx hb dX13_init_93 rfl (lv_at hl 0 rfl) ?_
  refine lv_iconst (v := 3) hx hb dX13_init_94 (by decide) ?_
  refine cna_i (n := k + 11) hx hb htg lac_int hZ hP (by omega) (by rw [hsz]; exact bs_add g (k + 1) 10) hS (by decide) (N := 3) (by decide) (by decide) (Nat.le_of_ble_eq_true rfl) (Nat.le_of_ble_eq_true rfl) dX13_init_95 (fun H hP hS hH => ?_)
  have hcf : cfw g lo (k + 12) k σ (va_up f (k + 11) (Sum.inl (xI g, 3, .inl (fun _ => 0)) : va_E)) (.inr (11, [.int 0, .ref (bs g (k + 1)), .int 0, .int 0, .int 0, .int 0, .int 0, .int 0, .int 0, .int 0, .int (-1), .int 0, .ref (bs g (k + 2)), .int 0, .int 0, .ref (bs g (k + 3)), .ref (bs g (k + 4)), .ref (bs g (k + 5)), .ref (bs g (k + 6)), .ref (bs g (k + 7)), .int 0, .int 0, .ref (bs g (k + 8)), .ref (bs g (k + 9)), .int 0, .ref (bs g (k + 10)), .null, .null, .null, .null, .int 0, .null, .int 0])) := hcf.push (ctz_20 (g := g) hz (K0sub_13_11 hk) (al_13_11 hk))
  have hP : va_P g.1 vwCl (wc g lo (k + 12) (va_up f (k + 11) (Sum.inl (xI g, 3, .inl (fun _ => 0)) : va_E))) H := hP
  generalize va_up f (k + 11) (Sum.inl (xI g, 3, .inl (fun _ => 0)) : va_E) = f at hP hcf
  refine cputF (ci := 11) (C := RX13) (T := TX13) (N := 33) (fs := [.int 0, .ref (bs g (k + 1)), .int 0, .int 0, .int 0, .int 0, .int 0, .int 0, .int 0, .int 0, .int (-1), .int 0, .ref (bs g (k + 2)), .int 0, .int 0, .ref (bs g (k + 3)), .ref (bs g (k + 4)), .ref (bs g (k + 5)), .ref (bs g (k + 6)), .ref (bs g (k + 7)), .int 0, .int 0, .ref (bs g (k + 8)), .ref (bs g (k + 9)), .int 0, .ref (bs g (k + 10)), .null, .null, .null, .null, .int 0, .null, .int 0]) hx hb htg lays_13 tyX13 tyX13_ok nmX13 hown hZ hP hS ⟨hlo, by omega⟩ hcf.1 rfl 26 (by decide) lf_X13_44 (hsame := rfl) (hin2 := hin) (hfin := rfl) (hdecl := rfl) (v := .ref (bs g (k + 11))) rfl rfl (Nat.le_of_ble_eq_true rfl) dX13_init_97 (fun H locs hP hS => ?_)
  have hcf : cfw g lo (k + 12) k σ (va_up f k (Sum.inr (11, [.int 0, .ref (bs g (k + 1)), .int 0, .int 0, .int 0, .int 0, .int 0, .int 0, .int 0, .int 0, .int (-1), .int 0, .ref (bs g (k + 2)), .int 0, .int 0, .ref (bs g (k + 3)), .ref (bs g (k + 4)), .ref (bs g (k + 5)), .ref (bs g (k + 6)), .ref (bs g (k + 7)), .int 0, .int 0, .ref (bs g (k + 8)), .ref (bs g (k + 9)), .int 0, .ref (bs g (k + 10)), .ref (bs g (k + 11)), .null, .null, .null, .int 0, .null, .int 0]) : va_E)) (Sum.inr (11, [.int 0, .ref (bs g (k + 1)), .int 0, .int 0, .int 0, .int 0, .int 0, .int 0, .int 0, .int 0, .int (-1), .int 0, .ref (bs g (k + 2)), .int 0, .int 0, .ref (bs g (k + 3)), .ref (bs g (k + 4)), .ref (bs g (k + 5)), .ref (bs g (k + 6)), .ref (bs g (k + 7)), .int 0, .int 0, .ref (bs g (k + 8)), .ref (bs g (k + 9)), .int 0, .ref (bs g (k + 10)), .ref (bs g (k + 11)), .null, .null, .null, .int 0, .null, .int 0]) : va_E) := hcf.put
  have hP : va_P g.1 vwCl (wc g lo (k + 12) (va_up f k (Sum.inr (11, [.int 0, .ref (bs g (k + 1)), .int 0, .int 0, .int 0, .int 0, .int 0, .int 0, .int 0, .int 0, .int (-1), .int 0, .ref (bs g (k + 2)), .int 0, .int 0, .ref (bs g (k + 3)), .ref (bs g (k + 4)), .ref (bs g (k + 5)), .ref (bs g (k + 6)), .ref (bs g (k + 7)), .int 0, .int 0, .ref (bs g (k + 8)), .ref (bs g (k + 9)), .int 0, .ref (bs g (k + 10)), .ref (bs g (k + 11)), .null, .null, .null, .int 0, .null, .int 0]) : va_E))) H := hP
  generalize va_up f k (Sum.inr (11, [.int 0, .ref (bs g (k + 1)), .int 0, .int 0, .int 0, .int 0, .int 0, .int 0, .int 0, .int 0, .int (-1), .int 0, .ref (bs g (k + 2)), .int 0, .int 0, .ref (bs g (k + 3)), .ref (bs g (k + 4)), .ref (bs g (k + 5)), .ref (bs g (k + 6)), .ref (bs g (k + 7)), .int 0, .int 0, .ref (bs g (k + 8)), .ref (bs g (k + 9)), .int 0, .ref (bs g (k + 10)), .ref (bs g (k + 11)), .null, .null, .null, .int 0, .null, .int 0]) : va_E) = f at hP hcf
  refine lv_aload_n hx hb dX13_init_100 rfl (lv_at hl 0 rfl) ?_
  refine lv_iconst (v := 5) hx hb dX13_init_101 (by decide) ?_
  refine cna_i (n := k + 12) hx hb htg lac_int hZ hP (by omega) (by rw [hsz]; exact bs_add g (k + 1) 11) hS (by decide) (N := 5) (by decide) (by decide) (Nat.le_of_ble_eq_true rfl) (Nat.le_of_ble_eq_true rfl) dX13_init_102 (fun H hP hS hH => ?_)
  have hcf : cfw g lo (k + 13) k σ (va_up f (k + 12) (Sum.inl (xI g, 5, .inl (fun _ => 0)) : va_E)) (.inr (11, [.int 0, .ref (bs g (k + 1)), .int 0, .int 0, .int 0, .int 0, .int 0, .int 0, .int 0, .int 0, .int (-1), .int 0, .ref (bs g (k + 2)), .int 0, .int 0, .ref (bs g (k + 3)), .ref (bs g (k + 4)), .ref (bs g (k + 5)), .ref (bs g (k + 6)), .ref (bs g (k + 7)), .int 0, .int 0, .ref (bs g (k + 8)), .ref (bs g (k + 9)), .int 0, .ref (bs g (k + 10)), .ref (bs g (k + 11)), .null, .null, .null, .int 0, .null, .int 0])) := hcf.push (ctz_20 (g := g) hz (K0sub_13_12 hk) (al_13_12 hk))
  have hP : va_P g.1 vwCl (wc g lo (k + 13) (va_up f (k + 12) (Sum.inl (xI g, 5, .inl (fun _ => 0)) : va_E))) H := hP
  generalize va_up f (k + 12) (Sum.inl (xI g, 5, .inl (fun _ => 0)) : va_E) = f at hP hcf
  refine cputF (ci := 11) (C := RX13) (T := TX13) (N := 33) (fs := [.int 0, .ref (bs g (k + 1)), .int 0, .int 0, .int 0, .int 0, .int 0, .int 0, .int 0, .int 0, .int (-1), .int 0, .ref (bs g (k + 2)), .int 0, .int 0, .ref (bs g (k + 3)), .ref (bs g (k + 4)), .ref (bs g (k + 5)), .ref (bs g (k + 6)), .ref (bs g (k + 7)), .int 0, .int 0, .ref (bs g (k + 8)), .ref (bs g (k + 9)), .int 0, .ref (bs g (k + 10)), .ref (bs g (k + 11)), .null, .null, .null, .int 0, .null, .int 0]) hx hb htg lays_13 tyX13 tyX13_ok nmX13 hown hZ hP hS ⟨hlo, by omega⟩ hcf.1 rfl 27 (by decide) lf_X13_47 (hsame := rfl) (hin2 := hin) (hfin := rfl) (hdecl := rfl) (v := .ref (bs g (k + 12))) rfl rfl (Nat.le_of_ble_eq_true rfl) dX13_init_104 (fun H locs hP hS => ?_)
  have hcf : cfw g lo (k + 13) k σ (va_up f k (Sum.inr (11, [.int 0, .ref (bs g (k + 1)), .int 0, .int 0, .int 0, .int 0, .int 0, .int 0, .int 0, .int 0, .int (-1), .int 0, .ref (bs g (k + 2)), .int 0, .int 0, .ref (bs g (k + 3)), .ref (bs g (k + 4)), .ref (bs g (k + 5)), .ref (bs g (k + 6)), .ref (bs g (k + 7)), .int 0, .int 0, .ref (bs g (k + 8)), .ref (bs g (k + 9)), .int 0, .ref (bs g (k + 10)), .ref (bs g (k + 11)), .ref (bs g (k + 12)), .null, .null, .int 0, .null, .int 0]) : va_E)) (Sum.inr (11, [.int 0, .ref (bs g (k + 1)), .int 0, .int 0, .int 0, .int 0, .int 0, .int 0, .int 0, .int 0, .int (-1), .int 0, .ref (bs g (k + 2)), .int 0, .int 0, .ref (bs g (k + 3)), .ref (bs g (k + 4)), .ref (bs g (k + 5)), .ref (bs g (k + 6)), .ref (bs g (k + 7)), .int 0, .int 0, .ref (bs g (k + 8)), .ref (bs g (k + 9)), .int 0, .ref (bs g (k + 10)), .ref (bs g (k + 11)), .ref (bs g (k + 12)), .null, .null, .int 0, .null, .int 0]) : va_E) := hcf.put
  have hP : va_P g.1 vwCl (wc g lo (k + 13) (va_up f k (Sum.inr (11, [.int 0, .ref (bs g (k + 1)), .int 0, .int 0, .int 0, .int 0, .int 0, .int 0, .int 0, .int 0, .int (-1), .int 0, .ref (bs g (k + 2)), .int 0, .int 0, .ref (bs g (k + 3)), .ref (bs g (k + 4)), .ref (bs g (k + 5)), .ref (bs g (k + 6)), .ref (bs g (k + 7)), .int 0, .int 0, .ref (bs g (k + 8)), .ref (bs g (k + 9)), .int 0, .ref (bs g (k + 10)), .ref (bs g (k + 11)), .ref (bs g (k + 12)), .null, .null, .int 0, .null, .int 0]) : va_E))) H := hP
  generalize va_up f k (Sum.inr (11, [.int 0, .ref (bs g (k + 1)), .int 0, .int 0, .int 0, .int 0, .int 0, .int 0, .int 0, .int 0, .int (-1), .int 0, .ref (bs g (k + 2)), .int 0, .int 0, .ref (bs g (k + 3)), .ref (bs g (k + 4)), .ref (bs g (k + 5)), .ref (bs g (k + 6)), .ref (bs g (k + 7)), .int 0, .int 0, .ref (bs g (k + 8)), .ref (bs g (k + 9)), .int 0, .ref (bs g (k + 10)), .ref (bs g (k + 11)), .ref (bs g (k + 12)), .null, .null, .int 0, .null, .int 0]) : va_E) = f at hP hcf
  refine lv_aload_n hx hb dX13_init_107 rfl (lv_at hl 0 rfl) ?_
  refine lv_iconst (v := 5) hx hb dX13_init_108 (by decide) ?_
  refine cna_i (n := k + 13) hx hb htg lac_int hZ hP (by omega) (by rw [hsz]; exact bs_add g (k + 1) 12) hS (by decide) (N := 5) (by decide) (by decide) (Nat.le_of_ble_eq_true rfl) (Nat.le_of_ble_eq_true rfl) dX13_init_109 (fun H hP hS hH => ?_)
  have hcf : cfw g lo (k + 14) k σ (va_up f (k + 13) (Sum.inl (xI g, 5, .inl (fun _ => 0)) : va_E)) (.inr (11, [.int 0, .ref (bs g (k + 1)), .int 0, .int 0, .int 0, .int 0, .int 0, .int 0, .int 0, .int 0, .int (-1), .int 0, .ref (bs g (k + 2)), .int 0, .int 0, .ref (bs g (k + 3)), .ref (bs g (k + 4)), .ref (bs g (k + 5)), .ref (bs g (k + 6)), .ref (bs g (k + 7)), .int 0, .int 0, .ref (bs g (k + 8)), .ref (bs g (k + 9)), .int 0, .ref (bs g (k + 10)), .ref (bs g (k + 11)), .ref (bs g (k + 12)), .null, .null, .int 0, .null, .int 0])) := hcf.push (ctz_20 (g := g) hz (K0sub_13_13 hk) (al_13_13 hk))
  have hP : va_P g.1 vwCl (wc g lo (k + 14) (va_up f (k + 13) (Sum.inl (xI g, 5, .inl (fun _ => 0)) : va_E))) H := hP
  generalize va_up f (k + 13) (Sum.inl (xI g, 5, .inl (fun _ => 0)) : va_E) = f at hP hcf
  refine cputF (ci := 11) (C := RX13) (T := TX13) (N := 33) (fs := [.int 0, .ref (bs g (k + 1)), .int 0, .int 0, .int 0, .int 0, .int 0, .int 0, .int 0, .int 0, .int (-1), .int 0, .ref (bs g (k + 2)), .int 0, .int 0, .ref (bs g (k + 3)), .ref (bs g (k + 4)), .ref (bs g (k + 5)), .ref (bs g (k + 6)), .ref (bs g (k + 7)), .int 0, .int 0, .ref (bs g (k + 8)), .ref (bs g (k + 9)), .int 0, .ref (bs g (k + 10)), .ref (bs g (k + 11)), .ref (bs g (k + 12)), .null, .null, .int 0, .null, .int 0]) hx hb htg lays_13 tyX13 tyX13_ok nmX13 hown hZ hP hS ⟨hlo, by omega⟩ hcf.1 rfl 28 (by decide) lf_X13_50 (hsame := rfl) (hin2 := hin) (hfin := rfl) (hdecl := rfl) (v := .ref (bs g (k + 13))) rfl rfl (Nat.le_of_ble_eq_true rfl) dX13_init_111 (fun H locs hP hS => ?_)
  have hcf : cfw g lo (k + 14) k σ (va_up f k (Sum.inr (11, [.int 0, .ref (bs g (k + 1)), .int 0, .int 0, .int 0, .int 0, .int 0, .int 0, .int 0, .int 0, .int (-1), .int 0, .ref (bs g (k + 2)), .int 0, .int 0, .ref (bs g (k + 3)), .ref (bs g (k + 4)), .ref (bs g (k + 5)), .ref (bs g (k + 6)), .ref (bs g (k + 7)), .int 0, .int 0, .ref (bs g (k + 8)), .ref (bs g (k + 9)), .int 0, .ref (bs g (k + 10)), .ref (bs g (k + 11)), .ref (bs g (k + 12)), .ref (bs g (k + 13)), .null, .int 0, .null, .int 0]) : va_E)) (Sum.inr (11, [.int 0, .ref (bs g (k + 1)), .int 0, .int 0, .int 0, .int 0, .int 0, .int 0, .int 0, .int 0, .int (-1), .int 0, .ref (bs g (k + 2)), .int 0, .int 0, .ref (bs g (k + 3)), .ref (bs g (k + 4)), .ref (bs g (k + 5)), .ref (bs g (k + 6)), .ref (bs g (k + 7)), .int 0, .int 0, .ref (bs g (k + 8)), .ref (bs g (k + 9)), .int 0, .ref (bs g (k + 10)), .ref (bs g (k + 11)), .ref (bs g (k + 12)), .ref (bs g (k + 13)), .null, .int 0, .null, .int 0]) : va_E) := hcf.put
  have hP : va_P g.1 vwCl (wc g lo (k + 14) (va_up f k (Sum.inr (11, [.int 0, .ref (bs g (k + 1)), .int 0, .int 0, .int 0, .int 0, .int 0, .int 0, .int 0, .int 0, .int (-1), .int 0, .ref (bs g (k + 2)), .int 0, .int 0, .ref (bs g (k + 3)), .ref (bs g (k + 4)), .ref (bs g (k + 5)), .ref (bs g (k + 6)), .ref (bs g (k + 7)), .int 0, .int 0, .ref (bs g (k + 8)), .ref (bs g (k + 9)), .int 0, .ref (bs g (k + 10)), .ref (bs g (k + 11)), .ref (bs g (k + 12)), .ref (bs g (k + 13)), .null, .int 0, .null, .int 0]) : va_E))) H := hP
  generalize va_up f k (Sum.inr (11, [.int 0, .ref (bs g (k + 1)), .int 0, .int 0, .int 0, .int 0, .int 0, .int 0, .int 0, .int 0, .int (-1), .int 0, .ref (bs g (k + 2)), .int 0, .int 0, .ref (bs g (k + 3)), .ref (bs g (k + 4)), .ref (bs g (k + 5)), .ref (bs g (k + 6)), .ref (bs g (k + 7)), .int 0, .int 0, .ref (bs g (k + 8)), .ref (bs g (k + 9)), .int 0, .ref (bs g (k + 10)), .ref (bs g (k + 11)), .ref (bs g (k + 12)), .ref (bs g (k + 13)), .null, .int 0, .null, .int 0]) : va_E) = f at hP hcf
  refine lv_aload_n hx hb dX13_init_114 rfl (lv_at hl 0 rfl) ?_
  refine lv_iconst (v := 5) hx hb dX13_init_115 (by decide) ?_
  refine cna_i (n := k + 14) hx hb htg lac_int hZ hP (by omega) (by rw [hsz]; exact bs_add g (k + 1) 13) hS (by decide) (N := 5) (by decide) (by decide) (Nat.le_of_ble_eq_true rfl) (Nat.le_of_ble_eq_true rfl) dX13_init_116 (fun H hP hS hH => ?_)
  have hcf : cfw g lo (k + 15) k σ (va_up f (k + 14) (Sum.inl (xI g, 5, .inl (fun _ => 0)) : va_E)) (.inr (11, [.int 0, .ref (bs g (k + 1)), .int 0, .int 0, .int 0, .int 0, .int 0, .int 0, .int 0, .int 0, .int (-1), .int 0, .ref (bs g (k + 2)), .int 0, .int 0, .ref (bs g (k + 3)), .ref (bs g (k + 4)), .ref (bs g (k + 5)), .ref (bs g (k + 6)), .ref (bs g (k + 7)), .int 0, .int 0, .ref (bs g (k + 8)), .ref (bs g (k + 9)), .int 0, .ref (bs g (k + 10)), .ref (bs g (k + 11)), .ref (bs g (k + 12)), .ref (bs g (k + 13)), .null, .int 0, .null, .int 0])) := hcf.push (ctz_20 (g := g) hz (K0sub_13_14 hk) (al_13_14 hk))
  have hP : va_P g.1 vwCl (wc g lo (k + 15) (va_up f (k + 14) (Sum.inl (xI g, 5, .inl (fun _ => 0)) : va_E))) H := hP
  generalize va_up f (k + 14) (Sum.inl (xI g, 5, .inl (fun _ => 0)) : va_E) = f at hP hcf
  refine cputF (ci := 11) (C := RX13) (T := TX13) (N := 33) (fs := [.int 0, .ref (bs g (k + 1)), .int 0, .int 0, .int 0, .int 0, .int 0, .int 0, .int 0, .int 0, .int (-1), .int 0, .ref (bs g (k + 2)), .int 0, .int 0, .ref (bs g (k + 3)), .ref (bs g (k + 4)), .ref (bs g (k + 5)), .ref (bs g (k + 6)), .ref (bs g (k + 7)), .int 0, .int 0, .ref (bs g (k + 8)), .ref (bs g (k + 9)), .int 0, .ref (bs g (k + 10)), .ref (bs g (k + 11)), .ref (bs g (k + 12)), .ref (bs g (k + 13)), .null, .int 0, .null, .int 0]) hx hb htg lays_13 tyX13 tyX13_ok nmX13 hown hZ hP hS ⟨hlo, by omega⟩ hcf.1 rfl 29 (by decide) lf_X13_53 (hsame := rfl) (hin2 := hin) (hfin := rfl) (hdecl := rfl) (v := .ref (bs g (k + 14))) rfl rfl (Nat.le_of_ble_eq_true rfl) dX13_init_118 (fun H locs hP hS => ?_)
  have hcf : cfw g lo (k + 15) k σ (va_up f k (Sum.inr (11, [.int 0, .ref (bs g (k + 1)), .int 0, .int 0, .int 0, .int 0, .int 0, .int 0, .int 0, .int 0, .int (-1), .int 0, .ref (bs g (k + 2)), .int 0, .int 0, .ref (bs g (k + 3)), .ref (bs g (k + 4)), .ref (bs g (k + 5)), .ref (bs g (k + 6)), .ref (bs g (k + 7)), .int 0, .int 0, .ref (bs g (k + 8)), .ref (bs g (k + 9)), .int 0, .ref (bs g (k + 10)), .ref (bs g (k + 11)), .ref (bs g (k + 12)), .ref (bs g (k + 13)), .ref (bs g (k + 14)), .int 0, .null, .int 0]) : va_E)) (Sum.inr (11, [.int 0, .ref (bs g (k + 1)), .int 0, .int 0, .int 0, .int 0, .int 0, .int 0, .int 0, .int 0, .int (-1), .int 0, .ref (bs g (k + 2)), .int 0, .int 0, .ref (bs g (k + 3)), .ref (bs g (k + 4)), .ref (bs g (k + 5)), .ref (bs g (k + 6)), .ref (bs g (k + 7)), .int 0, .int 0, .ref (bs g (k + 8)), .ref (bs g (k + 9)), .int 0, .ref (bs g (k + 10)), .ref (bs g (k + 11)), .ref (bs g (k + 12)), .ref (bs g (k + 13)), .ref (bs g (k + 14)), .int 0, .null, .int 0]) : va_E) := hcf.put
  have hP : va_P g.1 vwCl (wc g lo (k + 15) (va_up f k (Sum.inr (11, [.int 0, .ref (bs g (k + 1)), .int 0, .int 0, .int 0, .int 0, .int 0, .int 0, .int 0, .int 0, .int (-1), .int 0, .ref (bs g (k + 2)), .int 0, .int 0, .ref (bs g (k + 3)), .ref (bs g (k + 4)), .ref (bs g (k + 5)), .ref (bs g (k + 6)), .ref (bs g (k + 7)), .int 0, .int 0, .ref (bs g (k + 8)), .ref (bs g (k + 9)), .int 0, .ref (bs g (k + 10)), .ref (bs g (k + 11)), .ref (bs g (k + 12)), .ref (bs g (k + 13)), .ref (bs g (k + 14)), .int 0, .null, .int 0]) : va_E))) H := hP
  generalize va_up f k (Sum.inr (11, [.int 0, .ref (bs g (k + 1)), .int 0, .int 0, .int 0, .int 0, .int 0, .int 0, .int 0, .int 0, .int (-1), .int 0, .ref (bs g (k + 2)), .int 0, .int 0, .ref (bs g (k + 3)), .ref (bs g (k + 4)), .ref (bs g (k + 5)), .ref (bs g (k + 6)), .ref (bs g (k + 7)), .int 0, .int 0, .ref (bs g (k + 8)), .ref (bs g (k + 9)), .int 0, .ref (bs g (k + 10)), .ref (bs g (k + 11)), .ref (bs g (k + 12)), .ref (bs g (k + 13)), .ref (bs g (k + 14)), .int 0, .null, .int 0]) : va_E) = f at hP hcf
  refine lv_aload_n hx hb dX13_init_121 rfl (lv_at hl 0 rfl) ?_
  refine lv_bipush (v := 35) hx hb dX13_init_122 (by decide) ?_
  refine cna_i (n := k + 15) hx hb htg lac_int hZ hP (by omega) (by rw [hsz]; exact bs_add g (k + 1) 14) hS (by decide) (N := 35) (by decide) (by decide) (Nat.le_of_ble_eq_true rfl) (Nat.le_of_ble_eq_true rfl) dX13_init_124 (fun H hP hS hH => ?_)
  have hcf : cfw g lo (k + 16) k σ (va_up f (k + 15) (Sum.inl (xI g, 35, .inl (fun _ => 0)) : va_E)) (.inr (11, [.int 0, .ref (bs g (k + 1)), .int 0, .int 0, .int 0, .int 0, .int 0, .int 0, .int 0, .int 0, .int (-1), .int 0, .ref (bs g (k + 2)), .int 0, .int 0, .ref (bs g (k + 3)), .ref (bs g (k + 4)), .ref (bs g (k + 5)), .ref (bs g (k + 6)), .ref (bs g (k + 7)), .int 0, .int 0, .ref (bs g (k + 8)), .ref (bs g (k + 9)), .int 0, .ref (bs g (k + 10)), .ref (bs g (k + 11)), .ref (bs g (k + 12)), .ref (bs g (k + 13)), .ref (bs g (k + 14)), .int 0, .null, .int 0])) := hcf.push (ctz_20 (g := g) hz (K0sub_13_15 hk) (al_13_15 hk))
  have hP : va_P g.1 vwCl (wc g lo (k + 16) (va_up f (k + 15) (Sum.inl (xI g, 35, .inl (fun _ => 0)) : va_E))) H := hP
  generalize va_up f (k + 15) (Sum.inl (xI g, 35, .inl (fun _ => 0)) : va_E) = f at hP hcf
  refine cputF (ci := 11) (C := RX13) (T := TX13) (N := 33) (fs := [.int 0, .ref (bs g (k + 1)), .int 0, .int 0, .int 0, .int 0, .int 0, .int 0, .int 0, .int 0, .int (-1), .int 0, .ref (bs g (k + 2)), .int 0, .int 0, .ref (bs g (k + 3)), .ref (bs g (k + 4)), .ref (bs g (k + 5)), .ref (bs g (k + 6)), .ref (bs g (k + 7)), .int 0, .int 0, .ref (bs g (k + 8)), .ref (bs g (k + 9)), .int 0, .ref (bs g (k + 10)), .ref (bs g (k + 11)), .ref (bs g (k + 12)), .ref (bs g (k + 13)), .ref (bs g (k + 14)), .int 0, .null, .int 0]) hx hb htg lays_13 tyX13 tyX13_ok nmX13 hown hZ hP hS ⟨hlo, by omega⟩ hcf.1 rfl 31 (by decide) lf_X13_56 (hsame := rfl) (hin2 := hin) (hfin := rfl) (hdecl := rfl) (v := .ref (bs g (k + 15))) rfl rfl (Nat.le_of_ble_eq_true rfl) dX13_init_126 (fun H locs hP hS => ?_)
  have hcf : cfw g lo (k + 16) k σ (va_up f k (Sum.inr (11, [.int 0, .ref (bs g (k + 1)), .int 0, .int 0, .int 0, .int 0, .int 0, .int 0, .int 0, .int 0, .int (-1), .int 0, .ref (bs g (k + 2)), .int 0, .int 0, .ref (bs g (k + 3)), .ref (bs g (k + 4)), .ref (bs g (k + 5)), .ref (bs g (k + 6)), .ref (bs g (k + 7)), .int 0, .int 0, .ref (bs g (k + 8)), .ref (bs g (k + 9)), .int 0, .ref (bs g (k + 10)), .ref (bs g (k + 11)), .ref (bs g (k + 12)), .ref (bs g (k + 13)), .ref (bs g (k + 14)), .int 0, .ref (bs g (k + 15)), .int 0]) : va_E)) (Sum.inr (11, [.int 0, .ref (bs g (k + 1)), .int 0, .int 0, .int 0, .int 0, .int 0, .int 0, .int 0, .int 0, .int (-1), .int 0, .ref (bs g (k + 2)), .int 0, .int 0, .ref (bs g (k + 3)), .ref (bs g (k + 4)), .ref (bs g (k + 5)), .ref (bs g (k + 6)), .ref (bs g (k + 7)), .int 0, .int 0, .ref (bs g (k + 8)), .ref (bs g (k + 9)), .int 0, .ref (bs g (k + 10)), .ref (bs g (k + 11)), .ref (bs g (k + 12)), .ref (bs g (k + 13)), .ref (bs g (k + 14)), .int 0, .ref (bs g (k + 15)), .int 0]) : va_E) := hcf.put
  have hP : va_P g.1 vwCl (wc g lo (k + 16) (va_up f k (Sum.inr (11, [.int 0, .ref (bs g (k + 1)), .int 0, .int 0, .int 0, .int 0, .int 0, .int 0, .int 0, .int 0, .int (-1), .int 0, .ref (bs g (k + 2)), .int 0, .int 0, .ref (bs g (k + 3)), .ref (bs g (k + 4)), .ref (bs g (k + 5)), .ref (bs g (k + 6)), .ref (bs g (k + 7)), .int 0, .int 0, .ref (bs g (k + 8)), .ref (bs g (k + 9)), .int 0, .ref (bs g (k + 10)), .ref (bs g (k + 11)), .ref (bs g (k + 12)), .ref (bs g (k + 13)), .ref (bs g (k + 14)), .int 0, .ref (bs g (k + 15)), .int 0]) : va_E))) H := hP
  generalize va_up f k (Sum.inr (11, [.int 0, .ref (bs g (k + 1)), .int 0, .int 0, .int 0, .int 0, .int 0, .int 0, .int 0, .int 0, .int (-1), .int 0, .ref (bs g (k + 2)), .int 0, .int 0, .ref (bs g (k + 3)), .ref (bs g (k + 4)), .ref (bs g (k + 5)), .ref (bs g (k + 6)), .ref (bs g (k + 7)), .int 0, .int 0, .ref (bs g (k + 8)), .ref (bs g (k + 9)), .int 0, .ref (bs g (k + 10)), .ref (bs g (k + 11)), .ref (bs g (k + 12)), .ref (bs g (k + 13)), .ref (bs g (k + 14)), .int 0, .ref (bs g (k + 15)), .int 0]) : va_E) = f at hP hcf
  obtain rfl : k = 64 := hk64
  have hW : Wd g lo (64 + 16) (sI σ 64 10 (-1)) H := ⟨hcf.done2 (sI σ 64 10 (-1)) (by rw [ct_13 g _ hk, sI_eq, show (sI σ 64 10 (-1)).2.2 64 = σ.2.2 64 from rfl, (hz 64 (Nat.le_refl 64)).1, (hz 64 (Nat.le_refl 64)).2.2]; rfl) (fun i hi => ct_sI_ne g σ _ _ hi) hP, TRz hTR hz _ (Nat.le_add_right _ _)⟩
  refine W.widen (k := 15) (n := 2874) (Nat.le_of_ble_eq_true rfl) (Nat.le_of_ble_eq_true rfl) ?_
  exact W.vret hx hb hr (fun t ht hw => ⟨⟨(sI σ 64 10 (-1)), rfl, rfl, ws_of hZ hT hS hW ht hw⟩, hS.F ht⟩) hS.2.2 dX13_init_129 hlocks
