theorem lm_L_7 : Cond.methodLink RL 7 yX12_led ∈ lwg := lwg_6 8 (by decide +kernel) (by decide +kernel)
theorem lim_X12_led : Cond.instanceMethod yX12_led ∈ lwg := lwg_6 9 (by decide +kernel) (by decide +kernel)
theorem lse_X12_led : Cond.selects RX12 yX12_led yX12_led ∈ lwg := lwg_6 10 (by decide +kernel) (by decide +kernel)
theorem lc_X12_led : Cond.code yX12_led cX12_led 4 (some .int) ∈ lwg := lwg_6 11 (by decide +kernel) (by decide +kernel)
theorem lcl_L_13 : Cond.classLink RL 13 "java/util/NoSuchElementException" ∈ lwg := lwg_6 7 (by decide +kernel) (by decide +kernel)
theorem tz_80 : tp 22 0 81 80 := ⟨rfl, Nat.le_of_ble_eq_true rfl, Nat.le_of_ble_eq_true rfl⟩
set_option maxHeartbeats 4000000 in
set_option maxRecDepth 100000 in
theorem c_L_led (g : XG) (l : Launch) (hfl : l.stackTraces = false) (σ : Mem) (a1 : Int32) (o : Option Int32) (hf : f_X12_led σ a1 = some o) : vx_Met l yL_led (wx (.codeWith yL_led cL_led 4 (some .int) [(0, 9, 12, 13)])) ({ frames := 7, cells := 1, slots := 6, locals := 151 } : Room) (va_Pc [.ref (bs g 0), .int a1, .ref (bs g 80)] (WX g 0 81 σ)) (va_Qi (fun (x : Int32) (u : Mem) => (x = 1 ∧ o = none ∧ u = σ) ∨ ∃ r : Int32, x = 0 ∧ o = some r ∧ u = sL σ 80 0 r.toInt64) (WS g 0 81) (Ag g 0)) (vx_X (fun _ : Mem => False) (fun (_ : String) (_ : Mem) (_ : State) => False) (Ag g 0)) 1 6 (Ag g 0) := by
  refine vx_ofWH (cc := cL_led) (maxL := 4) (ret := (some .int)) (hh := [(0, 9, 12, 13)]) (by decide) rfl ?_
  intro p e s m args below meth c s₁ B hml hv
  obtain ⟨rfl, ⟨hZ, hT, hW⟩, hXN⟩ := hv
  have hx := B.exec
  have hb := B.bytes
  have hr := B.returns
  have hts : ∀ w ∈ wx (.codeWith yL_led cL_led 4 (some .int) [(0, 9, 12, 13)]), w.before _ s = true := atoms_spec B.pre
  have htg : ∀ w ∈ lwg, w.before _ s = true := fun w h => hts w (List.mem_cons_of_mem _ h)
  have hown : s.vm.findClass RL = some m.cls := findClass_of_methodNamed B.named
  have hlocks := B.notSynchronized
  have htab : c.exceptionTable.toList = [] ++ (⟨0, 9, 12, 13⟩ : ExceptionTableEntry) :: [] := vx_table (x := yL_led) B (hts _ List.mem_cons_self)
  change W p l e ({ frames := 7, cells := 1, slots := 6, locals := 151 } : Room) s m (List.toArray [.ref (bs g 0), .int a1, .ref (bs g 80)]) below meth c s.heap [] 0 0 (vx_MQ below (va_Qi (fun (x : Int32) (u : Mem) => (x = 1 ∧ o = none ∧ u = σ) ∨ ∃ r : Int32, x = 0 ∧ o = some r ∧ u = sL σ 80 0 r.toInt64) (WS g 0 81) (Ag g 0)) (vx_X (fun _ : Mem => False) (fun (_ : String) (_ : Mem) (_ : State) => False) (Ag g 0)) (List.toArray [.ref (bs g 0), .int a1, .ref (bs g 80)]) s 1 6 (Ag g 0)) _
  generalize hQ : vx_MQ below (va_Qi (fun (x : Int32) (u : Mem) => (x = 1 ∧ o = none ∧ u = σ) ∨ ∃ r : Int32, x = 0 ∧ o = some r ∧ u = sL σ 80 0 r.toInt64) (WS g 0 81) (Ag g 0)) (vx_X (fun _ : Mem => False) (fun (_ : String) (_ : Mem) (_ : State) => False) (Ag g 0)) (List.toArray [.ref (bs g 0), .int a1, .ref (bs g 80)]) s 1 6 (Ag g 0) = Q
  have hS : va_S (Ag g 0) s.heap s.heap [] := va_S.rf
  have hl := lv_entry ([.ref (bs g 0), .int a1, .ref (bs g 80)]) (n := 4) (Nat.le_of_ble_eq_true rfl)
  rw [lg_entry_eq]
  generalize (lg_sl ([.ref (bs g 0), .int a1, .ref (bs g 80)]) ++ List.replicate (4 - (lg_sl ([.ref (bs g 0), .int a1, .ref (bs g 80)])).length) Slot.unset).toArray = ls at hl ⊢
  have hl : lv_has ls 4 [(0, .ref (bs g 0)), (1, .int a1), (2, .ref (bs g 80))] := hl
  refine lv_aload_n hx hb dL_led_0 rfl (lv_at hl 2 rfl) ?_
  refine lv_iconst (v := 0) hx hb dL_led_1 (by decide) ?_
  refine lv_aload_n hx hb dL_led_2 rfl (lv_at hl 0 rfl) ?_
  refine lv_iload_n hx hb dL_led_3 rfl (lv_at hl 1 rfl) ?_
  refine vx_calli (vx_runV (As := [.int a1]) (rest := [.int 0, .ref (bs g 80)]) ⟨hx, hb, hml, hown, hts⟩ (c_X12_led g l hfl σ a1 o hf) (cwV 1 hts (gdV lm_L_7 lim_X12_led lse_X12_led ini_X12 lc_X12_led) rfl rfl rfl (by decide +kernel) ⟨Nat.le_of_ble_eq_true rfl, Nat.le_of_ble_eq_true rfl⟩) ⟨WX.blind g 0 81 σ _, (mpV_12 hZ hT hS hW tz_0 [.int a1]).2.1, fun U hU hw => ⟨rfl, ws_of hZ hT hS hW hU hw, hXN.warm hw⟩⟩ rfl rfl hl.1 rfl (lv_room (Nat.le_of_ble_eq_true rfl)) dL_led_4 ⟨Nat.le_of_ble_eq_true rfl, Nat.le_of_ble_eq_true rfl⟩) hS (fun _ _ h => h) (fun _ h => h) (fun _ _ h => h) (fun E ce q9 u t H1 locs1 ht hal hpx hBX hz hk hS1 hce hv hcl => ?_) (fun r u t H1 locs1 ht hal hp hB hz hk hS1 => ?_)
  · obtain ⟨ho, hu⟩ := hpx
    obtain ⟨hE, hW1⟩ := hBX
    rw [hE] at hcl
    have hW1 : Wd g 0 81 σ H1 := by rw [← ht, ← hu]; exact hW1
    refine vx_catch hown [] ⟨0, 9, 12, 13⟩ [] htab (fun z hz => absurd hz List.not_mem_nil) (by decide) (by decide) (htg _ lcl_L_13) (va_Nw.use rfl hXN.2.2.2) hce hv hcl ?_
    change W p l e ({ frames := 7, cells := 1, slots := 6, locals := 151 } : Room) s m (List.toArray [.ref (bs g 0), .int a1, .ref (bs g 80)]) below meth c H1 locs1 1 6 Q (F0 m 12 ls [.ref q9])
    refine lv_astore_n (i := 3) (lv' := [(3, .ref q9), (0, .ref (bs g 0)), (1, .int a1), (2, .ref (bs g 80))]) hx hb dL_led_12 rfl hl (by decide) rfl (fun ls hl => ?_)
    refine lv_iconst (v := 1) hx hb dL_led_13 (by decide) ?_
    subst hQ
    refine vx_ret ?_
    exact W.iret hx hb hr (fun t ht hw => ⟨⟨1, σ, rfl, Or.inl ⟨rfl, ho, rfl⟩, ws_of hZ hT hS1 hW1 ht hw⟩, hS1.F ht⟩) hS1.2.2 dL_led_14 hlocks
  · obtain ⟨ho, hu⟩ := hp
    have hW1 : Wd g 0 81 σ H1 := by rw [← ht, ← hu]; exact hB.2.2
    change W p l e ({ frames := 7, cells := 1, slots := 6, locals := 151 } : Room) s m (List.toArray [.ref (bs g 0), .int a1, .ref (bs g 80)]) below meth c H1 locs1 1 6 Q (F0 m 7 ls [.int r, .int 0, .ref (bs g 80)])
    refine lv_i2l (v := r.toInt64) hx hb dL_led_7 rfl ?_
    refine mst_l (K := fun τ => some τ) (out := sL σ 80 0 r.toInt64) hx hb hZ hW1 hS1 tz_80 (if_neg (show ¬ ((0 : Int32) < 0 ∨ aln 80 ≤ (0 : Int32).toNatClampNeg) from by decide)) dL_led_8 (fun τ H2 locs2 e2 hW2 hS2 => ?_)
    have e2 : τ = sL σ 80 0 r.toInt64 := Option.some.inj e2
    refine lv_goto (tgt := 15) hx hb dL_led_9 (by decide) ?_
    refine lv_iconst (v := 0) hx hb dL_led_15 (by decide) ?_
    subst hQ
    refine vx_ret ?_
    exact W.iret hx hb hr (fun t ht hw => ⟨⟨0, τ, rfl, Or.inr ⟨r, rfl, ho.symm, e2⟩, ws_of hZ hT hS2 hW2 ht hw⟩, hS2.F ht⟩) hS2.2.2 dL_led_16 hlocks
