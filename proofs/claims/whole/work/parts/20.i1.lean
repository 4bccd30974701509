section MI9
variable {g : XG} {lo n k : Nat} {σ : Mem} {f : Nat → va_E} {x : va_E}
/-- a State into the row of images -/
theorem cfw.sR9 (h : cfw g lo n k σ f x) {a : Nat} (hka : k ≠ a) (hK : K0 a = 23) (j v : Nat) {e : va_E} (he : e = .inl (xO g, aln a, .inr (.inr (.inr (.inr (va_up (fun j => (σ.2.2 a j).map (bs g)) j (some (bs g v)))))))) : cfw g lo n k (sR σ a j (some v)) (va_up f a e) x := by
  obtain ⟨h1, h2, h3⟩ := h
  refine ⟨by rw [va_up, if_neg hka]; exact h1, h2, fun i p q d => ?_⟩
  by_cases hi : i = a
  · rw [va_up, if_pos hi, hi, he, ct_23 g _ hK]
    refine congrArg (fun z : Nat → Option Nat => (Sum.inl (xO g, aln a, Sum.inr (Sum.inr (Sum.inr (Sum.inr z)))) : va_E)) (funext fun y => ?_)
    show va_up (fun j => (σ.2.2 a j).map (bs g)) j (some (bs g v)) y = (((sR σ a j (some v)).2.2 a y).map (bs g))
    rw [show (sR σ a j (some v)).2.2 a = va_up (σ.2.2 a) j (some v) from if_pos rfl]
    by_cases hy : y = j
    · rw [va_up, if_pos hy, va_up, if_pos hy]; rfl
    · rw [va_up, if_neg hy, va_up, if_neg hy]
  · rw [va_up, if_neg hi, ct_sR_ne g σ j _ hi]; exact h3 i p q d
theorem TR_sR9 (h : TR lo n σ) {a : Nat} (j : Nat) {v : Nat} (hk : K0 a = 23) (hv : tp 9 lo n v) : TR lo n (sR σ a j (some v)) := by
  intro b i T h1 h2 h3
  by_cases hb : b = a
  · subst hb
    rw [show (sR σ b j (some v)).2.2 b = va_up (σ.2.2 b) j (some v) from if_pos rfl] at h3
    by_cases hi : i = j
    · rw [va_up, if_pos hi] at h3
      obtain rfl := Option.some.inj h3
      exact ⟨fun _ => hv, fun q => absurd hk q⟩
    · rw [va_up, if_neg hi] at h3
      exact h b i T h1 h2 h3
  · rw [show (sR σ a j (some v)).2.2 b = σ.2.2 b from if_neg hb] at h3
    exact h b i T h1 h2 h3
/-- the whole house, when its own object is done -/
theorem TR_own (h : TR 1 n σ) (h0 : σ.2.2 0 = fun _ => none) (h3 : tp 11 1 n 3) (h15 : tp 11 1 n 15) : TR 0 n (sR (sR σ 0 10 (some 3)) 0 11 (some 15)) := by
  intro b i T _ h2 hT
  have up : ∀ {c v : Nat}, tp c 1 n v → tp c 0 n v := fun h => ⟨h.1, Nat.zero_le _, h.2.2⟩
  by_cases hb : b = 0
  · subst hb
    rw [show (sR (sR σ 0 10 (some 3)) 0 11 (some 15)).2.2 0 = va_up (va_up (σ.2.2 0) 10 (some 3)) 11 (some 15) from rfl, h0] at hT
    refine ⟨fun q => absurd q (by decide), fun _ => ?_⟩
    rw [va_up] at hT
    split at hT
    · obtain rfl := Option.some.inj hT; exact up h15
    · rw [va_up] at hT
      split at hT
      · obtain rfl := Option.some.inj hT; exact up h3
      · cases hT
  · rw [show (sR (sR σ 0 10 (some 3)) 0 11 (some 15)).2.2 b = σ.2.2 b from (if_neg hb).trans (if_neg hb)] at hT
    obtain ⟨q1, q2⟩ := h b i T (Nat.pos_of_ne_zero hb) h2 hT
    exact ⟨fun q => up (q1 q), fun q => up (q2 q)⟩
end MI9
set_option maxHeartbeats 8000000 in
set_option maxRecDepth 100000 in
theorem c_X12_init (g : XG) (l : Launch) (hz1 : ZA 1 Z0) (τ1 : Mem) (hh1 : f_X11_forget Z0 3 = some τ1) (hz3 : ZA 3 Z0) (τ2 : Mem) (hh2 : f_X11_forget τ1 15 = some τ2) (hz15 : ZA 15 τ1) (hz27 : ZA 27 τ2) (τ3 : Mem) (hh3 : f_X9_begin (sR τ2 27 1 (some 15)) 28 3 = some τ3) (hz28 : ZA 28 (sR τ2 27 1 (some 15))) (τ4 : Mem) (hh4 : f_X9_begin τ3 32 3 = some τ4) (hz32 : ZA 32 τ3) (hz36 : ZA 36 τ4) (τ5 : Mem) (hh5 : f_X9_begin τ4 37 3 = some τ5) (hz37 : ZA 37 τ4) (τ6 : Mem) (hh6 : f_X9_begin (sR τ5 36 0 (some 37)) 41 3 = some τ6) (hz41 : ZA 41 (sR τ5 36 0 (some 37))) (τ7 : Mem) (hh7 : f_X9_begin (sR τ6 36 1 (some 41)) 45 3 = some τ7) (hz45 : ZA 45 (sR τ6 36 1 (some 41))) (hz49 : ZA 49 (sR τ7 36 2 (some 45))) (hz51 : ZA 51 (sR τ7 36 2 (some 45))) (hz55 : ZA 55 (sR τ7 36 2 (some 45))) (hz59 : ZA 59 (sR τ7 36 2 (some 45))) (hz61 : ZA 61 (sR τ7 36 2 (some 45))) (hi0 : (sR τ7 36 2 (some 45)).1 0 = fun _ => 0) (hr0 : (sR τ7 36 2 (some 45)).2.2 0 = fun _ => none) : Met l yX12_init (wx (.code yX12_init cX12_init 2 none)) ({ frames := 5, cells := 63, slots := 2579, locals := 144 }) (va_Pc [.ref (bs g 0)] (CP g 0 0 Z0 (.inr (10, [.null, .null, .null, .null, .null, .null, .null, .null, .null, .null, .null, .null, .int 0, .int 0, .int 0, .int 0])))) (va_Qv (fun u : Mem => u = (sR (sR (sR τ7 36 2 (some 45)) 0 10 (some 3)) 0 11 (some 15))) (WS g 0 64) (Ag g 0)) 63 2579 (Ag g 0) := by
  refine Met.ofW (cc := cX12_init) (maxL := 2) (ret := none) (by decide) rfl ?_
  intro p e s m args below meth c s₁ B hml hv
  obtain ⟨rfl, hZ, hT, hsz, hP, hTR, hAO⟩ := hv
  have hx := B.exec
  have hb := B.bytes
  have hr := B.returns
  have hts : ∀ w ∈ wx (.code yX12_init cX12_init 2 none), w.before _ s = true := atoms_spec B.pre
  have htg : ∀ w ∈ lwg, w.before _ s = true := fun w h => hts w (List.mem_cons_of_mem _ h)
  have hown : s.vm.findClass RX12 = some m.cls := findClass_of_methodNamed B.named
  have hlocks := B.notSynchronized
  have hin : meth.name = "<init>" := (name_of_methodNamed B.named B.method).1
  change W p l e ({ frames := 5, cells := 63, slots := 2579, locals := 144 }) s m _ below meth c s.heap [] 0 0 _ _
  have hS : va_S (Ag g 0) s.heap s.heap [] := va_S.rf
  have hl := lv_entry ([.ref (bs g 0)]) (n := 2) (Nat.le_of_ble_eq_true rfl)
  rw [lg_entry_eq]
  generalize (lg_sl ([.ref (bs g 0)]) ++ List.replicate (2 - (lg_sl ([.ref (bs g 0)])).length) Slot.unset).toArray = ls at hl ⊢
  have hl : lv_has ls 2 [(0, .ref (bs g 0))] := hl
  obtain ⟨H, hH⟩ : ∃ H, H = s.heap := ⟨_, rfl⟩
  obtain ⟨locs, hLc⟩ : ∃ z : List Loc, z = [] := ⟨_, rfl⟩
  have hS : va_S (Ag g 0) s.heap H locs := by rw [hH, hLc]; exact hS
  rw [← hH] at hP
  suffices hG : W p l e ({ frames := 5, cells := 63, slots := 2579, locals := 144 }) s m _ below meth c H locs 0 0 _ (F0 m 0 ls []) by rw [hH, hLc] at hG; exact hG
  clear hH hLc
  have hcf := cfw.start (g := g) (σ := Z0) (Nat.le_refl 0) (.inr (10, [.null, .null, .null, .null, .null, .null, .null, .null, .null, .null, .null, .null, .int 0, .int 0, .int 0, .int 0]))
  generalize va_up (ct g Z0) 0 _ = f at hP hcf
  have hTR : TR 1 1 Z0 := fun a j T h1 h2 h3 => absurd h2 (by omega)
  refine lv_aload_n hx hb dX12_init_0 rfl (lv_at hl 0 rfl) ?_
  refine W.objInit hx hb hown (htg _ lm_X12_1) (htg _ lim_obj) (htg _ lc_obj) rfl (by rw [hml]; exact hl.1) rfl dX12_init_1 (Nat.le_of_ble_eq_true rfl) (Nat.le_of_ble_eq_true rfl) ?_
  refine W.eq (g2 := F0 m 4 ls []) rfl ?_
  refine lv_aload_n hx hb dX12_init_4 rfl (lv_at hl 0 rfl) ?_
  refine cnew (n := 1) (ci := 8) (fs := [.null, .int 0, .int 0, .int 0, .int 0, .int 0]) hx hb htg lays_10 tyX10 tyX10_ok hown lcl_X12_7 lin_X10 ini_X10 hZ hP (Nat.le_of_ble_eq_true rfl) (by rw [hsz]; exact bs_add g (0 + 1) _) hS rfl (fun j hj => by rcases (show j = 0 ∨ j = 1 ∨ j = 2 ∨ j = 3 ∨ j = 4 ∨ j = 5 by omega) with rfl | rfl | rfl | rfl | rfl | rfl <;> rfl) (Nat.le_of_ble_eq_true rfl) (Nat.le_of_ble_eq_true rfl) dX12_init_5 (fun H hP hS hH => ?_)
  have hf0 : va_up f 1 (.inr (8, [.null, .int 0, .int 0, .int 0, .int 0, .int 0])) 0 = .inr (10, [.null, .null, .null, .null, .null, .null, .null, .null, .null, .null, .null, .null, .int 0, .int 0, .int 0, .int 0]) := by rw [va_up, if_neg (by decide)]; exact hcf.1
  refine lv_dup hx hb dX12_init_8 rfl ?_
  have hC := c_X10_init g l 1 1 Z0 rfl (Nat.le_of_ble_eq_true rfl) hz1
  have hw0 := hcf.sub (lo2 := 1) (Nat.le_of_ble_eq_true rfl) (Nat.zero_le _) hP
  refine va_callv (va_runIN (As := []) (rest := [.ref (bs g 1), .ref (bs g 0)]) ⟨hx, hb, hml, hown, hts⟩ hC (cl_X12_9 hts hZ ⟨(Nat.le_of_ble_eq_true rfl), (Nat.le_of_ble_eq_true rfl)⟩) ⟨CP.blind g _ _ Z0 _ _, fun U hU hW => ⟨rfl, ⟨va_K.moved hW.alike hZ.1, NU.warm hW hZ.2⟩, ST.moved hW.alike (hT.kept (fun a h1 h2 => by rw [hU]; exact hS.2.1 a h1 (fun q => h2 (ag_a0 g 0 a q)))), by rw [hU]; exact hH, by rw [hU]; exact hw0, hTR, va_AO.moved hW.alike hAO⟩⟩ rfl rfl hl.1 rfl (lv_room (Nat.le_of_ble_eq_true rfl)) dX12_init_9 ⟨(Nat.le_of_ble_eq_true rfl), (Nat.le_of_ble_eq_true rfl)⟩) hS (fun q _ h => agle g (Nat.zero_le _) q h) (fun q h => agle g (Nat.zero_le _) q h) (fun u t H1 locs1 ht hvm hp hB hzz hkk hS1 => ?_)
  have hB1 := hB.2.2
  rw [ht, hp] at hB1
  clear hf0
  obtain ⟨f, hcf, hP⟩ := hcf.glue (k2 := 1) (n2 := 3) (τ := Z0) (Nat.le_of_ble_eq_true rfl) (Nat.le_of_ble_eq_true rfl) (Nat.le_of_ble_eq_true rfl) (cfw.cut hP) hkk hB1.1 (fun i h1 h2 h3 => absurd h1 (by omega))
  have hTR : TR 1 3 Z0 := hB1.2
  have hS := hS1
  generalize H1 = H at hP hS
  generalize locs1 = locs at hS
  clear hw0 hC hB hB1 hkk hS1 hp ht hvm hzz
  refine cputF (ci := 10) (C := RX12) (T := TX12) (N := 16) (k := 0) (fs := [.null, .null, .null, .null, .null, .null, .null, .null, .null, .null, .null, .null, .int 0, .int 0, .int 0, .int 0]) hx hb htg lays_12 tyX12 tyX12_ok nmX12 hown hZ hP hS ⟨Nat.le_refl _, (Nat.le_of_ble_eq_true rfl)⟩ hcf.1 rfl 0 (by decide) lf_X12_10 (hsame := rfl) (hin2 := hin) (hfin := rfl) (hdecl := rfl) (v := .ref (bs g 1)) rfl rfl (Nat.le_of_ble_eq_true rfl) dX12_init_12 (fun H locs hP hS => ?_)
  have hcf : cfw g 0 3 0 Z0 (va_up f 0 (Sum.inr (10, [.ref (bs g 1), .null, .null, .null, .null, .null, .null, .null, .null, .null, .null, .null, .int 0, .int 0, .int 0, .int 0]) : va_E)) (Sum.inr (10, [.ref (bs g 1), .null, .null, .null, .null, .null, .null, .null, .null, .null, .null, .null, .int 0, .int 0, .int 0, .int 0]) : va_E) := hcf.put
  have hP : va_P g.1 vwCl (wc g 0 3 (va_up f 0 (Sum.inr (10, [.ref (bs g 1), .null, .null, .null, .null, .null, .null, .null, .null, .null, .null, .null, .int 0, .int 0, .int 0, .int 0]) : va_E))) H := hP
  generalize va_up f 0 (Sum.inr (10, [.ref (bs g 1), .null, .null, .null, .null, .null, .null, .null, .null, .null, .null, .null, .int 0, .int 0, .int 0, .int 0]) : va_E) = f at hP hcf
  refine lv_aload_n hx hb dX12_init_15 rfl (lv_at hl 0 rfl) ?_
  refine cnew (n := 3) (ci := 9) (fs := [.int 0, .int 0, .int 0, .int 0, .null, .null, .null, .null, .null, .null, .null, .null, .null, .null]) hx hb htg lays_11 tyX11 tyX11_ok hown lcl_X12_16 lin_X11 ini_X11 hZ hP (Nat.le_of_ble_eq_true rfl) (by rw [hsz]; exact bs_add g (0 + 1) _) hS rfl (fun j hj => by rcases (show j = 0 ∨ j = 1 ∨ j = 2 ∨ j = 3 ∨ j = 4 ∨ j = 5 ∨ j = 6 ∨ j = 7 ∨ j = 8 ∨ j = 9 ∨ j = 10 ∨ j = 11 ∨ j = 12 ∨ j = 13 by omega) with rfl | rfl | rfl | rfl | rfl | rfl | rfl | rfl | rfl | rfl | rfl | rfl | rfl | rfl <;> rfl) (Nat.le_of_ble_eq_true rfl) (Nat.le_of_ble_eq_true rfl) dX12_init_16 (fun H hP hS hH => ?_)
  have hf0 : va_up f 3 (.inr (9, [.int 0, .int 0, .int 0, .int 0, .null, .null, .null, .null, .null, .null, .null, .null, .null, .null])) 0 = .inr (10, [.ref (bs g 1), .null, .null, .null, .null, .null, .null, .null, .null, .null, .null, .null, .int 0, .int 0, .int 0, .int 0]) := by rw [va_up, if_neg (by decide)]; exact hcf.1
  refine lv_dup hx hb dX12_init_19 rfl ?_
  have hC := c_X11_init g l 1 3 Z0 rfl (Nat.le_of_ble_eq_true rfl) hz3 τ1 hh1
  have hw0 := hcf.sub (lo2 := 1) (Nat.le_of_ble_eq_true rfl) (Nat.zero_le _) hP
  refine va_callv (va_runI (As := []) (rest := [.ref (bs g 3), .ref (bs g 0)]) ⟨hx, hb, hml, hown, hts⟩ hC (cl_X12_18 hts ⟨(Nat.le_of_ble_eq_true rfl), (Nat.le_of_ble_eq_true rfl)⟩) ⟨CP.blind g _ _ Z0 _ _, fun U hU hW => ⟨rfl, ⟨va_K.moved hW.alike hZ.1, NU.warm hW hZ.2⟩, ST.moved hW.alike (hT.kept (fun a h1 h2 => by rw [hU]; exact hS.2.1 a h1 (fun q => h2 (ag_a0 g 0 a q)))), by rw [hU]; exact hH, by rw [hU]; exact hw0, hTR, va_AO.moved hW.alike hAO⟩⟩ rfl rfl hl.1 rfl (lv_room (Nat.le_of_ble_eq_true rfl)) dX12_init_20 ⟨(Nat.le_of_ble_eq_true rfl), (Nat.le_of_ble_eq_true rfl)⟩) hS (fun q _ h => agle g (Nat.zero_le _) q h) (fun q h => agle g (Nat.zero_le _) q h) (fun u t H1 locs1 ht hvm hp hB hzz hkk hS1 => ?_)
  have hB1 := hB.2.2
  rw [ht, hp] at hB1
  clear hf0
  obtain ⟨f, hcf, hP⟩ := hcf.glue (k2 := 1) (n2 := 15) (τ := τ1) (Nat.le_of_ble_eq_true rfl) (Nat.le_of_ble_eq_true rfl) (Nat.le_of_ble_eq_true rfl) (cfw.cut hP) hkk hB1.1 (fun i h1 h2 h3 => absurd h1 (by omega))
  have hTR : TR 1 15 τ1 := hB1.2
  have hS := hS1
  generalize H1 = H at hP hS
  generalize locs1 = locs at hS
  clear hw0 hC hB hB1 hkk hS1 hp ht hvm hzz
  refine cput (ci := 10) (C := RX12) (T := TX12) (N := 16) (k := 0) (fs := [.ref (bs g 1), .null, .null, .null, .null, .null, .null, .null, .null, .null, .null, .null, .int 0, .int 0, .int 0, .int 0]) hx hb htg lays_12 tyX12 tyX12_ok nmX12 hown hZ hP hS ⟨Nat.le_refl _, (Nat.le_of_ble_eq_true rfl)⟩ hcf.1 rfl 10 (by decide) lf_X12_19 (hsame := rfl) (hfin := rfl) (v := .ref (bs g 3)) rfl rfl (Nat.le_of_ble_eq_true rfl) dX12_init_23 (fun H locs hP hS => ?_)
  have hcf : cfw g 0 15 0 τ1 (va_up f 0 (Sum.inr (10, [.ref (bs g 1), .null, .null, .null, .null, .null, .null, .null, .null, .null, .ref (bs g 3), .null, .int 0, .int 0, .int 0, .int 0]) : va_E)) (Sum.inr (10, [.ref (bs g 1), .null, .null, .null, .null, .null, .null, .null, .null, .null, .ref (bs g 3), .null, .int 0, .int 0, .int 0, .int 0]) : va_E) := hcf.put
  have hP : va_P g.1 vwCl (wc g 0 15 (va_up f 0 (Sum.inr (10, [.ref (bs g 1), .null, .null, .null, .null, .null, .null, .null, .null, .null, .ref (bs g 3), .null, .int 0, .int 0, .int 0, .int 0]) : va_E))) H := hP
  generalize va_up f 0 (Sum.inr (10, [.ref (bs g 1), .null, .null, .null, .null, .null, .null, .null, .null, .null, .ref (bs g 3), .null, .int 0, .int 0, .int 0, .int 0]) : va_E) = f at hP hcf
  refine lv_aload_n hx hb dX12_init_26 rfl (lv_at hl 0 rfl) ?_
  refine cnew (n := 15) (ci := 9) (fs := [.int 0, .int 0, .int 0, .int 0, .null, .null, .null, .null, .null, .null, .null, .null, .null, .null]) hx hb htg lays_11 tyX11 tyX11_ok hown lcl_X12_16 lin_X11 ini_X11 hZ hP (Nat.le_of_ble_eq_true rfl) (by rw [hsz]; exact bs_add g (0 + 1) _) hS rfl (fun j hj => by rcases (show j = 0 ∨ j = 1 ∨ j = 2 ∨ j = 3 ∨ j = 4 ∨ j = 5 ∨ j = 6 ∨ j = 7 ∨ j = 8 ∨ j = 9 ∨ j = 10 ∨ j = 11 ∨ j = 12 ∨ j = 13 by omega) with rfl | rfl | rfl | rfl | rfl | rfl | rfl | rfl | rfl | rfl | rfl | rfl | rfl | rfl <;> rfl) (Nat.le_of_ble_eq_true rfl) (Nat.le_of_ble_eq_true rfl) dX12_init_27 (fun H hP hS hH => ?_)
  have hf0 : va_up f 15 (.inr (9, [.int 0, .int 0, .int 0, .int 0, .null, .null, .null, .null, .null, .null, .null, .null, .null, .null])) 0 = .inr (10, [.ref (bs g 1), .null, .null, .null, .null, .null, .null, .null, .null, .null, .ref (bs g 3), .null, .int 0, .int 0, .int 0, .int 0]) := by rw [va_up, if_neg (by decide)]; exact hcf.1
  refine lv_dup hx hb dX12_init_30 rfl ?_
  have hC := c_X11_init g l 1 15 τ1 rfl (Nat.le_of_ble_eq_true rfl) hz15 τ2 hh2
  have hw0 := hcf.sub (lo2 := 1) (Nat.le_of_ble_eq_true rfl) (Nat.zero_le _) hP
  refine va_callv (va_runI (As := []) (rest := [.ref (bs g 15), .ref (bs g 0)]) ⟨hx, hb, hml, hown, hts⟩ hC (cl_X12_18 hts ⟨(Nat.le_of_ble_eq_true rfl), (Nat.le_of_ble_eq_true rfl)⟩) ⟨CP.blind g _ _ τ1 _ _, fun U hU hW => ⟨rfl, ⟨va_K.moved hW.alike hZ.1, NU.warm hW hZ.2⟩, ST.moved hW.alike (hT.kept (fun a h1 h2 => by rw [hU]; exact hS.2.1 a h1 (fun q => h2 (ag_a0 g 0 a q)))), by rw [hU]; exact hH, by rw [hU]; exact hw0, hTR, va_AO.moved hW.alike hAO⟩⟩ rfl rfl hl.1 rfl (lv_room (Nat.le_of_ble_eq_true rfl)) dX12_init_31 ⟨(Nat.le_of_ble_eq_true rfl), (Nat.le_of_ble_eq_true rfl)⟩) hS (fun q _ h => agle g (Nat.zero_le _) q h) (fun q h => agle g (Nat.zero_le _) q h) (fun u t H1 locs1 ht hvm hp hB hzz hkk hS1 => ?_)
  have hB1 := hB.2.2
  rw [ht, hp] at hB1
  clear hf0
  obtain ⟨f, hcf, hP⟩ := hcf.glue (k2 := 1) (n2 := 27) (τ := τ2) (Nat.le_of_ble_eq_true rfl) (Nat.le_of_ble_eq_true rfl) (Nat.le_of_ble_eq_true rfl) (cfw.cut hP) hkk hB1.1 (fun i h1 h2 h3 => absurd h1 (by omega))
  have hTR : TR 1 27 τ2 := hB1.2
  have hS := hS1
  generalize H1 = H at hP hS
  generalize locs1 = locs at hS
  clear hw0 hC hB hB1 hkk hS1 hp ht hvm hzz
  refine cput (ci := 10) (C := RX12) (T := TX12) (N := 16) (k := 0) (fs := [.ref (bs g 1), .null, .null, .null, .null, .null, .null, .null, .null, .null, .ref (bs g 3), .null, .int 0, .int 0, .int 0, .int 0]) hx hb htg lays_12 tyX12 tyX12_ok nmX12 hown hZ hP hS ⟨Nat.le_refl _, (Nat.le_of_ble_eq_true rfl)⟩ hcf.1 rfl 11 (by decide) lf_X12_23 (hsame := rfl) (hfin := rfl) (v := .ref (bs g 15)) rfl rfl (Nat.le_of_ble_eq_true rfl) dX12_init_34 (fun H locs hP hS => ?_)
  have hcf : cfw g 0 27 0 τ2 (va_up f 0 (Sum.inr (10, [.ref (bs g 1), .null, .null, .null, .null, .null, .null, .null, .null, .null, .ref (bs g 3), .ref (bs g 15), .int 0, .int 0, .int 0, .int 0]) : va_E)) (Sum.inr (10, [.ref (bs g 1), .null, .null, .null, .null, .null, .null, .null, .null, .null, .ref (bs g 3), .ref (bs g 15), .int 0, .int 0, .int 0, .int 0]) : va_E) := hcf.put
  have hP : va_P g.1 vwCl (wc g 0 27 (va_up f 0 (Sum.inr (10, [.ref (bs g 1), .null, .null, .null, .null, .null, .null, .null, .null, .null, .ref (bs g 3), .ref (bs g 15), .int 0, .int 0, .int 0, .int 0]) : va_E))) H := hP
  generalize va_up f 0 (Sum.inr (10, [.ref (bs g 1), .null, .null, .null, .null, .null, .null, .null, .null, .null, .ref (bs g 3), .ref (bs g 15), .int 0, .int 0, .int 0, .int 0]) : va_E) = f at hP hcf
  refine lv_aload_n hx hb dX12_init_37 rfl (lv_at hl 0 rfl) ?_
  refine cnew (n := 27) (ci := 4) (fs := [.null, .null, .int 0, .int 0, .int 0]) hx hb htg lays_6 tyX6 tyX6_ok hown lcl_X12_26 lin_X6 ini_X6 hZ hP (Nat.le_of_ble_eq_true rfl) (by rw [hsz]; exact bs_add g (0 + 1) _) hS rfl (fun j hj => by rcases (show j = 0 ∨ j = 1 ∨ j = 2 ∨ j = 3 ∨ j = 4 by omega) with rfl | rfl | rfl | rfl | rfl <;> rfl) (Nat.le_of_ble_eq_true rfl) (Nat.le_of_ble_eq_true rfl) dX12_init_38 (fun H hP hS hH => ?_)
  have hf0 : va_up f 27 (.inr (4, [.null, .null, .int 0, .int 0, .int 0])) 0 = .inr (10, [.ref (bs g 1), .null, .null, .null, .null, .null, .null, .null, .null, .null, .ref (bs g 3), .ref (bs g 15), .int 0, .int 0, .int 0, .int 0]) := by rw [va_up, if_neg (by decide)]; exact hcf.1
  refine lv_dup hx hb dX12_init_41 rfl ?_
  refine lv_aload_n hx hb dX12_init_42 rfl (lv_at hl 0 rfl) ?_
  refine cget (ci := 10) (C := RX12) (T := TX12) (N := 16) (k := 0) (fs := [.ref (bs g 1), .null, .null, .null, .null, .null, .null, .null, .null, .null, .ref (bs g 3), .ref (bs g 15), .int 0, .int 0, .int 0, .int 0]) hx hb htg lays_12 hown hZ hP ⟨Nat.le_refl _, (Nat.le_of_ble_eq_true rfl)⟩ hf0 rfl 0 (by decide) lf_X12_10 rfl rfl dX12_init_43 ?_
  refine lv_aload_n hx hb dX12_init_46 rfl (lv_at hl 0 rfl) ?_
  refine cget (ci := 10) (C := RX12) (T := TX12) (N := 16) (k := 0) (fs := [.ref (bs g 1), .null, .null, .null, .null, .null, .null, .null, .null, .null, .ref (bs g 3), .ref (bs g 15), .int 0, .int 0, .int 0, .int 0]) hx hb htg lays_12 hown hZ hP ⟨Nat.le_refl _, (Nat.le_of_ble_eq_true rfl)⟩ hf0 rfl 11 (by decide) lf_X12_23 rfl rfl dX12_init_47 ?_
  have hC := c_X6_init g l 1 27 τ2 rfl (Nat.le_of_ble_eq_true rfl) hz27 15 ⟨rfl, (Nat.le_of_ble_eq_true rfl), (Nat.le_of_ble_eq_true rfl)⟩ rfl
  have hw0 := hcf.sub (lo2 := 1) (Nat.le_of_ble_eq_true rfl) (Nat.zero_le _) hP
  refine va_callv (va_runI (As := [.ref (bs g 1), .ref (bs g 15)]) (rest := [.ref (bs g 27), .ref (bs g 0)]) ⟨hx, hb, hml, hown, hts⟩ hC (cl_X12_28 hts ⟨(Nat.le_of_ble_eq_true rfl), (Nat.le_of_ble_eq_true rfl)⟩) ⟨CP.blind g _ _ τ2 _ _, fun U hU hW => ⟨rfl, ⟨va_K.moved hW.alike hZ.1, NU.warm hW hZ.2⟩, ST.moved hW.alike (hT.kept (fun a h1 h2 => by rw [hU]; exact hS.2.1 a h1 (fun q => h2 (ag_a0 g 0 a q)))), by rw [hU]; exact hH, by rw [hU]; exact hw0, hTR, va_AO.moved hW.alike hAO⟩⟩ rfl rfl hl.1 rfl (lv_room (Nat.le_of_ble_eq_true rfl)) dX12_init_50 ⟨(Nat.le_of_ble_eq_true rfl), (Nat.le_of_ble_eq_true rfl)⟩) hS (fun q _ h => agle g (Nat.zero_le _) q h) (fun q h => agle g (Nat.zero_le _) q h) (fun u t H1 locs1 ht hvm hp hB hzz hkk hS1 => ?_)
  have hB1 := hB.2.2
  rw [ht, hp] at hB1
  clear hf0
  obtain ⟨f, hcf, hP⟩ := hcf.glue (k2 := 1) (n2 := 28) (τ := (sR τ2 27 1 (some 15))) (Nat.le_of_ble_eq_true rfl) (Nat.le_of_ble_eq_true rfl) (Nat.le_of_ble_eq_true rfl) (cfw.cut hP) hkk hB1.1 (fun i h1 h2 h3 => absurd h1 (by omega))
  have hTR : TR 1 28 (sR τ2 27 1 (some 15)) := hB1.2
  have hS := hS1
  generalize H1 = H at hP hS
  generalize locs1 = locs at hS
  clear hw0 hC hB hB1 hkk hS1 hp ht hvm hzz
  refine cputF (ci := 10) (C := RX12) (T := TX12) (N := 16) (k := 0) (fs := [.ref (bs g 1), .null, .null, .null, .null, .null, .null, .null, .null, .null, .ref (bs g 3), .ref (bs g 15), .int 0, .int 0, .int 0, .int 0]) hx hb htg lays_12 tyX12 tyX12_ok nmX12 hown hZ hP hS ⟨Nat.le_refl _, (Nat.le_of_ble_eq_true rfl)⟩ hcf.1 rfl 1 (by decide) lf_X12_31 (hsame := rfl) (hin2 := hin) (hfin := rfl) (hdecl := rfl) (v := .ref (bs g 27)) rfl rfl (Nat.le_of_ble_eq_true rfl) dX12_init_53 (fun H locs hP hS => ?_)
  have hcf : cfw g 0 28 0 (sR τ2 27 1 (some 15)) (va_up f 0 (Sum.inr (10, [.ref (bs g 1), .ref (bs g 27), .null, .null, .null, .null, .null, .null, .null, .null, .ref (bs g 3), .ref (bs g 15), .int 0, .int 0, .int 0, .int 0]) : va_E)) (Sum.inr (10, [.ref (bs g 1), .ref (bs g 27), .null, .null, .null, .null, .null, .null, .null, .null, .ref (bs g 3), .ref (bs g 15), .int 0, .int 0, .int 0, .int 0]) : va_E) := hcf.put
  have hP : va_P g.1 vwCl (wc g 0 28 (va_up f 0 (Sum.inr (10, [.ref (bs g 1), .ref (bs g 27), .null, .null, .null, .null, .null, .null, .null, .null, .ref (bs g 3), .ref (bs g 15), .int 0, .int 0, .int 0, .int 0]) : va_E))) H := hP
  generalize va_up f 0 (Sum.inr (10, [.ref (bs g 1), .ref (bs g 27), .null, .null, .null, .null, .null, .null, .null, .null, .ref (bs g 3), .ref (bs g 15), .int 0, .int 0, .int 0, .int 0]) : va_E) = f at hP hcf
  refine lv_aload_n hx hb dX12_init_56 rfl (lv_at hl 0 rfl) ?_
  refine cnew (n := 28) (ci := 7) (fs := [.null, .int 0, .int 0, .null, .null]) hx hb htg lays_9 tyX9 tyX9_ok hown lcl_X12_35 lin_X9 ini_X9 hZ hP (Nat.le_of_ble_eq_true rfl) (by rw [hsz]; exact bs_add g (0 + 1) _) hS rfl (fun j hj => by rcases (show j = 0 ∨ j = 1 ∨ j = 2 ∨ j = 3 ∨ j = 4 by omega) with rfl | rfl | rfl | rfl | rfl <;> rfl) (Nat.le_of_ble_eq_true rfl) (Nat.le_of_ble_eq_true rfl) dX12_init_57 (fun H hP hS hH => ?_)
  have hf0 : va_up f 28 (.inr (7, [.null, .int 0, .int 0, .null, .null])) 0 = .inr (10, [.ref (bs g 1), .ref (bs g 27), .null, .null, .null, .null, .null, .null, .null, .null, .ref (bs g 3), .ref (bs g 15), .int 0, .int 0, .int 0, .int 0]) := by rw [va_up, if_neg (by decide)]; exact hcf.1
  refine lv_dup hx hb dX12_init_60 rfl ?_
  refine lv_aload_n hx hb dX12_init_61 rfl (lv_at hl 0 rfl) ?_
  refine cget (ci := 10) (C := RX12) (T := TX12) (N := 16) (k := 0) (fs := [.ref (bs g 1), .ref (bs g 27), .null, .null, .null, .null, .null, .null, .null, .null, .ref (bs g 3), .ref (bs g 15), .int 0, .int 0, .int 0, .int 0]) hx hb htg lays_12 hown hZ hP ⟨Nat.le_refl _, (Nat.le_of_ble_eq_true rfl)⟩ hf0 rfl 10 (by decide) lf_X12_19 rfl rfl dX12_init_62 ?_
  have hC := c_X9_init g l 1 28 (sR τ2 27 1 (some 15)) rfl (Nat.le_of_ble_eq_true rfl) hz28 3 ⟨rfl, (Nat.le_of_ble_eq_true rfl), (Nat.le_of_ble_eq_true rfl)⟩ τ3 hh3
  have hw0 := hcf.sub (lo2 := 1) (Nat.le_of_ble_eq_true rfl) (Nat.zero_le _) hP
  refine va_callv (va_runI (As := [.ref (bs g 3)]) (rest := [.ref (bs g 28), .ref (bs g 0)]) ⟨hx, hb, hml, hown, hts⟩ hC (cl_X12_37 hts ⟨(Nat.le_of_ble_eq_true rfl), (Nat.le_of_ble_eq_true rfl)⟩) ⟨CP.blind g _ _ (sR τ2 27 1 (some 15)) _ _, fun U hU hW => ⟨rfl, ⟨va_K.moved hW.alike hZ.1, NU.warm hW hZ.2⟩, ST.moved hW.alike (hT.kept (fun a h1 h2 => by rw [hU]; exact hS.2.1 a h1 (fun q => h2 (ag_a0 g 0 a q)))), by rw [hU]; exact hH, by rw [hU]; exact hw0, hTR, va_AO.moved hW.alike hAO⟩⟩ rfl rfl hl.1 rfl (lv_room (Nat.le_of_ble_eq_true rfl)) dX12_init_65 ⟨(Nat.le_of_ble_eq_true rfl), (Nat.le_of_ble_eq_true rfl)⟩) hS (fun q _ h => agle g (Nat.zero_le _) q h) (fun q h => agle g (Nat.zero_le _) q h) (fun u t H1 locs1 ht hvm hp hB hzz hkk hS1 => ?_)
  have hB1 := hB.2.2
  rw [ht, hp] at hB1
  clear hf0
  obtain ⟨f, hcf, hP⟩ := hcf.glue (k2 := 1) (n2 := 32) (τ := τ3) (Nat.le_of_ble_eq_true rfl) (Nat.le_of_ble_eq_true rfl) (Nat.le_of_ble_eq_true rfl) (cfw.cut hP) hkk hB1.1 (fun i h1 h2 h3 => absurd h1 (by omega))
  have hTR : TR 1 32 τ3 := hB1.2
  have hS := hS1
  generalize H1 = H at hP hS
  generalize locs1 = locs at hS
  clear hw0 hC hB hB1 hkk hS1 hp ht hvm hzz
  refine cputF (ci := 10) (C := RX12) (T := TX12) (N := 16) (k := 0) (fs := [.ref (bs g 1), .ref (bs g 27), .null, .null, .null, .null, .null, .null, .null, .null, .ref (bs g 3), .ref (bs g 15), .int 0, .int 0, .int 0, .int 0]) hx hb htg lays_12 tyX12 tyX12_ok nmX12 hown hZ hP hS ⟨Nat.le_refl _, (Nat.le_of_ble_eq_true rfl)⟩ hcf.1 rfl 2 (by decide) lf_X12_40 (hsame := rfl) (hin2 := hin) (hfin := rfl) (hdecl := rfl) (v := .ref (bs g 28)) rfl rfl (Nat.le_of_ble_eq_true rfl) dX12_init_68 (fun H locs hP hS => ?_)
  have hcf : cfw g 0 32 0 τ3 (va_up f 0 (Sum.inr (10, [.ref (bs g 1), .ref (bs g 27), .ref (bs g 28), .null, .null, .null, .null, .null, .null, .null, .ref (bs g 3), .ref (bs g 15), .int 0, .int 0, .int 0, .int 0]) : va_E)) (Sum.inr (10, [.ref (bs g 1), .ref (bs g 27), .ref (bs g 28), .null, .null, .null, .null, .null, .null, .null, .ref (bs g 3), .ref (bs g 15), .int 0, .int 0, .int 0, .int 0]) : va_E) := hcf.put
  have hP : va_P g.1 vwCl (wc g 0 32 (va_up f 0 (Sum.inr (10, [.ref (bs g 1), .ref (bs g 27), .ref (bs g 28), .null, .null, .null, .null, .null, .null, .null, .ref (bs g 3), .ref (bs g 15), .int 0, .int 0, .int 0, .int 0]) : va_E))) H := hP
  generalize va_up f 0 (Sum.inr (10, [.ref (bs g 1), .ref (bs g 27), .ref (bs g 28), .null, .null, .null, .null, .null, .null, .null, .ref (bs g 3), .ref (bs g 15), .int 0, .int 0, .int 0, .int 0]) : va_E) = f at hP hcf
  refine lv_aload_n hx hb dX12_init_71 rfl (lv_at hl 0 rfl) ?_
  refine cnew (n := 32) (ci := 7) (fs := [.null, .int 0, .int 0, .null, .null]) hx hb htg lays_9 tyX9 tyX9_ok hown lcl_X12_35 lin_X9 ini_X9 hZ hP (Nat.le_of_ble_eq_true rfl) (by rw [hsz]; exact bs_add g (0 + 1) _) hS rfl (fun j hj => by rcases (show j = 0 ∨ j = 1 ∨ j = 2 ∨ j = 3 ∨ j = 4 by omega) with rfl | rfl | rfl | rfl | rfl <;> rfl) (Nat.le_of_ble_eq_true rfl) (Nat.le_of_ble_eq_true rfl) dX12_init_72 (fun H hP hS hH => ?_)
  have hf0 : va_up f 32 (.inr (7, [.null, .int 0, .int 0, .null, .null])) 0 = .inr (10, [.ref (bs g 1), .ref (bs g 27), .ref (bs g 28), .null, .null, .null, .null, .null, .null, .null, .ref (bs g 3), .ref (bs g 15), .int 0, .int 0, .int 0, .int 0]) := by rw [va_up, if_neg (by decide)]; exact hcf.1
  refine lv_dup hx hb dX12_init_75 rfl ?_
  refine lv_aload_n hx hb dX12_init_76 rfl (lv_at hl 0 rfl) ?_
  refine cget (ci := 10) (C := RX12) (T := TX12) (N := 16) (k := 0) (fs := [.ref (bs g 1), .ref (bs g 27), .ref (bs g 28), .null, .null, .null, .null, .null, .null, .null, .ref (bs g 3), .ref (bs g 15), .int 0, .int 0, .int 0, .int 0]) hx hb htg lays_12 hown hZ hP ⟨Nat.le_refl _, (Nat.le_of_ble_eq_true rfl)⟩ hf0 rfl 10 (by decide) lf_X12_19 rfl rfl dX12_init_77 ?_
  have hC := c_X9_init g l 1 32 τ3 rfl (Nat.le_of_ble_eq_true rfl) hz32 3 ⟨rfl, (Nat.le_of_ble_eq_true rfl), (Nat.le_of_ble_eq_true rfl)⟩ τ4 hh4
  have hw0 := hcf.sub (lo2 := 1) (Nat.le_of_ble_eq_true rfl) (Nat.zero_le _) hP
  refine va_callv (va_runI (As := [.ref (bs g 3)]) (rest := [.ref (bs g 32), .ref (bs g 0)]) ⟨hx, hb, hml, hown, hts⟩ hC (cl_X12_37 hts ⟨(Nat.le_of_ble_eq_true rfl), (Nat.le_of_ble_eq_true rfl)⟩) ⟨CP.blind g _ _ τ3 _ _, fun U hU hW => ⟨rfl, ⟨va_K.moved hW.alike hZ.1, NU.warm hW hZ.2⟩, ST.moved hW.alike (hT.kept (fun a h1 h2 => by rw [hU]; exact hS.2.1 a h1 (fun q => h2 (ag_a0 g 0 a q)))), by rw [hU]; exact hH, by rw [hU]; exact hw0, hTR, va_AO.moved hW.alike hAO⟩⟩ rfl rfl hl.1 rfl (lv_room (Nat.le_of_ble_eq_true rfl)) dX12_init_80 ⟨(Nat.le_of_ble_eq_true rfl), (Nat.le_of_ble_eq_true rfl)⟩) hS (fun q _ h => agle g (Nat.zero_le _) q h) (fun q h => agle g (Nat.zero_le _) q h) (fun u t H1 locs1 ht hvm hp hB hzz hkk hS1 => ?_)
  have hB1 := hB.2.2
  rw [ht, hp] at hB1
  clear hf0
  obtain ⟨f, hcf, hP⟩ := hcf.glue (k2 := 1) (n2 := 36) (τ := τ4) (Nat.le_of_ble_eq_true rfl) (Nat.le_of_ble_eq_true rfl) (Nat.le_of_ble_eq_true rfl) (cfw.cut hP) hkk hB1.1 (fun i h1 h2 h3 => absurd h1 (by omega))
  have hTR : TR 1 36 τ4 := hB1.2
  have hS := hS1
  generalize H1 = H at hP hS
  generalize locs1 = locs at hS
  clear hw0 hC hB hB1 hkk hS1 hp ht hvm hzz
  refine cputF (ci := 10) (C := RX12) (T := TX12) (N := 16) (k := 0) (fs := [.ref (bs g 1), .ref (bs g 27), .ref (bs g 28), .null, .null, .null, .null, .null, .null, .null, .ref (bs g 3), .ref (bs g 15), .int 0, .int 0, .int 0, .int 0]) hx hb htg lays_12 tyX12 tyX12_ok nmX12 hown hZ hP hS ⟨Nat.le_refl _, (Nat.le_of_ble_eq_true rfl)⟩ hcf.1 rfl 3 (by decide) lf_X12_44 (hsame := rfl) (hin2 := hin) (hfin := rfl) (hdecl := rfl) (v := .ref (bs g 32)) rfl rfl (Nat.le_of_ble_eq_true rfl) dX12_init_83 (fun H locs hP hS => ?_)
  have hcf : cfw g 0 36 0 τ4 (va_up f 0 (Sum.inr (10, [.ref (bs g 1), .ref (bs g 27), .ref (bs g 28), .ref (bs g 32), .null, .null, .null, .null, .null, .null, .ref (bs g 3), .ref (bs g 15), .int 0, .int 0, .int 0, .int 0]) : va_E)) (Sum.inr (10, [.ref (bs g 1), .ref (bs g 27), .ref (bs g 28), .ref (bs g 32), .null, .null, .null, .null, .null, .null, .ref (bs g 3), .ref (bs g 15), .int 0, .int 0, .int 0, .int 0]) : va_E) := hcf.put
  have hP : va_P g.1 vwCl (wc g 0 36 (va_up f 0 (Sum.inr (10, [.ref (bs g 1), .ref (bs g 27), .ref (bs g 28), .ref (bs g 32), .null, .null, .null, .null, .null, .null, .ref (bs g 3), .ref (bs g 15), .int 0, .int 0, .int 0, .int 0]) : va_E))) H := hP
  generalize va_up f 0 (Sum.inr (10, [.ref (bs g 1), .ref (bs g 27), .ref (bs g 28), .ref (bs g 32), .null, .null, .null, .null, .null, .null, .ref (bs g 3), .ref (bs g 15), .int 0, .int 0, .int 0, .int 0]) : va_E) = f at hP hcf
  refine lv_aload_n hx hb dX12_init_86 rfl (lv_at hl 0 rfl) ?_
  refine lv_iconst (v := 3) hx hb dX12_init_87 (by decide) ?_
  refine cna_q (n := 36) hx hb htg hown lcl_X12_35 hAO hZ hP (Nat.le_of_ble_eq_true rfl) (by rw [hsz]; exact bs_add g (0 + 1) _) hS (by decide) (N := 3) (by decide) (by decide) (Nat.le_of_ble_eq_true rfl) (Nat.le_of_ble_eq_true rfl) dX12_init_88 (fun H hP hS hH => ?_)
  have hcf : cfw g 0 37 0 τ4 (va_up f 36 (Sum.inl (xO g, 3, .inr (.inr (.inr (.inr (fun _ => none))))) : va_E)) (.inr (10, [.ref (bs g 1), .ref (bs g 27), .ref (bs g 28), .ref (bs g 32), .null, .null, .null, .null, .null, .null, .ref (bs g 3), .ref (bs g 15), .int 0, .int 0, .int 0, .int 0])) := hcf.push (by rw [ct_23 g _ rfl, (hz36 36 (Nat.le_refl _)).2.2]; rfl)
  have hP : va_P g.1 vwCl (wc g 0 37 (va_up f 36 (Sum.inl (xO g, 3, .inr (.inr (.inr (.inr (fun _ => none))))) : va_E))) H := hP
  generalize va_up f 36 (Sum.inl (xO g, 3, .inr (.inr (.inr (.inr (fun _ => none))))) : va_E) = f at hP hcf
  have hTR : TR 1 37 τ4 := TRz hTR hz36 37 (Nat.le_of_ble_eq_true rfl)
  refine cputF (ci := 10) (C := RX12) (T := TX12) (N := 16) (k := 0) (fs := [.ref (bs g 1), .ref (bs g 27), .ref (bs g 28), .ref (bs g 32), .null, .null, .null, .null, .null, .null, .ref (bs g 3), .ref (bs g 15), .int 0, .int 0, .int 0, .int 0]) hx hb htg lays_12 tyX12 tyX12_ok nmX12 hown hZ hP hS ⟨Nat.le_refl _, (Nat.le_of_ble_eq_true rfl)⟩ hcf.1 rfl 4 (by decide) lf_X12_47 (hsame := rfl) (hin2 := hin) (hfin := rfl) (hdecl := rfl) (v := .ref (bs g 36)) rfl rfl (Nat.le_of_ble_eq_true rfl) dX12_init_91 (fun H locs hP hS => ?_)
  have hcf : cfw g 0 37 0 τ4 (va_up f 0 (Sum.inr (10, [.ref (bs g 1), .ref (bs g 27), .ref (bs g 28), .ref (bs g 32), .ref (bs g 36), .null, .null, .null, .null, .null, .ref (bs g 3), .ref (bs g 15), .int 0, .int 0, .int 0, .int 0]) : va_E)) (Sum.inr (10, [.ref (bs g 1), .ref (bs g 27), .ref (bs g 28), .ref (bs g 32), .ref (bs g 36), .null, .null, .null, .null, .null, .ref (bs g 3), .ref (bs g 15), .int 0, .int 0, .int 0, .int 0]) : va_E) := hcf.put
  have hP : va_P g.1 vwCl (wc g 0 37 (va_up f 0 (Sum.inr (10, [.ref (bs g 1), .ref (bs g 27), .ref (bs g 28), .ref (bs g 32), .ref (bs g 36), .null, .null, .null, .null, .null, .ref (bs g 3), .ref (bs g 15), .int 0, .int 0, .int 0, .int 0]) : va_E))) H := hP
  generalize va_up f 0 (Sum.inr (10, [.ref (bs g 1), .ref (bs g 27), .ref (bs g 28), .ref (bs g 32), .ref (bs g 36), .null, .null, .null, .null, .null, .ref (bs g 3), .ref (bs g 15), .int 0, .int 0, .int 0, .int 0]) : va_E) = f at hP hcf
  refine lv_iconst (v := 0) hx hb dX12_init_94 (by decide) ?_
  refine lv_istore_n (lv' := [(1, .int 0), (0, .ref (bs g 0))]) hx hb dX12_init_95 rfl hl (by decide) rfl (fun ls hl => ?_)
  refine lv_iload_n hx hb dX12_init_96 rfl (lv_at hl 0 rfl) ?_
  refine lv_aload_n hx hb dX12_init_97 rfl (lv_at hl 1 rfl) ?_
  refine cget (ci := 10) (C := RX12) (T := TX12) (N := 16) (k := 0) (fs := [.ref (bs g 1), .ref (bs g 27), .ref (bs g 28), .ref (bs g 32), .ref (bs g 36), .null, .null, .null, .null, .null, .ref (bs g 3), .ref (bs g 15), .int 0, .int 0, .int 0, .int 0]) hx hb htg lays_12 hown hZ hP ⟨Nat.le_refl _, (Nat.le_of_ble_eq_true rfl)⟩ hcf.1 rfl 4 (by decide) lf_X12_47 rfl rfl dX12_init_98 ?_
  refine va_alen hx hb hZ.1 hP (36 - 0) 3 (x := (3, .inr (.inr (.inr (.inr (fun j => (τ4.2.2 36 j).map (bs g))))))) (by rw [wc_get g f (lo := 0) (n := 37) (k := 36) ⟨Nat.zero_le _, (Nat.le_of_ble_eq_true rfl)⟩, hcf.2.2 36 (Nat.zero_le _) (Nat.le_of_ble_eq_true rfl) (by decide), ct_23 g τ4 rfl]; rfl) rfl (v := 3) rfl dX12_init_101 ?_
  refine lv_icmp_ge (tgt := 128) hx hb dX12_init_102 (by decide) (fun hc => absurd hc (show ¬ (3 : Int32) ≤ 0 from by decide)) (fun _ => ?_)
  refine lv_aload_n hx hb dX12_init_105 rfl (lv_at hl 1 rfl) ?_
  refine cget (ci := 10) (C := RX12) (T := TX12) (N := 16) (k := 0) (fs := [.ref (bs g 1), .ref (bs g 27), .ref (bs g 28), .ref (bs g 32), .ref (bs g 36), .null, .null, .null, .null, .null, .ref (bs g 3), .ref (bs g 15), .int 0, .int 0, .int 0, .int 0]) hx hb htg lays_12 hown hZ hP ⟨Nat.le_refl _, (Nat.le_of_ble_eq_true rfl)⟩ hcf.1 rfl 4 (by decide) lf_X12_47 rfl rfl dX12_init_106 ?_
  refine lv_iload_n hx hb dX12_init_109 rfl (lv_at hl 0 rfl) ?_
  refine cnew (n := 37) (ci := 7) (fs := [.null, .int 0, .int 0, .null, .null]) hx hb htg lays_9 tyX9 tyX9_ok hown lcl_X12_35 lin_X9 ini_X9 hZ hP (Nat.le_of_ble_eq_true rfl) (by rw [hsz]; exact bs_add g (0 + 1) _) hS rfl (fun j hj => by rcases (show j = 0 ∨ j = 1 ∨ j = 2 ∨ j = 3 ∨ j = 4 by omega) with rfl | rfl | rfl | rfl | rfl <;> rfl) (Nat.le_of_ble_eq_true rfl) (Nat.le_of_ble_eq_true rfl) dX12_init_110 (fun H hP hS hH => ?_)
  have hf0 : va_up f 37 (.inr (7, [.null, .int 0, .int 0, .null, .null])) 0 = .inr (10, [.ref (bs g 1), .ref (bs g 27), .ref (bs g 28), .ref (bs g 32), .ref (bs g 36), .null, .null, .null, .null, .null, .ref (bs g 3), .ref (bs g 15), .int 0, .int 0, .int 0, .int 0]) := by rw [va_up, if_neg (by decide)]; exact hcf.1
  refine lv_dup hx hb dX12_init_113 rfl ?_
  refine lv_aload_n hx hb dX12_init_114 rfl (lv_at hl 1 rfl) ?_
  refine cget (ci := 10) (C := RX12) (T := TX12) (N := 16) (k := 0) (fs := [.ref (bs g 1), .ref (bs g 27), .ref (bs g 28), .ref (bs g 32), .ref (bs g 36), .null, .null, .null, .null, .null, .ref (bs g 3), .ref (bs g 15), .int 0, .int 0, .int 0, .int 0]) hx hb htg lays_12 hown hZ hP ⟨Nat.le_refl _, (Nat.le_of_ble_eq_true rfl)⟩ hf0 rfl 10 (by decide) lf_X12_19 rfl rfl dX12_init_115 ?_
  have hC := c_X9_init g l 1 37 τ4 rfl (Nat.le_of_ble_eq_true rfl) hz37 3 ⟨rfl, (Nat.le_of_ble_eq_true rfl), (Nat.le_of_ble_eq_true rfl)⟩ τ5 hh5
  have hw0 := hcf.sub (lo2 := 1) (Nat.le_of_ble_eq_true rfl) (Nat.zero_le _) hP
  refine va_callv (va_runI (As := [.ref (bs g 3)]) (rest := [.ref (bs g 37), .int 0, .ref (bs g 36)]) ⟨hx, hb, hml, hown, hts⟩ hC (cl_X12_37 hts ⟨(Nat.le_of_ble_eq_true rfl), (Nat.le_of_ble_eq_true rfl)⟩) ⟨CP.blind g _ _ τ4 _ _, fun U hU hW => ⟨rfl, ⟨va_K.moved hW.alike hZ.1, NU.warm hW hZ.2⟩, ST.moved hW.alike (hT.kept (fun a h1 h2 => by rw [hU]; exact hS.2.1 a h1 (fun q => h2 (ag_a0 g 0 a q)))), by rw [hU]; exact hH, by rw [hU]; exact hw0, hTR, va_AO.moved hW.alike hAO⟩⟩ rfl rfl hl.1 rfl (lv_room (Nat.le_of_ble_eq_true rfl)) dX12_init_118 ⟨(Nat.le_of_ble_eq_true rfl), (Nat.le_of_ble_eq_true rfl)⟩) hS (fun q _ h => agle g (Nat.zero_le _) q h) (fun q h => agle g (Nat.zero_le _) q h) (fun u t H1 locs1 ht hvm hp hB hzz hkk hS1 => ?_)
  have hB1 := hB.2.2
  rw [ht, hp] at hB1
  clear hf0
  obtain ⟨f, hcf, hP⟩ := hcf.glue (k2 := 1) (n2 := 41) (τ := τ5) (Nat.le_of_ble_eq_true rfl) (Nat.le_of_ble_eq_true rfl) (Nat.le_of_ble_eq_true rfl) (cfw.cut hP) hkk hB1.1 (fun i h1 h2 h3 => absurd h1 (by omega))
  have hTR : TR 1 41 τ5 := hB1.2
  have hS := hS1
  generalize H1 = H at hP hS
  generalize locs1 = locs at hS
  clear hw0 hC hB hB1 hkk hS1 hp ht hvm hzz
  refine va_astq hx hb hZ.1 hP (wc_D g f 0 41) hS (36 - 0) 3 (37 - 0) 7 (r := (RX9, TX9, 5)) (n := 3) (f := fun j => (τ5.2.2 36 j).map (bs g)) (by rw [wc_get g f (lo := 0) (n := 41) (k := 36) ⟨Nat.zero_le _, (Nat.le_of_ble_eq_true rfl)⟩, hcf.2.2 36 (Nat.zero_le _) (Nat.le_of_ble_eq_true rfl) (by decide), ct_23 g τ5 rfl]; rfl) rfl (by rw [wc_get g f (lo := 0) (n := 41) (k := 37) ⟨Nat.zero_le _, (Nat.le_of_ble_eq_true rfl)⟩, hcf.2.2 37 (Nat.zero_le _) (Nat.le_of_ble_eq_true rfl) (by decide), ct_9 g τ5 rfl]) rfl (show ¬ ((0 : Int32) < 0 ∨ 3 ≤ (0 : Int32).toNatClampNeg) from by decide) dX12_init_121 (fun H1 locs1 hP1 hD1 hS1 => ?_)
  have hP1 : va_P g.1 vwCl ((wc g 0 41 f).set (36 - 0) (bs g 36, (Sum.inl (xO g, 3, .inr (.inr (.inr (.inr (va_up (fun j => (τ5.2.2 36 j).map (bs g)) (0 : Int32).toNatClampNeg (some (bs g 37))))))) : va_E))) H1 := hP1
  rw [wc_set g f (lo := 0) (n := 41) (k := 36) ⟨Nat.zero_le _, (Nat.le_of_ble_eq_true rfl)⟩] at hP1
  have hcf : cfw g 0 41 0 (sR τ5 36 0 (some 37)) (va_up f 36 (Sum.inl (xO g, 3, .inr (.inr (.inr (.inr (va_up (fun j => (τ5.2.2 36 j).map (bs g)) (0 : Int32).toNatClampNeg (some (bs g 37))))))) : va_E)) (.inr (10, [.ref (bs g 1), .ref (bs g 27), .ref (bs g 28), .ref (bs g 32), .ref (bs g 36), .null, .null, .null, .null, .null, .ref (bs g 3), .ref (bs g 15), .int 0, .int 0, .int 0, .int 0])) := hcf.sR9 (by decide) rfl 0 37 rfl
  generalize va_up f 36 (Sum.inl (xO g, 3, .inr (.inr (.inr (.inr (va_up (fun j => (τ5.2.2 36 j).map (bs g)) (0 : Int32).toNatClampNeg (some (bs g 37))))))) : va_E) = f at hP1 hcf
  have hP := hP1
  have hS := hS1
  generalize H1 = H at hP hS
  generalize locs1 = locs at hS
  clear hP1 hS1 hD1
  have hTR : TR 1 41 (sR τ5 36 0 (some 37)) := TR_sR9 hTR 0 rfl ⟨rfl, (Nat.le_of_ble_eq_true rfl), (Nat.le_of_ble_eq_true rfl)⟩
  refine lv_iinc (v := 1) (lv' := [(1, .int 1), (0, .ref (bs g 0))]) hx hb dX12_init_122 hl (k := 0) rfl rfl (by decide) rfl (fun ls hl => ?_)
  refine lv_goto (tgt := 96) hx hb dX12_init_125 (by decide) ?_
  refine lv_iload_n hx hb dX12_init_96 rfl (lv_at hl 0 rfl) ?_
  refine lv_aload_n hx hb dX12_init_97 rfl (lv_at hl 1 rfl) ?_
  refine cget (ci := 10) (C := RX12) (T := TX12) (N := 16) (k := 0) (fs := [.ref (bs g 1), .ref (bs g 27), .ref (bs g 28), .ref (bs g 32), .ref (bs g 36), .null, .null, .null, .null, .null, .ref (bs g 3), .ref (bs g 15), .int 0, .int 0, .int 0, .int 0]) hx hb htg lays_12 hown hZ hP ⟨Nat.le_refl _, (Nat.le_of_ble_eq_true rfl)⟩ hcf.1 rfl 4 (by decide) lf_X12_47 rfl rfl dX12_init_98 ?_
  refine va_alen hx hb hZ.1 hP (36 - 0) 3 (x := (3, .inr (.inr (.inr (.inr (fun j => ((sR τ5 36 0 (some 37)).2.2 36 j).map (bs g))))))) (by rw [wc_get g f (lo := 0) (n := 41) (k := 36) ⟨Nat.zero_le _, (Nat.le_of_ble_eq_true rfl)⟩, hcf.2.2 36 (Nat.zero_le _) (Nat.le_of_ble_eq_true rfl) (by decide), ct_23 g (sR τ5 36 0 (some 37)) rfl]; rfl) rfl (v := 3) rfl dX12_init_101 ?_
  refine lv_icmp_ge (tgt := 128) hx hb dX12_init_102 (by decide) (fun hc => absurd hc (show ¬ (3 : Int32) ≤ 1 from by decide)) (fun _ => ?_)
  refine lv_aload_n hx hb dX12_init_105 rfl (lv_at hl 1 rfl) ?_
  refine cget (ci := 10) (C := RX12) (T := TX12) (N := 16) (k := 0) (fs := [.ref (bs g 1), .ref (bs g 27), .ref (bs g 28), .ref (bs g 32), .ref (bs g 36), .null, .null, .null, .null, .null, .ref (bs g 3), .ref (bs g 15), .int 0, .int 0, .int 0, .int 0]) hx hb htg lays_12 hown hZ hP ⟨Nat.le_refl _, (Nat.le_of_ble_eq_true rfl)⟩ hcf.1 rfl 4 (by decide) lf_X12_47 rfl rfl dX12_init_106 ?_
  refine lv_iload_n hx hb dX12_init_109 rfl (lv_at hl 0 rfl) ?_
  refine cnew (n := 41) (ci := 7) (fs := [.null, .int 0, .int 0, .null, .null]) hx hb htg lays_9 tyX9 tyX9_ok hown lcl_X12_35 lin_X9 ini_X9 hZ hP (Nat.le_of_ble_eq_true rfl) (by rw [hsz]; exact bs_add g (0 + 1) _) hS rfl (fun j hj => by rcases (show j = 0 ∨ j = 1 ∨ j = 2 ∨ j = 3 ∨ j = 4 by omega) with rfl | rfl | rfl | rfl | rfl <;> rfl) (Nat.le_of_ble_eq_true rfl) (Nat.le_of_ble_eq_true rfl) dX12_init_110 (fun H hP hS hH => ?_)
  have hf0 : va_up f 41 (.inr (7, [.null, .int 0, .int 0, .null, .null])) 0 = .inr (10, [.ref (bs g 1), .ref (bs g 27), .ref (bs g 28), .ref (bs g 32), .ref (bs g 36), .null, .null, .null, .null, .null, .ref (bs g 3), .ref (bs g 15), .int 0, .int 0, .int 0, .int 0]) := by rw [va_up, if_neg (by decide)]; exact hcf.1
  refine lv_dup hx hb dX12_init_113 rfl ?_
  refine lv_aload_n hx hb dX12_init_114 rfl (lv_at hl 1 rfl) ?_
  refine cget (ci := 10) (C := RX12) (T := TX12) (N := 16) (k := 0) (fs := [.ref (bs g 1), .ref (bs g 27), .ref (bs g 28), .ref (bs g 32), .ref (bs g 36), .null, .null, .null, .null, .null, .ref (bs g 3), .ref (bs g 15), .int 0, .int 0, .int 0, .int 0]) hx hb htg lays_12 hown hZ hP ⟨Nat.le_refl _, (Nat.le_of_ble_eq_true rfl)⟩ hf0 rfl 10 (by decide) lf_X12_19 rfl rfl dX12_init_115 ?_
  have hC := c_X9_init g l 1 41 (sR τ5 36 0 (some 37)) rfl (Nat.le_of_ble_eq_true rfl) hz41 3 ⟨rfl, (Nat.le_of_ble_eq_true rfl), (Nat.le_of_ble_eq_true rfl)⟩ τ6 hh6
  have hw0 := hcf.sub (lo2 := 1) (Nat.le_of_ble_eq_true rfl) (Nat.zero_le _) hP
  refine va_callv (va_runI (As := [.ref (bs g 3)]) (rest := [.ref (bs g 41), .int 1, .ref (bs g 36)]) ⟨hx, hb, hml, hown, hts⟩ hC (cl_X12_37 hts ⟨(Nat.le_of_ble_eq_true rfl), (Nat.le_of_ble_eq_true rfl)⟩) ⟨CP.blind g _ _ (sR τ5 36 0 (some 37)) _ _, fun U hU hW => ⟨rfl, ⟨va_K.moved hW.alike hZ.1, NU.warm hW hZ.2⟩, ST.moved hW.alike (hT.kept (fun a h1 h2 => by rw [hU]; exact hS.2.1 a h1 (fun q => h2 (ag_a0 g 0 a q)))), by rw [hU]; exact hH, by rw [hU]; exact hw0, hTR, va_AO.moved hW.alike hAO⟩⟩ rfl rfl hl.1 rfl (lv_room (Nat.le_of_ble_eq_true rfl)) dX12_init_118 ⟨(Nat.le_of_ble_eq_true rfl), (Nat.le_of_ble_eq_true rfl)⟩) hS (fun q _ h => agle g (Nat.zero_le _) q h) (fun q h => agle g (Nat.zero_le _) q h) (fun u t H1 locs1 ht hvm hp hB hzz hkk hS1 => ?_)
  have hB1 := hB.2.2
  rw [ht, hp] at hB1
  clear hf0
  obtain ⟨f, hcf, hP⟩ := hcf.glue (k2 := 1) (n2 := 45) (τ := τ6) (Nat.le_of_ble_eq_true rfl) (Nat.le_of_ble_eq_true rfl) (Nat.le_of_ble_eq_true rfl) (cfw.cut hP) hkk hB1.1 (fun i h1 h2 h3 => absurd h1 (by omega))
  have hTR : TR 1 45 τ6 := hB1.2
  have hS := hS1
  generalize H1 = H at hP hS
  generalize locs1 = locs at hS
  clear hw0 hC hB hB1 hkk hS1 hp ht hvm hzz
  refine va_astq hx hb hZ.1 hP (wc_D g f 0 45) hS (36 - 0) 3 (41 - 0) 7 (r := (RX9, TX9, 5)) (n := 3) (f := fun j => (τ6.2.2 36 j).map (bs g)) (by rw [wc_get g f (lo := 0) (n := 45) (k := 36) ⟨Nat.zero_le _, (Nat.le_of_ble_eq_true rfl)⟩, hcf.2.2 36 (Nat.zero_le _) (Nat.le_of_ble_eq_true rfl) (by decide), ct_23 g τ6 rfl]; rfl) rfl (by rw [wc_get g f (lo := 0) (n := 45) (k := 41) ⟨Nat.zero_le _, (Nat.le_of_ble_eq_true rfl)⟩, hcf.2.2 41 (Nat.zero_le _) (Nat.le_of_ble_eq_true rfl) (by decide), ct_9 g τ6 rfl]) rfl (show ¬ ((1 : Int32) < 0 ∨ 3 ≤ (1 : Int32).toNatClampNeg) from by decide) dX12_init_121 (fun H1 locs1 hP1 hD1 hS1 => ?_)
  have hP1 : va_P g.1 vwCl ((wc g 0 45 f).set (36 - 0) (bs g 36, (Sum.inl (xO g, 3, .inr (.inr (.inr (.inr (va_up (fun j => (τ6.2.2 36 j).map (bs g)) (1 : Int32).toNatClampNeg (some (bs g 41))))))) : va_E))) H1 := hP1
  rw [wc_set g f (lo := 0) (n := 45) (k := 36) ⟨Nat.zero_le _, (Nat.le_of_ble_eq_true rfl)⟩] at hP1
  have hcf : cfw g 0 45 0 (sR τ6 36 1 (some 41)) (va_up f 36 (Sum.inl (xO g, 3, .inr (.inr (.inr (.inr (va_up (fun j => (τ6.2.2 36 j).map (bs g)) (1 : Int32).toNatClampNeg (some (bs g 41))))))) : va_E)) (.inr (10, [.ref (bs g 1), .ref (bs g 27), .ref (bs g 28), .ref (bs g 32), .ref (bs g 36), .null, .null, .null, .null, .null, .ref (bs g 3), .ref (bs g 15), .int 0, .int 0, .int 0, .int 0])) := hcf.sR9 (by decide) rfl 1 41 rfl
  generalize va_up f 36 (Sum.inl (xO g, 3, .inr (.inr (.inr (.inr (va_up (fun j => (τ6.2.2 36 j).map (bs g)) (1 : Int32).toNatClampNeg (some (bs g 41))))))) : va_E) = f at hP1 hcf
  have hP := hP1
  have hS := hS1
  generalize H1 = H at hP hS
  generalize locs1 = locs at hS
  clear hP1 hS1 hD1
  have hTR : TR 1 45 (sR τ6 36 1 (some 41)) := TR_sR9 hTR 1 rfl ⟨rfl, (Nat.le_of_ble_eq_true rfl), (Nat.le_of_ble_eq_true rfl)⟩
  refine lv_iinc (v := 2) (lv' := [(1, .int 2), (0, .ref (bs g 0))]) hx hb dX12_init_122 hl (k := 0) rfl rfl (by decide) rfl (fun ls hl => ?_)
  refine lv_goto (tgt := 96) hx hb dX12_init_125 (by decide) ?_
  refine lv_iload_n hx hb dX12_init_96 rfl (lv_at hl 0 rfl) ?_
  refine lv_aload_n hx hb dX12_init_97 rfl (lv_at hl 1 rfl) ?_
  refine cget (ci := 10) (C := RX12) (T := TX12) (N := 16) (k := 0) (fs := [.ref (bs g 1), .ref (bs g 27), .ref (bs g 28), .ref (bs g 32), .ref (bs g 36), .null, .null, .null, .null, .null, .ref (bs g 3), .ref (bs g 15), .int 0, .int 0, .int 0, .int 0]) hx hb htg lays_12 hown hZ hP ⟨Nat.le_refl _, (Nat.le_of_ble_eq_true rfl)⟩ hcf.1 rfl 4 (by decide) lf_X12_47 rfl rfl dX12_init_98 ?_
  refine va_alen hx hb hZ.1 hP (36 - 0) 3 (x := (3, .inr (.inr (.inr (.inr (fun j => ((sR τ6 36 1 (some 41)).2.2 36 j).map (bs g))))))) (by rw [wc_get g f (lo := 0) (n := 45) (k := 36) ⟨Nat.zero_le _, (Nat.le_of_ble_eq_true rfl)⟩, hcf.2.2 36 (Nat.zero_le _) (Nat.le_of_ble_eq_true rfl) (by decide), ct_23 g (sR τ6 36 1 (some 41)) rfl]; rfl) rfl (v := 3) rfl dX12_init_101 ?_
  refine lv_icmp_ge (tgt := 128) hx hb dX12_init_102 (by decide) (fun hc => absurd hc (show ¬ (3 : Int32) ≤ 2 from by decide)) (fun _ => ?_)
  refine lv_aload_n hx hb dX12_init_105 rfl (lv_at hl 1 rfl) ?_
  refine cget (ci := 10) (C := RX12) (T := TX12) (N := 16) (k := 0) (fs := [.ref (bs g 1), .ref (bs g 27), .ref (bs g 28), .ref (bs g 32), .ref (bs g 36), .null, .null, .null, .null, .null, .ref (bs g 3), .ref (bs g 15), .int 0, .int 0, .int 0, .int 0]) hx hb htg lays_12 hown hZ hP ⟨Nat.le_refl _, (Nat.le_of_ble_eq_true rfl)⟩ hcf.1 rfl 4 (by decide) lf_X12_47 rfl rfl dX12_init_106 ?_
  refine lv_iload_n hx hb dX12_init_109 rfl (lv_at hl 0 rfl) ?_
  refine cnew (n := 45) (ci := 7) (fs := [.null, .int 0, .int 0, .null, .null]) hx hb htg lays_9 tyX9 tyX9_ok hown lcl_X12_35 lin_X9 ini_X9 hZ hP (Nat.le_of_ble_eq_true rfl) (by rw [hsz]; exact bs_add g (0 + 1) _) hS rfl (fun j hj => by rcases (show j = 0 ∨ j = 1 ∨ j = 2 ∨ j = 3 ∨ j = 4 by omega) with rfl | rfl | rfl | rfl | rfl <;> rfl) (Nat.le_of_ble_eq_true rfl) (Nat.le_of_ble_eq_true rfl) dX12_init_110 (fun H hP hS hH => ?_)
  have hf0 : va_up f 45 (.inr (7, [.null, .int 0, .int 0, .null, .null])) 0 = .inr (10, [.ref (bs g 1), .ref (bs g 27), .ref (bs g 28), .ref (bs g 32), .ref (bs g 36), .null, .null, .null, .null, .null, .ref (bs g 3), .ref (bs g 15), .int 0, .int 0, .int 0, .int 0]) := by rw [va_up, if_neg (by decide)]; exact hcf.1
  refine lv_dup hx hb dX12_init_113 rfl ?_
  refine lv_aload_n hx hb dX12_init_114 rfl (lv_at hl 1 rfl) ?_
  refine cget (ci := 10) (C := RX12) (T := TX12) (N := 16) (k := 0) (fs := [.ref (bs g 1), .ref (bs g 27), .ref (bs g 28), .ref (bs g 32), .ref (bs g 36), .null, .null, .null, .null, .null, .ref (bs g 3), .ref (bs g 15), .int 0, .int 0, .int 0, .int 0]) hx hb htg lays_12 hown hZ hP ⟨Nat.le_refl _, (Nat.le_of_ble_eq_true rfl)⟩ hf0 rfl 10 (by decide) lf_X12_19 rfl rfl dX12_init_115 ?_
  have hC := c_X9_init g l 1 45 (sR τ6 36 1 (some 41)) rfl (Nat.le_of_ble_eq_true rfl) hz45 3 ⟨rfl, (Nat.le_of_ble_eq_true rfl), (Nat.le_of_ble_eq_true rfl)⟩ τ7 hh7
  have hw0 := hcf.sub (lo2 := 1) (Nat.le_of_ble_eq_true rfl) (Nat.zero_le _) hP
  refine va_callv (va_runI (As := [.ref (bs g 3)]) (rest := [.ref (bs g 45), .int 2, .ref (bs g 36)]) ⟨hx, hb, hml, hown, hts⟩ hC (cl_X12_37 hts ⟨(Nat.le_of_ble_eq_true rfl), (Nat.le_of_ble_eq_true rfl)⟩) ⟨CP.blind g _ _ (sR τ6 36 1 (some 41)) _ _, fun U hU hW => ⟨rfl, ⟨va_K.moved hW.alike hZ.1, NU.warm hW hZ.2⟩, ST.moved hW.alike (hT.kept (fun a h1 h2 => by rw [hU]; exact hS.2.1 a h1 (fun q => h2 (ag_a0 g 0 a q)))), by rw [hU]; exact hH, by rw [hU]; exact hw0, hTR, va_AO.moved hW.alike hAO⟩⟩ rfl rfl hl.1 rfl (lv_room (Nat.le_of_ble_eq_true rfl)) dX12_init_118 ⟨(Nat.le_of_ble_eq_true rfl), (Nat.le_of_ble_eq_true rfl)⟩) hS (fun q _ h => agle g (Nat.zero_le _) q h) (fun q h => agle g (Nat.zero_le _) q h) (fun u t H1 locs1 ht hvm hp hB hzz hkk hS1 => ?_)
  have hB1 := hB.2.2
  rw [ht, hp] at hB1
  clear hf0
  obtain ⟨f, hcf, hP⟩ := hcf.glue (k2 := 1) (n2 := 49) (τ := τ7) (Nat.le_of_ble_eq_true rfl) (Nat.le_of_ble_eq_true rfl) (Nat.le_of_ble_eq_true rfl) (cfw.cut hP) hkk hB1.1 (fun i h1 h2 h3 => absurd h1 (by omega))
  have hTR : TR 1 49 τ7 := hB1.2
  have hS := hS1
  generalize H1 = H at hP hS
  generalize locs1 = locs at hS
  clear hw0 hC hB hB1 hkk hS1 hp ht hvm hzz
  refine va_astq hx hb hZ.1 hP (wc_D g f 0 49) hS (36 - 0) 3 (45 - 0) 7 (r := (RX9, TX9, 5)) (n := 3) (f := fun j => (τ7.2.2 36 j).map (bs g)) (by rw [wc_get g f (lo := 0) (n := 49) (k := 36) ⟨Nat.zero_le _, (Nat.le_of_ble_eq_true rfl)⟩, hcf.2.2 36 (Nat.zero_le _) (Nat.le_of_ble_eq_true rfl) (by decide), ct_23 g τ7 rfl]; rfl) rfl (by rw [wc_get g f (lo := 0) (n := 49) (k := 45) ⟨Nat.zero_le _, (Nat.le_of_ble_eq_true rfl)⟩, hcf.2.2 45 (Nat.zero_le _) (Nat.le_of_ble_eq_true rfl) (by decide), ct_9 g τ7 rfl]) rfl (show ¬ ((2 : Int32) < 0 ∨ 3 ≤ (2 : Int32).toNatClampNeg) from by decide) dX12_init_121 (fun H1 locs1 hP1 hD1 hS1 => ?_)
  have hP1 : va_P g.1 vwCl ((wc g 0 49 f).set (36 - 0) (bs g 36, (Sum.inl (xO g, 3, .inr (.inr (.inr (.inr (va_up (fun j => (τ7.2.2 36 j).map (bs g)) (2 : Int32).toNatClampNeg (some (bs g 45))))))) : va_E))) H1 := hP1
  rw [wc_set g f (lo := 0) (n := 49) (k := 36) ⟨Nat.zero_le _, (Nat.le_of_ble_eq_true rfl)⟩] at hP1
  have hcf : cfw g 0 49 0 (sR τ7 36 2 (some 45)) (va_up f 36 (Sum.inl (xO g, 3, .inr (.inr (.inr (.inr (va_up (fun j => (τ7.2.2 36 j).map (bs g)) (2 : Int32).toNatClampNeg (some (bs g 45))))))) : va_E)) (.inr (10, [.ref (bs g 1), .ref (bs g 27), .ref (bs g 28), .ref (bs g 32), .ref (bs g 36), .null, .null, .null, .null, .null, .ref (bs g 3), .ref (bs g 15), .int 0, .int 0, .int 0, .int 0])) := hcf.sR9 (by decide) rfl 2 45 rfl
  generalize va_up f 36 (Sum.inl (xO g, 3, .inr (.inr (.inr (.inr (va_up (fun j => (τ7.2.2 36 j).map (bs g)) (2 : Int32).toNatClampNeg (some (bs g 45))))))) : va_E) = f at hP1 hcf
  have hP := hP1
  have hS := hS1
  generalize H1 = H at hP hS
  generalize locs1 = locs at hS
  clear hP1 hS1 hD1
  have hTR : TR 1 49 (sR τ7 36 2 (some 45)) := TR_sR9 hTR 2 rfl ⟨rfl, (Nat.le_of_ble_eq_true rfl), (Nat.le_of_ble_eq_true rfl)⟩
  refine lv_iinc (v := 3) (lv' := [(1, .int 3), (0, .ref (bs g 0))]) hx hb dX12_init_122 hl (k := 0) rfl rfl (by decide) rfl (fun ls hl => ?_)
  refine lv_goto (tgt := 96) hx hb dX12_init_125 (by decide) ?_
  refine lv_iload_n hx hb dX12_init_96 rfl (lv_at hl 0 rfl) ?_
  refine lv_aload_n hx hb dX12_init_97 rfl (lv_at hl 1 rfl) ?_
  refine cget (ci := 10) (C := RX12) (T := TX12) (N := 16) (k := 0) (fs := [.ref (bs g 1), .ref (bs g 27), .ref (bs g 28), .ref (bs g 32), .ref (bs g 36), .null, .null, .null, .null, .null, .ref (bs g 3), .ref (bs g 15), .int 0, .int 0, .int 0, .int 0]) hx hb htg lays_12 hown hZ hP ⟨Nat.le_refl _, (Nat.le_of_ble_eq_true rfl)⟩ hcf.1 rfl 4 (by decide) lf_X12_47 rfl rfl dX12_init_98 ?_
  refine va_alen hx hb hZ.1 hP (36 - 0) 3 (x := (3, .inr (.inr (.inr (.inr (fun j => ((sR τ7 36 2 (some 45)).2.2 36 j).map (bs g))))))) (by rw [wc_get g f (lo := 0) (n := 49) (k := 36) ⟨Nat.zero_le _, (Nat.le_of_ble_eq_true rfl)⟩, hcf.2.2 36 (Nat.zero_le _) (Nat.le_of_ble_eq_true rfl) (by decide), ct_23 g (sR τ7 36 2 (some 45)) rfl]; rfl) rfl (v := 3) rfl dX12_init_101 ?_
  refine lv_icmp_ge (tgt := 128) hx hb dX12_init_102 (by decide) (fun _ => ?_) (fun hc => absurd (show (3 : Int32) ≤ 3 from by decide) hc)
  refine lv_aload_n hx hb dX12_init_128 rfl (lv_at hl 1 rfl) ?_
  refine cnew (n := 49) (ci := 0) (fs := [.null, .int 0]) hx hb htg lays_1 tyX1 tyX1_ok hown lcl_X12_51 lin_X1 ini_X1 hZ hP (Nat.le_of_ble_eq_true rfl) (by rw [hsz]; exact bs_add g (0 + 1) _) hS rfl (fun j hj => by rcases (show j = 0 ∨ j = 1 by omega) with rfl | rfl <;> rfl) (Nat.le_of_ble_eq_true rfl) (Nat.le_of_ble_eq_true rfl) dX12_init_129 (fun H hP hS hH => ?_)
  have hf0 : va_up f 49 (.inr (0, [.null, .int 0])) 0 = .inr (10, [.ref (bs g 1), .ref (bs g 27), .ref (bs g 28), .ref (bs g 32), .ref (bs g 36), .null, .null, .null, .null, .null, .ref (bs g 3), .ref (bs g 15), .int 0, .int 0, .int 0, .int 0]) := by rw [va_up, if_neg (by decide)]; exact hcf.1
  refine lv_dup hx hb dX12_init_132 rfl ?_
  have hC := c_X1_init g l 1 49 (sR τ7 36 2 (some 45)) rfl (Nat.le_of_ble_eq_true rfl) hz49
  have hw0 := hcf.sub (lo2 := 1) (Nat.le_of_ble_eq_true rfl) (Nat.zero_le _) hP
  refine va_callv (va_runIN (As := []) (rest := [.ref (bs g 49), .ref (bs g 0)]) ⟨hx, hb, hml, hown, hts⟩ hC (cl_X12_53 hts hZ ⟨(Nat.le_of_ble_eq_true rfl), (Nat.le_of_ble_eq_true rfl)⟩) ⟨CP.blind g _ _ (sR τ7 36 2 (some 45)) _ _, fun U hU hW => ⟨rfl, ⟨va_K.moved hW.alike hZ.1, NU.warm hW hZ.2⟩, ST.moved hW.alike (hT.kept (fun a h1 h2 => by rw [hU]; exact hS.2.1 a h1 (fun q => h2 (ag_a0 g 0 a q)))), by rw [hU]; exact hH, by rw [hU]; exact hw0, hTR, va_AO.moved hW.alike hAO⟩⟩ rfl rfl hl.1 rfl (lv_room (Nat.le_of_ble_eq_true rfl)) dX12_init_133 ⟨(Nat.le_of_ble_eq_true rfl), (Nat.le_of_ble_eq_true rfl)⟩) hS (fun q _ h => agle g (Nat.zero_le _) q h) (fun q h => agle g (Nat.zero_le _) q h) (fun u t H1 locs1 ht hvm hp hB hzz hkk hS1 => ?_)
  have hB1 := hB.2.2
  rw [ht, hp] at hB1
  clear hf0
  obtain ⟨f, hcf, hP⟩ := hcf.glue (k2 := 1) (n2 := 51) (τ := (sR τ7 36 2 (some 45))) (Nat.le_of_ble_eq_true rfl) (Nat.le_of_ble_eq_true rfl) (Nat.le_of_ble_eq_true rfl) (cfw.cut hP) hkk hB1.1 (fun i h1 h2 h3 => absurd h1 (by omega))
  have hTR : TR 1 51 (sR τ7 36 2 (some 45)) := hB1.2
  have hS := hS1
  generalize H1 = H at hP hS
  generalize locs1 = locs at hS
  clear hw0 hC hB hB1 hkk hS1 hp ht hvm hzz
  refine cputF (ci := 10) (C := RX12) (T := TX12) (N := 16) (k := 0) (fs := [.ref (bs g 1), .ref (bs g 27), .ref (bs g 28), .ref (bs g 32), .ref (bs g 36), .null, .null, .null, .null, .null, .ref (bs g 3), .ref (bs g 15), .int 0, .int 0, .int 0, .int 0]) hx hb htg lays_12 tyX12 tyX12_ok nmX12 hown hZ hP hS ⟨Nat.le_refl _, (Nat.le_of_ble_eq_true rfl)⟩ hcf.1 rfl 5 (by decide) lf_X12_54 (hsame := rfl) (hin2 := hin) (hfin := rfl) (hdecl := rfl) (v := .ref (bs g 49)) rfl rfl (Nat.le_of_ble_eq_true rfl) dX12_init_136 (fun H locs hP hS => ?_)
  have hcf : cfw g 0 51 0 (sR τ7 36 2 (some 45)) (va_up f 0 (Sum.inr (10, [.ref (bs g 1), .ref (bs g 27), .ref (bs g 28), .ref (bs g 32), .ref (bs g 36), .ref (bs g 49), .null, .null, .null, .null, .ref (bs g 3), .ref (bs g 15), .int 0, .int 0, .int 0, .int 0]) : va_E)) (Sum.inr (10, [.ref (bs g 1), .ref (bs g 27), .ref (bs g 28), .ref (bs g 32), .ref (bs g 36), .ref (bs g 49), .null, .null, .null, .null, .ref (bs g 3), .ref (bs g 15), .int 0, .int 0, .int 0, .int 0]) : va_E) := hcf.put
  have hP : va_P g.1 vwCl (wc g 0 51 (va_up f 0 (Sum.inr (10, [.ref (bs g 1), .ref (bs g 27), .ref (bs g 28), .ref (bs g 32), .ref (bs g 36), .ref (bs g 49), .null, .null, .null, .null, .ref (bs g 3), .ref (bs g 15), .int 0, .int 0, .int 0, .int 0]) : va_E))) H := hP
  generalize va_up f 0 (Sum.inr (10, [.ref (bs g 1), .ref (bs g 27), .ref (bs g 28), .ref (bs g 32), .ref (bs g 36), .ref (bs g 49), .null, .null, .null, .null, .ref (bs g 3), .ref (bs g 15), .int 0, .int 0, .int 0, .int 0]) : va_E) = f at hP hcf
  refine lv_aload_n hx hb dX12_init_139 rfl (lv_at hl 1 rfl) ?_
  refine cnew (n := 51) (ci := 2) (fs := [.null, .null, .null, .int 0, .int 0, .int 0, .int 0]) hx hb htg lays_3 tyX3 tyX3_ok hown lcl_X12_58 lin_X3 ini_X3 hZ hP (Nat.le_of_ble_eq_true rfl) (by rw [hsz]; exact bs_add g (0 + 1) _) hS rfl (fun j hj => by rcases (show j = 0 ∨ j = 1 ∨ j = 2 ∨ j = 3 ∨ j = 4 ∨ j = 5 ∨ j = 6 by omega) with rfl | rfl | rfl | rfl | rfl | rfl | rfl <;> rfl) (Nat.le_of_ble_eq_true rfl) (Nat.le_of_ble_eq_true rfl) dX12_init_140 (fun H hP hS hH => ?_)
  have hf0 : va_up f 51 (.inr (2, [.null, .null, .null, .int 0, .int 0, .int 0, .int 0])) 0 = .inr (10, [.ref (bs g 1), .ref (bs g 27), .ref (bs g 28), .ref (bs g 32), .ref (bs g 36), .ref (bs g 49), .null, .null, .null, .null, .ref (bs g 3), .ref (bs g 15), .int 0, .int 0, .int 0, .int 0]) := by rw [va_up, if_neg (by decide)]; exact hcf.1
  refine lv_dup hx hb dX12_init_143 rfl ?_
  have hC := c_X3_init g l 1 51 (sR τ7 36 2 (some 45)) rfl (Nat.le_of_ble_eq_true rfl) hz51
  have hw0 := hcf.sub (lo2 := 1) (Nat.le_of_ble_eq_true rfl) (Nat.zero_le _) hP
  refine va_callv (va_runIN (As := []) (rest := [.ref (bs g 51), .ref (bs g 0)]) ⟨hx, hb, hml, hown, hts⟩ hC (cl_X12_60 hts hZ ⟨(Nat.le_of_ble_eq_true rfl), (Nat.le_of_ble_eq_true rfl)⟩) ⟨CP.blind g _ _ (sR τ7 36 2 (some 45)) _ _, fun U hU hW => ⟨rfl, ⟨va_K.moved hW.alike hZ.1, NU.warm hW hZ.2⟩, ST.moved hW.alike (hT.kept (fun a h1 h2 => by rw [hU]; exact hS.2.1 a h1 (fun q => h2 (ag_a0 g 0 a q)))), by rw [hU]; exact hH, by rw [hU]; exact hw0, hTR, va_AO.moved hW.alike hAO⟩⟩ rfl rfl hl.1 rfl (lv_room (Nat.le_of_ble_eq_true rfl)) dX12_init_144 ⟨(Nat.le_of_ble_eq_true rfl), (Nat.le_of_ble_eq_true rfl)⟩) hS (fun q _ h => agle g (Nat.zero_le _) q h) (fun q h => agle g (Nat.zero_le _) q h) (fun u t H1 locs1 ht hvm hp hB hzz hkk hS1 => ?_)
  have hB1 := hB.2.2
  rw [ht, hp] at hB1
  clear hf0
  obtain ⟨f, hcf, hP⟩ := hcf.glue (k2 := 1) (n2 := 55) (τ := (sR τ7 36 2 (some 45))) (Nat.le_of_ble_eq_true rfl) (Nat.le_of_ble_eq_true rfl) (Nat.le_of_ble_eq_true rfl) (cfw.cut hP) hkk hB1.1 (fun i h1 h2 h3 => absurd h1 (by omega))
  have hTR : TR 1 55 (sR τ7 36 2 (some 45)) := hB1.2
  have hS := hS1
  generalize H1 = H at hP hS
  generalize locs1 = locs at hS
  clear hw0 hC hB hB1 hkk hS1 hp ht hvm hzz
  refine cputF (ci := 10) (C := RX12) (T := TX12) (N := 16) (k := 0) (fs := [.ref (bs g 1), .ref (bs g 27), .ref (bs g 28), .ref (bs g 32), .ref (bs g 36), .ref (bs g 49), .null, .null, .null, .null, .ref (bs g 3), .ref (bs g 15), .int 0, .int 0, .int 0, .int 0]) hx hb htg lays_12 tyX12 tyX12_ok nmX12 hown hZ hP hS ⟨Nat.le_refl _, (Nat.le_of_ble_eq_true rfl)⟩ hcf.1 rfl 6 (by decide) lf_X12_61 (hsame := rfl) (hin2 := hin) (hfin := rfl) (hdecl := rfl) (v := .ref (bs g 51)) rfl rfl (Nat.le_of_ble_eq_true rfl) dX12_init_147 (fun H locs hP hS => ?_)
  have hcf : cfw g 0 55 0 (sR τ7 36 2 (some 45)) (va_up f 0 (Sum.inr (10, [.ref (bs g 1), .ref (bs g 27), .ref (bs g 28), .ref (bs g 32), .ref (bs g 36), .ref (bs g 49), .ref (bs g 51), .null, .null, .null, .ref (bs g 3), .ref (bs g 15), .int 0, .int 0, .int 0, .int 0]) : va_E)) (Sum.inr (10, [.ref (bs g 1), .ref (bs g 27), .ref (bs g 28), .ref (bs g 32), .ref (bs g 36), .ref (bs g 49), .ref (bs g 51), .null, .null, .null, .ref (bs g 3), .ref (bs g 15), .int 0, .int 0, .int 0, .int 0]) : va_E) := hcf.put
  have hP : va_P g.1 vwCl (wc g 0 55 (va_up f 0 (Sum.inr (10, [.ref (bs g 1), .ref (bs g 27), .ref (bs g 28), .ref (bs g 32), .ref (bs g 36), .ref (bs g 49), .ref (bs g 51), .null, .null, .null, .ref (bs g 3), .ref (bs g 15), .int 0, .int 0, .int 0, .int 0]) : va_E))) H := hP
  generalize va_up f 0 (Sum.inr (10, [.ref (bs g 1), .ref (bs g 27), .ref (bs g 28), .ref (bs g 32), .ref (bs g 36), .ref (bs g 49), .ref (bs g 51), .null, .null, .null, .ref (bs g 3), .ref (bs g 15), .int 0, .int 0, .int 0, .int 0]) : va_E) = f at hP hcf
  refine lv_aload_n hx hb dX12_init_150 rfl (lv_at hl 1 rfl) ?_
  refine cnew (n := 55) (ci := 6) (fs := [.null, .null, .null]) hx hb htg lays_8 tyX8 tyX8_ok hown lcl_X12_65 lin_X8 ini_X8 hZ hP (Nat.le_of_ble_eq_true rfl) (by rw [hsz]; exact bs_add g (0 + 1) _) hS rfl (fun j hj => by rcases (show j = 0 ∨ j = 1 ∨ j = 2 by omega) with rfl | rfl | rfl <;> rfl) (Nat.le_of_ble_eq_true rfl) (Nat.le_of_ble_eq_true rfl) dX12_init_151 (fun H hP hS hH => ?_)
  have hf0 : va_up f 55 (.inr (6, [.null, .null, .null])) 0 = .inr (10, [.ref (bs g 1), .ref (bs g 27), .ref (bs g 28), .ref (bs g 32), .ref (bs g 36), .ref (bs g 49), .ref (bs g 51), .null, .null, .null, .ref (bs g 3), .ref (bs g 15), .int 0, .int 0, .int 0, .int 0]) := by rw [va_up, if_neg (by decide)]; exact hcf.1
  refine lv_dup hx hb dX12_init_154 rfl ?_
  have hC := c_X8_init g l 1 55 (sR τ7 36 2 (some 45)) rfl (Nat.le_of_ble_eq_true rfl) hz55
  have hw0 := hcf.sub (lo2 := 1) (Nat.le_of_ble_eq_true rfl) (Nat.zero_le _) hP
  refine va_callv (va_runIN (As := []) (rest := [.ref (bs g 55), .ref (bs g 0)]) ⟨hx, hb, hml, hown, hts⟩ hC (cl_X12_67 hts hZ ⟨(Nat.le_of_ble_eq_true rfl), (Nat.le_of_ble_eq_true rfl)⟩) ⟨CP.blind g _ _ (sR τ7 36 2 (some 45)) _ _, fun U hU hW => ⟨rfl, ⟨va_K.moved hW.alike hZ.1, NU.warm hW hZ.2⟩, ST.moved hW.alike (hT.kept (fun a h1 h2 => by rw [hU]; exact hS.2.1 a h1 (fun q => h2 (ag_a0 g 0 a q)))), by rw [hU]; exact hH, by rw [hU]; exact hw0, hTR, va_AO.moved hW.alike hAO⟩⟩ rfl rfl hl.1 rfl (lv_room (Nat.le_of_ble_eq_true rfl)) dX12_init_155 ⟨(Nat.le_of_ble_eq_true rfl), (Nat.le_of_ble_eq_true rfl)⟩) hS (fun q _ h => agle g (Nat.zero_le _) q h) (fun q h => agle g (Nat.zero_le _) q h) (fun u t H1 locs1 ht hvm hp hB hzz hkk hS1 => ?_)
  have hB1 := hB.2.2
  rw [ht, hp] at hB1
  clear hf0
  obtain ⟨f, hcf, hP⟩ := hcf.glue (k2 := 1) (n2 := 59) (τ := (sR τ7 36 2 (some 45))) (Nat.le_of_ble_eq_true rfl) (Nat.le_of_ble_eq_true rfl) (Nat.le_of_ble_eq_true rfl) (cfw.cut hP) hkk hB1.1 (fun i h1 h2 h3 => absurd h1 (by omega))
  have hTR : TR 1 59 (sR τ7 36 2 (some 45)) := hB1.2
  have hS := hS1
  generalize H1 = H at hP hS
  generalize locs1 = locs at hS
  clear hw0 hC hB hB1 hkk hS1 hp ht hvm hzz
  refine cputF (ci := 10) (C := RX12) (T := TX12) (N := 16) (k := 0) (fs := [.ref (bs g 1), .ref (bs g 27), .ref (bs g 28), .ref (bs g 32), .ref (bs g 36), .ref (bs g 49), .ref (bs g 51), .null, .null, .null, .ref (bs g 3), .ref (bs g 15), .int 0, .int 0, .int 0, .int 0]) hx hb htg lays_12 tyX12 tyX12_ok nmX12 hown hZ hP hS ⟨Nat.le_refl _, (Nat.le_of_ble_eq_true rfl)⟩ hcf.1 rfl 7 (by decide) lf_X12_68 (hsame := rfl) (hin2 := hin) (hfin := rfl) (hdecl := rfl) (v := .ref (bs g 55)) rfl rfl (Nat.le_of_ble_eq_true rfl) dX12_init_158 (fun H locs hP hS => ?_)
  have hcf : cfw g 0 59 0 (sR τ7 36 2 (some 45)) (va_up f 0 (Sum.inr (10, [.ref (bs g 1), .ref (bs g 27), .ref (bs g 28), .ref (bs g 32), .ref (bs g 36), .ref (bs g 49), .ref (bs g 51), .ref (bs g 55), .null, .null, .ref (bs g 3), .ref (bs g 15), .int 0, .int 0, .int 0, .int 0]) : va_E)) (Sum.inr (10, [.ref (bs g 1), .ref (bs g 27), .ref (bs g 28), .ref (bs g 32), .ref (bs g 36), .ref (bs g 49), .ref (bs g 51), .ref (bs g 55), .null, .null, .ref (bs g 3), .ref (bs g 15), .int 0, .int 0, .int 0, .int 0]) : va_E) := hcf.put
  have hP : va_P g.1 vwCl (wc g 0 59 (va_up f 0 (Sum.inr (10, [.ref (bs g 1), .ref (bs g 27), .ref (bs g 28), .ref (bs g 32), .ref (bs g 36), .ref (bs g 49), .ref (bs g 51), .ref (bs g 55), .null, .null, .ref (bs g 3), .ref (bs g 15), .int 0, .int 0, .int 0, .int 0]) : va_E))) H := hP
  generalize va_up f 0 (Sum.inr (10, [.ref (bs g 1), .ref (bs g 27), .ref (bs g 28), .ref (bs g 32), .ref (bs g 36), .ref (bs g 49), .ref (bs g 51), .ref (bs g 55), .null, .null, .ref (bs g 3), .ref (bs g 15), .int 0, .int 0, .int 0, .int 0]) : va_E) = f at hP hcf
  refine lv_aload_n hx hb dX12_init_161 rfl (lv_at hl 1 rfl) ?_
  refine cnew (n := 59) (ci := 1) (fs := [.null]) hx hb htg lays_2 tyX2 tyX2_ok hown lcl_X12_72 lin_X2 ini_X2 hZ hP (Nat.le_of_ble_eq_true rfl) (by rw [hsz]; exact bs_add g (0 + 1) _) hS rfl (fun j hj => by rcases (show j = 0 by omega) with rfl <;> rfl) (Nat.le_of_ble_eq_true rfl) (Nat.le_of_ble_eq_true rfl) dX12_init_162 (fun H hP hS hH => ?_)
  have hf0 : va_up f 59 (.inr (1, [.null])) 0 = .inr (10, [.ref (bs g 1), .ref (bs g 27), .ref (bs g 28), .ref (bs g 32), .ref (bs g 36), .ref (bs g 49), .ref (bs g 51), .ref (bs g 55), .null, .null, .ref (bs g 3), .ref (bs g 15), .int 0, .int 0, .int 0, .int 0]) := by rw [va_up, if_neg (by decide)]; exact hcf.1
  refine lv_dup hx hb dX12_init_165 rfl ?_
  have hC := c_X2_init g l 1 59 (sR τ7 36 2 (some 45)) rfl (Nat.le_of_ble_eq_true rfl) hz59
  have hw0 := hcf.sub (lo2 := 1) (Nat.le_of_ble_eq_true rfl) (Nat.zero_le _) hP
  refine va_callv (va_runIN (As := []) (rest := [.ref (bs g 59), .ref (bs g 0)]) ⟨hx, hb, hml, hown, hts⟩ hC (cl_X12_74 hts hZ ⟨(Nat.le_of_ble_eq_true rfl), (Nat.le_of_ble_eq_true rfl)⟩) ⟨CP.blind g _ _ (sR τ7 36 2 (some 45)) _ _, fun U hU hW => ⟨rfl, ⟨va_K.moved hW.alike hZ.1, NU.warm hW hZ.2⟩, ST.moved hW.alike (hT.kept (fun a h1 h2 => by rw [hU]; exact hS.2.1 a h1 (fun q => h2 (ag_a0 g 0 a q)))), by rw [hU]; exact hH, by rw [hU]; exact hw0, hTR, va_AO.moved hW.alike hAO⟩⟩ rfl rfl hl.1 rfl (lv_room (Nat.le_of_ble_eq_true rfl)) dX12_init_166 ⟨(Nat.le_of_ble_eq_true rfl), (Nat.le_of_ble_eq_true rfl)⟩) hS (fun q _ h => agle g (Nat.zero_le _) q h) (fun q h => agle g (Nat.zero_le _) q h) (fun u t H1 locs1 ht hvm hp hB hzz hkk hS1 => ?_)
  have hB1 := hB.2.2
  rw [ht, hp] at hB1
  clear hf0
  obtain ⟨f, hcf, hP⟩ := hcf.glue (k2 := 1) (n2 := 61) (τ := (sR τ7 36 2 (some 45))) (Nat.le_of_ble_eq_true rfl) (Nat.le_of_ble_eq_true rfl) (Nat.le_of_ble_eq_true rfl) (cfw.cut hP) hkk hB1.1 (fun i h1 h2 h3 => absurd h1 (by omega))
  have hTR : TR 1 61 (sR τ7 36 2 (some 45)) := hB1.2
  have hS := hS1
  generalize H1 = H at hP hS
  generalize locs1 = locs at hS
  clear hw0 hC hB hB1 hkk hS1 hp ht hvm hzz
  refine cputF (ci := 10) (C := RX12) (T := TX12) (N := 16) (k := 0) (fs := [.ref (bs g 1), .ref (bs g 27), .ref (bs g 28), .ref (bs g 32), .ref (bs g 36), .ref (bs g 49), .ref (bs g 51), .ref (bs g 55), .null, .null, .ref (bs g 3), .ref (bs g 15), .int 0, .int 0, .int 0, .int 0]) hx hb htg lays_12 tyX12 tyX12_ok nmX12 hown hZ hP hS ⟨Nat.le_refl _, (Nat.le_of_ble_eq_true rfl)⟩ hcf.1 rfl 8 (by decide) lf_X12_75 (hsame := rfl) (hin2 := hin) (hfin := rfl) (hdecl := rfl) (v := .ref (bs g 59)) rfl rfl (Nat.le_of_ble_eq_true rfl) dX12_init_169 (fun H locs hP hS => ?_)
  have hcf : cfw g 0 61 0 (sR τ7 36 2 (some 45)) (va_up f 0 (Sum.inr (10, [.ref (bs g 1), .ref (bs g 27), .ref (bs g 28), .ref (bs g 32), .ref (bs g 36), .ref (bs g 49), .ref (bs g 51), .ref (bs g 55), .ref (bs g 59), .null, .ref (bs g 3), .ref (bs g 15), .int 0, .int 0, .int 0, .int 0]) : va_E)) (Sum.inr (10, [.ref (bs g 1), .ref (bs g 27), .ref (bs g 28), .ref (bs g 32), .ref (bs g 36), .ref (bs g 49), .ref (bs g 51), .ref (bs g 55), .ref (bs g 59), .null, .ref (bs g 3), .ref (bs g 15), .int 0, .int 0, .int 0, .int 0]) : va_E) := hcf.put
  have hP : va_P g.1 vwCl (wc g 0 61 (va_up f 0 (Sum.inr (10, [.ref (bs g 1), .ref (bs g 27), .ref (bs g 28), .ref (bs g 32), .ref (bs g 36), .ref (bs g 49), .ref (bs g 51), .ref (bs g 55), .ref (bs g 59), .null, .ref (bs g 3), .ref (bs g 15), .int 0, .int 0, .int 0, .int 0]) : va_E))) H := hP
  generalize va_up f 0 (Sum.inr (10, [.ref (bs g 1), .ref (bs g 27), .ref (bs g 28), .ref (bs g 32), .ref (bs g 36), .ref (bs g 49), .ref (bs g 51), .ref (bs g 55), .ref (bs g 59), .null, .ref (bs g 3), .ref (bs g 15), .int 0, .int 0, .int 0, .int 0]) : va_E) = f at hP hcf
  refine lv_aload_n hx hb dX12_init_172 rfl (lv_at hl 1 rfl) ?_
  refine cnew (n := 61) (ci := 5) (fs := [.null, .null, .int 0, .int 0, .int 0]) hx hb htg lays_7 tyX7 tyX7_ok hown lcl_X12_79 lin_X7 ini_X7 hZ hP (Nat.le_of_ble_eq_true rfl) (by rw [hsz]; exact bs_add g (0 + 1) _) hS rfl (fun j hj => by rcases (show j = 0 ∨ j = 1 ∨ j = 2 ∨ j = 3 ∨ j = 4 by omega) with rfl | rfl | rfl | rfl | rfl <;> rfl) (Nat.le_of_ble_eq_true rfl) (Nat.le_of_ble_eq_true rfl) dX12_init_173 (fun H hP hS hH => ?_)
  have hf0 : va_up f 61 (.inr (5, [.null, .null, .int 0, .int 0, .int 0])) 0 = .inr (10, [.ref (bs g 1), .ref (bs g 27), .ref (bs g 28), .ref (bs g 32), .ref (bs g 36), .ref (bs g 49), .ref (bs g 51), .ref (bs g 55), .ref (bs g 59), .null, .ref (bs g 3), .ref (bs g 15), .int 0, .int 0, .int 0, .int 0]) := by rw [va_up, if_neg (by decide)]; exact hcf.1
  refine lv_dup hx hb dX12_init_176 rfl ?_
  have hC := c_X7_init g l 1 61 (sR τ7 36 2 (some 45)) rfl (Nat.le_of_ble_eq_true rfl) hz61
  have hw0 := hcf.sub (lo2 := 1) (Nat.le_of_ble_eq_true rfl) (Nat.zero_le _) hP
  refine va_callv (va_runIN (As := []) (rest := [.ref (bs g 61), .ref (bs g 0)]) ⟨hx, hb, hml, hown, hts⟩ hC (cl_X12_81 hts hZ ⟨(Nat.le_of_ble_eq_true rfl), (Nat.le_of_ble_eq_true rfl)⟩) ⟨CP.blind g _ _ (sR τ7 36 2 (some 45)) _ _, fun U hU hW => ⟨rfl, ⟨va_K.moved hW.alike hZ.1, NU.warm hW hZ.2⟩, ST.moved hW.alike (hT.kept (fun a h1 h2 => by rw [hU]; exact hS.2.1 a h1 (fun q => h2 (ag_a0 g 0 a q)))), by rw [hU]; exact hH, by rw [hU]; exact hw0, hTR, va_AO.moved hW.alike hAO⟩⟩ rfl rfl hl.1 rfl (lv_room (Nat.le_of_ble_eq_true rfl)) dX12_init_177 ⟨(Nat.le_of_ble_eq_true rfl), (Nat.le_of_ble_eq_true rfl)⟩) hS (fun q _ h => agle g (Nat.zero_le _) q h) (fun q h => agle g (Nat.zero_le _) q h) (fun u t H1 locs1 ht hvm hp hB hzz hkk hS1 => ?_)
  have hB1 := hB.2.2
  rw [ht, hp] at hB1
  clear hf0
  obtain ⟨f, hcf, hP⟩ := hcf.glue (k2 := 1) (n2 := 64) (τ := (sR τ7 36 2 (some 45))) (Nat.le_of_ble_eq_true rfl) (Nat.le_of_ble_eq_true rfl) (Nat.le_of_ble_eq_true rfl) (cfw.cut hP) hkk hB1.1 (fun i h1 h2 h3 => absurd h1 (by omega))
  have hTR : TR 1 64 (sR τ7 36 2 (some 45)) := hB1.2
  have hS := hS1
  generalize H1 = H at hP hS
  generalize locs1 = locs at hS
  clear hw0 hC hB hB1 hkk hS1 hp ht hvm hzz
  refine cputF (ci := 10) (C := RX12) (T := TX12) (N := 16) (k := 0) (fs := [.ref (bs g 1), .ref (bs g 27), .ref (bs g 28), .ref (bs g 32), .ref (bs g 36), .ref (bs g 49), .ref (bs g 51), .ref (bs g 55), .ref (bs g 59), .null, .ref (bs g 3), .ref (bs g 15), .int 0, .int 0, .int 0, .int 0]) hx hb htg lays_12 tyX12 tyX12_ok nmX12 hown hZ hP hS ⟨Nat.le_refl _, (Nat.le_of_ble_eq_true rfl)⟩ hcf.1 rfl 9 (by decide) lf_X12_82 (hsame := rfl) (hin2 := hin) (hfin := rfl) (hdecl := rfl) (v := .ref (bs g 61)) rfl rfl (Nat.le_of_ble_eq_true rfl) dX12_init_180 (fun H locs hP hS => ?_)
  have hcf : cfw g 0 64 0 (sR τ7 36 2 (some 45)) (va_up f 0 (Sum.inr (10, [.ref (bs g 1), .ref (bs g 27), .ref (bs g 28), .ref (bs g 32), .ref (bs g 36), .ref (bs g 49), .ref (bs g 51), .ref (bs g 55), .ref (bs g 59), .ref (bs g 61), .ref (bs g 3), .ref (bs g 15), .int 0, .int 0, .int 0, .int 0]) : va_E)) (Sum.inr (10, [.ref (bs g 1), .ref (bs g 27), .ref (bs g 28), .ref (bs g 32), .ref (bs g 36), .ref (bs g 49), .ref (bs g 51), .ref (bs g 55), .ref (bs g 59), .ref (bs g 61), .ref (bs g 3), .ref (bs g 15), .int 0, .int 0, .int 0, .int 0]) : va_E) := hcf.put
  have hP : va_P g.1 vwCl (wc g 0 64 (va_up f 0 (Sum.inr (10, [.ref (bs g 1), .ref (bs g 27), .ref (bs g 28), .ref (bs g 32), .ref (bs g 36), .ref (bs g 49), .ref (bs g 51), .ref (bs g 55), .ref (bs g 59), .ref (bs g 61), .ref (bs g 3), .ref (bs g 15), .int 0, .int 0, .int 0, .int 0]) : va_E))) H := hP
  generalize va_up f 0 (Sum.inr (10, [.ref (bs g 1), .ref (bs g 27), .ref (bs g 28), .ref (bs g 32), .ref (bs g 36), .ref (bs g 49), .ref (bs g 51), .ref (bs g 55), .ref (bs g 59), .ref (bs g 61), .ref (bs g 3), .ref (bs g 15), .int 0, .int 0, .int 0, .int 0]) : va_E) = f at hP hcf
  have hW : Wd g 0 64 (sR (sR (sR τ7 36 2 (some 45)) 0 10 (some 3)) 0 11 (some 15)) H := ⟨hcf.done2 (sR (sR (sR τ7 36 2 (some 45)) 0 10 (some 3)) 0 11 (some 15)) (by rw [ct_12 g _ rfl, show (sR (sR (sR τ7 36 2 (some 45)) 0 10 (some 3)) 0 11 (some 15)).1 0 = (sR τ7 36 2 (some 45)).1 0 from rfl, hi0, show (sR (sR (sR τ7 36 2 (some 45)) 0 10 (some 3)) 0 11 (some 15)).2.2 0 = va_up (va_up ((sR τ7 36 2 (some 45)).2.2 0) 10 (some 3)) 11 (some 15) from rfl]; rfl) (fun i hi => (ct_sR_ne g _ _ _ hi).trans (ct_sR_ne g _ _ _ hi)) hP, TR_own hTR hr0 ⟨rfl, (Nat.le_of_ble_eq_true rfl), (Nat.le_of_ble_eq_true rfl)⟩ ⟨rfl, (Nat.le_of_ble_eq_true rfl), (Nat.le_of_ble_eq_true rfl)⟩⟩
  refine W.widen (k := 63) (n := 2579) (Nat.le_of_ble_eq_true rfl) (Nat.le_of_ble_eq_true rfl) ?_
  exact W.vret hx hb hr (fun t ht hw => ⟨⟨(sR (sR (sR τ7 36 2 (some 45)) 0 10 (some 3)) 0 11 (some 15)), rfl, rfl, ws_of hZ hT hS hW ht hw⟩, hS.F ht⟩) hS.2.2 dX12_init_183 hlocks
