set_option maxHeartbeats 4000000 in
set_option maxRecDepth 100000 in
theorem whole_start {p : Program} {e : Env} {s : State} {m : MethodId} {below : List Frame} {meth : Method} {c : Code} (l : Launch) (hflags : l.flags = flags0) {b L : Nat} {xs : Nat → Int32} (hL : L ≤ 3072) (C0 : lw_At p s m meth c b L xs) : W p l e room_1 s m #[Value.ref b] below meth c s.heap [] 0 0 (lw_Z below #[Value.ref b] s) (entryFrame m ([Value.ref b] : List Value).toArray 7) := by
  obtain ⟨hx, hb, hr, hml, hown, hts0, hX, hbl, hlocks, hgv⟩ := C0
  have hb : c.code = cL_law := hb
  have hown : s.vm.findClass RL = some m.cls := hown
  have hfl : l.stackTraces = false := by rw [Launch.stackTraces, hflags]; decide +kernel
  have htg : ∀ w ∈ lwg, w.before #[Value.ref b] s = true := fun w h => hts0 w (lwg_in w h)
  obtain ⟨g, hg, hZ, hT, hXN, hAO⟩ := start_world hgv hts0
  have hts : ∀ w ∈ wx XW, w.before #[Value.ref b] s = true := by
    intro w h
    rcases List.mem_cons.mp h with h | h
    · rw [h]; exact htg _ ini_X12
    · exact htg w h
  have hbA : ¬ Ag g 0 b := fun h => by
    have h9 : g.2.2.1 + 0 ≤ b := h
    omega
  have hC : LwC p s m c b L xs g := ⟨hx, hb, hml, hown, hts, hX, hbl, hbA, hZ, hT, hXN⟩
  have hbase : ∀ k : Nat, bs g k = s.heap.size + k := fun k => by rw [← hg]; rfl
  obtain ⟨τ1, τ2, τ3, τ4, τ5, τ6, τ7, a1, a2, a3, a4, a5, a6, a7, z15, z27, z28, z32, z36, z41, z45, z49, i0, r0, z64, hRL⟩ := init_pure
  have hCi := c_X12_init g l (fun a _ => ⟨rfl, rfl, rfl⟩) τ1 a1 (fun a _ => ⟨rfl, rfl, rfl⟩) τ2 a2 z15 z27 τ3 a3 z28 τ4 a4 z32 z36 τ5 a5 (z36.up (by decide)) τ6 a6 z41 τ7 a7 z45 z49 (z49.up (by decide)) (z49.up (by decide)) (z49.up (by decide)) (z49.up (by decide)) i0 r0
  generalize hsF : (sR (sR (sR τ7 36 2 (some 45)) 0 10 (some 3)) 0 11 (some 15)) = σ at hCi z64 hRL
  have hl := lv_entry ([.ref b]) (n := 7) (Nat.le_of_ble_eq_true rfl)
  rw [lg_entry_eq]
  generalize (lg_sl ([.ref b]) ++ List.replicate (7 - (lg_sl ([.ref b])).length) Slot.unset).toArray = ls at hl ⊢
  have hl : lv_has ls 7 [(0, .ref b)] := hl
  have hS : va_S (Ag g 0) s.heap s.heap [] := va_S.rf
  have hKn := hZ.1.1 10 _ (rfl : vwCl[10]? = some (RX12, TX12, 16))
  refine W.newcK hx hb hown (htg _ lcl_L_8) (htg _ lin_X12) (htg _ ini_X12) rfl dL_law_0 (Nat.le_of_ble_eq_true rfl) (Nat.le_of_ble_eq_true rfl) hKn.2.1 (h := bs g 0) (by rw [hbase]; rfl) fun H1 kC hkC e1 z1 o1 => ?_
  have hP1 : va_P g.1 vwCl (wc g 0 1 (va_up (ct g Z0) 0 (.inr (10, [.null, .null, .null, .null, .null, .null, .null, .null, .null, .null, .null, .null, .int 0, .int 0, .int 0, .int 0])))) H1 := wc_one ⟨_, rfl, (u_born tyX12 htg lays_12 hKn hkC e1 tyX12_ok).to (fun j hj => by rcases (show j = 0 ∨ j = 1 ∨ j = 2 ∨ j = 3 ∨ j = 4 ∨ j = 5 ∨ j = 6 ∨ j = 7 ∨ j = 8 ∨ j = 9 ∨ j = 10 ∨ j = 11 ∨ j = 12 ∨ j = 13 ∨ j = 14 ∨ j = 15 by omega) with rfl | rfl | rfl | rfl | rfl | rfl | rfl | rfl | rfl | rfl | rfl | rfl | rfl | rfl | rfl | rfl <;> rfl)⟩
  have hH1 : H1.size = bs g 1 := by rw [z1]; rfl
  have hS1 : va_S (Ag g 0) s.heap H1 [] := ⟨by rw [z1, hbase]; omega, fun x h1 h2 => o1 x (by rw [hbase]; exact h1), fun _ h => absurd h List.not_mem_nil⟩
  change W p l e room_1 s m #[Value.ref b] below meth c H1 [] 1 16 (lw_Z below #[Value.ref b] s) (F0 m 3 ls [.ref (bs g 0)])
  refine lv_dup hx hb dL_law_3 rfl ?_
  refine va_callv (va_runI (As := []) (rest := [.ref (bs g 0)]) ⟨hx, hb, hml, hown, hts⟩ hCi (cl_L_15 hts ⟨(Nat.le_of_ble_eq_true rfl), (Nat.le_of_ble_eq_true rfl)⟩) ⟨CP.blind g 0 0 Z0 _ _, fun U hU hW => ⟨rfl, ⟨va_K.moved hW.alike hZ.1, NU.warm hW hZ.2⟩, ST.moved hW.alike (hT.kept (fun a h1 h2 => by rw [hU]; exact hS1.2.1 a h1 (fun q => h2 (ag_a0 g 0 a q)))), by rw [hU]; exact hH1, by rw [hU]; exact hP1, (fun a j T h1 h2 h3 => absurd h2 (by omega)), va_AO.moved hW.alike hAO⟩⟩ rfl rfl hl.1 rfl (lv_room (Nat.le_of_ble_eq_true rfl)) dL_law_4 ⟨(Nat.le_of_ble_eq_true rfl), (Nat.le_of_ble_eq_true rfl)⟩) hS1 (fun _ _ h => h) (fun _ h => h) (fun u t H2 locs2 ht hvm hp hB hzz hkk hS2 => ?_)
  have hW2 : Wd g 0 64 σ H2 := by
    have h9 := hB.2.2
    rw [ht, hp] at h9
    exact h9
  refine lv_astore_n (i := 1) (lv' := [(1, .ref (bs g 0)), (0, .ref b)]) hx hb dL_law_7 rfl hl (by decide) rfl (fun ls hl => ?_)
  refine cnew (n := 64) (f := ct g σ) (ci := 11) (fs := [.int 0, .null, .int 0, .int 0, .int 0, .int 0, .int 0, .int 0, .int 0, .int 0, .int 0, .int 0, .null, .int 0, .int 0, .null, .null, .null, .null, .null, .int 0, .int 0, .null, .null, .int 0, .null, .null, .null, .null, .null, .int 0, .null, .int 0]) hx hb htg lays_13 tyX13 tyX13_ok hown lcl_L_16 lin_X13 ini_X13 hZ hW2.1 (Nat.le_of_ble_eq_true rfl) (by have h9 := hbase 64; omega) hS2 rfl (fun j hj => by rcases (show j = 0 ∨ j = 1 ∨ j = 2 ∨ j = 3 ∨ j = 4 ∨ j = 5 ∨ j = 6 ∨ j = 7 ∨ j = 8 ∨ j = 9 ∨ j = 10 ∨ j = 11 ∨ j = 12 ∨ j = 13 ∨ j = 14 ∨ j = 15 ∨ j = 16 ∨ j = 17 ∨ j = 18 ∨ j = 19 ∨ j = 20 ∨ j = 21 ∨ j = 22 ∨ j = 23 ∨ j = 24 ∨ j = 25 ∨ j = 26 ∨ j = 27 ∨ j = 28 ∨ j = 29 ∨ j = 30 ∨ j = 31 ∨ j = 32 by omega) with rfl | rfl | rfl | rfl | rfl | rfl | rfl | rfl | rfl | rfl | rfl | rfl | rfl | rfl | rfl | rfl | rfl | rfl | rfl | rfl | rfl | rfl | rfl | rfl | rfl | rfl | rfl | rfl | rfl | rfl | rfl | rfl | rfl <;> rfl) (Nat.le_of_ble_eq_true rfl) (Nat.le_of_ble_eq_true rfl) dL_law_8 (fun H3 hP3 hS3 hH3 => ?_)
  refine lv_dup hx hb dL_law_11 rfl ?_
  refine va_callv (va_runI (As := []) (rest := [.ref (bs g 64)]) ⟨hx, hb, hml, hown, hts⟩ (c_X13_init g l 0 64 σ rfl (Nat.zero_le _) z64 rfl) (cl_L_18 hts ⟨(Nat.le_of_ble_eq_true rfl), (Nat.le_of_ble_eq_true rfl)⟩) ⟨CP.blind g 0 64 σ _ _, fun U hU hW => ⟨rfl, ⟨va_K.moved hW.alike hZ.1, NU.warm hW hZ.2⟩, ST.moved hW.alike (hT.kept (fun a h1 h2 => by rw [hU]; exact hS3.2.1 a h1 (fun q => h2 (ag_a0 g 0 a q)))), by rw [hU]; exact hH3, by rw [hU]; exact hP3, hW2.2, va_AO.moved hW.alike hAO⟩⟩ rfl rfl hl.1 rfl (lv_room (Nat.le_of_ble_eq_true rfl)) dL_law_12 ⟨(Nat.le_of_ble_eq_true rfl), (Nat.le_of_ble_eq_true rfl)⟩) hS3 (fun _ _ h => h) (fun _ h => h) (fun u t H4 locs4 ht hvm hp hB hzz hkk hS4 => ?_)
  have hW4 : Wd g 0 80 (sI σ 64 10 (-1)) H4 := by
    have h9 := hB.2.2
    rw [ht, hp] at h9
    exact h9
  have z80 : ZA 80 (sI σ 64 10 (-1)) := fun a ha => ⟨(if_neg (show ¬ a = 64 from by omega)).trans (z64 a (by omega)).1, (z64 a (by omega)).2.1, (z64 a (by omega)).2.2⟩
  generalize sI σ 64 10 (-1) = σ at hW4 z80 hRL
  refine lv_astore_n (i := 2) (lv' := [(2, .ref (bs g 64)), (1, .ref (bs g 0)), (0, .ref b)]) hx hb dL_law_15 rfl hl (by decide) rfl (fun ls hl => ?_)
  refine lv_iconst (v := 1) hx hb dL_law_16 (by decide) ?_
  refine cna_l (n := 80) (f := ct g σ) hx hb htg lac_long hZ hW4.1 (Nat.le_of_ble_eq_true rfl) (by have h9 := hbase 80; omega) hS4 (by decide) (N := 1) (by decide) (by decide) (Nat.le_of_ble_eq_true rfl) (Nat.le_of_ble_eq_true rfl) dL_law_17 (fun H5 hP5 hS5 hH5 => ?_)
  have hW5 : Wd g 0 81 σ H5 := ⟨wc_eq hP5 (fun k h1 h2 => by
    by_cases hk : k = 80
    · subst hk
      rw [va_up, if_pos rfl, ct_22 g _ rfl, (z80 80 (Nat.le_refl _)).2.1]; rfl
    · rw [va_up, if_neg hk]), TRz hW4.2 z80 81 (Nat.le_of_ble_eq_true rfl)⟩
  refine lv_astore_n (i := 3) (lv' := [(3, .ref (bs g 80)), (2, .ref (bs g 64)), (1, .ref (bs g 0)), (0, .ref b)]) hx hb dL_law_19 rfl hl (by decide) rfl (fun ls hl => ?_)
  refine lv_iconst (v := 0) hx hb dL_law_20 (by decide) ?_
  refine lv_istore (lv' := [(4, .int 0), (3, .ref (bs g 80)), (2, .ref (bs g 64)), (1, .ref (bs g 0)), (0, .ref b)]) hx hb dL_law_21 hl (by decide) rfl (fun ls hl => ?_)
  refine W.widen (k := 81 + 0) (n := 5503 + 6 * 0) (Nat.le_of_ble_eq_true rfl) (Nat.le_of_ble_eq_true rfl) ?_
  have hl : lv_has ls 7 (lwL b g (zI ((6 * 0 : Nat) : Int))) := by
    rw [show zI ((6 * 0 : Nat) : Int) = (0 : Int32) from by decide]
    exact lv_sub hl [4, 3, 2, 1, 0] rfl
  exact law_loop hC hfl hL hg hr hlocks (S0 := 5503) (by decide) 512 0 rfl σ H5 locs4 ls hRL hW5 hS5 hl
