def f_X9_beliefOn (σ : Mem) (p0 : Nat) (a1 : Int32) (a2 : Int32) : Option (Int32) :=
  bd1 (f_X9_latestVisit σ p0 a1 a2) (fun (r_1 : Int32) => bd1 (f_X9_beliefBy σ p0 a1 r_1) (fun (r_2 : Int32) => some r_2))
set_option maxHeartbeats 4000000 in
set_option maxRecDepth 100000 in
theorem c_X9_beliefOn (g : XG) (l : Launch) (lo n : Nat) (σ : Mem) (p0 : Nat) (a1 : Int32) (a2 : Int32) (t0 : tp 9 lo n p0) (r : Int32) (hf : f_X9_beliefOn σ p0 a1 a2 = some r) : Met l yX9_beliefOn (wx (.code yX9_beliefOn cX9_beliefOn 3 (some .int))) (kr 3 83) (va_Pc [.ref (bs g p0), .int a1, .int a2] (WS g lo n σ)) (Qi' g lo n r σ) 0 0 (Ag g lo) := by
  refine Met.ofW (cc := cX9_beliefOn) (maxL := 3) (ret := (some .int)) (by decide) rfl ?_
  intro p e s m args below meth c s₁ B hml hv
  obtain ⟨rfl, hZ, hT, hW⟩ := hv
  have hx := B.exec
  have hb := B.bytes
  have hr := B.returns
  have hts : ∀ w ∈ wx (.code yX9_beliefOn cX9_beliefOn 3 (some .int)), w.before _ s = true := atoms_spec B.pre
  have htg : ∀ w ∈ lwg, w.before _ s = true := fun w h => hts w (List.mem_cons_of_mem _ h)
  have hown : s.vm.findClass RX9 = some m.cls := findClass_of_methodNamed B.named
  have hlocks := B.notSynchronized
  change W p l e (kr 3 83) s m (List.toArray [.ref (bs g p0), .int a1, .int a2]) below meth c s.heap [] 0 0 (MQ below (Qi' g lo n r σ) (List.toArray [.ref (bs g p0), .int a1, .int a2]) s 0 0 (Ag g lo)) _
  generalize hQ : MQ below (Qi' g lo n r σ) (List.toArray [.ref (bs g p0), .int a1, .int a2]) s 0 0 (Ag g lo) = Q
  have hS : va_S (Ag g lo) s.heap s.heap [] := va_S.rf
  have hl := lv_entry ([.ref (bs g p0), .int a1, .int a2]) (n := 3) (Nat.le_of_ble_eq_true rfl)
  rw [lg_entry_eq]
  generalize (lg_sl ([.ref (bs g p0), .int a1, .int a2]) ++ List.replicate (3 - (lg_sl ([.ref (bs g p0), .int a1, .int a2])).length) Slot.unset).toArray = ls at hl ⊢
  have hl : lv_has ls 3 [(0, .ref (bs g p0)), (1, .int a1), (2, .int a2)] := hl
  delta f_X9_beliefOn at hf
  obtain ⟨H, hH⟩ : ∃ H, H = s.heap := ⟨_, rfl⟩
  obtain ⟨locs, hLc⟩ : ∃ z : List Loc, z = [] := ⟨_, rfl⟩
  have hS : va_S (Ag g lo) s.heap H locs := by rw [hH, hLc]; exact hS
  have hW : Wd g lo n σ H := by rw [hH]; exact hW
  suffices hG : W p l e (kr 3 83) s m (List.toArray [.ref (bs g p0), .int a1, .int a2]) below meth c H locs 0 0 Q (F0 m 0 ls []) by rw [hH, hLc] at hG; exact hG
  clear hH hLc
  refine lv_aload_n hx hb dX9_beliefOn_0 rfl (lv_at hl 0 rfl) ?_
  refine lv_iload_n hx hb dX9_beliefOn_1 rfl (lv_at hl 1 rfl) ?_
  refine lv_aload_n hx hb dX9_beliefOn_2 rfl (lv_at hl 0 rfl) ?_
  refine lv_iload_n hx hb dX9_beliefOn_3 rfl (lv_at hl 1 rfl) ?_
  refine lv_iload_n hx hb dX9_beliefOn_4 rfl (lv_at hl 2 rfl) ?_
  refine mcip hf hS (fun r h => va_runV (As := [.int a1, .int a2]) (rest := [.int a1, .ref (bs g p0)]) ⟨hx, hb, hml, hown, hts⟩ (c_X9_latestVisit g l lo n σ p0 a1 a2 t0 r h) (cl_X9_75 hts ⟨Nat.le_of_ble_eq_true rfl, Nat.le_of_ble_eq_true rfl⟩) (mpV_9 hZ hT hS hW t0 _) rfl rfl hl.1 rfl (lv_room (Nat.le_of_ble_eq_true rfl)) dX9_beliefOn_5 ⟨Nat.zero_le _, Nat.zero_le _⟩) (fun r_1 H locs hf hW hS => ?_)
  refine mcip hf hS (fun r h => va_runV (As := [.int a1, .int r_1]) (rest := []) ⟨hx, hb, hml, hown, hts⟩ (c_X9_beliefBy g l lo n σ p0 a1 r_1 t0 r h) (cl_X9_78 hts ⟨Nat.le_of_ble_eq_true rfl, Nat.le_of_ble_eq_true rfl⟩) (mpV_9 hZ hT hS hW t0 _) rfl rfl hl.1 rfl (lv_room (Nat.le_of_ble_eq_true rfl)) dX9_beliefOn_8 ⟨Nat.zero_le _, Nat.zero_le _⟩) (fun r_2 H locs hf hW hS => ?_)
  subst hQ
  exact mri hx hb hr hlocks hZ hT hS hW ⟨Option.some.inj hf, rfl⟩ dX9_beliefOn_11
def f_X9_mistakes (σ : Mem) (p0 : Nat) (a1 : Int32) (a2 : Int32) : Option (Int32) :=
  bd1 (f_X5_at σ (p0 + 2) a1 a2) (fun (r_1 : Int32) => bd1 (f_X9_beliefOn σ p0 a1 a2) (fun (r_2 : Int32) => bd1 (f_X5_unlike r_1 r_2) (fun (r_3 : Int32) => some r_3)))
set_option maxHeartbeats 4000000 in
set_option maxRecDepth 100000 in
theorem c_X9_mistakes (g : XG) (l : Launch) (lo n : Nat) (σ : Mem) (p0 : Nat) (a1 : Int32) (a2 : Int32) (t0 : tp 9 lo n p0) (r : Int32) (hf : f_X9_mistakes σ p0 a1 a2 = some r) : Met l yX9_mistakes (wx (.code yX9_mistakes cX9_mistakes 3 (some .int))) (kr 4 105) (va_Pc [.ref (bs g p0), .int a1, .int a2] (WS g lo n σ)) (Qi' g lo n r σ) 0 0 (Ag g lo) := by
  refine Met.ofW (cc := cX9_mistakes) (maxL := 3) (ret := (some .int)) (by decide) rfl ?_
  intro p e s m args below meth c s₁ B hml hv
  obtain ⟨rfl, hZ, hT, hW⟩ := hv
  have hx := B.exec
  have hb := B.bytes
  have hr := B.returns
  have hts : ∀ w ∈ wx (.code yX9_mistakes cX9_mistakes 3 (some .int)), w.before _ s = true := atoms_spec B.pre
  have htg : ∀ w ∈ lwg, w.before _ s = true := fun w h => hts w (List.mem_cons_of_mem _ h)
  have hown : s.vm.findClass RX9 = some m.cls := findClass_of_methodNamed B.named
  have hlocks := B.notSynchronized
  change W p l e (kr 4 105) s m (List.toArray [.ref (bs g p0), .int a1, .int a2]) below meth c s.heap [] 0 0 (MQ below (Qi' g lo n r σ) (List.toArray [.ref (bs g p0), .int a1, .int a2]) s 0 0 (Ag g lo)) _
  generalize hQ : MQ below (Qi' g lo n r σ) (List.toArray [.ref (bs g p0), .int a1, .int a2]) s 0 0 (Ag g lo) = Q
  have hS : va_S (Ag g lo) s.heap s.heap [] := va_S.rf
  have hl := lv_entry ([.ref (bs g p0), .int a1, .int a2]) (n := 3) (Nat.le_of_ble_eq_true rfl)
  rw [lg_entry_eq]
  generalize (lg_sl ([.ref (bs g p0), .int a1, .int a2]) ++ List.replicate (3 - (lg_sl ([.ref (bs g p0), .int a1, .int a2])).length) Slot.unset).toArray = ls at hl ⊢
  have hl : lv_has ls 3 [(0, .ref (bs g p0)), (1, .int a1), (2, .int a2)] := hl
  delta f_X9_mistakes at hf
  obtain ⟨H, hH⟩ : ∃ H, H = s.heap := ⟨_, rfl⟩
  obtain ⟨locs, hLc⟩ : ∃ z : List Loc, z = [] := ⟨_, rfl⟩
  have hS : va_S (Ag g lo) s.heap H locs := by rw [hH, hLc]; exact hS
  have hW : Wd g lo n σ H := by rw [hH]; exact hW
  suffices hG : W p l e (kr 4 105) s m (List.toArray [.ref (bs g p0), .int a1, .int a2]) below meth c H locs 0 0 Q (F0 m 0 ls []) by rw [hH, hLc] at hG; exact hG
  clear hH hLc
  refine lv_aload_n hx hb dX9_mistakes_0 rfl (lv_at hl 0 rfl) ?_
  refine gf_9_4 hx hb htg (htg _ lf_X9_18) hown hZ hW t0 dX9_mistakes_1 ?_
  refine lv_iload_n hx hb dX9_mistakes_4 rfl (lv_at hl 1 rfl) ?_
  refine lv_iload_n hx hb dX9_mistakes_5 rfl (lv_at hl 2 rfl) ?_
  refine mcip hf hS (fun r h => va_runV (As := [.int a1, .int a2]) (rest := []) ⟨hx, hb, hml, hown, hts⟩ (c_X5_at g l lo n σ (p0 + 2) a1 a2 (t0.sub 5 2 so_9_5_2) r h) (cl_X9_90 hts ⟨Nat.le_of_ble_eq_true rfl, Nat.le_of_ble_eq_true rfl⟩) (mpV_5 hZ hT hS hW (t0.sub 5 2 so_9_5_2) _) rfl rfl hl.1 rfl (lv_room (Nat.le_of_ble_eq_true rfl)) dX9_mistakes_6 ⟨Nat.zero_le _, Nat.zero_le _⟩) (fun r_1 H locs hf hW hS => ?_)
  refine lv_aload_n hx hb dX9_mistakes_9 rfl (lv_at hl 0 rfl) ?_
  refine lv_iload_n hx hb dX9_mistakes_10 rfl (lv_at hl 1 rfl) ?_
  refine lv_iload_n hx hb dX9_mistakes_11 rfl (lv_at hl 2 rfl) ?_
  refine mcip hf hS (fun r h => va_runV (As := [.int a1, .int a2]) (rest := [.int r_1]) ⟨hx, hb, hml, hown, hts⟩ (c_X9_beliefOn g l lo n σ p0 a1 a2 t0 r h) (cl_X9_96 hts ⟨Nat.le_of_ble_eq_true rfl, Nat.le_of_ble_eq_true rfl⟩) (mpV_9 hZ hT hS hW t0 _) rfl rfl hl.1 rfl (lv_room (Nat.le_of_ble_eq_true rfl)) dX9_mistakes_12 ⟨Nat.zero_le _, Nat.zero_le _⟩) (fun r_2 H locs hf hW hS => ?_)
  refine mcip hf hS (fun r h => va_runS (As := [.int r_1, .int r_2]) (rest := []) ⟨hx, hb, hml, hown, hts⟩ (c_X5_unlike g l lo n σ r_1 r_2 r h) (cl_X9_99 hts ⟨Nat.le_of_ble_eq_true rfl, Nat.le_of_ble_eq_true rfl⟩) (mpS hZ hT hS hW _) rfl rfl hl.1 rfl (lv_room (Nat.le_of_ble_eq_true rfl)) dX9_mistakes_15 ⟨Nat.zero_le _, Nat.zero_le _⟩) (fun r_3 H locs hf hW hS => ?_)
  subst hQ
  exact mri hx hb hr hlocks hZ hT hS hW ⟨Option.some.inj hf, rfl⟩ dX9_mistakes_18
def f_X9_knowing (σ : Mem) (p0 : Nat) (a1 : Int32) : Option (Int32) :=
  fx2 FU (fun k_3 (i_1 : Int32) (i_2 : Int32) => rfc (σ.2.2 p0 0) (fun (T_4 : Nat) => bd1 (f_X11_people σ T_4) (fun (r_5 : Int32) => (if r_5 ≤ i_2 then some i_1 else bd1 (f_X9_knowsSelf σ p0 i_2 a1) (fun (r_6 : Int32) => jn1 (fun (i_7 : Int32) => nm (i_1 ||| i_7) (fun (x_9 : Int32) => nm (i_2 + 1) (fun (x_10 : Int32) => k_3 x_9 x_10))) (fun k_8 => (if r_6 = 0 then k_8 0 else k_8 (1 <<< (i_2 &&& 31))))))))) 0 0
set_option maxHeartbeats 4000000 in
set_option maxRecDepth 100000 in
theorem c_X9_knowing (g : XG) (l : Launch) (lo n : Nat) (σ : Mem) (p0 : Nat) (a1 : Int32) (t0 : tp 9 lo n p0) (r : Int32) (hf : f_X9_knowing σ p0 a1 = some r) : Met l yX9_knowing (wx (.code yX9_knowing cX9_knowing 4 (some .int))) (kr 4 128) (va_Pc [.ref (bs g p0), .int a1] (WS g lo n σ)) (Qi' g lo n r σ) 0 0 (Ag g lo) := by
  refine Met.ofW (cc := cX9_knowing) (maxL := 4) (ret := (some .int)) (by decide) rfl ?_
  intro p e s m args below meth c s₁ B hml hv
  obtain ⟨rfl, hZ, hT, hW⟩ := hv
  have hx := B.exec
  have hb := B.bytes
  have hr := B.returns
  have hts : ∀ w ∈ wx (.code yX9_knowing cX9_knowing 4 (some .int)), w.before _ s = true := atoms_spec B.pre
  have htg : ∀ w ∈ lwg, w.before _ s = true := fun w h => hts w (List.mem_cons_of_mem _ h)
  have hown : s.vm.findClass RX9 = some m.cls := findClass_of_methodNamed B.named
  have hlocks := B.notSynchronized
  change W p l e (kr 4 128) s m (List.toArray [.ref (bs g p0), .int a1]) below meth c s.heap [] 0 0 (MQ below (Qi' g lo n r σ) (List.toArray [.ref (bs g p0), .int a1]) s 0 0 (Ag g lo)) _
  generalize hQ : MQ below (Qi' g lo n r σ) (List.toArray [.ref (bs g p0), .int a1]) s 0 0 (Ag g lo) = Q
  have hS : va_S (Ag g lo) s.heap s.heap [] := va_S.rf
  have hl := lv_entry ([.ref (bs g p0), .int a1]) (n := 4) (Nat.le_of_ble_eq_true rfl)
  rw [lg_entry_eq]
  generalize (lg_sl ([.ref (bs g p0), .int a1]) ++ List.replicate (4 - (lg_sl ([.ref (bs g p0), .int a1])).length) Slot.unset).toArray = ls at hl ⊢
  have hl : lv_has ls 4 [(0, .ref (bs g p0)), (1, .int a1)] := hl
  delta f_X9_knowing at hf
  obtain ⟨H, hH⟩ : ∃ H, H = s.heap := ⟨_, rfl⟩
  obtain ⟨locs, hLc⟩ : ∃ z : List Loc, z = [] := ⟨_, rfl⟩
  have hS : va_S (Ag g lo) s.heap H locs := by rw [hH, hLc]; exact hS
  have hW : Wd g lo n σ H := by rw [hH]; exact hW
  suffices hG : W p l e (kr 4 128) s m (List.toArray [.ref (bs g p0), .int a1]) below meth c H locs 0 0 Q (F0 m 0 ls []) by rw [hH, hLc] at hG; exact hG
  clear hH hLc
  refine lv_iconst (v := 0) hx hb dX9_knowing_0 (by decide) ?_
  refine lv_istore_n (lv' := [(2, .int 0), (0, .ref (bs g p0)), (1, .int a1)]) hx hb dX9_knowing_1 rfl hl (by decide) rfl (fun ls hl => ?_)
  refine lv_iconst (v := 0) hx hb dX9_knowing_2 (by decide) ?_
  refine lv_istore_n (lv' := [(3, .int 0), (2, .int 0), (0, .ref (bs g p0)), (1, .int a1)]) hx hb dX9_knowing_3 rfl hl (by decide) rfl (fun ls hl => ?_)
  refine fx2_W (fun (i_1 : Int32) (i_2 : Int32) => ∀ (H : Heap) (locs : List Loc) (ls : Array Slot), Wd g lo n σ H → va_S (Ag g lo) s.heap H locs → lv_has ls 4 [(0, .ref (bs g p0)), (1, .int a1), (2, .int i_1), (3, .int i_2)] → W p l e (kr 4 128) s m (List.toArray [.ref (bs g p0), .int a1]) below meth c H locs 0 0 Q (F0 m 4 ls [])) (fun k_3 hk_3 i_1 i_2 hf => ?_) FU 0 0 hf H locs ls hW hS (lv_sub hl [2, 3, 1, 0] rfl)
  intro H locs ls hW hS hl
  refine lv_iload_n hx hb dX9_knowing_4 rfl (lv_at hl 3 rfl) ?_
  refine lv_aload_n hx hb dX9_knowing_5 rfl (lv_at hl 0 rfl) ?_
  refine gf_9_0 hx hb htg (htg _ lf_X9_26) hown hZ hW t0 dX9_knowing_6 hf (fun T_4 tT_4 hf => ?_)
  refine mcip hf hS (fun r h => va_runV (As := []) (rest := [.int i_2]) ⟨hx, hb, hml, hown, hts⟩ (c_X11_people g l lo n σ T_4 tT_4 r h) (cl_X9_109 hts ⟨Nat.le_of_ble_eq_true rfl, Nat.le_of_ble_eq_true rfl⟩) (mpV_11 hZ hT hS hW tT_4 _) rfl rfl hl.1 rfl (lv_room (Nat.le_of_ble_eq_true rfl)) dX9_knowing_9 ⟨Nat.zero_le _, Nat.zero_le _⟩) (fun r_5 H locs hf hW hS => ?_)
  refine lv_icmp_ge (tgt := 40) hx hb dX9_knowing_12 (by decide) (fun hc => ?_) (fun hc => ?_)
  · have hf := ift hc hf
    refine lv_iload_n hx hb dX9_knowing_40 rfl (lv_at hl 2 rfl) ?_
    subst hQ
    exact mri hx hb hr hlocks hZ hT hS hW ⟨Option.some.inj hf, rfl⟩ dX9_knowing_41
  · have hf := iff_ hc hf
    refine lv_iload_n hx hb dX9_knowing_15 rfl (lv_at hl 2 rfl) ?_
    refine lv_aload_n hx hb dX9_knowing_16 rfl (lv_at hl 0 rfl) ?_
    refine lv_iload_n hx hb dX9_knowing_17 rfl (lv_at hl 3 rfl) ?_
    refine lv_iload_n hx hb dX9_knowing_18 rfl (lv_at hl 1 rfl) ?_
    refine mcip hf hS (fun r h => va_runV (As := [.int i_2, .int a1]) (rest := [.int i_1]) ⟨hx, hb, hml, hown, hts⟩ (c_X9_knowsSelf g l lo n σ p0 i_2 a1 t0 r h) (cl_X9_113 hts ⟨Nat.le_of_ble_eq_true rfl, Nat.le_of_ble_eq_true rfl⟩) (mpV_9 hZ hT hS hW t0 _) rfl rfl hl.1 rfl (lv_room (Nat.le_of_ble_eq_true rfl)) dX9_knowing_19 ⟨Nat.zero_le _, Nat.zero_le _⟩) (fun r_6 H locs hf hW hS => ?_)
    refine jn1_W (fun (i_7 : Int32) => ∀ (H : Heap) (locs : List Loc) (ls : Array Slot), Wd g lo n σ H → va_S (Ag g lo) s.heap H locs → lv_has ls 4 [(0, .ref (bs g p0)), (1, .int a1), (3, .int i_2)] → W p l e (kr 4 128) s m (List.toArray [.ref (bs g p0), .int a1]) below meth c H locs 0 0 Q (F0 m 32 ls [.int i_7, .int i_1])) hf (fun i_7 hf => ?_) (fun k_8 hk_8 hf => ?_)
    · intro H locs ls hW hS hl
      refine lv_ior hx hb dX9_knowing_32 ?_
      refine mnmi hf (fun (x_9 : Int32) hf => ?_)
      refine lv_istore_n (lv' := [(2, .int x_9), (0, .ref (bs g p0)), (1, .int a1), (3, .int i_2)]) hx hb dX9_knowing_33 rfl hl (by decide) rfl (fun ls hl => ?_)
      obtain ⟨x_10, e_11, hf⟩ := nm_s hf
      refine lv_iinc (v := x_10) (lv' := [(3, .int x_10), (2, .int x_9), (0, .ref (bs g p0)), (1, .int a1)]) hx hb dX9_knowing_34 hl (k := 3) rfl (by rw [e_11]; rfl) (by decide) rfl (fun ls hl => ?_)
      refine lv_goto (tgt := 4) hx hb dX9_knowing_37 (by decide) ?_
      exact hk_3 x_9 x_10 hf H locs ls hW hS (lv_sub hl [2, 3, 1, 0] rfl)
    · refine lv_if_eq (tgt := 31) hx hb dX9_knowing_22 (by decide) (fun hc => ?_) (fun hc => ?_)
      · have hf := ift hc hf
        refine lv_iconst (v := 0) hx hb dX9_knowing_31 (by decide) ?_
        exact hk_8 0 hf H locs ls hW hS (lv_sub hl [0, 1, 3] rfl)
      · have hf := iff_ hc hf
        refine lv_iconst (v := 1) hx hb dX9_knowing_25 (by decide) ?_
        refine lv_iload_n hx hb dX9_knowing_26 rfl (lv_at hl 3 rfl) ?_
        refine lv_ishl hx hb dX9_knowing_27 ?_
        refine lv_goto (tgt := 32) hx hb dX9_knowing_28 (by decide) ?_
        exact hk_8 (1 <<< (i_2 &&& 31)) hf H locs ls hW hS (lv_sub hl [0, 1, 3] rfl)
def f_X9_daysLost (σ : Mem) (p0 : Nat) (a1 : Int32) : Option (Int32) :=
  fx2 FU (fun k_3 (i_1 : Int32) (i_2 : Int32) => (if 30 ≤ i_2 then some i_1 else bd1 (f_X9_knowsSelf σ p0 a1 i_2) (fun (r_4 : Int32) => jn1 (fun (i_5 : Int32) => nm (i_1 + i_5) (fun (x_7 : Int32) => nm (i_2 + 1) (fun (x_8 : Int32) => k_3 x_7 x_8))) (fun k_6 => (if r_4 = 0 then k_6 1 else k_6 0))))) 0 0
set_option maxHeartbeats 4000000 in
set_option maxRecDepth 100000 in
theorem c_X9_daysLost (g : XG) (l : Launch) (lo n : Nat) (σ : Mem) (p0 : Nat) (a1 : Int32) (t0 : tp 9 lo n p0) (r : Int32) (hf : f_X9_daysLost σ p0 a1 = some r) : Met l yX9_daysLost (wx (.code yX9_daysLost cX9_daysLost 4 (some .int))) (kr 4 128) (va_Pc [.ref (bs g p0), .int a1] (WS g lo n σ)) (Qi' g lo n r σ) 0 0 (Ag g lo) := by
  refine Met.ofW (cc := cX9_daysLost) (maxL := 4) (ret := (some .int)) (by decide) rfl ?_
  intro p e s m args below meth c s₁ B hml hv
  obtain ⟨rfl, hZ, hT, hW⟩ := hv
  have hx := B.exec
  have hb := B.bytes
  have hr := B.returns
  have hts : ∀ w ∈ wx (.code yX9_daysLost cX9_daysLost 4 (some .int)), w.before _ s = true := atoms_spec B.pre
  have htg : ∀ w ∈ lwg, w.before _ s = true := fun w h => hts w (List.mem_cons_of_mem _ h)
  have hown : s.vm.findClass RX9 = some m.cls := findClass_of_methodNamed B.named
  have hlocks := B.notSynchronized
  change W p l e (kr 4 128) s m (List.toArray [.ref (bs g p0), .int a1]) below meth c s.heap [] 0 0 (MQ below (Qi' g lo n r σ) (List.toArray [.ref (bs g p0), .int a1]) s 0 0 (Ag g lo)) _
  generalize hQ : MQ below (Qi' g lo n r σ) (List.toArray [.ref (bs g p0), .int a1]) s 0 0 (Ag g lo) = Q
  have hS : va_S (Ag g lo) s.heap s.heap [] := va_S.rf
  have hl := lv_entry ([.ref (bs g p0), .int a1]) (n := 4) (Nat.le_of_ble_eq_true rfl)
  rw [lg_entry_eq]
  generalize (lg_sl ([.ref (bs g p0), .int a1]) ++ List.replicate (4 - (lg_sl ([.ref (bs g p0), .int a1])).length) Slot.unset).toArray = ls at hl ⊢
  have hl : lv_has ls 4 [(0, .ref (bs g p0)), (1, .int a1)] := hl
  delta f_X9_daysLost at hf
  obtain ⟨H, hH⟩ : ∃ H, H = s.heap := ⟨_, rfl⟩
  obtain ⟨locs, hLc⟩ : ∃ z : List Loc, z = [] := ⟨_, rfl⟩
  have hS : va_S (Ag g lo) s.heap H locs := by rw [hH, hLc]; exact hS
  have hW : Wd g lo n σ H := by rw [hH]; exact hW
  suffices hG : W p l e (kr 4 128) s m (List.toArray [.ref (bs g p0), .int a1]) below meth c H locs 0 0 Q (F0 m 0 ls []) by rw [hH, hLc] at hG; exact hG
  clear hH hLc
  refine lv_iconst (v := 0) hx hb dX9_daysLost_0 (by decide) ?_
  refine lv_istore_n (lv' := [(2, .int 0), (0, .ref (bs g p0)), (1, .int a1)]) hx hb dX9_daysLost_1 rfl hl (by decide) rfl (fun ls hl => ?_)
  refine lv_iconst (v := 0) hx hb dX9_daysLost_2 (by decide) ?_
  refine lv_istore_n (lv' := [(3, .int 0), (2, .int 0), (0, .ref (bs g p0)), (1, .int a1)]) hx hb dX9_daysLost_3 rfl hl (by decide) rfl (fun ls hl => ?_)
  refine fx2_W (fun (i_1 : Int32) (i_2 : Int32) => ∀ (H : Heap) (locs : List Loc) (ls : Array Slot), Wd g lo n σ H → va_S (Ag g lo) s.heap H locs → lv_has ls 4 [(0, .ref (bs g p0)), (1, .int a1), (2, .int i_1), (3, .int i_2)] → W p l e (kr 4 128) s m (List.toArray [.ref (bs g p0), .int a1]) below meth c H locs 0 0 Q (F0 m 4 ls [])) (fun k_3 hk_3 i_1 i_2 hf => ?_) FU 0 0 hf H locs ls hW hS (lv_sub hl [2, 3, 1, 0] rfl)
  intro H locs ls hW hS hl
  refine lv_iload_n hx hb dX9_daysLost_4 rfl (lv_at hl 3 rfl) ?_
  refine lv_bipush (v := 30) hx hb dX9_daysLost_5 (by decide) ?_
  refine lv_icmp_ge (tgt := 33) hx hb dX9_daysLost_7 (by decide) (fun hc => ?_) (fun hc => ?_)
  · have hf := ift hc hf
    refine lv_iload_n hx hb dX9_daysLost_33 rfl (lv_at hl 2 rfl) ?_
    subst hQ
    exact mri hx hb hr hlocks hZ hT hS hW ⟨Option.some.inj hf, rfl⟩ dX9_daysLost_34
  · have hf := iff_ hc hf
    refine lv_iload_n hx hb dX9_daysLost_10 rfl (lv_at hl 2 rfl) ?_
    refine lv_aload_n hx hb dX9_daysLost_11 rfl (lv_at hl 0 rfl) ?_
    refine lv_iload_n hx hb dX9_daysLost_12 rfl (lv_at hl 1 rfl) ?_
    refine lv_iload_n hx hb dX9_daysLost_13 rfl (lv_at hl 3 rfl) ?_
    refine mcip hf hS (fun r h => va_runV (As := [.int a1, .int i_2]) (rest := [.int i_1]) ⟨hx, hb, hml, hown, hts⟩ (c_X9_knowsSelf g l lo n σ p0 a1 i_2 t0 r h) (cl_X9_113 hts ⟨Nat.le_of_ble_eq_true rfl, Nat.le_of_ble_eq_true rfl⟩) (mpV_9 hZ hT hS hW t0 _) rfl rfl hl.1 rfl (lv_room (Nat.le_of_ble_eq_true rfl)) dX9_daysLost_14 ⟨Nat.zero_le _, Nat.zero_le _⟩) (fun r_4 H locs hf hW hS => ?_)
    refine jn1_W (fun (i_5 : Int32) => ∀ (H : Heap) (locs : List Loc) (ls : Array Slot), Wd g lo n σ H → va_S (Ag g lo) s.heap H locs → lv_has ls 4 [(0, .ref (bs g p0)), (1, .int a1), (3, .int i_2)] → W p l e (kr 4 128) s m (List.toArray [.ref (bs g p0), .int a1]) below meth c H locs 0 0 Q (F0 m 25 ls [.int i_5, .int i_1])) hf (fun i_5 hf => ?_) (fun k_6 hk_6 hf => ?_)
    · intro H locs ls hW hS hl
      refine lv_iadd hx hb dX9_daysLost_25 ?_
      refine mnmi hf (fun (x_7 : Int32) hf => ?_)
      refine lv_istore_n (lv' := [(2, .int x_7), (0, .ref (bs g p0)), (1, .int a1), (3, .int i_2)]) hx hb dX9_daysLost_26 rfl hl (by decide) rfl (fun ls hl => ?_)
      obtain ⟨x_8, e_9, hf⟩ := nm_s hf
      refine lv_iinc (v := x_8) (lv' := [(3, .int x_8), (2, .int x_7), (0, .ref (bs g p0)), (1, .int a1)]) hx hb dX9_daysLost_27 hl (k := 3) rfl (by rw [e_9]; rfl) (by decide) rfl (fun ls hl => ?_)
      refine lv_goto (tgt := 4) hx hb dX9_daysLost_30 (by decide) ?_
      exact hk_3 x_7 x_8 hf H locs ls hW hS (lv_sub hl [2, 3, 1, 0] rfl)
    · refine lv_if_eq (tgt := 24) hx hb dX9_daysLost_17 (by decide) (fun hc => ?_) (fun hc => ?_)
      · have hf := ift hc hf
        refine lv_iconst (v := 1) hx hb dX9_daysLost_24 (by decide) ?_
        exact hk_6 1 hf H locs ls hW hS (lv_sub hl [0, 1, 3] rfl)
      · have hf := iff_ hc hf
        refine lv_iconst (v := 0) hx hb dX9_daysLost_20 (by decide) ?_
        refine lv_goto (tgt := 25) hx hb dX9_daysLost_21 (by decide) ?_
        exact hk_6 0 hf H locs ls hW hS (lv_sub hl [0, 1, 3] rfl)
def f_X9_passesFor (σ : Mem) (p0 : Nat) (a1 : Int32) (a2 : Int32) (a3 : Int32) : Option (Int32) :=
  jn0 (some 0) (fun k_1 => (if a1 = a2 then k_1 else bd1 (f_X5_at σ (p0 + 2) a1 a3) (fun (r_2 : Int32) => bd1 (f_X9_papersOn σ p0 a2 a3) (fun (r_3 : Int32) => bd1 (f_X5_unlike r_2 r_3) (fun (r_4 : Int32) => rfc (σ.2.2 p0 0) (fun (T_5 : Nat) => (if (σ.1 T_5 1) < r_4 then k_1 else some 1)))))))
set_option maxHeartbeats 4000000 in
set_option maxRecDepth 100000 in
theorem c_X9_passesFor (g : XG) (l : Launch) (lo n : Nat) (σ : Mem) (p0 : Nat) (a1 : Int32) (a2 : Int32) (a3 : Int32) (t0 : tp 9 lo n p0) (r : Int32) (hf : f_X9_passesFor σ p0 a1 a2 a3 = some r) : Met l yX9_passesFor (wx (.code yX9_passesFor cX9_passesFor 4 (some .boolean))) (kr 4 106) (va_Pc [.ref (bs g p0), .int a1, .int a2, .int a3] (WS g lo n σ)) (Qi' g lo n r σ) 0 0 (Ag g lo) := by
  refine Met.ofW (cc := cX9_passesFor) (maxL := 4) (ret := (some .boolean)) (by decide) rfl ?_
  intro p e s m args below meth c s₁ B hml hv
  obtain ⟨rfl, hZ, hT, hW⟩ := hv
  have hx := B.exec
  have hb := B.bytes
  have hr := B.returns
  have hts : ∀ w ∈ wx (.code yX9_passesFor cX9_passesFor 4 (some .boolean)), w.before _ s = true := atoms_spec B.pre
  have htg : ∀ w ∈ lwg, w.before _ s = true := fun w h => hts w (List.mem_cons_of_mem _ h)
  have hown : s.vm.findClass RX9 = some m.cls := findClass_of_methodNamed B.named
  have hlocks := B.notSynchronized
  change W p l e (kr 4 106) s m (List.toArray [.ref (bs g p0), .int a1, .int a2, .int a3]) below meth c s.heap [] 0 0 (MQ below (Qi' g lo n r σ) (List.toArray [.ref (bs g p0), .int a1, .int a2, .int a3]) s 0 0 (Ag g lo)) _
  generalize hQ : MQ below (Qi' g lo n r σ) (List.toArray [.ref (bs g p0), .int a1, .int a2, .int a3]) s 0 0 (Ag g lo) = Q
  have hS : va_S (Ag g lo) s.heap s.heap [] := va_S.rf
  have hl := lv_entry ([.ref (bs g p0), .int a1, .int a2, .int a3]) (n := 4) (Nat.le_of_ble_eq_true rfl)
  rw [lg_entry_eq]
  generalize (lg_sl ([.ref (bs g p0), .int a1, .int a2, .int a3]) ++ List.replicate (4 - (lg_sl ([.ref (bs g p0), .int a1, .int a2, .int a3])).length) Slot.unset).toArray = ls at hl ⊢
  have hl : lv_has ls 4 [(0, .ref (bs g p0)), (1, .int a1), (2, .int a2), (3, .int a3)] := hl
  delta f_X9_passesFor at hf
  obtain ⟨H, hH⟩ : ∃ H, H = s.heap := ⟨_, rfl⟩
  obtain ⟨locs, hLc⟩ : ∃ z : List Loc, z = [] := ⟨_, rfl⟩
  have hS : va_S (Ag g lo) s.heap H locs := by rw [hH, hLc]; exact hS
  have hW : Wd g lo n σ H := by rw [hH]; exact hW
  suffices hG : W p l e (kr 4 106) s m (List.toArray [.ref (bs g p0), .int a1, .int a2, .int a3]) below meth c H locs 0 0 Q (F0 m 0 ls []) by rw [hH, hLc] at hG; exact hG
  clear hH hLc
  refine lv_iload_n hx hb dX9_passesFor_0 rfl (lv_at hl 1 rfl) ?_
  refine lv_iload_n hx hb dX9_passesFor_1 rfl (lv_at hl 2 rfl) ?_
  refine jn0_W (∀ (H : Heap) (locs : List Loc) (ls : Array Slot), Wd g lo n σ H → va_S (Ag g lo) s.heap H locs → lv_has ls 4 [] → W p l e (kr 4 106) s m (List.toArray [.ref (bs g p0), .int a1, .int a2, .int a3]) below meth c H locs 0 0 Q (F0 m 37 ls [])) hf (fun  hf => ?_) (fun k_1 hk_1 hf => ?_)
  · intro H locs ls hW hS hl
    refine lv_iconst (v := 0) hx hb dX9_passesFor_37 (by decide) ?_
    subst hQ
    exact mrz hx hb hr hlocks hZ hT hS hW (by decide) ⟨Option.some.inj hf, rfl⟩ dX9_passesFor_38
  · refine lv_icmp_eq (tgt := 37) hx hb dX9_passesFor_2 (by decide) (fun hc => ?_) (fun hc => ?_)
    · have hf := ift hc hf
      exact hk_1  hf H locs ls hW hS (lv_sub hl [] rfl)
    · have hf := iff_ hc hf
      refine lv_aload_n hx hb dX9_passesFor_5 rfl (lv_at hl 0 rfl) ?_
      refine gf_9_4 hx hb htg (htg _ lf_X9_18) hown hZ hW t0 dX9_passesFor_6 ?_
      refine lv_iload_n hx hb dX9_passesFor_9 rfl (lv_at hl 1 rfl) ?_
      refine lv_iload_n hx hb dX9_passesFor_10 rfl (lv_at hl 3 rfl) ?_
      refine mcip hf hS (fun r h => va_runV (As := [.int a1, .int a3]) (rest := []) ⟨hx, hb, hml, hown, hts⟩ (c_X5_at g l lo n σ (p0 + 2) a1 a3 (t0.sub 5 2 so_9_5_2) r h) (cl_X9_90 hts ⟨Nat.le_of_ble_eq_true rfl, Nat.le_of_ble_eq_true rfl⟩) (mpV_5 hZ hT hS hW (t0.sub 5 2 so_9_5_2) _) rfl rfl hl.1 rfl (lv_room (Nat.le_of_ble_eq_true rfl)) dX9_passesFor_11 ⟨Nat.zero_le _, Nat.zero_le _⟩) (fun r_2 H locs hf hW hS => ?_)
      refine lv_aload_n hx hb dX9_passesFor_14 rfl (lv_at hl 0 rfl) ?_
      refine lv_iload_n hx hb dX9_passesFor_15 rfl (lv_at hl 2 rfl) ?_
      refine lv_iload_n hx hb dX9_passesFor_16 rfl (lv_at hl 3 rfl) ?_
      refine mcip hf hS (fun r h => va_runV (As := [.int a2, .int a3]) (rest := [.int r_2]) ⟨hx, hb, hml, hown, hts⟩ (c_X9_papersOn g l lo n σ p0 a2 a3 t0 r h) (cl_X9_116 hts ⟨Nat.le_of_ble_eq_true rfl, Nat.le_of_ble_eq_true rfl⟩) (mpV_9 hZ hT hS hW t0 _) rfl rfl hl.1 rfl (lv_room (Nat.le_of_ble_eq_true rfl)) dX9_passesFor_17 ⟨Nat.zero_le _, Nat.zero_le _⟩) (fun r_3 H locs hf hW hS => ?_)
      refine mcip hf hS (fun r h => va_runS (As := [.int r_2, .int r_3]) (rest := []) ⟨hx, hb, hml, hown, hts⟩ (c_X5_unlike g l lo n σ r_2 r_3 r h) (cl_X9_99 hts ⟨Nat.le_of_ble_eq_true rfl, Nat.le_of_ble_eq_true rfl⟩) (mpS hZ hT hS hW _) rfl rfl hl.1 rfl (lv_room (Nat.le_of_ble_eq_true rfl)) dX9_passesFor_20 ⟨Nat.zero_le _, Nat.zero_le _⟩) (fun r_4 H locs hf hW hS => ?_)
      refine lv_aload_n hx hb dX9_passesFor_23 rfl (lv_at hl 0 rfl) ?_
      refine gf_9_0 hx hb htg (htg _ lf_X9_26) hown hZ hW t0 dX9_passesFor_24 hf (fun T_5 tT_5 hf => ?_)
      refine gfN_11_1 hx hb htg ln_X9_106 hown hZ hW tT_5 dX9_passesFor_27 ?_
      refine lv_icmp_gt (tgt := 37) hx hb dX9_passesFor_30 (by decide) (fun hc => ?_) (fun hc => ?_)
      · have hf := ift hc hf
        exact hk_1  hf H locs ls hW hS (lv_sub hl [] rfl)
      · have hf := iff_ hc hf
        refine lv_iconst (v := 1) hx hb dX9_passesFor_33 (by decide) ?_
        refine lv_goto (tgt := 38) hx hb dX9_passesFor_34 (by decide) ?_
        subst hQ
        exact mrz hx hb hr hlocks hZ hT hS hW (by decide) ⟨Option.some.inj hf, rfl⟩ dX9_passesFor_38
def f_X9_hasTwins (σ : Mem) (p0 : Nat) (a1 : Int32) : Option (Int32) :=
  fx1 FU (fun k_2 (i_1 : Int32) => rfc (σ.2.2 p0 0) (fun (T_3 : Nat) => bd1 (f_X11_people σ T_3) (fun (r_4 : Int32) => (if r_4 ≤ i_1 then some 0 else nm (i_1 + 1) (fun (x_5 : Int32) => fx1 FU (fun k_7 (i_6 : Int32) => rfc (σ.2.2 p0 0) (fun (T_8 : Nat) => bd1 (f_X11_people σ T_8) (fun (r_9 : Int32) => (if r_9 ≤ i_6 then nm (i_1 + 1) (fun (x_10 : Int32) => k_2 x_10) else bd1 (f_X5_at σ (p0 + 2) i_1 a1) (fun (r_12 : Int32) => bd1 (f_X5_at σ (p0 + 2) i_6 a1) (fun (r_13 : Int32) => (if r_12 = r_13 then some 1 else nm (i_6 + 1) (fun (x_14 : Int32) => k_7 x_14)))))))) x_5))))) 0
set_option maxHeartbeats 4000000 in
set_option maxRecDepth 100000 in
theorem c_X9_hasTwins (g : XG) (l : Launch) (lo n : Nat) (σ : Mem) (p0 : Nat) (a1 : Int32) (t0 : tp 9 lo n p0) (r : Int32) (hf : f_X9_hasTwins σ p0 a1 = some r) : Met l yX9_hasTwins (wx (.code yX9_hasTwins cX9_hasTwins 4 (some .boolean))) (kr 2 41) (va_Pc [.ref (bs g p0), .int a1] (WS g lo n σ)) (Qi' g lo n r σ) 0 0 (Ag g lo) := by
  refine Met.ofW (cc := cX9_hasTwins) (maxL := 4) (ret := (some .boolean)) (by decide) rfl ?_
  intro p e s m args below meth c s₁ B hml hv
  obtain ⟨rfl, hZ, hT, hW⟩ := hv
  have hx := B.exec
  have hb := B.bytes
  have hr := B.returns
  have hts : ∀ w ∈ wx (.code yX9_hasTwins cX9_hasTwins 4 (some .boolean)), w.before _ s = true := atoms_spec B.pre
  have htg : ∀ w ∈ lwg, w.before _ s = true := fun w h => hts w (List.mem_cons_of_mem _ h)
  have hown : s.vm.findClass RX9 = some m.cls := findClass_of_methodNamed B.named
  have hlocks := B.notSynchronized
  change W p l e (kr 2 41) s m (List.toArray [.ref (bs g p0), .int a1]) below meth c s.heap [] 0 0 (MQ below (Qi' g lo n r σ) (List.toArray [.ref (bs g p0), .int a1]) s 0 0 (Ag g lo)) _
  generalize hQ : MQ below (Qi' g lo n r σ) (List.toArray [.ref (bs g p0), .int a1]) s 0 0 (Ag g lo) = Q
  have hS : va_S (Ag g lo) s.heap s.heap [] := va_S.rf
  have hl := lv_entry ([.ref (bs g p0), .int a1]) (n := 4) (Nat.le_of_ble_eq_true rfl)
  rw [lg_entry_eq]
  generalize (lg_sl ([.ref (bs g p0), .int a1]) ++ List.replicate (4 - (lg_sl ([.ref (bs g p0), .int a1])).length) Slot.unset).toArray = ls at hl ⊢
  have hl : lv_has ls 4 [(0, .ref (bs g p0)), (1, .int a1)] := hl
  delta f_X9_hasTwins at hf
  obtain ⟨H, hH⟩ : ∃ H, H = s.heap := ⟨_, rfl⟩
  obtain ⟨locs, hLc⟩ : ∃ z : List Loc, z = [] := ⟨_, rfl⟩
  have hS : va_S (Ag g lo) s.heap H locs := by rw [hH, hLc]; exact hS
  have hW : Wd g lo n σ H := by rw [hH]; exact hW
  suffices hG : W p l e (kr 2 41) s m (List.toArray [.ref (bs g p0), .int a1]) below meth c H locs 0 0 Q (F0 m 0 ls []) by rw [hH, hLc] at hG; exact hG
  clear hH hLc
  refine lv_iconst (v := 0) hx hb dX9_hasTwins_0 (by decide) ?_
  refine lv_istore_n (lv' := [(2, .int 0), (0, .ref (bs g p0)), (1, .int a1)]) hx hb dX9_hasTwins_1 rfl hl (by decide) rfl (fun ls hl => ?_)
  refine fx1_W (fun (i_1 : Int32) => ∀ (H : Heap) (locs : List Loc) (ls : Array Slot), Wd g lo n σ H → va_S (Ag g lo) s.heap H locs → lv_has ls 4 [(0, .ref (bs g p0)), (1, .int a1), (2, .int i_1)] → W p l e (kr 2 41) s m (List.toArray [.ref (bs g p0), .int a1]) below meth c H locs 0 0 Q (F0 m 2 ls [])) (fun k_2 hk_2 i_1 hf => ?_) FU 0 hf H locs ls hW hS (lv_sub hl [1, 2, 0] rfl)
  intro H locs ls hW hS hl
  refine lv_iload_n hx hb dX9_hasTwins_2 rfl (lv_at hl 2 rfl) ?_
  refine lv_aload_n hx hb dX9_hasTwins_3 rfl (lv_at hl 0 rfl) ?_
  refine gf_9_0 hx hb htg (htg _ lf_X9_26) hown hZ hW t0 dX9_hasTwins_4 hf (fun T_3 tT_3 hf => ?_)
  refine mcip hf hS (fun r h => va_runV (As := []) (rest := [.int i_1]) ⟨hx, hb, hml, hown, hts⟩ (c_X11_people g l lo n σ T_3 tT_3 r h) (cl_X9_109 hts ⟨Nat.le_of_ble_eq_true rfl, Nat.le_of_ble_eq_true rfl⟩) (mpV_11 hZ hT hS hW tT_3 _) rfl rfl hl.1 rfl (lv_room (Nat.le_of_ble_eq_true rfl)) dX9_hasTwins_7 ⟨Nat.zero_le _, Nat.zero_le _⟩) (fun r_4 H locs hf hW hS => ?_)
  refine lv_icmp_ge (tgt := 63) hx hb dX9_hasTwins_10 (by decide) (fun hc => ?_) (fun hc => ?_)
  · have hf := ift hc hf
    refine lv_iconst (v := 0) hx hb dX9_hasTwins_63 (by decide) ?_
    subst hQ
    exact mrz hx hb hr hlocks hZ hT hS hW (by decide) ⟨Option.some.inj hf, rfl⟩ dX9_hasTwins_64
  · have hf := iff_ hc hf
    refine lv_iload_n hx hb dX9_hasTwins_13 rfl (lv_at hl 2 rfl) ?_
    refine lv_iconst (v := 1) hx hb dX9_hasTwins_14 (by decide) ?_
    refine lv_iadd hx hb dX9_hasTwins_15 ?_
    refine mnmi hf (fun (x_5 : Int32) hf => ?_)
    refine lv_istore_n (lv' := [(3, .int x_5), (0, .ref (bs g p0)), (1, .int a1), (2, .int i_1)]) hx hb dX9_hasTwins_16 rfl hl (by decide) rfl (fun ls hl => ?_)
    refine fx1_W (fun (i_6 : Int32) => ∀ (H : Heap) (locs : List Loc) (ls : Array Slot), Wd g lo n σ H → va_S (Ag g lo) s.heap H locs → lv_has ls 4 [(0, .ref (bs g p0)), (1, .int a1), (2, .int i_1), (3, .int i_6)] → W p l e (kr 2 41) s m (List.toArray [.ref (bs g p0), .int a1]) below meth c H locs 0 0 Q (F0 m 17 ls [])) (fun k_7 hk_7 i_6 hf => ?_) FU x_5 hf H locs ls hW hS (lv_sub hl [1, 2, 3, 0] rfl)
    intro H locs ls hW hS hl
    refine lv_iload_n hx hb dX9_hasTwins_17 rfl (lv_at hl 3 rfl) ?_
    refine lv_aload_n hx hb dX9_hasTwins_18 rfl (lv_at hl 0 rfl) ?_
    refine gf_9_0 hx hb htg (htg _ lf_X9_26) hown hZ hW t0 dX9_hasTwins_19 hf (fun T_8 tT_8 hf => ?_)
    refine mcip hf hS (fun r h => va_runV (As := []) (rest := [.int i_6]) ⟨hx, hb, hml, hown, hts⟩ (c_X11_people g l lo n σ T_8 tT_8 r h) (cl_X9_109 hts ⟨Nat.le_of_ble_eq_true rfl, Nat.le_of_ble_eq_true rfl⟩) (mpV_11 hZ hT hS hW tT_8 _) rfl rfl hl.1 rfl (lv_room (Nat.le_of_ble_eq_true rfl)) dX9_hasTwins_22 ⟨Nat.zero_le _, Nat.zero_le _⟩) (fun r_9 H locs hf hW hS => ?_)
    refine lv_icmp_ge (tgt := 57) hx hb dX9_hasTwins_25 (by decide) (fun hc => ?_) (fun hc => ?_)
    · have hf := ift hc hf
      obtain ⟨x_10, e_11, hf⟩ := nm_s hf
      refine lv_iinc (v := x_10) (lv' := [(2, .int x_10), (0, .ref (bs g p0)), (1, .int a1), (3, .int i_6)]) hx hb dX9_hasTwins_57 hl (k := 2) rfl (by rw [e_11]; rfl) (by decide) rfl (fun ls hl => ?_)
      refine lv_goto (tgt := 2) hx hb dX9_hasTwins_60 (by decide) ?_
      exact hk_2 x_10 hf H locs ls hW hS (lv_sub hl [1, 2, 0] rfl)
    · have hf := iff_ hc hf
      refine lv_aload_n hx hb dX9_hasTwins_28 rfl (lv_at hl 0 rfl) ?_
      refine gf_9_4 hx hb htg (htg _ lf_X9_18) hown hZ hW t0 dX9_hasTwins_29 ?_
      refine lv_iload_n hx hb dX9_hasTwins_32 rfl (lv_at hl 2 rfl) ?_
      refine lv_iload_n hx hb dX9_hasTwins_33 rfl (lv_at hl 1 rfl) ?_
      refine mcip hf hS (fun r h => va_runV (As := [.int i_1, .int a1]) (rest := []) ⟨hx, hb, hml, hown, hts⟩ (c_X5_at g l lo n σ (p0 + 2) i_1 a1 (t0.sub 5 2 so_9_5_2) r h) (cl_X9_90 hts ⟨Nat.le_of_ble_eq_true rfl, Nat.le_of_ble_eq_true rfl⟩) (mpV_5 hZ hT hS hW (t0.sub 5 2 so_9_5_2) _) rfl rfl hl.1 rfl (lv_room (Nat.le_of_ble_eq_true rfl)) dX9_hasTwins_34 ⟨Nat.zero_le _, Nat.zero_le _⟩) (fun r_12 H locs hf hW hS => ?_)
      refine lv_aload_n hx hb dX9_hasTwins_37 rfl (lv_at hl 0 rfl) ?_
      refine gf_9_4 hx hb htg (htg _ lf_X9_18) hown hZ hW t0 dX9_hasTwins_38 ?_
      refine lv_iload_n hx hb dX9_hasTwins_41 rfl (lv_at hl 3 rfl) ?_
      refine lv_iload_n hx hb dX9_hasTwins_42 rfl (lv_at hl 1 rfl) ?_
      refine mcip hf hS (fun r h => va_runV (As := [.int i_6, .int a1]) (rest := [.int r_12]) ⟨hx, hb, hml, hown, hts⟩ (c_X5_at g l lo n σ (p0 + 2) i_6 a1 (t0.sub 5 2 so_9_5_2) r h) (cl_X9_90 hts ⟨Nat.le_of_ble_eq_true rfl, Nat.le_of_ble_eq_true rfl⟩) (mpV_5 hZ hT hS hW (t0.sub 5 2 so_9_5_2) _) rfl rfl hl.1 rfl (lv_room (Nat.le_of_ble_eq_true rfl)) dX9_hasTwins_43 ⟨Nat.zero_le _, Nat.zero_le _⟩) (fun r_13 H locs hf hW hS => ?_)
      refine lv_icmp_ne (tgt := 51) hx hb dX9_hasTwins_46 (by decide) (fun hc => ?_) (fun hc => ?_)
      · have hf := iff_ hc hf
        obtain ⟨x_14, e_15, hf⟩ := nm_s hf
        refine lv_iinc (v := x_14) (lv' := [(3, .int x_14), (0, .ref (bs g p0)), (1, .int a1), (2, .int i_1)]) hx hb dX9_hasTwins_51 hl (k := 3) rfl (by rw [e_15]; rfl) (by decide) rfl (fun ls hl => ?_)
        refine lv_goto (tgt := 17) hx hb dX9_hasTwins_54 (by decide) ?_
        exact hk_7 x_14 hf H locs ls hW hS (lv_sub hl [1, 2, 3, 0] rfl)
      · have hf := ift hc hf
        refine lv_iconst (v := 1) hx hb dX9_hasTwins_49 (by decide) ?_
        subst hQ
        exact mrz hx hb hr hlocks hZ hT hS hW (by decide) ⟨Option.some.inj hf, rfl⟩ dX9_hasTwins_50
def f_X9_countHeld (σ : Mem) (p0 : Nat) : Option (Int32) :=
  bd1 (f_X9_wishesHeld σ p0) (fun (r_1 : Int32) => bd1 (f_J6_bitCount_0f7a4 r_1) (fun (r_2 : Int32) => some r_2))
set_option maxHeartbeats 4000000 in
set_option maxRecDepth 100000 in
theorem c_X9_countHeld (g : XG) (l : Launch) (lo n : Nat) (σ : Mem) (p0 : Nat) (t0 : tp 9 lo n p0) (r : Int32) (hf : f_X9_countHeld σ p0 = some r) : Met l yX9_countHeld (wx (.code yX9_countHeld cX9_countHeld 1 (some .int))) (kr 5 150) (va_Pc [.ref (bs g p0)] (WS g lo n σ)) (Qi' g lo n r σ) 0 0 (Ag g lo) := by
  refine Met.ofW (cc := cX9_countHeld) (maxL := 1) (ret := (some .int)) (by decide) rfl ?_
  intro p e s m args below meth c s₁ B hml hv
  obtain ⟨rfl, hZ, hT, hW⟩ := hv
  have hx := B.exec
  have hb := B.bytes
  have hr := B.returns
  have hts : ∀ w ∈ wx (.code yX9_countHeld cX9_countHeld 1 (some .int)), w.before _ s = true := atoms_spec B.pre
  have htg : ∀ w ∈ lwg, w.before _ s = true := fun w h => hts w (List.mem_cons_of_mem _ h)
  have hown : s.vm.findClass RX9 = some m.cls := findClass_of_methodNamed B.named
  have hlocks := B.notSynchronized
  change W p l e (kr 5 150) s m (List.toArray [.ref (bs g p0)]) below meth c s.heap [] 0 0 (MQ below (Qi' g lo n r σ) (List.toArray [.ref (bs g p0)]) s 0 0 (Ag g lo)) _
  generalize hQ : MQ below (Qi' g lo n r σ) (List.toArray [.ref (bs g p0)]) s 0 0 (Ag g lo) = Q
  have hS : va_S (Ag g lo) s.heap s.heap [] := va_S.rf
  have hl := lv_entry ([.ref (bs g p0)]) (n := 1) (Nat.le_of_ble_eq_true rfl)
  rw [lg_entry_eq]
  generalize (lg_sl ([.ref (bs g p0)]) ++ List.replicate (1 - (lg_sl ([.ref (bs g p0)])).length) Slot.unset).toArray = ls at hl ⊢
  have hl : lv_has ls 1 [(0, .ref (bs g p0))] := hl
  delta f_X9_countHeld at hf
  obtain ⟨H, hH⟩ : ∃ H, H = s.heap := ⟨_, rfl⟩
  obtain ⟨locs, hLc⟩ : ∃ z : List Loc, z = [] := ⟨_, rfl⟩
  have hS : va_S (Ag g lo) s.heap H locs := by rw [hH, hLc]; exact hS
  have hW : Wd g lo n σ H := by rw [hH]; exact hW
  suffices hG : W p l e (kr 5 150) s m (List.toArray [.ref (bs g p0)]) below meth c H locs 0 0 Q (F0 m 0 ls []) by rw [hH, hLc] at hG; exact hG
  clear hH hLc
  refine lv_aload_n hx hb dX9_countHeld_0 rfl (lv_at hl 0 rfl) ?_
  refine mcip hf hS (fun r h => va_runV (As := []) (rest := []) ⟨hx, hb, hml, hown, hts⟩ (c_X9_wishesHeld g l lo n σ p0 t0 r h) (cl_X9_128 hts ⟨Nat.le_of_ble_eq_true rfl, Nat.le_of_ble_eq_true rfl⟩) (mpV_9 hZ hT hS hW t0 _) rfl rfl hl.1 rfl (lv_room (Nat.le_of_ble_eq_true rfl)) dX9_countHeld_1 ⟨Nat.zero_le _, Nat.zero_le _⟩) (fun r_1 H locs hf hW hS => ?_)
  refine mcip hf hS (fun r h => va_runS (As := [.int r_1]) (rest := []) ⟨hx, hb, hml, hown, hts⟩ (c_J6_bitCount_0f7a4 g l lo n σ r_1 r h) (cl_X9_131 hts ⟨Nat.le_of_ble_eq_true rfl, Nat.le_of_ble_eq_true rfl⟩) (mpS hZ hT hS hW _) rfl rfl hl.1 rfl (lv_room (Nat.le_of_ble_eq_true rfl)) dX9_countHeld_4 ⟨Nat.zero_le _, Nat.zero_le _⟩) (fun r_2 H locs hf hW hS => ?_)
  subst hQ
  exact mri hx hb hr hlocks hZ hT hS hW ⟨Option.some.inj hf, rfl⟩ dX9_countHeld_7
def f_X9_drawn (a0 : Int32) : Option (Int32) :=
  dvd 65537 (some (((75 * a0) + 74) - ((75 * a0) + 74) / 65537 * 65537))
set_option maxHeartbeats 4000000 in
set_option maxRecDepth 100000 in
theorem c_X9_drawn (g : XG) (l : Launch) (lo n : Nat) (σ : Mem) (a0 : Int32) (r : Int32) (hf : f_X9_drawn a0 = some r) : Met l yX9_drawn (wx (.code yX9_drawn cX9_drawn 1 (some .int))) (kr 0 0) (va_Pc [.int a0] (WS g lo n σ)) (Qi' g lo n r σ) 0 0 (Ag g lo) := by
  refine Met.ofW (cc := cX9_drawn) (maxL := 1) (ret := (some .int)) (by decide) rfl ?_
  intro p e s m args below meth c s₁ B hml hv
  obtain ⟨rfl, hZ, hT, hW⟩ := hv
  have hx := B.exec
  have hb := B.bytes
  have hr := B.returns
  have hts : ∀ w ∈ wx (.code yX9_drawn cX9_drawn 1 (some .int)), w.before _ s = true := atoms_spec B.pre
  have htg : ∀ w ∈ lwg, w.before _ s = true := fun w h => hts w (List.mem_cons_of_mem _ h)
  have hown : s.vm.findClass RX9 = some m.cls := findClass_of_methodNamed B.named
  have hlocks := B.notSynchronized
  change W p l e (kr 0 0) s m (List.toArray [.int a0]) below meth c s.heap [] 0 0 (MQ below (Qi' g lo n r σ) (List.toArray [.int a0]) s 0 0 (Ag g lo)) _
  generalize hQ : MQ below (Qi' g lo n r σ) (List.toArray [.int a0]) s 0 0 (Ag g lo) = Q
  have hS : va_S (Ag g lo) s.heap s.heap [] := va_S.rf
  have hl := lv_entry ([.int a0]) (n := 1) (Nat.le_of_ble_eq_true rfl)
  rw [lg_entry_eq]
  generalize (lg_sl ([.int a0]) ++ List.replicate (1 - (lg_sl ([.int a0])).length) Slot.unset).toArray = ls at hl ⊢
  have hl : lv_has ls 1 [(0, .int a0)] := hl
  delta f_X9_drawn at hf
  obtain ⟨H, hH⟩ : ∃ H, H = s.heap := ⟨_, rfl⟩
  obtain ⟨locs, hLc⟩ : ∃ z : List Loc, z = [] := ⟨_, rfl⟩
  have hS : va_S (Ag g lo) s.heap H locs := by rw [hH, hLc]; exact hS
  have hW : Wd g lo n σ H := by rw [hH]; exact hW
  suffices hG : W p l e (kr 0 0) s m (List.toArray [.int a0]) below meth c H locs 0 0 Q (F0 m 0 ls []) by rw [hH, hLc] at hG; exact hG
  clear hH hLc
  refine lv_bipush (v := 75) hx hb dX9_drawn_0 (by decide) ?_
  refine lv_iload_n hx hb dX9_drawn_2 rfl (lv_at hl 0 rfl) ?_
  refine lv_imul hx hb dX9_drawn_3 ?_
  refine lv_bipush (v := 74) hx hb dX9_drawn_4 (by decide) ?_
  refine lv_iadd hx hb dX9_drawn_6 ?_
  refine lv_ldc (v := 65537) hx hb hown (htg _ lk_X9_149) dX9_drawn_7 ?_
  obtain ⟨hd, hf⟩ := dvd_s hf
  refine lv_irem hx hb dX9_drawn_9 hd ?_
  subst hQ
  exact mri hx hb hr hlocks hZ hT hS hW ⟨Option.some.inj hf, rfl⟩ dX9_drawn_10
def f_X9_rest (a0 : Int32) (a1 : Int32) : Option (Int32) :=
  (if a1 ≤ 0 then some 0 else dvd a1 (some (a0 - a0 / a1 * a1)))
set_option maxHeartbeats 4000000 in
set_option maxRecDepth 100000 in
theorem c_X9_rest (g : XG) (l : Launch) (lo n : Nat) (σ : Mem) (a0 : Int32) (a1 : Int32) (r : Int32) (hf : f_X9_rest a0 a1 = some r) : Met l yX9_rest (wx (.code yX9_rest cX9_rest 2 (some .int))) (kr 0 0) (va_Pc [.int a0, .int a1] (WS g lo n σ)) (Qi' g lo n r σ) 0 0 (Ag g lo) := by
  refine Met.ofW (cc := cX9_rest) (maxL := 2) (ret := (some .int)) (by decide) rfl ?_
  intro p e s m args below meth c s₁ B hml hv
  obtain ⟨rfl, hZ, hT, hW⟩ := hv
  have hx := B.exec
  have hb := B.bytes
  have hr := B.returns
  have hts : ∀ w ∈ wx (.code yX9_rest cX9_rest 2 (some .int)), w.before _ s = true := atoms_spec B.pre
  have htg : ∀ w ∈ lwg, w.before _ s = true := fun w h => hts w (List.mem_cons_of_mem _ h)
  have hown : s.vm.findClass RX9 = some m.cls := findClass_of_methodNamed B.named
  have hlocks := B.notSynchronized
  change W p l e (kr 0 0) s m (List.toArray [.int a0, .int a1]) below meth c s.heap [] 0 0 (MQ below (Qi' g lo n r σ) (List.toArray [.int a0, .int a1]) s 0 0 (Ag g lo)) _
  generalize hQ : MQ below (Qi' g lo n r σ) (List.toArray [.int a0, .int a1]) s 0 0 (Ag g lo) = Q
  have hS : va_S (Ag g lo) s.heap s.heap [] := va_S.rf
  have hl := lv_entry ([.int a0, .int a1]) (n := 2) (Nat.le_of_ble_eq_true rfl)
  rw [lg_entry_eq]
  generalize (lg_sl ([.int a0, .int a1]) ++ List.replicate (2 - (lg_sl ([.int a0, .int a1])).length) Slot.unset).toArray = ls at hl ⊢
  have hl : lv_has ls 2 [(0, .int a0), (1, .int a1)] := hl
  delta f_X9_rest at hf
  obtain ⟨H, hH⟩ : ∃ H, H = s.heap := ⟨_, rfl⟩
  obtain ⟨locs, hLc⟩ : ∃ z : List Loc, z = [] := ⟨_, rfl⟩
  have hS : va_S (Ag g lo) s.heap H locs := by rw [hH, hLc]; exact hS
  have hW : Wd g lo n σ H := by rw [hH]; exact hW
  suffices hG : W p l e (kr 0 0) s m (List.toArray [.int a0, .int a1]) below meth c H locs 0 0 Q (F0 m 0 ls []) by rw [hH, hLc] at hG; exact hG
  clear hH hLc
  refine lv_iload_n hx hb dX9_rest_0 rfl (lv_at hl 1 rfl) ?_
  refine lv_if_le (tgt := 10) hx hb dX9_rest_1 (by decide) (fun hc => ?_) (fun hc => ?_)
  · have hf := ift hc hf
    refine lv_iconst (v := 0) hx hb dX9_rest_10 (by decide) ?_
    subst hQ
    exact mri hx hb hr hlocks hZ hT hS hW ⟨Option.some.inj hf, rfl⟩ dX9_rest_11
  · have hf := iff_ hc hf
    refine lv_iload_n hx hb dX9_rest_4 rfl (lv_at hl 0 rfl) ?_
    refine lv_iload_n hx hb dX9_rest_5 rfl (lv_at hl 1 rfl) ?_
    obtain ⟨hd, hf⟩ := dvd_s hf
    refine lv_irem hx hb dX9_rest_6 hd ?_
    refine lv_goto (tgt := 11) hx hb dX9_rest_7 (by decide) ?_
    subst hQ
    exact mri hx hb hr hlocks hZ hT hS hW ⟨Option.some.inj hf, rfl⟩ dX9_rest_11
def f_X9_drift (σ : Mem) (p0 : Nat) (a1 : Int32) : Option (Int32 × Mem) :=
  fx3 FU (fun k_4 (i_1 : Int32) (i_2 : Int32) (σ_3 : Mem) => (if 30 ≤ i_2 then some (i_1, σ_3) else bd1 (f_X9_drawn i_1) (fun (r_5 : Int32) => rfc (σ_3.2.2 p0 0) (fun (T_6 : Nat) => bd1 (f_X11_people σ_3 T_6) (fun (r_7 : Int32) => bd1 (f_X9_rest r_5 r_7) (fun (r_8 : Int32) => bd1 (f_X9_drawn r_5) (fun (r_9 : Int32) => rfc (σ_3.2.2 p0 0) (fun (T_10 : Nat) => bd1 (f_X9_rest r_9 (σ_3.1 T_10 0)) (fun (r_11 : Int32) => bd1 (f_X5_goOn σ_3 (p0 + 2) r_8 r_11 i_2 1) (fun (σ_12 : Mem) => nm (i_2 + 1) (fun (x_13 : Int32) => k_4 r_9 x_13 σ_12))))))))))) a1 0 σ
set_option maxHeartbeats 4000000 in
set_option maxRecDepth 100000 in
theorem c_X9_drift (g : XG) (l : Launch) (lo n : Nat) (σ : Mem) (p0 : Nat) (a1 : Int32) (t0 : tp 9 lo n p0) (r : Int32) (τ : Mem) (hf : f_X9_drift σ p0 a1 = some (r, τ)) : Met l yX9_drift (wx (.code yX9_drift cX9_drift 5 (some .int))) (kr 2 85) (va_Pc [.ref (bs g p0), .int a1] (WS g lo n σ)) (Qi' g lo n r τ) 0 0 (Ag g lo) := by
  refine Met.ofW (cc := cX9_drift) (maxL := 5) (ret := (some .int)) (by decide) rfl ?_
  intro p e s m args below meth c s₁ B hml hv
  obtain ⟨rfl, hZ, hT, hW⟩ := hv
  have hx := B.exec
  have hb := B.bytes
  have hr := B.returns
  have hts : ∀ w ∈ wx (.code yX9_drift cX9_drift 5 (some .int)), w.before _ s = true := atoms_spec B.pre
  have htg : ∀ w ∈ lwg, w.before _ s = true := fun w h => hts w (List.mem_cons_of_mem _ h)
  have hown : s.vm.findClass RX9 = some m.cls := findClass_of_methodNamed B.named
  have hlocks := B.notSynchronized
  change W p l e (kr 2 85) s m (List.toArray [.ref (bs g p0), .int a1]) below meth c s.heap [] 0 0 (MQ below (Qi' g lo n r τ) (List.toArray [.ref (bs g p0), .int a1]) s 0 0 (Ag g lo)) _
  generalize hQ : MQ below (Qi' g lo n r τ) (List.toArray [.ref (bs g p0), .int a1]) s 0 0 (Ag g lo) = Q
  have hS : va_S (Ag g lo) s.heap s.heap [] := va_S.rf
  have hl := lv_entry ([.ref (bs g p0), .int a1]) (n := 5) (Nat.le_of_ble_eq_true rfl)
  rw [lg_entry_eq]
  generalize (lg_sl ([.ref (bs g p0), .int a1]) ++ List.replicate (5 - (lg_sl ([.ref (bs g p0), .int a1])).length) Slot.unset).toArray = ls at hl ⊢
  have hl : lv_has ls 5 [(0, .ref (bs g p0)), (1, .int a1)] := hl
  delta f_X9_drift at hf
  obtain ⟨H, hH⟩ : ∃ H, H = s.heap := ⟨_, rfl⟩
  obtain ⟨locs, hLc⟩ : ∃ z : List Loc, z = [] := ⟨_, rfl⟩
  have hS : va_S (Ag g lo) s.heap H locs := by rw [hH, hLc]; exact hS
  have hW : Wd g lo n σ H := by rw [hH]; exact hW
  suffices hG : W p l e (kr 2 85) s m (List.toArray [.ref (bs g p0), .int a1]) below meth c H locs 0 0 Q (F0 m 0 ls []) by rw [hH, hLc] at hG; exact hG
  clear hH hLc
  refine lv_iload_n hx hb dX9_drift_0 rfl (lv_at hl 1 rfl) ?_
  refine lv_istore_n (lv' := [(2, .int a1), (0, .ref (bs g p0)), (1, .int a1)]) hx hb dX9_drift_1 rfl hl (by decide) rfl (fun ls hl => ?_)
  refine lv_iconst (v := 0) hx hb dX9_drift_2 (by decide) ?_
  refine lv_istore_n (lv' := [(3, .int 0), (2, .int a1), (0, .ref (bs g p0)), (1, .int a1)]) hx hb dX9_drift_3 rfl hl (by decide) rfl (fun ls hl => ?_)
  refine fx3_W (fun (i_1 : Int32) (i_2 : Int32) (σ_3 : Mem) => ∀ (H : Heap) (locs : List Loc) (ls : Array Slot), Wd g lo n σ_3 H → va_S (Ag g lo) s.heap H locs → lv_has ls 5 [(0, .ref (bs g p0)), (2, .int i_1), (3, .int i_2)] → W p l e (kr 2 85) s m (List.toArray [.ref (bs g p0), .int a1]) below meth c H locs 0 0 Q (F0 m 4 ls [])) (fun k_4 hk_4 i_1 i_2 σ_3 hf => ?_) FU a1 0 σ hf H locs ls hW hS (lv_sub hl [2, 1, 0] rfl)
  intro H locs ls hW hS hl
  refine lv_iload_n hx hb dX9_drift_4 rfl (lv_at hl 2 rfl) ?_
  refine lv_bipush (v := 30) hx hb dX9_drift_5 (by decide) ?_
  refine lv_icmp_ge (tgt := 61) hx hb dX9_drift_7 (by decide) (fun hc => ?_) (fun hc => ?_)
  · have hf := ift hc hf
    refine lv_iload_n hx hb dX9_drift_61 rfl (lv_at hl 1 rfl) ?_
    subst hQ
    exact mri hx hb hr hlocks hZ hT hS hW (pr1 hf) dX9_drift_62
  · have hf := iff_ hc hf
    refine lv_iload_n hx hb dX9_drift_10 rfl (lv_at hl 1 rfl) ?_
    refine mcip hf hS (fun r h => va_runS (As := [.int i_1]) (rest := []) ⟨hx, hb, hml, hown, hts⟩ (c_X9_drawn g l lo n σ_3 i_1 r h) (cl_X9_136 hts ⟨Nat.le_of_ble_eq_true rfl, Nat.le_of_ble_eq_true rfl⟩) (mpS hZ hT hS hW _) rfl rfl hl.1 rfl (lv_room (Nat.le_of_ble_eq_true rfl)) dX9_drift_11 ⟨Nat.zero_le _, Nat.zero_le _⟩) (fun r_5 H locs hf hW hS => ?_)
    refine lv_istore_n (lv' := [(2, .int r_5), (0, .ref (bs g p0)), (3, .int i_2)]) hx hb dX9_drift_14 rfl hl (by decide) rfl (fun ls hl => ?_)
    refine lv_iload_n hx hb dX9_drift_15 rfl (lv_at hl 0 rfl) ?_
    refine lv_aload_n hx hb dX9_drift_16 rfl (lv_at hl 1 rfl) ?_
    refine gf_9_0 hx hb htg (htg _ lf_X9_26) hown hZ hW t0 dX9_drift_17 hf (fun T_6 tT_6 hf => ?_)
    refine mcip hf hS (fun r h => va_runV (As := []) (rest := [.int r_5]) ⟨hx, hb, hml, hown, hts⟩ (c_X11_people g l lo n σ_3 T_6 tT_6 r h) (cl_X9_109 hts ⟨Nat.le_of_ble_eq_true rfl, Nat.le_of_ble_eq_true rfl⟩) (mpV_11 hZ hT hS hW tT_6 _) rfl rfl hl.1 rfl (lv_room (Nat.le_of_ble_eq_true rfl)) dX9_drift_20 ⟨Nat.zero_le _, Nat.zero_le _⟩) (fun r_7 H locs hf hW hS => ?_)
    refine mcip hf hS (fun r h => va_runS (As := [.int r_5, .int r_7]) (rest := []) ⟨hx, hb, hml, hown, hts⟩ (c_X9_rest g l lo n σ_3 r_5 r_7 r h) (cl_X9_139 hts ⟨Nat.le_of_ble_eq_true rfl, Nat.le_of_ble_eq_true rfl⟩) (mpS hZ hT hS hW _) rfl rfl hl.1 rfl (lv_room (Nat.le_of_ble_eq_true rfl)) dX9_drift_23 ⟨Nat.zero_le _, Nat.zero_le _⟩) (fun r_8 H locs hf hW hS => ?_)
    refine lv_istore (lv' := [(4, .int r_8), (2, .int r_5), (0, .ref (bs g p0)), (3, .int i_2)]) hx hb dX9_drift_26 hl (by decide) rfl (fun ls hl => ?_)
    refine lv_iload_n hx hb dX9_drift_28 rfl (lv_at hl 1 rfl) ?_
    refine mcip hf hS (fun r h => va_runS (As := [.int r_5]) (rest := []) ⟨hx, hb, hml, hown, hts⟩ (c_X9_drawn g l lo n σ_3 r_5 r h) (cl_X9_136 hts ⟨Nat.le_of_ble_eq_true rfl, Nat.le_of_ble_eq_true rfl⟩) (mpS hZ hT hS hW _) rfl rfl hl.1 rfl (lv_room (Nat.le_of_ble_eq_true rfl)) dX9_drift_29 ⟨Nat.zero_le _, Nat.zero_le _⟩) (fun r_9 H locs hf hW hS => ?_)
    refine lv_istore_n (lv' := [(2, .int r_9), (4, .int r_8), (0, .ref (bs g p0)), (3, .int i_2)]) hx hb dX9_drift_32 rfl hl (by decide) rfl (fun ls hl => ?_)
    refine lv_aload_n hx hb dX9_drift_33 rfl (lv_at hl 2 rfl) ?_
    refine gf_9_4 hx hb htg (htg _ lf_X9_18) hown hZ hW t0 dX9_drift_34 ?_
    refine lv_iload hx hb dX9_drift_37 (lv_at hl 1 rfl) ?_
    refine lv_iload_n hx hb dX9_drift_39 rfl (lv_at hl 0 rfl) ?_
    refine lv_aload_n hx hb dX9_drift_40 rfl (lv_at hl 2 rfl) ?_
    refine gf_9_0 hx hb htg (htg _ lf_X9_26) hown hZ hW t0 dX9_drift_41 hf (fun T_10 tT_10 hf => ?_)
    refine gfN_11_0 hx hb htg ln_X9_142 hown hZ hW tT_10 dX9_drift_44 ?_
    refine mcip hf hS (fun r h => va_runS (As := [.int r_9, .int (σ_3.1 T_10 0)]) (rest := [.int r_8, .ref (bs g (p0 + 2))]) ⟨hx, hb, hml, hown, hts⟩ (c_X9_rest g l lo n σ_3 r_9 (σ_3.1 T_10 0) r h) (cl_X9_139 hts ⟨Nat.le_of_ble_eq_true rfl, Nat.le_of_ble_eq_true rfl⟩) (mpS hZ hT hS hW _) rfl rfl hl.1 rfl (lv_room (Nat.le_of_ble_eq_true rfl)) dX9_drift_47 ⟨Nat.zero_le _, Nat.zero_le _⟩) (fun r_11 H locs hf hW hS => ?_)
    refine lv_iload_n hx hb dX9_drift_50 rfl (lv_at hl 3 rfl) ?_
    refine lv_iconst (v := 1) hx hb dX9_drift_51 (by decide) ?_
    refine mcv hf hS (fun τ h => va_runV (As := [.int r_8, .int r_11, .int i_2, .int 1]) (rest := []) ⟨hx, hb, hml, hown, hts⟩ (c_X5_goOn g l lo n σ_3 (p0 + 2) r_8 r_11 i_2 1 (t0.sub 5 2 so_9_5_2) τ h) (cl_X9_145 hts ⟨Nat.le_of_ble_eq_true rfl, Nat.le_of_ble_eq_true rfl⟩) (mpV_5 hZ hT hS hW (t0.sub 5 2 so_9_5_2) _) rfl rfl hl.1 rfl (lv_room (Nat.le_of_ble_eq_true rfl)) dX9_drift_52 ⟨Nat.zero_le _, Nat.zero_le _⟩) (fun σ_12 H locs hf hW hS => ?_)
    obtain ⟨x_13, e_14, hf⟩ := nm_s hf
    refine lv_iinc (v := x_13) (lv' := [(3, .int x_13), (2, .int r_9), (4, .int r_8), (0, .ref (bs g p0))]) hx hb dX9_drift_55 hl (k := 3) rfl (by rw [e_14]; rfl) (by decide) rfl (fun ls hl => ?_)
    refine lv_goto (tgt := 4) hx hb dX9_drift_58 (by decide) ?_
    exact hk_4 r_9 x_13 σ_12 hf H locs ls hW hS (lv_sub hl [3, 1, 0] rfl)
def f_X10_hasRoom (σ : Mem)  : Option (Int32) :=
  (if 800 < ((σ.1 1 1) + 20) then some 0 else some 1)
set_option maxHeartbeats 4000000 in
set_option maxRecDepth 100000 in
theorem c_X10_hasRoom (g : XG) (l : Launch) (σ : Mem) (r : Int32) (hf : f_X10_hasRoom σ = some r) : Met l yX10_hasRoom (wx (.code yX10_hasRoom cX10_hasRoom 1 (some .boolean))) (kr 0 0) (va_Pc [.ref (bs g 1)] (WS g 0 81 σ)) (Qi' g 0 81 r σ) 0 0 (Ag g 0) := by
  refine Met.ofW (cc := cX10_hasRoom) (maxL := 1) (ret := (some .boolean)) (by decide) rfl ?_
  intro p e s m args below meth c s₁ B hml hv
  obtain ⟨rfl, hZ, hT, hW⟩ := hv
  have hx := B.exec
  have hb := B.bytes
  have hr := B.returns
  have hts : ∀ w ∈ wx (.code yX10_hasRoom cX10_hasRoom 1 (some .boolean)), w.before _ s = true := atoms_spec B.pre
  have htg : ∀ w ∈ lwg, w.before _ s = true := fun w h => hts w (List.mem_cons_of_mem _ h)
  have hown : s.vm.findClass RX10 = some m.cls := findClass_of_methodNamed B.named
  have hlocks := B.notSynchronized
  change W p l e (kr 0 0) s m (List.toArray [.ref (bs g 1)]) below meth c s.heap [] 0 0 (MQ below (Qi' g 0 81 r σ) (List.toArray [.ref (bs g 1)]) s 0 0 (Ag g 0)) _
  generalize hQ : MQ below (Qi' g 0 81 r σ) (List.toArray [.ref (bs g 1)]) s 0 0 (Ag g 0) = Q
  have hS : va_S (Ag g 0) s.heap s.heap [] := va_S.rf
  have hl := lv_entry ([.ref (bs g 1)]) (n := 1) (Nat.le_of_ble_eq_true rfl)
  rw [lg_entry_eq]
  generalize (lg_sl ([.ref (bs g 1)]) ++ List.replicate (1 - (lg_sl ([.ref (bs g 1)])).length) Slot.unset).toArray = ls at hl ⊢
  have hl : lv_has ls 1 [(0, .ref (bs g 1))] := hl
  delta f_X10_hasRoom at hf
  obtain ⟨H, hH⟩ : ∃ H, H = s.heap := ⟨_, rfl⟩
  obtain ⟨locs, hLc⟩ : ∃ z : List Loc, z = [] := ⟨_, rfl⟩
  have hS : va_S (Ag g 0) s.heap H locs := by rw [hH, hLc]; exact hS
  have hW : Wd g 0 81 σ H := by rw [hH]; exact hW
  suffices hG : W p l e (kr 0 0) s m (List.toArray [.ref (bs g 1)]) below meth c H locs 0 0 Q (F0 m 0 ls []) by rw [hH, hLc] at hG; exact hG
  clear hH hLc
  refine lv_aload_n hx hb dX10_hasRoom_0 rfl (lv_at hl 0 rfl) ?_
  refine gf_10_1 hx hb htg (htg _ lf_X10_15) hown hZ hW tz_1 dX10_hasRoom_1 ?_
  refine lv_bipush (v := 20) hx hb dX10_hasRoom_4 (by decide) ?_
  refine lv_iadd hx hb dX10_hasRoom_6 ?_
  refine lv_sipush (v := 800) hx hb dX10_hasRoom_7 (by decide) ?_
  refine lv_icmp_gt (tgt := 17) hx hb dX10_hasRoom_10 (by decide) (fun hc => ?_) (fun hc => ?_)
  · have hf := ift hc hf
    refine lv_iconst (v := 0) hx hb dX10_hasRoom_17 (by decide) ?_
    subst hQ
    exact mrz hx hb hr hlocks hZ hT hS hW (by decide) ⟨Option.some.inj hf, rfl⟩ dX10_hasRoom_18
  · have hf := iff_ hc hf
    refine lv_iconst (v := 1) hx hb dX10_hasRoom_13 (by decide) ?_
    refine lv_goto (tgt := 18) hx hb dX10_hasRoom_14 (by decide) ?_
    subst hQ
    exact mrz hx hb hr hlocks hZ hT hS hW (by decide) ⟨Option.some.inj hf, rfl⟩ dX10_hasRoom_18
def f_X10_add (σ : Mem) (a1 : Int32) : Option (Mem) :=
  fx2 FU (fun k_3 (i_1 : Int32) (σ_2 : Mem) => (if i_1 < 0 then some σ_2 else bd1 (f_X12_inside (σ_2.1 1 1) (nI (aln (1 + 1)))) (fun (r_4 : Int32) => jn1 (fun (σ_5 : Mem) => nm (i_1 + (-8)) (fun (x_7 : Int32) => k_3 x_7 σ_5)) (fun k_6 => (if r_4 = 0 then k_6 σ_2 else ixd (σ_2.1 1 1) (aln (1 + 1)) (nm (sI σ_2 (1 + 1) (σ_2.1 1 1).toNatClampNeg (((a1.toUInt32 >>> (i_1.toUInt32 &&& Int32.toUInt32 31)).toInt32).toInt8.toInt32).toInt8.toInt32) (fun (σ_9 : Mem) => nm (sI σ_9 1 1 ((σ_9.1 1 1) + 1)) (fun (σ_10 : Mem) => k_6 σ_10)))))))) 24 σ
set_option maxHeartbeats 4000000 in
set_option maxRecDepth 100000 in
theorem c_X10_add (g : XG) (l : Launch) (σ : Mem) (a1 : Int32) (τ : Mem) (hf : f_X10_add σ a1 = some τ) : Met l yX10_add (wx (.code yX10_add cX10_add 3 none)) (kr 1 21) (va_Pc [.ref (bs g 1), .int a1] (WS g 0 81 σ)) (Qv' g 0 81 τ) 0 0 (Ag g 0) := by
  refine Met.ofW (cc := cX10_add) (maxL := 3) (ret := none) (by decide) rfl ?_
  intro p e s m args below meth c s₁ B hml hv
  obtain ⟨rfl, hZ, hT, hW⟩ := hv
  have hx := B.exec
  have hb := B.bytes
  have hr := B.returns
  have hts : ∀ w ∈ wx (.code yX10_add cX10_add 3 none), w.before _ s = true := atoms_spec B.pre
  have htg : ∀ w ∈ lwg, w.before _ s = true := fun w h => hts w (List.mem_cons_of_mem _ h)
  have hown : s.vm.findClass RX10 = some m.cls := findClass_of_methodNamed B.named
  have hlocks := B.notSynchronized
  change W p l e (kr 1 21) s m (List.toArray [.ref (bs g 1), .int a1]) below meth c s.heap [] 0 0 (MQ below (Qv' g 0 81 τ) (List.toArray [.ref (bs g 1), .int a1]) s 0 0 (Ag g 0)) _
  generalize hQ : MQ below (Qv' g 0 81 τ) (List.toArray [.ref (bs g 1), .int a1]) s 0 0 (Ag g 0) = Q
  have hS : va_S (Ag g 0) s.heap s.heap [] := va_S.rf
  have hl := lv_entry ([.ref (bs g 1), .int a1]) (n := 3) (Nat.le_of_ble_eq_true rfl)
  rw [lg_entry_eq]
  generalize (lg_sl ([.ref (bs g 1), .int a1]) ++ List.replicate (3 - (lg_sl ([.ref (bs g 1), .int a1])).length) Slot.unset).toArray = ls at hl ⊢
  have hl : lv_has ls 3 [(0, .ref (bs g 1)), (1, .int a1)] := hl
  delta f_X10_add at hf
  obtain ⟨H, hH⟩ : ∃ H, H = s.heap := ⟨_, rfl⟩
  obtain ⟨locs, hLc⟩ : ∃ z : List Loc, z = [] := ⟨_, rfl⟩
  have hS : va_S (Ag g 0) s.heap H locs := by rw [hH, hLc]; exact hS
  have hW : Wd g 0 81 σ H := by rw [hH]; exact hW
  suffices hG : W p l e (kr 1 21) s m (List.toArray [.ref (bs g 1), .int a1]) below meth c H locs 0 0 Q (F0 m 0 ls []) by rw [hH, hLc] at hG; exact hG
  clear hH hLc
  refine lv_bipush (v := 24) hx hb dX10_add_0 (by decide) ?_
  refine lv_istore_n (lv' := [(2, .int 24), (0, .ref (bs g 1)), (1, .int a1)]) hx hb dX10_add_2 rfl hl (by decide) rfl (fun ls hl => ?_)
  refine fx2_W (fun (i_1 : Int32) (σ_2 : Mem) => ∀ (H : Heap) (locs : List Loc) (ls : Array Slot), Wd g 0 81 σ_2 H → va_S (Ag g 0) s.heap H locs → lv_has ls 3 [(0, .ref (bs g 1)), (1, .int a1), (2, .int i_1)] → W p l e (kr 1 21) s m (List.toArray [.ref (bs g 1), .int a1]) below meth c H locs 0 0 Q (F0 m 3 ls [])) (fun k_3 hk_3 i_1 σ_2 hf => ?_) FU 24 σ hf H locs ls hW hS (lv_sub hl [1, 2, 0] rfl)
  intro H locs ls hW hS hl
  refine lv_iload_n hx hb dX10_add_3 rfl (lv_at hl 2 rfl) ?_
  refine lv_if_lt (tgt := 51) hx hb dX10_add_4 (by decide) (fun hc => ?_) (fun hc => ?_)
  · have hf := ift hc hf
    subst hQ
    exact mrv hx hb hr hlocks hZ hT hS hW (Option.some.inj hf) dX10_add_51
  · have hf := iff_ hc hf
    refine lv_aload_n hx hb dX10_add_7 rfl (lv_at hl 0 rfl) ?_
    refine gf_10_1 hx hb htg (htg _ lf_X10_15) hown hZ hW tz_1 dX10_add_8 ?_
    refine lv_aload_n hx hb dX10_add_11 rfl (lv_at hl 0 rfl) ?_
    refine gf_10_0 hx hb htg (htg _ lf_X10_11) hown hZ hW tz_1 dX10_add_12 ?_
    refine mln_b hx hb hZ hW (tz_1.sub 21 1 so_10_21_1) dX10_add_15 ?_
    refine mcip hf hS (fun r h => va_runSN (As := [.int (σ_2.1 1 1), .int (nI (aln (1 + 1)))]) (rest := []) ⟨hx, hb, hml, hown, hts⟩ (c_X12_inside g l 0 81 σ_2 (σ_2.1 1 1) (nI (aln (1 + 1))) r h) (cl_X10_19 hts hZ ⟨Nat.le_of_ble_eq_true rfl, Nat.le_of_ble_eq_true rfl⟩) (mpS hZ hT hS hW _) rfl rfl hl.1 rfl (lv_room (Nat.le_of_ble_eq_true rfl)) dX10_add_16 ⟨Nat.zero_le _, Nat.zero_le _⟩) (fun r_4 H locs hf hW hS => ?_)
    refine jn1_W (fun (σ_5 : Mem) => ∀ (H : Heap) (locs : List Loc) (ls : Array Slot), Wd g 0 81 σ_5 H → va_S (Ag g 0) s.heap H locs → lv_has ls 3 [(0, .ref (bs g 1)), (1, .int a1), (2, .int i_1)] → W p l e (kr 1 21) s m (List.toArray [.ref (bs g 1), .int a1]) below meth c H locs 0 0 Q (F0 m 45 ls [])) hf (fun σ_5 hf => ?_) (fun k_6 hk_6 hf => ?_)
    · intro H locs ls hW hS hl
      obtain ⟨x_7, e_8, hf⟩ := nm_s hf
      refine lv_iinc (v := x_7) (lv' := [(2, .int x_7), (0, .ref (bs g 1)), (1, .int a1)]) hx hb dX10_add_45 hl (k := 2) rfl (by rw [e_8]; rfl) (by decide) rfl (fun ls hl => ?_)
      refine lv_goto (tgt := 3) hx hb dX10_add_48 (by decide) ?_
      exact hk_3 x_7 σ_5 hf H locs ls hW hS (lv_sub hl [1, 2, 0] rfl)
    · refine lv_if_eq (tgt := 45) hx hb dX10_add_19 (by decide) (fun hc => ?_) (fun hc => ?_)
      · have hf := ift hc hf
        exact hk_6 σ_2 hf H locs ls hW hS (lv_sub hl [0, 1, 2] rfl)
      · have hf := iff_ hc hf
        refine lv_aload_n hx hb dX10_add_22 rfl (lv_at hl 0 rfl) ?_
        refine gf_10_0 hx hb htg (htg _ lf_X10_11) hown hZ hW tz_1 dX10_add_23 ?_
        refine lv_aload_n hx hb dX10_add_26 rfl (lv_at hl 0 rfl) ?_
        refine gf_10_1 hx hb htg (htg _ lf_X10_15) hown hZ hW tz_1 dX10_add_27 ?_
        refine lv_iload_n hx hb dX10_add_30 rfl (lv_at hl 1 rfl) ?_
        refine lv_iload_n hx hb dX10_add_31 rfl (lv_at hl 2 rfl) ?_
        refine lv_iushr (v := (a1.toUInt32 >>> (i_1.toUInt32 &&& Int32.toUInt32 31)).toInt32) hx hb dX10_add_32 rfl ?_
        refine lv_i2b (v := ((a1.toUInt32 >>> (i_1.toUInt32 &&& Int32.toUInt32 31)).toInt32).toInt8.toInt32) hx hb dX10_add_33 rfl ?_
        refine mst_b hx hb hZ hW hS (tz_1.sub 21 1 so_10_21_1) hf dX10_add_34 (fun σ_9 H locs hf hW hS => ?_)
        refine lv_aload_n hx hb dX10_add_35 rfl (lv_at hl 0 rfl) ?_
        refine lv_dup hx hb dX10_add_36 rfl ?_
        refine gf_10_1 hx hb htg (htg _ lf_X10_15) hown hZ hW tz_1 dX10_add_37 ?_
        refine lv_iconst (v := 1) hx hb dX10_add_40 (by decide) ?_
        refine lv_iadd hx hb dX10_add_41 ?_
        refine pf_10_1 hx hb htg (htg _ lf_X10_15) hown hZ hW hS tz_1 dX10_add_42 hf (fun σ_10 H locs hf hW hS => ?_)
        exact hk_6 σ_10 hf H locs ls hW hS (lv_sub hl [0, 1, 2] rfl)
def f_X10_empty (σ : Mem)  : Option (Mem) :=
  nm (sI σ 1 1 0) (fun (σ_1 : Mem) => some σ_1)
set_option maxHeartbeats 4000000 in
set_option maxRecDepth 100000 in
theorem c_X10_empty (g : XG) (l : Launch) (σ : Mem) (τ : Mem) (hf : f_X10_empty σ = some τ) : Met l yX10_empty (wx (.code yX10_empty cX10_empty 1 none)) (kr 0 0) (va_Pc [.ref (bs g 1)] (WS g 0 81 σ)) (Qv' g 0 81 τ) 0 0 (Ag g 0) := by
  refine Met.ofW (cc := cX10_empty) (maxL := 1) (ret := none) (by decide) rfl ?_
  intro p e s m args below meth c s₁ B hml hv
  obtain ⟨rfl, hZ, hT, hW⟩ := hv
  have hx := B.exec
  have hb := B.bytes
  have hr := B.returns
  have hts : ∀ w ∈ wx (.code yX10_empty cX10_empty 1 none), w.before _ s = true := atoms_spec B.pre
  have htg : ∀ w ∈ lwg, w.before _ s = true := fun w h => hts w (List.mem_cons_of_mem _ h)
  have hown : s.vm.findClass RX10 = some m.cls := findClass_of_methodNamed B.named
  have hlocks := B.notSynchronized
  change W p l e (kr 0 0) s m (List.toArray [.ref (bs g 1)]) below meth c s.heap [] 0 0 (MQ below (Qv' g 0 81 τ) (List.toArray [.ref (bs g 1)]) s 0 0 (Ag g 0)) _
  generalize hQ : MQ below (Qv' g 0 81 τ) (List.toArray [.ref (bs g 1)]) s 0 0 (Ag g 0) = Q
  have hS : va_S (Ag g 0) s.heap s.heap [] := va_S.rf
  have hl := lv_entry ([.ref (bs g 1)]) (n := 1) (Nat.le_of_ble_eq_true rfl)
  rw [lg_entry_eq]
  generalize (lg_sl ([.ref (bs g 1)]) ++ List.replicate (1 - (lg_sl ([.ref (bs g 1)])).length) Slot.unset).toArray = ls at hl ⊢
  have hl : lv_has ls 1 [(0, .ref (bs g 1))] := hl
  delta f_X10_empty at hf
  obtain ⟨H, hH⟩ : ∃ H, H = s.heap := ⟨_, rfl⟩
  obtain ⟨locs, hLc⟩ : ∃ z : List Loc, z = [] := ⟨_, rfl⟩
  have hS : va_S (Ag g 0) s.heap H locs := by rw [hH, hLc]; exact hS
  have hW : Wd g 0 81 σ H := by rw [hH]; exact hW
  suffices hG : W p l e (kr 0 0) s m (List.toArray [.ref (bs g 1)]) below meth c H locs 0 0 Q (F0 m 0 ls []) by rw [hH, hLc] at hG; exact hG
  clear hH hLc
  refine lv_aload_n hx hb dX10_empty_0 rfl (lv_at hl 0 rfl) ?_
  refine lv_iconst (v := 0) hx hb dX10_empty_1 (by decide) ?_
  refine pf_10_1 hx hb htg (htg _ lf_X10_15) hown hZ hW hS tz_1 dX10_empty_2 hf (fun σ_1 H locs hf hW hS => ?_)
  subst hQ
  exact mrv hx hb hr hlocks hZ hT hS hW (Option.some.inj hf) dX10_empty_5
def f_X12_feed (σ : Mem) (a1 : Int32) (a2 : Int32) (a3 : Int32) (a4 : Int32) (a5 : Int32) : Option (Int32 × Mem) :=
  bd1 (f_X10_hasRoom σ) (fun (r_1 : Int32) => (if r_1 = 0 then some ((-1), σ) else bd1 (f_X10_add σ a1) (fun (σ_2 : Mem) => bd1 (f_X10_add σ_2 a2) (fun (σ_3 : Mem) => bd1 (f_X10_add σ_3 a3) (fun (σ_4 : Mem) => bd1 (f_X10_add σ_4 a4) (fun (σ_5 : Mem) => bd1 (f_X10_add σ_5 a5) (fun (σ_6 : Mem) => some (σ_6.1 1 1, σ_6))))))))
set_option maxHeartbeats 4000000 in
set_option maxRecDepth 100000 in
theorem c_X12_feed (g : XG) (l : Launch) (σ : Mem) (a1 : Int32) (a2 : Int32) (a3 : Int32) (a4 : Int32) (a5 : Int32) (r : Int32) (τ : Mem) (hf : f_X12_feed σ a1 a2 a3 a4 a5 = some (r, τ)) : Met l yX12_feed (wx (.code yX12_feed cX12_feed 6 (some .int))) (kr 2 43) (va_Pc [.ref (bs g 0), .int a1, .int a2, .int a3, .int a4, .int a5] (WS g 0 81 σ)) (Qi' g 0 81 r τ) 0 0 (Ag g 0) := by
  refine Met.ofW (cc := cX12_feed) (maxL := 6) (ret := (some .int)) (by decide) rfl ?_
  intro p e s m args below meth c s₁ B hml hv
  obtain ⟨rfl, hZ, hT, hW⟩ := hv
  have hx := B.exec
  have hb := B.bytes
  have hr := B.returns
  have hts : ∀ w ∈ wx (.code yX12_feed cX12_feed 6 (some .int)), w.before _ s = true := atoms_spec B.pre
  have htg : ∀ w ∈ lwg, w.before _ s = true := fun w h => hts w (List.mem_cons_of_mem _ h)
  have hown : s.vm.findClass RX12 = some m.cls := findClass_of_methodNamed B.named
  have hlocks := B.notSynchronized
  change W p l e (kr 2 43) s m (List.toArray [.ref (bs g 0), .int a1, .int a2, .int a3, .int a4, .int a5]) below meth c s.heap [] 0 0 (MQ below (Qi' g 0 81 r τ) (List.toArray [.ref (bs g 0), .int a1, .int a2, .int a3, .int a4, .int a5]) s 0 0 (Ag g 0)) _
  generalize hQ : MQ below (Qi' g 0 81 r τ) (List.toArray [.ref (bs g 0), .int a1, .int a2, .int a3, .int a4, .int a5]) s 0 0 (Ag g 0) = Q
  have hS : va_S (Ag g 0) s.heap s.heap [] := va_S.rf
  have hl := lv_entry ([.ref (bs g 0), .int a1, .int a2, .int a3, .int a4, .int a5]) (n := 6) (Nat.le_of_ble_eq_true rfl)
  rw [lg_entry_eq]
  generalize (lg_sl ([.ref (bs g 0), .int a1, .int a2, .int a3, .int a4, .int a5]) ++ List.replicate (6 - (lg_sl ([.ref (bs g 0), .int a1, .int a2, .int a3, .int a4, .int a5])).length) Slot.unset).toArray = ls at hl ⊢
  have hl : lv_has ls 6 [(0, .ref (bs g 0)), (1, .int a1), (2, .int a2), (3, .int a3), (4, .int a4), (5, .int a5)] := hl
  delta f_X12_feed at hf
  obtain ⟨H, hH⟩ : ∃ H, H = s.heap := ⟨_, rfl⟩
  obtain ⟨locs, hLc⟩ : ∃ z : List Loc, z = [] := ⟨_, rfl⟩
  have hS : va_S (Ag g 0) s.heap H locs := by rw [hH, hLc]; exact hS
  have hW : Wd g 0 81 σ H := by rw [hH]; exact hW
  suffices hG : W p l e (kr 2 43) s m (List.toArray [.ref (bs g 0), .int a1, .int a2, .int a3, .int a4, .int a5]) below meth c H locs 0 0 Q (F0 m 0 ls []) by rw [hH, hLc] at hG; exact hG
  clear hH hLc
  refine lv_aload_n hx hb dX12_feed_0 rfl (lv_at hl 0 rfl) ?_
  refine gf_12_0 hx hb htg (htg _ lf_X12_10) hown hZ hW tz_0 dX12_feed_1 ?_
  refine mcip hf hS (fun r h => va_runV (As := []) (rest := []) ⟨hx, hb, hml, hown, hts⟩ (c_X10_hasRoom g l σ r h) (cl_X12_86 hts ⟨Nat.le_of_ble_eq_true rfl, Nat.le_of_ble_eq_true rfl⟩) (mpV_10 hZ hT hS hW tz_1 _) rfl rfl hl.1 rfl (lv_room (Nat.le_of_ble_eq_true rfl)) dX12_feed_4 ⟨Nat.zero_le _, Nat.zero_le _⟩) (fun r_1 H locs hf hW hS => ?_)
  refine lv_if_ne (tgt := 12) hx hb dX12_feed_7 (by decide) (fun hc => ?_) (fun hc => ?_)
  · have hf := iff_ hc hf
    refine lv_aload_n hx hb dX12_feed_12 rfl (lv_at hl 0 rfl) ?_
    refine gf_12_0 hx hb htg (htg _ lf_X12_10) hown hZ hW tz_0 dX12_feed_13 ?_
    refine lv_iload_n hx hb dX12_feed_16 rfl (lv_at hl 1 rfl) ?_
    refine mcv hf hS (fun τ h => va_runV (As := [.int a1]) (rest := []) ⟨hx, hb, hml, hown, hts⟩ (c_X10_add g l σ a1 τ h) (cl_X12_90 hts ⟨Nat.le_of_ble_eq_true rfl, Nat.le_of_ble_eq_true rfl⟩) (mpV_10 hZ hT hS hW tz_1 _) rfl rfl hl.1 rfl (lv_room (Nat.le_of_ble_eq_true rfl)) dX12_feed_17 ⟨Nat.zero_le _, Nat.zero_le _⟩) (fun σ_2 H locs hf hW hS => ?_)
    refine lv_aload_n hx hb dX12_feed_20 rfl (lv_at hl 0 rfl) ?_
    refine gf_12_0 hx hb htg (htg _ lf_X12_10) hown hZ hW tz_0 dX12_feed_21 ?_
    refine lv_iload_n hx hb dX12_feed_24 rfl (lv_at hl 2 rfl) ?_
    refine mcv hf hS (fun τ h => va_runV (As := [.int a2]) (rest := []) ⟨hx, hb, hml, hown, hts⟩ (c_X10_add g l σ_2 a2 τ h) (cl_X12_90 hts ⟨Nat.le_of_ble_eq_true rfl, Nat.le_of_ble_eq_true rfl⟩) (mpV_10 hZ hT hS hW tz_1 _) rfl rfl hl.1 rfl (lv_room (Nat.le_of_ble_eq_true rfl)) dX12_feed_25 ⟨Nat.zero_le _, Nat.zero_le _⟩) (fun σ_3 H locs hf hW hS => ?_)
    refine lv_aload_n hx hb dX12_feed_28 rfl (lv_at hl 0 rfl) ?_
    refine gf_12_0 hx hb htg (htg _ lf_X12_10) hown hZ hW tz_0 dX12_feed_29 ?_
    refine lv_iload_n hx hb dX12_feed_32 rfl (lv_at hl 3 rfl) ?_
    refine mcv hf hS (fun τ h => va_runV (As := [.int a3]) (rest := []) ⟨hx, hb, hml, hown, hts⟩ (c_X10_add g l σ_3 a3 τ h) (cl_X12_90 hts ⟨Nat.le_of_ble_eq_true rfl, Nat.le_of_ble_eq_true rfl⟩) (mpV_10 hZ hT hS hW tz_1 _) rfl rfl hl.1 rfl (lv_room (Nat.le_of_ble_eq_true rfl)) dX12_feed_33 ⟨Nat.zero_le _, Nat.zero_le _⟩) (fun σ_4 H locs hf hW hS => ?_)
    refine lv_aload_n hx hb dX12_feed_36 rfl (lv_at hl 0 rfl) ?_
    refine gf_12_0 hx hb htg (htg _ lf_X12_10) hown hZ hW tz_0 dX12_feed_37 ?_
    refine lv_iload hx hb dX12_feed_40 (lv_at hl 4 rfl) ?_
    refine mcv hf hS (fun τ h => va_runV (As := [.int a4]) (rest := []) ⟨hx, hb, hml, hown, hts⟩ (c_X10_add g l σ_4 a4 τ h) (cl_X12_90 hts ⟨Nat.le_of_ble_eq_true rfl, Nat.le_of_ble_eq_true rfl⟩) (mpV_10 hZ hT hS hW tz_1 _) rfl rfl hl.1 rfl (lv_room (Nat.le_of_ble_eq_true rfl)) dX12_feed_42 ⟨Nat.zero_le _, Nat.zero_le _⟩) (fun σ_5 H locs hf hW hS => ?_)
    refine lv_aload_n hx hb dX12_feed_45 rfl (lv_at hl 0 rfl) ?_
    refine gf_12_0 hx hb htg (htg _ lf_X12_10) hown hZ hW tz_0 dX12_feed_46 ?_
    refine lv_iload hx hb dX12_feed_49 (lv_at hl 5 rfl) ?_
    refine mcv hf hS (fun τ h => va_runV (As := [.int a5]) (rest := []) ⟨hx, hb, hml, hown, hts⟩ (c_X10_add g l σ_5 a5 τ h) (cl_X12_90 hts ⟨Nat.le_of_ble_eq_true rfl, Nat.le_of_ble_eq_true rfl⟩) (mpV_10 hZ hT hS hW tz_1 _) rfl rfl hl.1 rfl (lv_room (Nat.le_of_ble_eq_true rfl)) dX12_feed_51 ⟨Nat.zero_le _, Nat.zero_le _⟩) (fun σ_6 H locs hf hW hS => ?_)
    refine lv_aload_n hx hb dX12_feed_54 rfl (lv_at hl 0 rfl) ?_
    refine gf_12_0 hx hb htg (htg _ lf_X12_10) hown hZ hW tz_0 dX12_feed_55 ?_
    refine gfN_10_1 hx hb htg ln_X12_94 hown hZ hW tz_1 dX12_feed_58 ?_
    subst hQ
    exact mri hx hb hr hlocks hZ hT hS hW (pr1 hf) dX12_feed_61
  · have hf := ift hc hf
    refine lv_iconst (v := (-1)) hx hb dX12_feed_10 (by decide) ?_
    subst hQ
    exact mri hx hb hr hlocks hZ hT hS hW (pr1 hf) dX12_feed_11
def f_X12_refused (σ : Mem) (a1 : Int32) : Option (Int32 × Mem) :=
  nm (sI σ 0 13 a1) (fun (σ_1 : Mem) => (if a1 = 0 then some (0, σ_1) else some (1, σ_1)))
set_option maxHeartbeats 4000000 in
set_option maxRecDepth 100000 in
theorem c_X12_refused (g : XG) (l : Launch) (σ : Mem) (a1 : Int32) (r : Int32) (τ : Mem) (hf : f_X12_refused σ a1 = some (r, τ)) : Met l yX12_refused (wx (.code yX12_refused cX12_refused 2 (some .boolean))) (kr 0 0) (va_Pc [.ref (bs g 0), .int a1] (WS g 0 81 σ)) (Qi' g 0 81 r τ) 0 0 (Ag g 0) := by
  refine Met.ofW (cc := cX12_refused) (maxL := 2) (ret := (some .boolean)) (by decide) rfl ?_
  intro p e s m args below meth c s₁ B hml hv
  obtain ⟨rfl, hZ, hT, hW⟩ := hv
  have hx := B.exec
  have hb := B.bytes
  have hr := B.returns
  have hts : ∀ w ∈ wx (.code yX12_refused cX12_refused 2 (some .boolean)), w.before _ s = true := atoms_spec B.pre
  have htg : ∀ w ∈ lwg, w.before _ s = true := fun w h => hts w (List.mem_cons_of_mem _ h)
  have hown : s.vm.findClass RX12 = some m.cls := findClass_of_methodNamed B.named
  have hlocks := B.notSynchronized
  change W p l e (kr 0 0) s m (List.toArray [.ref (bs g 0), .int a1]) below meth c s.heap [] 0 0 (MQ below (Qi' g 0 81 r τ) (List.toArray [.ref (bs g 0), .int a1]) s 0 0 (Ag g 0)) _
  generalize hQ : MQ below (Qi' g 0 81 r τ) (List.toArray [.ref (bs g 0), .int a1]) s 0 0 (Ag g 0) = Q
  have hS : va_S (Ag g 0) s.heap s.heap [] := va_S.rf
  have hl := lv_entry ([.ref (bs g 0), .int a1]) (n := 2) (Nat.le_of_ble_eq_true rfl)
  rw [lg_entry_eq]
  generalize (lg_sl ([.ref (bs g 0), .int a1]) ++ List.replicate (2 - (lg_sl ([.ref (bs g 0), .int a1])).length) Slot.unset).toArray = ls at hl ⊢
  have hl : lv_has ls 2 [(0, .ref (bs g 0)), (1, .int a1)] := hl
  delta f_X12_refused at hf
  obtain ⟨H, hH⟩ : ∃ H, H = s.heap := ⟨_, rfl⟩
  obtain ⟨locs, hLc⟩ : ∃ z : List Loc, z = [] := ⟨_, rfl⟩
  have hS : va_S (Ag g 0) s.heap H locs := by rw [hH, hLc]; exact hS
  have hW : Wd g 0 81 σ H := by rw [hH]; exact hW
  suffices hG : W p l e (kr 0 0) s m (List.toArray [.ref (bs g 0), .int a1]) below meth c H locs 0 0 Q (F0 m 0 ls []) by rw [hH, hLc] at hG; exact hG
  clear hH hLc
  refine lv_aload_n hx hb dX12_refused_0 rfl (lv_at hl 0 rfl) ?_
  refine lv_iload_n hx hb dX12_refused_1 rfl (lv_at hl 1 rfl) ?_
  refine pf_12_13 hx hb htg (htg _ lf_X12_131) hown hZ hW hS tz_0 dX12_refused_2 hf (fun σ_1 H locs hf hW hS => ?_)
  refine lv_iload_n hx hb dX12_refused_5 rfl (lv_at hl 1 rfl) ?_
  refine lv_if_eq (tgt := 13) hx hb dX12_refused_6 (by decide) (fun hc => ?_) (fun hc => ?_)
  · have hf := ift hc hf
    refine lv_iconst (v := 0) hx hb dX12_refused_13 (by decide) ?_
    subst hQ
    exact mrz hx hb hr hlocks hZ hT hS hW (by decide) (pr1 hf) dX12_refused_14
  · have hf := iff_ hc hf
    refine lv_iconst (v := 1) hx hb dX12_refused_9 (by decide) ?_
    refine lv_goto (tgt := 14) hx hb dX12_refused_10 (by decide) ?_
    subst hQ
    exact mrz hx hb hr hlocks hZ hT hS hW (by decide) (pr1 hf) dX12_refused_14
def f_X12_town (σ : Mem) (a1 : Int32) : Option (Int32 × Mem) :=
  jn1 (fun (i_1 : Int32) => bd2 (f_X12_refused σ i_1) (fun (r_3 : Int32) (σ_4 : Mem) => (if r_3 = 0 then rfc (σ_4.2.2 0 11) (fun (T_5 : Nat) => bd2 (f_X6_read σ_4 T_5 a1) (fun (r_6 : Int32) (σ_7 : Mem) => nm (sI σ_7 0 14 r_6) (fun (σ_8 : Mem) => nm (sI σ_8 0 15 (σ_8.1 27 3)) (fun (σ_9 : Mem) => bd1 (f_X10_empty σ_9) (fun (σ_10 : Mem) => jn1 (fun (i_11 : Int32) => bd2 (f_X12_refused σ_10 i_11) (fun (r_13 : Int32) (σ_14 : Mem) => (if r_13 = 0 then rfc (σ_14.2.2 0 10) (fun (T_15 : Nat) => rfc (σ_14.2.2 0 11) (fun (T_16 : Nat) => nm (sR σ_14 0 10 (some T_16)) (fun (σ_17 : Mem) => nm (sR σ_17 0 11 (some T_15)) (fun (σ_18 : Mem) => rfc (σ_18.2.2 0 10) (fun (T_19 : Nat) => bd1 (f_X9_begin σ_18 28 T_19) (fun (σ_20 : Mem) => bd1 (f_X1_forget σ_20) (fun (σ_21 : Mem) => nm (sI σ_21 0 12 0) (fun (σ_22 : Mem) => rfc (σ_22.2.2 0 10) (fun (T_23 : Nat) => bd1 (f_X11_people σ_22 T_23) (fun (r_24 : Int32) => some (r_24, σ_22))))))))))) else some ((-1), σ_14)))) (fun k_12 => (if (σ_10.1 0 14) = 0 then k_12 0 else k_12 4))))))) else some ((-1), σ_4)))) (fun k_2 => jn0 (k_2 2) (fun k_25 => (if a1 < 0 then k_25 else (if a1 ≤ (σ.1 1 1) then k_2 0 else k_25))))
set_option maxHeartbeats 4000000 in
set_option maxRecDepth 100000 in
theorem c_X12_town (g : XG) (l : Launch) (σ : Mem) (a1 : Int32) (r : Int32) (τ : Mem) (hf : f_X12_town σ a1 = some (r, τ)) : Met l yX12_town (wx (.code yX12_town cX12_town 3 (some .int))) (kr 10 220) (va_Pc [.ref (bs g 0), .int a1] (WS g 0 81 σ)) (Qi' g 0 81 r τ) 0 0 (Ag g 0) := by
  refine Met.ofW (cc := cX12_town) (maxL := 3) (ret := (some .int)) (by decide) rfl ?_
  intro p e s m args below meth c s₁ B hml hv
  obtain ⟨rfl, hZ, hT, hW⟩ := hv
  have hx := B.exec
  have hb := B.bytes
  have hr := B.returns
  have hts : ∀ w ∈ wx (.code yX12_town cX12_town 3 (some .int)), w.before _ s = true := atoms_spec B.pre
  have htg : ∀ w ∈ lwg, w.before _ s = true := fun w h => hts w (List.mem_cons_of_mem _ h)
  have hown : s.vm.findClass RX12 = some m.cls := findClass_of_methodNamed B.named
  have hlocks := B.notSynchronized
  change W p l e (kr 10 220) s m (List.toArray [.ref (bs g 0), .int a1]) below meth c s.heap [] 0 0 (MQ below (Qi' g 0 81 r τ) (List.toArray [.ref (bs g 0), .int a1]) s 0 0 (Ag g 0)) _
  generalize hQ : MQ below (Qi' g 0 81 r τ) (List.toArray [.ref (bs g 0), .int a1]) s 0 0 (Ag g 0) = Q
  have hS : va_S (Ag g 0) s.heap s.heap [] := va_S.rf
  have hl := lv_entry ([.ref (bs g 0), .int a1]) (n := 3) (Nat.le_of_ble_eq_true rfl)
  rw [lg_entry_eq]
  generalize (lg_sl ([.ref (bs g 0), .int a1]) ++ List.replicate (3 - (lg_sl ([.ref (bs g 0), .int a1])).length) Slot.unset).toArray = ls at hl ⊢
  have hl : lv_has ls 3 [(0, .ref (bs g 0)), (1, .int a1)] := hl
  delta f_X12_town at hf
  obtain ⟨H, hH⟩ : ∃ H, H = s.heap := ⟨_, rfl⟩
  obtain ⟨locs, hLc⟩ : ∃ z : List Loc, z = [] := ⟨_, rfl⟩
  have hS : va_S (Ag g 0) s.heap H locs := by rw [hH, hLc]; exact hS
  have hW : Wd g 0 81 σ H := by rw [hH]; exact hW
  suffices hG : W p l e (kr 10 220) s m (List.toArray [.ref (bs g 0), .int a1]) below meth c H locs 0 0 Q (F0 m 0 ls []) by rw [hH, hLc] at hG; exact hG
  clear hH hLc
  refine lv_aload_n hx hb dX12_town_0 rfl (lv_at hl 0 rfl) ?_
  refine lv_iload_n hx hb dX12_town_1 rfl (lv_at hl 1 rfl) ?_
  refine jn1_W (fun (i_1 : Int32) => ∀ (H : Heap) (locs : List Loc) (ls : Array Slot), Wd g 0 81 σ H → va_S (Ag g 0) s.heap H locs → lv_has ls 3 [(0, .ref (bs g 0)), (1, .int a1)] → W p l e (kr 10 220) s m (List.toArray [.ref (bs g 0), .int a1]) below meth c H locs 0 0 Q (F0 m 21 ls [.int i_1, .ref (bs g 0)])) hf (fun i_1 hf => ?_) (fun k_2 hk_2 hf => ?_)
  · intro H locs ls hW hS hl
    refine mci hf hS (fun r τ h => va_runV (As := [.int i_1]) (rest := []) ⟨hx, hb, hml, hown, hts⟩ (c_X12_refused g l σ i_1 r τ h) (cl_X12_98 hts ⟨Nat.le_of_ble_eq_true rfl, Nat.le_of_ble_eq_true rfl⟩) (mpV_12 hZ hT hS hW tz_0 _) rfl rfl hl.1 rfl (lv_room (Nat.le_of_ble_eq_true rfl)) dX12_town_21 ⟨Nat.zero_le _, Nat.zero_le _⟩) (fun r_3 σ_4 H locs hf hW hS => ?_)
    refine lv_if_eq (tgt := 29) hx hb dX12_town_24 (by decide) (fun hc => ?_) (fun hc => ?_)
    · have hf := ift hc hf
      refine lv_aload_n hx hb dX12_town_29 rfl (lv_at hl 0 rfl) ?_
      refine lv_aload_n hx hb dX12_town_30 rfl (lv_at hl 0 rfl) ?_
      refine gf_12_1 hx hb htg (htg _ lf_X12_31) hown hZ hW tz_0 dX12_town_31 ?_
      refine lv_aload_n hx hb dX12_town_34 rfl (lv_at hl 0 rfl) ?_
      refine gf_12_11 hx hb htg (htg _ lf_X12_23) hown hZ hW tz_0 dX12_town_35 hf (fun T_5 tT_5 hf => ?_)
      refine lv_iload_n hx hb dX12_town_38 rfl (lv_at hl 1 rfl) ?_
      refine mci hf hS (fun r τ h => va_runV (As := [.ref (bs g T_5), .int a1]) (rest := [.ref (bs g 0)]) ⟨hx, hb, hml, hown, hts⟩ (c_X6_read g l σ_4 T_5 a1 tT_5 r τ h) (cl_X12_102 hts ⟨Nat.le_of_ble_eq_true rfl, Nat.le_of_ble_eq_true rfl⟩) (mpV_6 hZ hT hS hW tz_27 _) rfl rfl hl.1 rfl (lv_room (Nat.le_of_ble_eq_true rfl)) dX12_town_39 ⟨Nat.zero_le _, Nat.zero_le _⟩) (fun r_6 σ_7 H locs hf hW hS => ?_)
      refine pf_12_14 hx hb htg (htg _ lf_X12_106) hown hZ hW hS tz_0 dX12_town_42 hf (fun σ_8 H locs hf hW hS => ?_)
      refine lv_aload_n hx hb dX12_town_45 rfl (lv_at hl 0 rfl) ?_
      refine lv_aload_n hx hb dX12_town_46 rfl (lv_at hl 0 rfl) ?_
      refine gf_12_1 hx hb htg (htg _ lf_X12_31) hown hZ hW tz_0 dX12_town_47 ?_
      refine gfN_6_3 hx hb htg ln_X12_109 hown hZ hW tz_27 dX12_town_50 ?_
      refine pf_12_15 hx hb htg (htg _ lf_X12_112) hown hZ hW hS tz_0 dX12_town_53 hf (fun σ_9 H locs hf hW hS => ?_)
      refine lv_aload_n hx hb dX12_town_56 rfl (lv_at hl 0 rfl) ?_
      refine gf_12_0 hx hb htg (htg _ lf_X12_10) hown hZ hW tz_0 dX12_town_57 ?_
      refine mcv hf hS (fun τ h => va_runV (As := []) (rest := []) ⟨hx, hb, hml, hown, hts⟩ (c_X10_empty g l σ_9 τ h) (cl_X12_115 hts ⟨Nat.le_of_ble_eq_true rfl, Nat.le_of_ble_eq_true rfl⟩) (mpV_10 hZ hT hS hW tz_1 _) rfl rfl hl.1 rfl (lv_room (Nat.le_of_ble_eq_true rfl)) dX12_town_60 ⟨Nat.zero_le _, Nat.zero_le _⟩) (fun σ_10 H locs hf hW hS => ?_)
      refine lv_aload_n hx hb dX12_town_63 rfl (lv_at hl 0 rfl) ?_
      refine lv_aload_n hx hb dX12_town_64 rfl (lv_at hl 0 rfl) ?_
      refine gf_12_14 hx hb htg (htg _ lf_X12_106) hown hZ hW tz_0 dX12_town_65 ?_
      refine jn1_W (fun (i_11 : Int32) => ∀ (H : Heap) (locs : List Loc) (ls : Array Slot), Wd g 0 81 σ_10 H → va_S (Ag g 0) s.heap H locs → lv_has ls 3 [(0, .ref (bs g 0))] → W p l e (kr 10 220) s m (List.toArray [.ref (bs g 0), .int a1]) below meth c H locs 0 0 Q (F0 m 76 ls [.int i_11, .ref (bs g 0)])) hf (fun i_11 hf => ?_) (fun k_12 hk_12 hf => ?_)
      · intro H locs ls hW hS hl
        refine mci hf hS (fun r τ h => va_runV (As := [.int i_11]) (rest := []) ⟨hx, hb, hml, hown, hts⟩ (c_X12_refused g l σ_10 i_11 r τ h) (cl_X12_98 hts ⟨Nat.le_of_ble_eq_true rfl, Nat.le_of_ble_eq_true rfl⟩) (mpV_12 hZ hT hS hW tz_0 _) rfl rfl hl.1 rfl (lv_room (Nat.le_of_ble_eq_true rfl)) dX12_town_76 ⟨Nat.zero_le _, Nat.zero_le _⟩) (fun r_13 σ_14 H locs hf hW hS => ?_)
        refine lv_if_eq (tgt := 84) hx hb dX12_town_79 (by decide) (fun hc => ?_) (fun hc => ?_)
        · have hf := ift hc hf
          refine lv_aload_n hx hb dX12_town_84 rfl (lv_at hl 0 rfl) ?_
          refine gf_12_10 hx hb htg (htg _ lf_X12_19) hown hZ hW tz_0 dX12_town_85 hf (fun T_15 tT_15 hf => ?_)
          refine lv_astore_n (lv' := [(2, .ref (bs g T_15)), (0, .ref (bs g 0))]) hx hb dX12_town_88 rfl hl (by decide) rfl (fun ls hl => ?_)
          refine lv_aload_n hx hb dX12_town_89 rfl (lv_at hl 1 rfl) ?_
          refine lv_aload_n hx hb dX12_town_90 rfl (lv_at hl 1 rfl) ?_
          refine gf_12_11 hx hb htg (htg _ lf_X12_23) hown hZ hW tz_0 dX12_town_91 hf (fun T_16 tT_16 hf => ?_)
          refine pf_12_10 hx hb htg (htg _ lf_X12_19) hown hZ hW hS tz_0 dX12_town_94 tT_16 hf (fun σ_17 H locs hf hW hS => ?_)
          refine lv_aload_n hx hb dX12_town_97 rfl (lv_at hl 1 rfl) ?_
          refine lv_aload_n hx hb dX12_town_98 rfl (lv_at hl 0 rfl) ?_
          refine pf_12_11 hx hb htg (htg _ lf_X12_23) hown hZ hW hS tz_0 dX12_town_99 tT_15 hf (fun σ_18 H locs hf hW hS => ?_)
          refine lv_aload_n hx hb dX12_town_102 rfl (lv_at hl 1 rfl) ?_
          refine gf_12_2 hx hb htg (htg _ lf_X12_40) hown hZ hW tz_0 dX12_town_103 ?_
          refine lv_aload_n hx hb dX12_town_106 rfl (lv_at hl 1 rfl) ?_
          refine gf_12_10 hx hb htg (htg _ lf_X12_19) hown hZ hW tz_0 dX12_town_107 hf (fun T_19 tT_19 hf => ?_)
          refine mcv hf hS (fun τ h => va_runV (As := [.ref (bs g T_19)]) (rest := []) ⟨hx, hb, hml, hown, hts⟩ (c_X9_begin g l 0 81 σ_18 28 T_19 tz_28 tT_19 τ h) (cl_X12_118 hts ⟨Nat.le_of_ble_eq_true rfl, Nat.le_of_ble_eq_true rfl⟩) (mpV_9 hZ hT hS hW tz_28 _) rfl rfl hl.1 rfl (lv_room (Nat.le_of_ble_eq_true rfl)) dX12_town_110 ⟨Nat.zero_le _, Nat.zero_le _⟩) (fun σ_20 H locs hf hW hS => ?_)
          refine lv_aload_n hx hb dX12_town_113 rfl (lv_at hl 1 rfl) ?_
          refine gf_12_5 hx hb htg (htg _ lf_X12_54) hown hZ hW tz_0 dX12_town_114 ?_
          refine mcv hf hS (fun τ h => va_runV (As := []) (rest := []) ⟨hx, hb, hml, hown, hts⟩ (c_X1_forget g l σ_20 τ h) (cl_X12_121 hts ⟨Nat.le_of_ble_eq_true rfl, Nat.le_of_ble_eq_true rfl⟩) (mpV_1 hZ hT hS hW tz_49 _) rfl rfl hl.1 rfl (lv_room (Nat.le_of_ble_eq_true rfl)) dX12_town_117 ⟨Nat.zero_le _, Nat.zero_le _⟩) (fun σ_21 H locs hf hW hS => ?_)
          refine lv_aload_n hx hb dX12_town_120 rfl (lv_at hl 1 rfl) ?_
          refine lv_iconst (v := 0) hx hb dX12_town_121 (by decide) ?_
          refine pf_12_12 hx hb htg (htg _ lf_X12_124) hown hZ hW hS tz_0 dX12_town_122 hf (fun σ_22 H locs hf hW hS => ?_)
          refine lv_aload_n hx hb dX12_town_125 rfl (lv_at hl 1 rfl) ?_
          refine gf_12_10 hx hb htg (htg _ lf_X12_19) hown hZ hW tz_0 dX12_town_126 hf (fun T_23 tT_23 hf => ?_)
          refine mcip hf hS (fun r h => va_runV (As := []) (rest := []) ⟨hx, hb, hml, hown, hts⟩ (c_X11_people g l 0 81 σ_22 T_23 tT_23 r h) (cl_X12_127 hts ⟨Nat.le_of_ble_eq_true rfl, Nat.le_of_ble_eq_true rfl⟩) (mpV_11 hZ hT hS hW tT_23 _) rfl rfl hl.1 rfl (lv_room (Nat.le_of_ble_eq_true rfl)) dX12_town_129 ⟨Nat.zero_le _, Nat.zero_le _⟩) (fun r_24 H locs hf hW hS => ?_)
          subst hQ
          exact mri hx hb hr hlocks hZ hT hS hW (pr1 hf) dX12_town_132
        · have hf := iff_ hc hf
          refine lv_iconst (v := (-1)) hx hb dX12_town_82 (by decide) ?_
          subst hQ
          exact mri hx hb hr hlocks hZ hT hS hW (pr1 hf) dX12_town_83
      · refine lv_if_eq (tgt := 75) hx hb dX12_town_68 (by decide) (fun hc => ?_) (fun hc => ?_)
        · have hf := ift hc hf
          refine lv_iconst (v := 0) hx hb dX12_town_75 (by decide) ?_
          exact hk_12 0 hf H locs ls hW hS (lv_sub hl [0] rfl)
        · have hf := iff_ hc hf
          refine lv_iconst (v := 4) hx hb dX12_town_71 (by decide) ?_
          refine lv_goto (tgt := 76) hx hb dX12_town_72 (by decide) ?_
          exact hk_12 4 hf H locs ls hW hS (lv_sub hl [0] rfl)
    · have hf := iff_ hc hf
      refine lv_iconst (v := (-1)) hx hb dX12_town_27 (by decide) ?_
      subst hQ
      exact mri hx hb hr hlocks hZ hT hS hW (pr1 hf) dX12_town_28
  · refine jn0_W (∀ (H : Heap) (locs : List Loc) (ls : Array Slot), Wd g 0 81 σ H → va_S (Ag g 0) s.heap H locs → lv_has ls 3 [(0, .ref (bs g 0)), (1, .int a1)] → W p l e (kr 10 220) s m (List.toArray [.ref (bs g 0), .int a1]) below meth c H locs 0 0 Q (F0 m 16 ls [.ref (bs g 0)])) hf (fun  hf => ?_) (fun k_25 hk_25 hf => ?_)
    · intro H locs ls hW hS hl
      refine lv_iconst (v := 2) hx hb dX12_town_16 (by decide) ?_
      refine lv_goto (tgt := 21) hx hb dX12_town_17 (by decide) ?_
      exact hk_2 2 hf H locs ls hW hS (lv_sub hl [0, 1] rfl)
    · refine lv_if_lt (tgt := 16) hx hb dX12_town_2 (by decide) (fun hc => ?_) (fun hc => ?_)
      · have hf := ift hc hf
        exact hk_25  hf H locs ls hW hS (lv_sub hl [0, 1] rfl)
      · have hf := iff_ hc hf
        refine lv_iload_n hx hb dX12_town_5 rfl (lv_at hl 1 rfl) ?_
        refine lv_aload_n hx hb dX12_town_6 rfl (lv_at hl 0 rfl) ?_
        refine gf_12_0 hx hb htg (htg _ lf_X12_10) hown hZ hW tz_0 dX12_town_7 ?_
        refine gfN_10_1 hx hb htg ln_X12_94 hown hZ hW tz_1 dX12_town_10 ?_
        refine lv_icmp_le (tgt := 20) hx hb dX12_town_13 (by decide) (fun hc => ?_) (fun hc => ?_)
        · have hf := ift hc hf
          refine lv_iconst (v := 0) hx hb dX12_town_20 (by decide) ?_
          exact hk_2 0 hf H locs ls hW hS (lv_sub hl [0, 1] rfl)
        · have hf := iff_ hc hf
          exact hk_25  hf H locs ls hW hS (lv_sub hl [0, 1] rfl)
def f_X12_fault (σ : Mem)  : Option (Int32) :=
  some (σ.1 0 14)
set_option maxHeartbeats 4000000 in
set_option maxRecDepth 100000 in
theorem c_X12_fault (g : XG) (l : Launch) (σ : Mem) (r : Int32) (hf : f_X12_fault σ = some r) : Met l yX12_fault (wx (.code yX12_fault cX12_fault 1 (some .int))) (kr 0 0) (va_Pc [.ref (bs g 0)] (WS g 0 81 σ)) (Qi' g 0 81 r σ) 0 0 (Ag g 0) := by
  refine Met.ofW (cc := cX12_fault) (maxL := 1) (ret := (some .int)) (by decide) rfl ?_
  intro p e s m args below meth c s₁ B hml hv
  obtain ⟨rfl, hZ, hT, hW⟩ := hv
  have hx := B.exec
  have hb := B.bytes
  have hr := B.returns
  have hts : ∀ w ∈ wx (.code yX12_fault cX12_fault 1 (some .int)), w.before _ s = true := atoms_spec B.pre
  have htg : ∀ w ∈ lwg, w.before _ s = true := fun w h => hts w (List.mem_cons_of_mem _ h)
  have hown : s.vm.findClass RX12 = some m.cls := findClass_of_methodNamed B.named
  have hlocks := B.notSynchronized
  change W p l e (kr 0 0) s m (List.toArray [.ref (bs g 0)]) below meth c s.heap [] 0 0 (MQ below (Qi' g 0 81 r σ) (List.toArray [.ref (bs g 0)]) s 0 0 (Ag g 0)) _
  generalize hQ : MQ below (Qi' g 0 81 r σ) (List.toArray [.ref (bs g 0)]) s 0 0 (Ag g 0) = Q
  have hS : va_S (Ag g 0) s.heap s.heap [] := va_S.rf
  have hl := lv_entry ([.ref (bs g 0)]) (n := 1) (Nat.le_of_ble_eq_true rfl)
  rw [lg_entry_eq]
  generalize (lg_sl ([.ref (bs g 0)]) ++ List.replicate (1 - (lg_sl ([.ref (bs g 0)])).length) Slot.unset).toArray = ls at hl ⊢
  have hl : lv_has ls 1 [(0, .ref (bs g 0))] := hl
  delta f_X12_fault at hf
  obtain ⟨H, hH⟩ : ∃ H, H = s.heap := ⟨_, rfl⟩
  obtain ⟨locs, hLc⟩ : ∃ z : List Loc, z = [] := ⟨_, rfl⟩
  have hS : va_S (Ag g 0) s.heap H locs := by rw [hH, hLc]; exact hS
  have hW : Wd g 0 81 σ H := by rw [hH]; exact hW
  suffices hG : W p l e (kr 0 0) s m (List.toArray [.ref (bs g 0)]) below meth c H locs 0 0 Q (F0 m 0 ls []) by rw [hH, hLc] at hG; exact hG
  clear hH hLc
  refine lv_aload_n hx hb dX12_fault_0 rfl (lv_at hl 0 rfl) ?_
  refine gf_12_14 hx hb htg (htg _ lf_X12_106) hown hZ hW tz_0 dX12_fault_1 ?_
  subst hQ
  exact mri hx hb hr hlocks hZ hT hS hW ⟨Option.some.inj hf, rfl⟩ dX12_fault_4
def f_X12_where (σ : Mem)  : Option (Int32) :=
  (if (σ.1 0 13) = 4 then some (σ.1 0 15) else some (-1))
set_option maxHeartbeats 4000000 in
set_option maxRecDepth 100000 in
theorem c_X12_where (g : XG) (l : Launch) (σ : Mem) (r : Int32) (hf : f_X12_where σ = some r) : Met l yX12_where (wx (.code yX12_where cX12_where 1 (some .int))) (kr 0 0) (va_Pc [.ref (bs g 0)] (WS g 0 81 σ)) (Qi' g 0 81 r σ) 0 0 (Ag g 0) := by
  refine Met.ofW (cc := cX12_where) (maxL := 1) (ret := (some .int)) (by decide) rfl ?_
  intro p e s m args below meth c s₁ B hml hv
  obtain ⟨rfl, hZ, hT, hW⟩ := hv
  have hx := B.exec
  have hb := B.bytes
  have hr := B.returns
  have hts : ∀ w ∈ wx (.code yX12_where cX12_where 1 (some .int)), w.before _ s = true := atoms_spec B.pre
  have htg : ∀ w ∈ lwg, w.before _ s = true := fun w h => hts w (List.mem_cons_of_mem _ h)
  have hown : s.vm.findClass RX12 = some m.cls := findClass_of_methodNamed B.named
  have hlocks := B.notSynchronized
  change W p l e (kr 0 0) s m (List.toArray [.ref (bs g 0)]) below meth c s.heap [] 0 0 (MQ below (Qi' g 0 81 r σ) (List.toArray [.ref (bs g 0)]) s 0 0 (Ag g 0)) _
  generalize hQ : MQ below (Qi' g 0 81 r σ) (List.toArray [.ref (bs g 0)]) s 0 0 (Ag g 0) = Q
  have hS : va_S (Ag g 0) s.heap s.heap [] := va_S.rf
  have hl := lv_entry ([.ref (bs g 0)]) (n := 1) (Nat.le_of_ble_eq_true rfl)
  rw [lg_entry_eq]
  generalize (lg_sl ([.ref (bs g 0)]) ++ List.replicate (1 - (lg_sl ([.ref (bs g 0)])).length) Slot.unset).toArray = ls at hl ⊢
  have hl : lv_has ls 1 [(0, .ref (bs g 0))] := hl
  delta f_X12_where at hf
  obtain ⟨H, hH⟩ : ∃ H, H = s.heap := ⟨_, rfl⟩
  obtain ⟨locs, hLc⟩ : ∃ z : List Loc, z = [] := ⟨_, rfl⟩
  have hS : va_S (Ag g 0) s.heap H locs := by rw [hH, hLc]; exact hS
  have hW : Wd g 0 81 σ H := by rw [hH]; exact hW
  suffices hG : W p l e (kr 0 0) s m (List.toArray [.ref (bs g 0)]) below meth c H locs 0 0 Q (F0 m 0 ls []) by rw [hH, hLc] at hG; exact hG
  clear hH hLc
  refine lv_aload_n hx hb dX12_where_0 rfl (lv_at hl 0 rfl) ?_
  refine gf_12_13 hx hb htg (htg _ lf_X12_131) hown hZ hW tz_0 dX12_where_1 ?_
  refine lv_iconst (v := 4) hx hb dX12_where_4 (by decide) ?_
  refine lv_icmp_ne (tgt := 15) hx hb dX12_where_5 (by decide) (fun hc => ?_) (fun hc => ?_)
  · have hf := iff_ hc hf
    refine lv_iconst (v := (-1)) hx hb dX12_where_15 (by decide) ?_
    subst hQ
    exact mri hx hb hr hlocks hZ hT hS hW ⟨Option.some.inj hf, rfl⟩ dX12_where_16
  · have hf := ift hc hf
    refine lv_aload_n hx hb dX12_where_8 rfl (lv_at hl 0 rfl) ?_
    refine gf_12_15 hx hb htg (htg _ lf_X12_112) hown hZ hW tz_0 dX12_where_9 ?_
    refine lv_goto (tgt := 16) hx hb dX12_where_12 (by decide) ?_
    subst hQ
    exact mri hx hb hr hlocks hZ hT hS hW ⟨Option.some.inj hf, rfl⟩ dX12_where_16
def f_X12_ofPerson (σ : Mem) (a1 : Int32) : Option (Int32) :=
  rfc (σ.2.2 0 10) (fun (T_1 : Nat) => bd1 (f_X11_people σ T_1) (fun (r_2 : Int32) => bd1 (f_X12_inside a1 r_2) (fun (r_3 : Int32) => (if r_3 = 0 then some 1 else some 0))))
set_option maxHeartbeats 4000000 in
set_option maxRecDepth 100000 in
theorem c_X12_ofPerson (g : XG) (l : Launch) (σ : Mem) (a1 : Int32) (r : Int32) (hf : f_X12_ofPerson σ a1 = some r) : Met l yX12_ofPerson (wx (.code yX12_ofPerson cX12_ofPerson 2 (some .int))) (kr 2 41) (va_Pc [.ref (bs g 0), .int a1] (WS g 0 81 σ)) (Qi' g 0 81 r σ) 0 0 (Ag g 0) := by
  refine Met.ofW (cc := cX12_ofPerson) (maxL := 2) (ret := (some .int)) (by decide) rfl ?_
  intro p e s m args below meth c s₁ B hml hv
  obtain ⟨rfl, hZ, hT, hW⟩ := hv
  have hx := B.exec
  have hb := B.bytes
  have hr := B.returns
  have hts : ∀ w ∈ wx (.code yX12_ofPerson cX12_ofPerson 2 (some .int)), w.before _ s = true := atoms_spec B.pre
  have htg : ∀ w ∈ lwg, w.before _ s = true := fun w h => hts w (List.mem_cons_of_mem _ h)
  have hown : s.vm.findClass RX12 = some m.cls := findClass_of_methodNamed B.named
  have hlocks := B.notSynchronized
  change W p l e (kr 2 41) s m (List.toArray [.ref (bs g 0), .int a1]) below meth c s.heap [] 0 0 (MQ below (Qi' g 0 81 r σ) (List.toArray [.ref (bs g 0), .int a1]) s 0 0 (Ag g 0)) _
  generalize hQ : MQ below (Qi' g 0 81 r σ) (List.toArray [.ref (bs g 0), .int a1]) s 0 0 (Ag g 0) = Q
  have hS : va_S (Ag g 0) s.heap s.heap [] := va_S.rf
  have hl := lv_entry ([.ref (bs g 0), .int a1]) (n := 2) (Nat.le_of_ble_eq_true rfl)
  rw [lg_entry_eq]
  generalize (lg_sl ([.ref (bs g 0), .int a1]) ++ List.replicate (2 - (lg_sl ([.ref (bs g 0), .int a1])).length) Slot.unset).toArray = ls at hl ⊢
  have hl : lv_has ls 2 [(0, .ref (bs g 0)), (1, .int a1)] := hl
  delta f_X12_ofPerson at hf
  obtain ⟨H, hH⟩ : ∃ H, H = s.heap := ⟨_, rfl⟩
  obtain ⟨locs, hLc⟩ : ∃ z : List Loc, z = [] := ⟨_, rfl⟩
  have hS : va_S (Ag g 0) s.heap H locs := by rw [hH, hLc]; exact hS
  have hW : Wd g 0 81 σ H := by rw [hH]; exact hW
  suffices hG : W p l e (kr 2 41) s m (List.toArray [.ref (bs g 0), .int a1]) below meth c H locs 0 0 Q (F0 m 0 ls []) by rw [hH, hLc] at hG; exact hG
  clear hH hLc
  refine lv_iload_n hx hb dX12_ofPerson_0 rfl (lv_at hl 1 rfl) ?_
  refine lv_aload_n hx hb dX12_ofPerson_1 rfl (lv_at hl 0 rfl) ?_
  refine gf_12_10 hx hb htg (htg _ lf_X12_19) hown hZ hW tz_0 dX12_ofPerson_2 hf (fun T_1 tT_1 hf => ?_)
  refine mcip hf hS (fun r h => va_runV (As := []) (rest := [.int a1]) ⟨hx, hb, hml, hown, hts⟩ (c_X11_people g l 0 81 σ T_1 tT_1 r h) (cl_X12_127 hts ⟨Nat.le_of_ble_eq_true rfl, Nat.le_of_ble_eq_true rfl⟩) (mpV_11 hZ hT hS hW tT_1 _) rfl rfl hl.1 rfl (lv_room (Nat.le_of_ble_eq_true rfl)) dX12_ofPerson_5 ⟨Nat.zero_le _, Nat.zero_le _⟩) (fun r_2 H locs hf hW hS => ?_)
  refine mcip hf hS (fun r h => va_runS (As := [.int a1, .int r_2]) (rest := []) ⟨hx, hb, hml, hown, hts⟩ (c_X12_inside g l 0 81 σ a1 r_2 r h) (cl_X12_215 hts ⟨Nat.le_of_ble_eq_true rfl, Nat.le_of_ble_eq_true rfl⟩) (mpS hZ hT hS hW _) rfl rfl hl.1 rfl (lv_room (Nat.le_of_ble_eq_true rfl)) dX12_ofPerson_8 ⟨Nat.zero_le _, Nat.zero_le _⟩) (fun r_3 H locs hf hW hS => ?_)
  refine lv_if_eq (tgt := 18) hx hb dX12_ofPerson_11 (by decide) (fun hc => ?_) (fun hc => ?_)
  · have hf := ift hc hf
    refine lv_iconst (v := 1) hx hb dX12_ofPerson_18 (by decide) ?_
    subst hQ
    exact mri hx hb hr hlocks hZ hT hS hW ⟨Option.some.inj hf, rfl⟩ dX12_ofPerson_19
  · have hf := iff_ hc hf
    refine lv_iconst (v := 0) hx hb dX12_ofPerson_14 (by decide) ?_
    refine lv_goto (tgt := 19) hx hb dX12_ofPerson_15 (by decide) ?_
    subst hQ
    exact mri hx hb hr hlocks hZ hT hS hW ⟨Option.some.inj hf, rfl⟩ dX12_ofPerson_19
def f_X12_ofTown (σ : Mem)  : Option (Int32) :=
  rfc (σ.2.2 0 10) (fun (T_1 : Nat) => bd1 (f_X11_people σ T_1) (fun (r_2 : Int32) => (if r_2 = 0 then some 1 else some 0)))
set_option maxHeartbeats 4000000 in
set_option maxRecDepth 100000 in
theorem c_X12_ofTown (g : XG) (l : Launch) (σ : Mem) (r : Int32) (hf : f_X12_ofTown σ = some r) : Met l yX12_ofTown (wx (.code yX12_ofTown cX12_ofTown 1 (some .int))) (kr 2 41) (va_Pc [.ref (bs g 0)] (WS g 0 81 σ)) (Qi' g 0 81 r σ) 0 0 (Ag g 0) := by
  refine Met.ofW (cc := cX12_ofTown) (maxL := 1) (ret := (some .int)) (by decide) rfl ?_
  intro p e s m args below meth c s₁ B hml hv
  obtain ⟨rfl, hZ, hT, hW⟩ := hv
  have hx := B.exec
  have hb := B.bytes
  have hr := B.returns
  have hts : ∀ w ∈ wx (.code yX12_ofTown cX12_ofTown 1 (some .int)), w.before _ s = true := atoms_spec B.pre
  have htg : ∀ w ∈ lwg, w.before _ s = true := fun w h => hts w (List.mem_cons_of_mem _ h)
  have hown : s.vm.findClass RX12 = some m.cls := findClass_of_methodNamed B.named
  have hlocks := B.notSynchronized
  change W p l e (kr 2 41) s m (List.toArray [.ref (bs g 0)]) below meth c s.heap [] 0 0 (MQ below (Qi' g 0 81 r σ) (List.toArray [.ref (bs g 0)]) s 0 0 (Ag g 0)) _
  generalize hQ : MQ below (Qi' g 0 81 r σ) (List.toArray [.ref (bs g 0)]) s 0 0 (Ag g 0) = Q
  have hS : va_S (Ag g 0) s.heap s.heap [] := va_S.rf
  have hl := lv_entry ([.ref (bs g 0)]) (n := 1) (Nat.le_of_ble_eq_true rfl)
  rw [lg_entry_eq]
  generalize (lg_sl ([.ref (bs g 0)]) ++ List.replicate (1 - (lg_sl ([.ref (bs g 0)])).length) Slot.unset).toArray = ls at hl ⊢
  have hl : lv_has ls 1 [(0, .ref (bs g 0))] := hl
  delta f_X12_ofTown at hf
  obtain ⟨H, hH⟩ : ∃ H, H = s.heap := ⟨_, rfl⟩
  obtain ⟨locs, hLc⟩ : ∃ z : List Loc, z = [] := ⟨_, rfl⟩
  have hS : va_S (Ag g 0) s.heap H locs := by rw [hH, hLc]; exact hS
  have hW : Wd g 0 81 σ H := by rw [hH]; exact hW
  suffices hG : W p l e (kr 2 41) s m (List.toArray [.ref (bs g 0)]) below meth c H locs 0 0 Q (F0 m 0 ls []) by rw [hH, hLc] at hG; exact hG
  clear hH hLc
  refine lv_aload_n hx hb dX12_ofTown_0 rfl (lv_at hl 0 rfl) ?_
  refine gf_12_10 hx hb htg (htg _ lf_X12_19) hown hZ hW tz_0 dX12_ofTown_1 hf (fun T_1 tT_1 hf => ?_)
  refine mcip hf hS (fun r h => va_runV (As := []) (rest := []) ⟨hx, hb, hml, hown, hts⟩ (c_X11_people g l 0 81 σ T_1 tT_1 r h) (cl_X12_127 hts ⟨Nat.le_of_ble_eq_true rfl, Nat.le_of_ble_eq_true rfl⟩) (mpV_11 hZ hT hS hW tT_1 _) rfl rfl hl.1 rfl (lv_room (Nat.le_of_ble_eq_true rfl)) dX12_ofTown_4 ⟨Nat.zero_le _, Nat.zero_le _⟩) (fun r_2 H locs hf hW hS => ?_)
  refine lv_if_ne (tgt := 14) hx hb dX12_ofTown_7 (by decide) (fun hc => ?_) (fun hc => ?_)
  · have hf := iff_ hc hf
    refine lv_iconst (v := 0) hx hb dX12_ofTown_14 (by decide) ?_
    subst hQ
    exact mri hx hb hr hlocks hZ hT hS hW ⟨Option.some.inj hf, rfl⟩ dX12_ofTown_15
  · have hf := ift hc hf
    refine lv_iconst (v := 1) hx hb dX12_ofTown_10 (by decide) ?_
    refine lv_goto (tgt := 15) hx hb dX12_ofTown_11 (by decide) ?_
    subst hQ
    exact mri hx hb hr hlocks hZ hT hS hW ⟨Option.some.inj hf, rfl⟩ dX12_ofTown_15
def f_X12_ofDay (σ : Mem) (a1 : Int32) : Option (Int32) :=
  bd1 (f_X12_ofTown σ) (fun (r_1 : Int32) => (if r_1 = 0 then bd1 (f_X12_inside a1 30) (fun (r_2 : Int32) => (if r_2 = 0 then some 2 else some 0)) else some 1))
set_option maxHeartbeats 4000000 in
set_option maxRecDepth 100000 in
theorem c_X12_ofDay (g : XG) (l : Launch) (σ : Mem) (a1 : Int32) (r : Int32) (hf : f_X12_ofDay σ a1 = some r) : Met l yX12_ofDay (wx (.code yX12_ofDay cX12_ofDay 2 (some .int))) (kr 3 61) (va_Pc [.ref (bs g 0), .int a1] (WS g 0 81 σ)) (Qi' g 0 81 r σ) 0 0 (Ag g 0) := by
  refine Met.ofW (cc := cX12_ofDay) (maxL := 2) (ret := (some .int)) (by decide) rfl ?_
  intro p e s m args below meth c s₁ B hml hv
  obtain ⟨rfl, hZ, hT, hW⟩ := hv
  have hx := B.exec
  have hb := B.bytes
  have hr := B.returns
  have hts : ∀ w ∈ wx (.code yX12_ofDay cX12_ofDay 2 (some .int)), w.before _ s = true := atoms_spec B.pre
  have htg : ∀ w ∈ lwg, w.before _ s = true := fun w h => hts w (List.mem_cons_of_mem _ h)
  have hown : s.vm.findClass RX12 = some m.cls := findClass_of_methodNamed B.named
  have hlocks := B.notSynchronized
  change W p l e (kr 3 61) s m (List.toArray [.ref (bs g 0), .int a1]) below meth c s.heap [] 0 0 (MQ below (Qi' g 0 81 r σ) (List.toArray [.ref (bs g 0), .int a1]) s 0 0 (Ag g 0)) _
  generalize hQ : MQ below (Qi' g 0 81 r σ) (List.toArray [.ref (bs g 0), .int a1]) s 0 0 (Ag g 0) = Q
  have hS : va_S (Ag g 0) s.heap s.heap [] := va_S.rf
  have hl := lv_entry ([.ref (bs g 0), .int a1]) (n := 2) (Nat.le_of_ble_eq_true rfl)
  rw [lg_entry_eq]
  generalize (lg_sl ([.ref (bs g 0), .int a1]) ++ List.replicate (2 - (lg_sl ([.ref (bs g 0), .int a1])).length) Slot.unset).toArray = ls at hl ⊢
  have hl : lv_has ls 2 [(0, .ref (bs g 0)), (1, .int a1)] := hl
  delta f_X12_ofDay at hf
  obtain ⟨H, hH⟩ : ∃ H, H = s.heap := ⟨_, rfl⟩
  obtain ⟨locs, hLc⟩ : ∃ z : List Loc, z = [] := ⟨_, rfl⟩
  have hS : va_S (Ag g 0) s.heap H locs := by rw [hH, hLc]; exact hS
  have hW : Wd g 0 81 σ H := by rw [hH]; exact hW
  suffices hG : W p l e (kr 3 61) s m (List.toArray [.ref (bs g 0), .int a1]) below meth c H locs 0 0 Q (F0 m 0 ls []) by rw [hH, hLc] at hG; exact hG
  clear hH hLc
  refine lv_aload_n hx hb dX12_ofDay_0 rfl (lv_at hl 0 rfl) ?_
  refine mcip hf hS (fun r h => va_runV (As := []) (rest := []) ⟨hx, hb, hml, hown, hts⟩ (c_X12_ofTown g l σ r h) (cl_X12_201 hts ⟨Nat.le_of_ble_eq_true rfl, Nat.le_of_ble_eq_true rfl⟩) (mpV_12 hZ hT hS hW tz_0 _) rfl rfl hl.1 rfl (lv_room (Nat.le_of_ble_eq_true rfl)) dX12_ofDay_1 ⟨Nat.zero_le _, Nat.zero_le _⟩) (fun r_1 H locs hf hW hS => ?_)
  refine lv_if_eq (tgt := 11) hx hb dX12_ofDay_4 (by decide) (fun hc => ?_) (fun hc => ?_)
  · have hf := ift hc hf
    refine lv_iload_n hx hb dX12_ofDay_11 rfl (lv_at hl 1 rfl) ?_
    refine lv_bipush (v := 30) hx hb dX12_ofDay_12 (by decide) ?_
    refine mcip hf hS (fun r h => va_runS (As := [.int a1, .int 30]) (rest := []) ⟨hx, hb, hml, hown, hts⟩ (c_X12_inside g l 0 81 σ a1 30 r h) (cl_X12_215 hts ⟨Nat.le_of_ble_eq_true rfl, Nat.le_of_ble_eq_true rfl⟩) (mpS hZ hT hS hW _) rfl rfl hl.1 rfl (lv_room (Nat.le_of_ble_eq_true rfl)) dX12_ofDay_14 ⟨Nat.zero_le _, Nat.zero_le _⟩) (fun r_2 H locs hf hW hS => ?_)
    refine lv_if_eq (tgt := 24) hx hb dX12_ofDay_17 (by decide) (fun hc => ?_) (fun hc => ?_)
    · have hf := ift hc hf
      refine lv_iconst (v := 2) hx hb dX12_ofDay_24 (by decide) ?_
      subst hQ
      exact mri hx hb hr hlocks hZ hT hS hW ⟨Option.some.inj hf, rfl⟩ dX12_ofDay_25
    · have hf := iff_ hc hf
      refine lv_iconst (v := 0) hx hb dX12_ofDay_20 (by decide) ?_
      refine lv_goto (tgt := 25) hx hb dX12_ofDay_21 (by decide) ?_
      subst hQ
      exact mri hx hb hr hlocks hZ hT hS hW ⟨Option.some.inj hf, rfl⟩ dX12_ofDay_25
  · have hf := iff_ hc hf
    refine lv_iconst (v := 1) hx hb dX12_ofDay_7 (by decide) ?_
    refine lv_goto (tgt := 25) hx hb dX12_ofDay_8 (by decide) ?_
    subst hQ
    exact mri hx hb hr hlocks hZ hT hS hW ⟨Option.some.inj hf, rfl⟩ dX12_ofDay_25
def f_X12_ofPersonOnDay (σ : Mem) (a1 : Int32) (a2 : Int32) : Option (Int32) :=
  bd1 (f_X12_ofPerson σ a1) (fun (r_1 : Int32) => (if r_1 = 0 then bd1 (f_X12_ofDay σ a2) (fun (r_2 : Int32) => some r_2) else some 1))
set_option maxHeartbeats 4000000 in
set_option maxRecDepth 100000 in
theorem c_X12_ofPersonOnDay (g : XG) (l : Launch) (σ : Mem) (a1 : Int32) (a2 : Int32) (r : Int32) (hf : f_X12_ofPersonOnDay σ a1 a2 = some r) : Met l yX12_ofPersonOnDay (wx (.code yX12_ofPersonOnDay cX12_ofPersonOnDay 3 (some .int))) (kr 4 82) (va_Pc [.ref (bs g 0), .int a1, .int a2] (WS g 0 81 σ)) (Qi' g 0 81 r σ) 0 0 (Ag g 0) := by
  refine Met.ofW (cc := cX12_ofPersonOnDay) (maxL := 3) (ret := (some .int)) (by decide) rfl ?_
  intro p e s m args below meth c s₁ B hml hv
  obtain ⟨rfl, hZ, hT, hW⟩ := hv
  have hx := B.exec
  have hb := B.bytes
  have hr := B.returns
  have hts : ∀ w ∈ wx (.code yX12_ofPersonOnDay cX12_ofPersonOnDay 3 (some .int)), w.before _ s = true := atoms_spec B.pre
  have htg : ∀ w ∈ lwg, w.before _ s = true := fun w h => hts w (List.mem_cons_of_mem _ h)
  have hown : s.vm.findClass RX12 = some m.cls := findClass_of_methodNamed B.named
  have hlocks := B.notSynchronized
  change W p l e (kr 4 82) s m (List.toArray [.ref (bs g 0), .int a1, .int a2]) below meth c s.heap [] 0 0 (MQ below (Qi' g 0 81 r σ) (List.toArray [.ref (bs g 0), .int a1, .int a2]) s 0 0 (Ag g 0)) _
  generalize hQ : MQ below (Qi' g 0 81 r σ) (List.toArray [.ref (bs g 0), .int a1, .int a2]) s 0 0 (Ag g 0) = Q
  have hS : va_S (Ag g 0) s.heap s.heap [] := va_S.rf
  have hl := lv_entry ([.ref (bs g 0), .int a1, .int a2]) (n := 3) (Nat.le_of_ble_eq_true rfl)
  rw [lg_entry_eq]
  generalize (lg_sl ([.ref (bs g 0), .int a1, .int a2]) ++ List.replicate (3 - (lg_sl ([.ref (bs g 0), .int a1, .int a2])).length) Slot.unset).toArray = ls at hl ⊢
  have hl : lv_has ls 3 [(0, .ref (bs g 0)), (1, .int a1), (2, .int a2)] := hl
  delta f_X12_ofPersonOnDay at hf
  obtain ⟨H, hH⟩ : ∃ H, H = s.heap := ⟨_, rfl⟩
  obtain ⟨locs, hLc⟩ : ∃ z : List Loc, z = [] := ⟨_, rfl⟩
  have hS : va_S (Ag g 0) s.heap H locs := by rw [hH, hLc]; exact hS
  have hW : Wd g 0 81 σ H := by rw [hH]; exact hW
  suffices hG : W p l e (kr 4 82) s m (List.toArray [.ref (bs g 0), .int a1, .int a2]) below meth c H locs 0 0 Q (F0 m 0 ls []) by rw [hH, hLc] at hG; exact hG
  clear hH hLc
  refine lv_aload_n hx hb dX12_ofPersonOnDay_0 rfl (lv_at hl 0 rfl) ?_
  refine lv_iload_n hx hb dX12_ofPersonOnDay_1 rfl (lv_at hl 1 rfl) ?_
  refine mcip hf hS (fun r h => va_runV (As := [.int a1]) (rest := []) ⟨hx, hb, hml, hown, hts⟩ (c_X12_ofPerson g l σ a1 r h) (cl_X12_157 hts ⟨Nat.le_of_ble_eq_true rfl, Nat.le_of_ble_eq_true rfl⟩) (mpV_12 hZ hT hS hW tz_0 _) rfl rfl hl.1 rfl (lv_room (Nat.le_of_ble_eq_true rfl)) dX12_ofPersonOnDay_2 ⟨Nat.zero_le _, Nat.zero_le _⟩) (fun r_1 H locs hf hW hS => ?_)
  refine lv_if_eq (tgt := 12) hx hb dX12_ofPersonOnDay_5 (by decide) (fun hc => ?_) (fun hc => ?_)
  · have hf := ift hc hf
    refine lv_aload_n hx hb dX12_ofPersonOnDay_12 rfl (lv_at hl 0 rfl) ?_
    refine lv_iload_n hx hb dX12_ofPersonOnDay_13 rfl (lv_at hl 2 rfl) ?_
    refine mcip hf hS (fun r h => va_runV (As := [.int a2]) (rest := []) ⟨hx, hb, hml, hown, hts⟩ (c_X12_ofDay g l σ a2 r h) (cl_X12_175 hts ⟨Nat.le_of_ble_eq_true rfl, Nat.le_of_ble_eq_true rfl⟩) (mpV_12 hZ hT hS hW tz_0 _) rfl rfl hl.1 rfl (lv_room (Nat.le_of_ble_eq_true rfl)) dX12_ofPersonOnDay_14 ⟨Nat.zero_le _, Nat.zero_le _⟩) (fun r_2 H locs hf hW hS => ?_)
    subst hQ
    exact mri hx hb hr hlocks hZ hT hS hW ⟨Option.some.inj hf, rfl⟩ dX12_ofPersonOnDay_17
  · have hf := iff_ hc hf
    refine lv_iconst (v := 1) hx hb dX12_ofPersonOnDay_8 (by decide) ?_
    refine lv_goto (tgt := 17) hx hb dX12_ofPersonOnDay_9 (by decide) ?_
    subst hQ
    exact mri hx hb hr hlocks hZ hT hS hW ⟨Option.some.inj hf, rfl⟩ dX12_ofPersonOnDay_17
def f_X12_ofMarkOnDay (σ : Mem) (a1 : Int32) (a2 : Int32) (a3 : Int32) : Option (Int32) :=
  rfc (σ.2.2 0 10) (fun (T_1 : Nat) => bd1 (f_X12_inside a3 (σ.1 T_1 0)) (fun (r_2 : Int32) => (if r_2 = 0 then some 1 else bd1 (f_X12_ofPersonOnDay σ a1 a2) (fun (r_3 : Int32) => some r_3))))
set_option maxHeartbeats 4000000 in
set_option maxRecDepth 100000 in
theorem c_X12_ofMarkOnDay (g : XG) (l : Launch) (σ : Mem) (a1 : Int32) (a2 : Int32) (a3 : Int32) (r : Int32) (hf : f_X12_ofMarkOnDay σ a1 a2 a3 = some r) : Met l yX12_ofMarkOnDay (wx (.code yX12_ofMarkOnDay cX12_ofMarkOnDay 4 (some .int))) (kr 5 104) (va_Pc [.ref (bs g 0), .int a1, .int a2, .int a3] (WS g 0 81 σ)) (Qi' g 0 81 r σ) 0 0 (Ag g 0) := by
  refine Met.ofW (cc := cX12_ofMarkOnDay) (maxL := 4) (ret := (some .int)) (by decide) rfl ?_
  intro p e s m args below meth c s₁ B hml hv
  obtain ⟨rfl, hZ, hT, hW⟩ := hv
  have hx := B.exec
  have hb := B.bytes
  have hr := B.returns
  have hts : ∀ w ∈ wx (.code yX12_ofMarkOnDay cX12_ofMarkOnDay 4 (some .int)), w.before _ s = true := atoms_spec B.pre
  have htg : ∀ w ∈ lwg, w.before _ s = true := fun w h => hts w (List.mem_cons_of_mem _ h)
  have hown : s.vm.findClass RX12 = some m.cls := findClass_of_methodNamed B.named
  have hlocks := B.notSynchronized
  change W p l e (kr 5 104) s m (List.toArray [.ref (bs g 0), .int a1, .int a2, .int a3]) below meth c s.heap [] 0 0 (MQ below (Qi' g 0 81 r σ) (List.toArray [.ref (bs g 0), .int a1, .int a2, .int a3]) s 0 0 (Ag g 0)) _
  generalize hQ : MQ below (Qi' g 0 81 r σ) (List.toArray [.ref (bs g 0), .int a1, .int a2, .int a3]) s 0 0 (Ag g 0) = Q
  have hS : va_S (Ag g 0) s.heap s.heap [] := va_S.rf
  have hl := lv_entry ([.ref (bs g 0), .int a1, .int a2, .int a3]) (n := 4) (Nat.le_of_ble_eq_true rfl)
  rw [lg_entry_eq]
  generalize (lg_sl ([.ref (bs g 0), .int a1, .int a2, .int a3]) ++ List.replicate (4 - (lg_sl ([.ref (bs g 0), .int a1, .int a2, .int a3])).length) Slot.unset).toArray = ls at hl ⊢
  have hl : lv_has ls 4 [(0, .ref (bs g 0)), (1, .int a1), (2, .int a2), (3, .int a3)] := hl
  delta f_X12_ofMarkOnDay at hf
  obtain ⟨H, hH⟩ : ∃ H, H = s.heap := ⟨_, rfl⟩
  obtain ⟨locs, hLc⟩ : ∃ z : List Loc, z = [] := ⟨_, rfl⟩
  have hS : va_S (Ag g 0) s.heap H locs := by rw [hH, hLc]; exact hS
  have hW : Wd g 0 81 σ H := by rw [hH]; exact hW
  suffices hG : W p l e (kr 5 104) s m (List.toArray [.ref (bs g 0), .int a1, .int a2, .int a3]) below meth c H locs 0 0 Q (F0 m 0 ls []) by rw [hH, hLc] at hG; exact hG
  clear hH hLc
  refine lv_iload_n hx hb dX12_ofMarkOnDay_0 rfl (lv_at hl 3 rfl) ?_
  refine lv_aload_n hx hb dX12_ofMarkOnDay_1 rfl (lv_at hl 0 rfl) ?_
  refine gf_12_10 hx hb htg (htg _ lf_X12_19) hown hZ hW tz_0 dX12_ofMarkOnDay_2 hf (fun T_1 tT_1 hf => ?_)
  refine gfN_11_0 hx hb htg ln_X12_285 hown hZ hW tT_1 dX12_ofMarkOnDay_5 ?_
  refine mcip hf hS (fun r h => va_runS (As := [.int a3, .int (σ.1 T_1 0)]) (rest := []) ⟨hx, hb, hml, hown, hts⟩ (c_X12_inside g l 0 81 σ a3 (σ.1 T_1 0) r h) (cl_X12_215 hts ⟨Nat.le_of_ble_eq_true rfl, Nat.le_of_ble_eq_true rfl⟩) (mpS hZ hT hS hW _) rfl rfl hl.1 rfl (lv_room (Nat.le_of_ble_eq_true rfl)) dX12_ofMarkOnDay_8 ⟨Nat.zero_le _, Nat.zero_le _⟩) (fun r_2 H locs hf hW hS => ?_)
  refine lv_if_eq (tgt := 23) hx hb dX12_ofMarkOnDay_11 (by decide) (fun hc => ?_) (fun hc => ?_)
  · have hf := ift hc hf
    refine lv_iconst (v := 1) hx hb dX12_ofMarkOnDay_23 (by decide) ?_
    subst hQ
    exact mri hx hb hr hlocks hZ hT hS hW ⟨Option.some.inj hf, rfl⟩ dX12_ofMarkOnDay_24
  · have hf := iff_ hc hf
    refine lv_aload_n hx hb dX12_ofMarkOnDay_14 rfl (lv_at hl 0 rfl) ?_
    refine lv_iload_n hx hb dX12_ofMarkOnDay_15 rfl (lv_at hl 1 rfl) ?_
    refine lv_iload_n hx hb dX12_ofMarkOnDay_16 rfl (lv_at hl 2 rfl) ?_
    refine mcip hf hS (fun r h => va_runV (As := [.int a1, .int a2]) (rest := []) ⟨hx, hb, hml, hown, hts⟩ (c_X12_ofPersonOnDay g l σ a1 a2 r h) (cl_X12_169 hts ⟨Nat.le_of_ble_eq_true rfl, Nat.le_of_ble_eq_true rfl⟩) (mpV_12 hZ hT hS hW tz_0 _) rfl rfl hl.1 rfl (lv_room (Nat.le_of_ble_eq_true rfl)) dX12_ofMarkOnDay_17 ⟨Nat.zero_le _, Nat.zero_le _⟩) (fun r_3 H locs hf hW hS => ?_)
    refine lv_goto (tgt := 24) hx hb dX12_ofMarkOnDay_20 (by decide) ?_
    subst hQ
    exact mri hx hb hr hlocks hZ hT hS hW ⟨Option.some.inj hf, rfl⟩ dX12_ofMarkOnDay_24
def f_X12_look (σ : Mem) (a1 : Int32) (a2 : Int32) (a3 : Int32) : Option (Int32 × Mem) :=
  bd1 (f_X12_ofMarkOnDay σ a1 a2 a3) (fun (r_1 : Int32) => bd2 (f_X12_refused σ r_1) (fun (r_2 : Int32) (σ_3 : Mem) => (if r_2 = 0 then bd1 (f_X5_at σ_3 (28 + 2) a1 a2) (fun (r_4 : Int32) => bd1 (f_X5_letter r_4 a3) (fun (r_5 : Int32) => some (r_5, σ_3))) else some ((-1), σ_3))))
set_option maxHeartbeats 4000000 in
set_option maxRecDepth 100000 in
theorem c_X12_look (g : XG) (l : Launch) (σ : Mem) (a1 : Int32) (a2 : Int32) (a3 : Int32) (r : Int32) (τ : Mem) (hf : f_X12_look σ a1 a2 a3 = some (r, τ)) : Met l yX12_look (wx (.code yX12_look cX12_look 4 (some .int))) (kr 6 127) (va_Pc [.ref (bs g 0), .int a1, .int a2, .int a3] (WS g 0 81 σ)) (Qi' g 0 81 r τ) 0 0 (Ag g 0) := by
  refine Met.ofW (cc := cX12_look) (maxL := 4) (ret := (some .int)) (by decide) rfl ?_
  intro p e s m args below meth c s₁ B hml hv
  obtain ⟨rfl, hZ, hT, hW⟩ := hv
  have hx := B.exec
  have hb := B.bytes
  have hr := B.returns
  have hts : ∀ w ∈ wx (.code yX12_look cX12_look 4 (some .int)), w.before _ s = true := atoms_spec B.pre
  have htg : ∀ w ∈ lwg, w.before _ s = true := fun w h => hts w (List.mem_cons_of_mem _ h)
  have hown : s.vm.findClass RX12 = some m.cls := findClass_of_methodNamed B.named
  have hlocks := B.notSynchronized
  change W p l e (kr 6 127) s m (List.toArray [.ref (bs g 0), .int a1, .int a2, .int a3]) below meth c s.heap [] 0 0 (MQ below (Qi' g 0 81 r τ) (List.toArray [.ref (bs g 0), .int a1, .int a2, .int a3]) s 0 0 (Ag g 0)) _
  generalize hQ : MQ below (Qi' g 0 81 r τ) (List.toArray [.ref (bs g 0), .int a1, .int a2, .int a3]) s 0 0 (Ag g 0) = Q
  have hS : va_S (Ag g 0) s.heap s.heap [] := va_S.rf
  have hl := lv_entry ([.ref (bs g 0), .int a1, .int a2, .int a3]) (n := 4) (Nat.le_of_ble_eq_true rfl)
  rw [lg_entry_eq]
  generalize (lg_sl ([.ref (bs g 0), .int a1, .int a2, .int a3]) ++ List.replicate (4 - (lg_sl ([.ref (bs g 0), .int a1, .int a2, .int a3])).length) Slot.unset).toArray = ls at hl ⊢
  have hl : lv_has ls 4 [(0, .ref (bs g 0)), (1, .int a1), (2, .int a2), (3, .int a3)] := hl
  delta f_X12_look at hf
  obtain ⟨H, hH⟩ : ∃ H, H = s.heap := ⟨_, rfl⟩
  obtain ⟨locs, hLc⟩ : ∃ z : List Loc, z = [] := ⟨_, rfl⟩
  have hS : va_S (Ag g 0) s.heap H locs := by rw [hH, hLc]; exact hS
  have hW : Wd g 0 81 σ H := by rw [hH]; exact hW
  suffices hG : W p l e (kr 6 127) s m (List.toArray [.ref (bs g 0), .int a1, .int a2, .int a3]) below meth c H locs 0 0 Q (F0 m 0 ls []) by rw [hH, hLc] at hG; exact hG
  clear hH hLc
  refine lv_aload_n hx hb dX12_look_0 rfl (lv_at hl 0 rfl) ?_
  refine lv_aload_n hx hb dX12_look_1 rfl (lv_at hl 0 rfl) ?_
  refine lv_iload_n hx hb dX12_look_2 rfl (lv_at hl 1 rfl) ?_
  refine lv_iload_n hx hb dX12_look_3 rfl (lv_at hl 2 rfl) ?_
  refine lv_iload_n hx hb dX12_look_4 rfl (lv_at hl 3 rfl) ?_
  refine mcip hf hS (fun r h => va_runV (As := [.int a1, .int a2, .int a3]) (rest := [.ref (bs g 0)]) ⟨hx, hb, hml, hown, hts⟩ (c_X12_ofMarkOnDay g l σ a1 a2 a3 r h) (cl_X12_134 hts ⟨Nat.le_of_ble_eq_true rfl, Nat.le_of_ble_eq_true rfl⟩) (mpV_12 hZ hT hS hW tz_0 _) rfl rfl hl.1 rfl (lv_room (Nat.le_of_ble_eq_true rfl)) dX12_look_5 ⟨Nat.zero_le _, Nat.zero_le _⟩) (fun r_1 H locs hf hW hS => ?_)
  refine mci hf hS (fun r τ h => va_runV (As := [.int r_1]) (rest := []) ⟨hx, hb, hml, hown, hts⟩ (c_X12_refused g l σ r_1 r τ h) (cl_X12_98 hts ⟨Nat.le_of_ble_eq_true rfl, Nat.le_of_ble_eq_true rfl⟩) (mpV_12 hZ hT hS hW tz_0 _) rfl rfl hl.1 rfl (lv_room (Nat.le_of_ble_eq_true rfl)) dX12_look_8 ⟨Nat.zero_le _, Nat.zero_le _⟩) (fun r_2 σ_3 H locs hf hW hS => ?_)
  refine lv_if_eq (tgt := 18) hx hb dX12_look_11 (by decide) (fun hc => ?_) (fun hc => ?_)
  · have hf := ift hc hf
    refine lv_aload_n hx hb dX12_look_18 rfl (lv_at hl 0 rfl) ?_
    refine gf_12_2 hx hb htg (htg _ lf_X12_40) hown hZ hW tz_0 dX12_look_19 ?_
    refine gfN_9_4 hx hb htg ln_X12_138 hown hZ hW tz_28 dX12_look_22 ?_
    refine lv_iload_n hx hb dX12_look_25 rfl (lv_at hl 1 rfl) ?_
    refine lv_iload_n hx hb dX12_look_26 rfl (lv_at hl 2 rfl) ?_
    refine mcip hf hS (fun r h => va_runV (As := [.int a1, .int a2]) (rest := []) ⟨hx, hb, hml, hown, hts⟩ (c_X5_at g l 0 81 σ_3 (28 + 2) a1 a2 (tz_28.sub 5 2 so_9_5_2) r h) (cl_X12_142 hts ⟨Nat.le_of_ble_eq_true rfl, Nat.le_of_ble_eq_true rfl⟩) (mpV_5 hZ hT hS hW (tz_28.sub 5 2 so_9_5_2) _) rfl rfl hl.1 rfl (lv_room (Nat.le_of_ble_eq_true rfl)) dX12_look_27 ⟨Nat.zero_le _, Nat.zero_le _⟩) (fun r_4 H locs hf hW hS => ?_)
    refine lv_iload_n hx hb dX12_look_30 rfl (lv_at hl 3 rfl) ?_
    refine mcip hf hS (fun r h => va_runS (As := [.int r_4, .int a3]) (rest := []) ⟨hx, hb, hml, hown, hts⟩ (c_X5_letter g l 0 81 σ_3 r_4 a3 r h) (cl_X12_148 hts ⟨Nat.le_of_ble_eq_true rfl, Nat.le_of_ble_eq_true rfl⟩) (mpS hZ hT hS hW _) rfl rfl hl.1 rfl (lv_room (Nat.le_of_ble_eq_true rfl)) dX12_look_31 ⟨Nat.zero_le _, Nat.zero_le _⟩) (fun r_5 H locs hf hW hS => ?_)
    subst hQ
    exact mri hx hb hr hlocks hZ hT hS hW (pr1 hf) dX12_look_34
  · have hf := iff_ hc hf
    refine lv_iconst (v := (-1)) hx hb dX12_look_14 (by decide) ?_
    refine lv_goto (tgt := 34) hx hb dX12_look_15 (by decide) ?_
    subst hQ
    exact mri hx hb hr hlocks hZ hT hS hW (pr1 hf) dX12_look_34
def f_X12_belief (σ : Mem) (a1 : Int32) (a2 : Int32) (a3 : Int32) : Option (Int32 × Mem) :=
  bd1 (f_X12_ofMarkOnDay σ a1 a2 a3) (fun (r_1 : Int32) => bd2 (f_X12_refused σ r_1) (fun (r_2 : Int32) (σ_3 : Mem) => (if r_2 = 0 then bd1 (f_X9_beliefOn σ_3 28 a1 a2) (fun (r_4 : Int32) => bd1 (f_X5_letter r_4 a3) (fun (r_5 : Int32) => some (r_5, σ_3))) else some ((-1), σ_3))))
set_option maxHeartbeats 4000000 in
set_option maxRecDepth 100000 in
theorem c_X12_belief (g : XG) (l : Launch) (σ : Mem) (a1 : Int32) (a2 : Int32) (a3 : Int32) (r : Int32) (τ : Mem) (hf : f_X12_belief σ a1 a2 a3 = some (r, τ)) : Met l yX12_belief (wx (.code yX12_belief cX12_belief 4 (some .int))) (kr 6 127) (va_Pc [.ref (bs g 0), .int a1, .int a2, .int a3] (WS g 0 81 σ)) (Qi' g 0 81 r τ) 0 0 (Ag g 0) := by
  refine Met.ofW (cc := cX12_belief) (maxL := 4) (ret := (some .int)) (by decide) rfl ?_
  intro p e s m args below meth c s₁ B hml hv
  obtain ⟨rfl, hZ, hT, hW⟩ := hv
  have hx := B.exec
  have hb := B.bytes
  have hr := B.returns
  have hts : ∀ w ∈ wx (.code yX12_belief cX12_belief 4 (some .int)), w.before _ s = true := atoms_spec B.pre
  have htg : ∀ w ∈ lwg, w.before _ s = true := fun w h => hts w (List.mem_cons_of_mem _ h)
  have hown : s.vm.findClass RX12 = some m.cls := findClass_of_methodNamed B.named
  have hlocks := B.notSynchronized
  change W p l e (kr 6 127) s m (List.toArray [.ref (bs g 0), .int a1, .int a2, .int a3]) below meth c s.heap [] 0 0 (MQ below (Qi' g 0 81 r τ) (List.toArray [.ref (bs g 0), .int a1, .int a2, .int a3]) s 0 0 (Ag g 0)) _
  generalize hQ : MQ below (Qi' g 0 81 r τ) (List.toArray [.ref (bs g 0), .int a1, .int a2, .int a3]) s 0 0 (Ag g 0) = Q
  have hS : va_S (Ag g 0) s.heap s.heap [] := va_S.rf
  have hl := lv_entry ([.ref (bs g 0), .int a1, .int a2, .int a3]) (n := 4) (Nat.le_of_ble_eq_true rfl)
  rw [lg_entry_eq]
  generalize (lg_sl ([.ref (bs g 0), .int a1, .int a2, .int a3]) ++ List.replicate (4 - (lg_sl ([.ref (bs g 0), .int a1, .int a2, .int a3])).length) Slot.unset).toArray = ls at hl ⊢
  have hl : lv_has ls 4 [(0, .ref (bs g 0)), (1, .int a1), (2, .int a2), (3, .int a3)] := hl
  delta f_X12_belief at hf
  obtain ⟨H, hH⟩ : ∃ H, H = s.heap := ⟨_, rfl⟩
  obtain ⟨locs, hLc⟩ : ∃ z : List Loc, z = [] := ⟨_, rfl⟩
  have hS : va_S (Ag g 0) s.heap H locs := by rw [hH, hLc]; exact hS
  have hW : Wd g 0 81 σ H := by rw [hH]; exact hW
  suffices hG : W p l e (kr 6 127) s m (List.toArray [.ref (bs g 0), .int a1, .int a2, .int a3]) below meth c H locs 0 0 Q (F0 m 0 ls []) by rw [hH, hLc] at hG; exact hG
  clear hH hLc
  refine lv_aload_n hx hb dX12_belief_0 rfl (lv_at hl 0 rfl) ?_
  refine lv_aload_n hx hb dX12_belief_1 rfl (lv_at hl 0 rfl) ?_
  refine lv_iload_n hx hb dX12_belief_2 rfl (lv_at hl 1 rfl) ?_
  refine lv_iload_n hx hb dX12_belief_3 rfl (lv_at hl 2 rfl) ?_
  refine lv_iload_n hx hb dX12_belief_4 rfl (lv_at hl 3 rfl) ?_
  refine mcip hf hS (fun r h => va_runV (As := [.int a1, .int a2, .int a3]) (rest := [.ref (bs g 0)]) ⟨hx, hb, hml, hown, hts⟩ (c_X12_ofMarkOnDay g l σ a1 a2 a3 r h) (cl_X12_134 hts ⟨Nat.le_of_ble_eq_true rfl, Nat.le_of_ble_eq_true rfl⟩) (mpV_12 hZ hT hS hW tz_0 _) rfl rfl hl.1 rfl (lv_room (Nat.le_of_ble_eq_true rfl)) dX12_belief_5 ⟨Nat.zero_le _, Nat.zero_le _⟩) (fun r_1 H locs hf hW hS => ?_)
  refine mci hf hS (fun r τ h => va_runV (As := [.int r_1]) (rest := []) ⟨hx, hb, hml, hown, hts⟩ (c_X12_refused g l σ r_1 r τ h) (cl_X12_98 hts ⟨Nat.le_of_ble_eq_true rfl, Nat.le_of_ble_eq_true rfl⟩) (mpV_12 hZ hT hS hW tz_0 _) rfl rfl hl.1 rfl (lv_room (Nat.le_of_ble_eq_true rfl)) dX12_belief_8 ⟨Nat.zero_le _, Nat.zero_le _⟩) (fun r_2 σ_3 H locs hf hW hS => ?_)
  refine lv_if_eq (tgt := 18) hx hb dX12_belief_11 (by decide) (fun hc => ?_) (fun hc => ?_)
  · have hf := ift hc hf
    refine lv_aload_n hx hb dX12_belief_18 rfl (lv_at hl 0 rfl) ?_
    refine gf_12_2 hx hb htg (htg _ lf_X12_40) hown hZ hW tz_0 dX12_belief_19 ?_
    refine lv_iload_n hx hb dX12_belief_22 rfl (lv_at hl 1 rfl) ?_
    refine lv_iload_n hx hb dX12_belief_23 rfl (lv_at hl 2 rfl) ?_
    refine mcip hf hS (fun r h => va_runV (As := [.int a1, .int a2]) (rest := []) ⟨hx, hb, hml, hown, hts⟩ (c_X9_beliefOn g l 0 81 σ_3 28 a1 a2 tz_28 r h) (cl_X12_151 hts ⟨Nat.le_of_ble_eq_true rfl, Nat.le_of_ble_eq_true rfl⟩) (mpV_9 hZ hT hS hW tz_28 _) rfl rfl hl.1 rfl (lv_room (Nat.le_of_ble_eq_true rfl)) dX12_belief_24 ⟨Nat.zero_le _, Nat.zero_le _⟩) (fun r_4 H locs hf hW hS => ?_)
    refine lv_iload_n hx hb dX12_belief_27 rfl (lv_at hl 3 rfl) ?_
    refine mcip hf hS (fun r h => va_runS (As := [.int r_4, .int a3]) (rest := []) ⟨hx, hb, hml, hown, hts⟩ (c_X5_letter g l 0 81 σ_3 r_4 a3 r h) (cl_X12_148 hts ⟨Nat.le_of_ble_eq_true rfl, Nat.le_of_ble_eq_true rfl⟩) (mpS hZ hT hS hW _) rfl rfl hl.1 rfl (lv_room (Nat.le_of_ble_eq_true rfl)) dX12_belief_28 ⟨Nat.zero_le _, Nat.zero_le _⟩) (fun r_5 H locs hf hW hS => ?_)
    subst hQ
    exact mri hx hb hr hlocks hZ hT hS hW (pr1 hf) dX12_belief_31
  · have hf := iff_ hc hf
    refine lv_iconst (v := (-1)) hx hb dX12_belief_14 (by decide) ?_
    refine lv_goto (tgt := 31) hx hb dX12_belief_15 (by decide) ?_
    subst hQ
    exact mri hx hb hr hlocks hZ hT hS hW (pr1 hf) dX12_belief_31
def f_X12_papers (σ : Mem) (a1 : Int32) (a2 : Int32) (a3 : Int32) : Option (Int32 × Mem) :=
  bd1 (f_X12_ofMarkOnDay σ a1 a2 a3) (fun (r_1 : Int32) => bd2 (f_X12_refused σ r_1) (fun (r_2 : Int32) (σ_3 : Mem) => (if r_2 = 0 then bd1 (f_X9_papersOn σ_3 28 a1 a2) (fun (r_4 : Int32) => bd1 (f_X5_letter r_4 a3) (fun (r_5 : Int32) => some (r_5, σ_3))) else some ((-1), σ_3))))
set_option maxHeartbeats 4000000 in
set_option maxRecDepth 100000 in
theorem c_X12_papers (g : XG) (l : Launch) (σ : Mem) (a1 : Int32) (a2 : Int32) (a3 : Int32) (r : Int32) (τ : Mem) (hf : f_X12_papers σ a1 a2 a3 = some (r, τ)) : Met l yX12_papers (wx (.code yX12_papers cX12_papers 4 (some .int))) (kr 6 127) (va_Pc [.ref (bs g 0), .int a1, .int a2, .int a3] (WS g 0 81 σ)) (Qi' g 0 81 r τ) 0 0 (Ag g 0) := by
  refine Met.ofW (cc := cX12_papers) (maxL := 4) (ret := (some .int)) (by decide) rfl ?_
  intro p e s m args below meth c s₁ B hml hv
  obtain ⟨rfl, hZ, hT, hW⟩ := hv
  have hx := B.exec
  have hb := B.bytes
  have hr := B.returns
  have hts : ∀ w ∈ wx (.code yX12_papers cX12_papers 4 (some .int)), w.before _ s = true := atoms_spec B.pre
  have htg : ∀ w ∈ lwg, w.before _ s = true := fun w h => hts w (List.mem_cons_of_mem _ h)
  have hown : s.vm.findClass RX12 = some m.cls := findClass_of_methodNamed B.named
  have hlocks := B.notSynchronized
  change W p l e (kr 6 127) s m (List.toArray [.ref (bs g 0), .int a1, .int a2, .int a3]) below meth c s.heap [] 0 0 (MQ below (Qi' g 0 81 r τ) (List.toArray [.ref (bs g 0), .int a1, .int a2, .int a3]) s 0 0 (Ag g 0)) _
  generalize hQ : MQ below (Qi' g 0 81 r τ) (List.toArray [.ref (bs g 0), .int a1, .int a2, .int a3]) s 0 0 (Ag g 0) = Q
  have hS : va_S (Ag g 0) s.heap s.heap [] := va_S.rf
  have hl := lv_entry ([.ref (bs g 0), .int a1, .int a2, .int a3]) (n := 4) (Nat.le_of_ble_eq_true rfl)
  rw [lg_entry_eq]
  generalize (lg_sl ([.ref (bs g 0), .int a1, .int a2, .int a3]) ++ List.replicate (4 - (lg_sl ([.ref (bs g 0), .int a1, .int a2, .int a3])).length) Slot.unset).toArray = ls at hl ⊢
  have hl : lv_has ls 4 [(0, .ref (bs g 0)), (1, .int a1), (2, .int a2), (3, .int a3)] := hl
  delta f_X12_papers at hf
  obtain ⟨H, hH⟩ : ∃ H, H = s.heap := ⟨_, rfl⟩
  obtain ⟨locs, hLc⟩ : ∃ z : List Loc, z = [] := ⟨_, rfl⟩
  have hS : va_S (Ag g 0) s.heap H locs := by rw [hH, hLc]; exact hS
  have hW : Wd g 0 81 σ H := by rw [hH]; exact hW
  suffices hG : W p l e (kr 6 127) s m (List.toArray [.ref (bs g 0), .int a1, .int a2, .int a3]) below meth c H locs 0 0 Q (F0 m 0 ls []) by rw [hH, hLc] at hG; exact hG
  clear hH hLc
  refine lv_aload_n hx hb dX12_papers_0 rfl (lv_at hl 0 rfl) ?_
  refine lv_aload_n hx hb dX12_papers_1 rfl (lv_at hl 0 rfl) ?_
  refine lv_iload_n hx hb dX12_papers_2 rfl (lv_at hl 1 rfl) ?_
  refine lv_iload_n hx hb dX12_papers_3 rfl (lv_at hl 2 rfl) ?_
  refine lv_iload_n hx hb dX12_papers_4 rfl (lv_at hl 3 rfl) ?_
  refine mcip hf hS (fun r h => va_runV (As := [.int a1, .int a2, .int a3]) (rest := [.ref (bs g 0)]) ⟨hx, hb, hml, hown, hts⟩ (c_X12_ofMarkOnDay g l σ a1 a2 a3 r h) (cl_X12_134 hts ⟨Nat.le_of_ble_eq_true rfl, Nat.le_of_ble_eq_true rfl⟩) (mpV_12 hZ hT hS hW tz_0 _) rfl rfl hl.1 rfl (lv_room (Nat.le_of_ble_eq_true rfl)) dX12_papers_5 ⟨Nat.zero_le _, Nat.zero_le _⟩) (fun r_1 H locs hf hW hS => ?_)
  refine mci hf hS (fun r τ h => va_runV (As := [.int r_1]) (rest := []) ⟨hx, hb, hml, hown, hts⟩ (c_X12_refused g l σ r_1 r τ h) (cl_X12_98 hts ⟨Nat.le_of_ble_eq_true rfl, Nat.le_of_ble_eq_true rfl⟩) (mpV_12 hZ hT hS hW tz_0 _) rfl rfl hl.1 rfl (lv_room (Nat.le_of_ble_eq_true rfl)) dX12_papers_8 ⟨Nat.zero_le _, Nat.zero_le _⟩) (fun r_2 σ_3 H locs hf hW hS => ?_)
  refine lv_if_eq (tgt := 18) hx hb dX12_papers_11 (by decide) (fun hc => ?_) (fun hc => ?_)
  · have hf := ift hc hf
    refine lv_aload_n hx hb dX12_papers_18 rfl (lv_at hl 0 rfl) ?_
    refine gf_12_2 hx hb htg (htg _ lf_X12_40) hown hZ hW tz_0 dX12_papers_19 ?_
    refine lv_iload_n hx hb dX12_papers_22 rfl (lv_at hl 1 rfl) ?_
    refine lv_iload_n hx hb dX12_papers_23 rfl (lv_at hl 2 rfl) ?_
    refine mcip hf hS (fun r h => va_runV (As := [.int a1, .int a2]) (rest := []) ⟨hx, hb, hml, hown, hts⟩ (c_X9_papersOn g l 0 81 σ_3 28 a1 a2 tz_28 r h) (cl_X12_154 hts ⟨Nat.le_of_ble_eq_true rfl, Nat.le_of_ble_eq_true rfl⟩) (mpV_9 hZ hT hS hW tz_28 _) rfl rfl hl.1 rfl (lv_room (Nat.le_of_ble_eq_true rfl)) dX12_papers_24 ⟨Nat.zero_le _, Nat.zero_le _⟩) (fun r_4 H locs hf hW hS => ?_)
    refine lv_iload_n hx hb dX12_papers_27 rfl (lv_at hl 3 rfl) ?_
    refine mcip hf hS (fun r h => va_runS (As := [.int r_4, .int a3]) (rest := []) ⟨hx, hb, hml, hown, hts⟩ (c_X5_letter g l 0 81 σ_3 r_4 a3 r h) (cl_X12_148 hts ⟨Nat.le_of_ble_eq_true rfl, Nat.le_of_ble_eq_true rfl⟩) (mpS hZ hT hS hW _) rfl rfl hl.1 rfl (lv_room (Nat.le_of_ble_eq_true rfl)) dX12_papers_28 ⟨Nat.zero_le _, Nat.zero_le _⟩) (fun r_5 H locs hf hW hS => ?_)
    subst hQ
    exact mri hx hb hr hlocks hZ hT hS hW (pr1 hf) dX12_papers_31
  · have hf := iff_ hc hf
    refine lv_iconst (v := (-1)) hx hb dX12_papers_14 (by decide) ?_
    refine lv_goto (tgt := 31) hx hb dX12_papers_15 (by decide) ?_
    subst hQ
    exact mri hx hb hr hlocks hZ hT hS hW (pr1 hf) dX12_papers_31
def f_X12_kind (σ : Mem) (a1 : Int32) : Option (Int32 × Mem) :=
  bd1 (f_X12_ofPerson σ a1) (fun (r_1 : Int32) => bd2 (f_X12_refused σ r_1) (fun (r_2 : Int32) (σ_3 : Mem) => (if r_2 = 0 then rfc (σ_3.2.2 0 10) (fun (T_4 : Nat) => bd1 (f_X12_get σ_3 (T_4 + 3) a1) (fun (r_5 : Int32) => some (r_5, σ_3))) else some ((-1), σ_3))))
set_option maxHeartbeats 4000000 in
set_option maxRecDepth 100000 in
theorem c_X12_kind (g : XG) (l : Launch) (σ : Mem) (a1 : Int32) (r : Int32) (τ : Mem) (hf : f_X12_kind σ a1 = some (r, τ)) : Met l yX12_kind (wx (.code yX12_kind cX12_kind 2 (some .int))) (kr 3 62) (va_Pc [.ref (bs g 0), .int a1] (WS g 0 81 σ)) (Qi' g 0 81 r τ) 0 0 (Ag g 0) := by
  refine Met.ofW (cc := cX12_kind) (maxL := 2) (ret := (some .int)) (by decide) rfl ?_
  intro p e s m args below meth c s₁ B hml hv
  obtain ⟨rfl, hZ, hT, hW⟩ := hv
  have hx := B.exec
  have hb := B.bytes
  have hr := B.returns
  have hts : ∀ w ∈ wx (.code yX12_kind cX12_kind 2 (some .int)), w.before _ s = true := atoms_spec B.pre
  have htg : ∀ w ∈ lwg, w.before _ s = true := fun w h => hts w (List.mem_cons_of_mem _ h)
  have hown : s.vm.findClass RX12 = some m.cls := findClass_of_methodNamed B.named
  have hlocks := B.notSynchronized
  change W p l e (kr 3 62) s m (List.toArray [.ref (bs g 0), .int a1]) below meth c s.heap [] 0 0 (MQ below (Qi' g 0 81 r τ) (List.toArray [.ref (bs g 0), .int a1]) s 0 0 (Ag g 0)) _
  generalize hQ : MQ below (Qi' g 0 81 r τ) (List.toArray [.ref (bs g 0), .int a1]) s 0 0 (Ag g 0) = Q
  have hS : va_S (Ag g 0) s.heap s.heap [] := va_S.rf
  have hl := lv_entry ([.ref (bs g 0), .int a1]) (n := 2) (Nat.le_of_ble_eq_true rfl)
  rw [lg_entry_eq]
  generalize (lg_sl ([.ref (bs g 0), .int a1]) ++ List.replicate (2 - (lg_sl ([.ref (bs g 0), .int a1])).length) Slot.unset).toArray = ls at hl ⊢
  have hl : lv_has ls 2 [(0, .ref (bs g 0)), (1, .int a1)] := hl
  delta f_X12_kind at hf
  obtain ⟨H, hH⟩ : ∃ H, H = s.heap := ⟨_, rfl⟩
  obtain ⟨locs, hLc⟩ : ∃ z : List Loc, z = [] := ⟨_, rfl⟩
  have hS : va_S (Ag g 0) s.heap H locs := by rw [hH, hLc]; exact hS
  have hW : Wd g 0 81 σ H := by rw [hH]; exact hW
  suffices hG : W p l e (kr 3 62) s m (List.toArray [.ref (bs g 0), .int a1]) below meth c H locs 0 0 Q (F0 m 0 ls []) by rw [hH, hLc] at hG; exact hG
  clear hH hLc
  refine lv_aload_n hx hb dX12_kind_0 rfl (lv_at hl 0 rfl) ?_
  refine lv_aload_n hx hb dX12_kind_1 rfl (lv_at hl 0 rfl) ?_
  refine lv_iload_n hx hb dX12_kind_2 rfl (lv_at hl 1 rfl) ?_
  refine mcip hf hS (fun r h => va_runV (As := [.int a1]) (rest := [.ref (bs g 0)]) ⟨hx, hb, hml, hown, hts⟩ (c_X12_ofPerson g l σ a1 r h) (cl_X12_157 hts ⟨Nat.le_of_ble_eq_true rfl, Nat.le_of_ble_eq_true rfl⟩) (mpV_12 hZ hT hS hW tz_0 _) rfl rfl hl.1 rfl (lv_room (Nat.le_of_ble_eq_true rfl)) dX12_kind_3 ⟨Nat.zero_le _, Nat.zero_le _⟩) (fun r_1 H locs hf hW hS => ?_)
  refine mci hf hS (fun r τ h => va_runV (As := [.int r_1]) (rest := []) ⟨hx, hb, hml, hown, hts⟩ (c_X12_refused g l σ r_1 r τ h) (cl_X12_98 hts ⟨Nat.le_of_ble_eq_true rfl, Nat.le_of_ble_eq_true rfl⟩) (mpV_12 hZ hT hS hW tz_0 _) rfl rfl hl.1 rfl (lv_room (Nat.le_of_ble_eq_true rfl)) dX12_kind_6 ⟨Nat.zero_le _, Nat.zero_le _⟩) (fun r_2 σ_3 H locs hf hW hS => ?_)
  refine lv_if_eq (tgt := 16) hx hb dX12_kind_9 (by decide) (fun hc => ?_) (fun hc => ?_)
  · have hf := ift hc hf
    refine lv_aload_n hx hb dX12_kind_16 rfl (lv_at hl 0 rfl) ?_
    refine gf_12_10 hx hb htg (htg _ lf_X12_19) hown hZ hW tz_0 dX12_kind_17 hf (fun T_4 tT_4 hf => ?_)
    refine gfN_11_6 hx hb htg ln_X12_161 hown hZ hW tT_4 dX12_kind_20 ?_
    refine lv_iload_n hx hb dX12_kind_23 rfl (lv_at hl 1 rfl) ?_
    refine mcip hf hS (fun r h => va_runS (As := [.ref (bs g (T_4 + 3)), .int a1]) (rest := []) ⟨hx, hb, hml, hown, hts⟩ (c_X12_get g l 0 81 σ_3 (T_4 + 3) a1 (tT_4.sub 20 3 so_11_20_3) r h) (cl_X12_165 hts ⟨Nat.le_of_ble_eq_true rfl, Nat.le_of_ble_eq_true rfl⟩) (mpS hZ hT hS hW _) rfl rfl hl.1 rfl (lv_room (Nat.le_of_ble_eq_true rfl)) dX12_kind_24 ⟨Nat.zero_le _, Nat.zero_le _⟩) (fun r_5 H locs hf hW hS => ?_)
    subst hQ
    exact mri hx hb hr hlocks hZ hT hS hW (pr1 hf) dX12_kind_27
  · have hf := iff_ hc hf
    refine lv_iconst (v := (-1)) hx hb dX12_kind_12 (by decide) ?_
    refine lv_goto (tgt := 27) hx hb dX12_kind_13 (by decide) ?_
    subst hQ
    exact mri hx hb hr hlocks hZ hT hS hW (pr1 hf) dX12_kind_27
def f_X12_latest (σ : Mem) (a1 : Int32) (a2 : Int32) : Option (Int32 × Mem) :=
  bd1 (f_X12_ofPersonOnDay σ a1 a2) (fun (r_1 : Int32) => bd2 (f_X12_refused σ r_1) (fun (r_2 : Int32) (σ_3 : Mem) => (if r_2 = 0 then bd1 (f_X9_latestVisit σ_3 28 a1 a2) (fun (r_4 : Int32) => some (r_4, σ_3)) else some ((-1), σ_3))))
set_option maxHeartbeats 4000000 in
set_option maxRecDepth 100000 in
theorem c_X12_latest (g : XG) (l : Launch) (σ : Mem) (a1 : Int32) (a2 : Int32) (r : Int32) (τ : Mem) (hf : f_X12_latest σ a1 a2 = some (r, τ)) : Met l yX12_latest (wx (.code yX12_latest cX12_latest 3 (some .int))) (kr 5 104) (va_Pc [.ref (bs g 0), .int a1, .int a2] (WS g 0 81 σ)) (Qi' g 0 81 r τ) 0 0 (Ag g 0) := by
  refine Met.ofW (cc := cX12_latest) (maxL := 3) (ret := (some .int)) (by decide) rfl ?_
  intro p e s m args below meth c s₁ B hml hv
  obtain ⟨rfl, hZ, hT, hW⟩ := hv
  have hx := B.exec
  have hb := B.bytes
  have hr := B.returns
  have hts : ∀ w ∈ wx (.code yX12_latest cX12_latest 3 (some .int)), w.before _ s = true := atoms_spec B.pre
  have htg : ∀ w ∈ lwg, w.before _ s = true := fun w h => hts w (List.mem_cons_of_mem _ h)
  have hown : s.vm.findClass RX12 = some m.cls := findClass_of_methodNamed B.named
  have hlocks := B.notSynchronized
  change W p l e (kr 5 104) s m (List.toArray [.ref (bs g 0), .int a1, .int a2]) below meth c s.heap [] 0 0 (MQ below (Qi' g 0 81 r τ) (List.toArray [.ref (bs g 0), .int a1, .int a2]) s 0 0 (Ag g 0)) _
  generalize hQ : MQ below (Qi' g 0 81 r τ) (List.toArray [.ref (bs g 0), .int a1, .int a2]) s 0 0 (Ag g 0) = Q
  have hS : va_S (Ag g 0) s.heap s.heap [] := va_S.rf
  have hl := lv_entry ([.ref (bs g 0), .int a1, .int a2]) (n := 3) (Nat.le_of_ble_eq_true rfl)
  rw [lg_entry_eq]
  generalize (lg_sl ([.ref (bs g 0), .int a1, .int a2]) ++ List.replicate (3 - (lg_sl ([.ref (bs g 0), .int a1, .int a2])).length) Slot.unset).toArray = ls at hl ⊢
  have hl : lv_has ls 3 [(0, .ref (bs g 0)), (1, .int a1), (2, .int a2)] := hl
  delta f_X12_latest at hf
  obtain ⟨H, hH⟩ : ∃ H, H = s.heap := ⟨_, rfl⟩
  obtain ⟨locs, hLc⟩ : ∃ z : List Loc, z = [] := ⟨_, rfl⟩
  have hS : va_S (Ag g 0) s.heap H locs := by rw [hH, hLc]; exact hS
  have hW : Wd g 0 81 σ H := by rw [hH]; exact hW
  suffices hG : W p l e (kr 5 104) s m (List.toArray [.ref (bs g 0), .int a1, .int a2]) below meth c H locs 0 0 Q (F0 m 0 ls []) by rw [hH, hLc] at hG; exact hG
  clear hH hLc
  refine lv_aload_n hx hb dX12_latest_0 rfl (lv_at hl 0 rfl) ?_
  refine lv_aload_n hx hb dX12_latest_1 rfl (lv_at hl 0 rfl) ?_
  refine lv_iload_n hx hb dX12_latest_2 rfl (lv_at hl 1 rfl) ?_
  refine lv_iload_n hx hb dX12_latest_3 rfl (lv_at hl 2 rfl) ?_
  refine mcip hf hS (fun r h => va_runV (As := [.int a1, .int a2]) (rest := [.ref (bs g 0)]) ⟨hx, hb, hml, hown, hts⟩ (c_X12_ofPersonOnDay g l σ a1 a2 r h) (cl_X12_169 hts ⟨Nat.le_of_ble_eq_true rfl, Nat.le_of_ble_eq_true rfl⟩) (mpV_12 hZ hT hS hW tz_0 _) rfl rfl hl.1 rfl (lv_room (Nat.le_of_ble_eq_true rfl)) dX12_latest_4 ⟨Nat.zero_le _, Nat.zero_le _⟩) (fun r_1 H locs hf hW hS => ?_)
  refine mci hf hS (fun r τ h => va_runV (As := [.int r_1]) (rest := []) ⟨hx, hb, hml, hown, hts⟩ (c_X12_refused g l σ r_1 r τ h) (cl_X12_98 hts ⟨Nat.le_of_ble_eq_true rfl, Nat.le_of_ble_eq_true rfl⟩) (mpV_12 hZ hT hS hW tz_0 _) rfl rfl hl.1 rfl (lv_room (Nat.le_of_ble_eq_true rfl)) dX12_latest_7 ⟨Nat.zero_le _, Nat.zero_le _⟩) (fun r_2 σ_3 H locs hf hW hS => ?_)
  refine lv_if_eq (tgt := 17) hx hb dX12_latest_10 (by decide) (fun hc => ?_) (fun hc => ?_)
  · have hf := ift hc hf
    refine lv_aload_n hx hb dX12_latest_17 rfl (lv_at hl 0 rfl) ?_
    refine gf_12_2 hx hb htg (htg _ lf_X12_40) hown hZ hW tz_0 dX12_latest_18 ?_
    refine lv_iload_n hx hb dX12_latest_21 rfl (lv_at hl 1 rfl) ?_
    refine lv_iload_n hx hb dX12_latest_22 rfl (lv_at hl 2 rfl) ?_
    refine mcip hf hS (fun r h => va_runV (As := [.int a1, .int a2]) (rest := []) ⟨hx, hb, hml, hown, hts⟩ (c_X9_latestVisit g l 0 81 σ_3 28 a1 a2 tz_28 r h) (cl_X12_172 hts ⟨Nat.le_of_ble_eq_true rfl, Nat.le_of_ble_eq_true rfl⟩) (mpV_9 hZ hT hS hW tz_28 _) rfl rfl hl.1 rfl (lv_room (Nat.le_of_ble_eq_true rfl)) dX12_latest_23 ⟨Nat.zero_le _, Nat.zero_le _⟩) (fun r_4 H locs hf hW hS => ?_)
    subst hQ
    exact mri hx hb hr hlocks hZ hT hS hW (pr1 hf) dX12_latest_26
  · have hf := iff_ hc hf
    refine lv_iconst (v := (-1)) hx hb dX12_latest_13 (by decide) ?_
    refine lv_goto (tgt := 26) hx hb dX12_latest_14 (by decide) ?_
    subst hQ
    exact mri hx hb hr hlocks hZ hT hS hW (pr1 hf) dX12_latest_26
def f_X12_hall (σ : Mem) (a1 : Int32) : Option (Int32 × Mem) :=
  bd1 (f_X12_ofDay σ a1) (fun (r_1 : Int32) => bd2 (f_X12_refused σ r_1) (fun (r_2 : Int32) (σ_3 : Mem) => (if r_2 = 0 then rfc (σ_3.2.2 0 10) (fun (T_4 : Nat) => bd1 (f_X11_isShut σ_3 T_4 a1) (fun (r_5 : Int32) => (if r_5 = 0 then bd1 (f_X9_visitor σ_3 28 a1) (fun (r_6 : Int32) => some (r_6, σ_3)) else some ((-3), σ_3)))) else some ((-1), σ_3))))
set_option maxHeartbeats 4000000 in
set_option maxRecDepth 100000 in
theorem c_X12_hall (g : XG) (l : Launch) (σ : Mem) (a1 : Int32) (r : Int32) (τ : Mem) (hf : f_X12_hall σ a1 = some (r, τ)) : Met l yX12_hall (wx (.code yX12_hall cX12_hall 2 (some .int))) (kr 4 82) (va_Pc [.ref (bs g 0), .int a1] (WS g 0 81 σ)) (Qi' g 0 81 r τ) 0 0 (Ag g 0) := by
  refine Met.ofW (cc := cX12_hall) (maxL := 2) (ret := (some .int)) (by decide) rfl ?_
  intro p e s m args below meth c s₁ B hml hv
  obtain ⟨rfl, hZ, hT, hW⟩ := hv
  have hx := B.exec
  have hb := B.bytes
  have hr := B.returns
  have hts : ∀ w ∈ wx (.code yX12_hall cX12_hall 2 (some .int)), w.before _ s = true := atoms_spec B.pre
  have htg : ∀ w ∈ lwg, w.before _ s = true := fun w h => hts w (List.mem_cons_of_mem _ h)
  have hown : s.vm.findClass RX12 = some m.cls := findClass_of_methodNamed B.named
  have hlocks := B.notSynchronized
  change W p l e (kr 4 82) s m (List.toArray [.ref (bs g 0), .int a1]) below meth c s.heap [] 0 0 (MQ below (Qi' g 0 81 r τ) (List.toArray [.ref (bs g 0), .int a1]) s 0 0 (Ag g 0)) _
  generalize hQ : MQ below (Qi' g 0 81 r τ) (List.toArray [.ref (bs g 0), .int a1]) s 0 0 (Ag g 0) = Q
  have hS : va_S (Ag g 0) s.heap s.heap [] := va_S.rf
  have hl := lv_entry ([.ref (bs g 0), .int a1]) (n := 2) (Nat.le_of_ble_eq_true rfl)
  rw [lg_entry_eq]
  generalize (lg_sl ([.ref (bs g 0), .int a1]) ++ List.replicate (2 - (lg_sl ([.ref (bs g 0), .int a1])).length) Slot.unset).toArray = ls at hl ⊢
  have hl : lv_has ls 2 [(0, .ref (bs g 0)), (1, .int a1)] := hl
  delta f_X12_hall at hf
  obtain ⟨H, hH⟩ : ∃ H, H = s.heap := ⟨_, rfl⟩
  obtain ⟨locs, hLc⟩ : ∃ z : List Loc, z = [] := ⟨_, rfl⟩
  have hS : va_S (Ag g 0) s.heap H locs := by rw [hH, hLc]; exact hS
  have hW : Wd g 0 81 σ H := by rw [hH]; exact hW
  suffices hG : W p l e (kr 4 82) s m (List.toArray [.ref (bs g 0), .int a1]) below meth c H locs 0 0 Q (F0 m 0 ls []) by rw [hH, hLc] at hG; exact hG
  clear hH hLc
  refine lv_aload_n hx hb dX12_hall_0 rfl (lv_at hl 0 rfl) ?_
  refine lv_aload_n hx hb dX12_hall_1 rfl (lv_at hl 0 rfl) ?_
  refine lv_iload_n hx hb dX12_hall_2 rfl (lv_at hl 1 rfl) ?_
  refine mcip hf hS (fun r h => va_runV (As := [.int a1]) (rest := [.ref (bs g 0)]) ⟨hx, hb, hml, hown, hts⟩ (c_X12_ofDay g l σ a1 r h) (cl_X12_175 hts ⟨Nat.le_of_ble_eq_true rfl, Nat.le_of_ble_eq_true rfl⟩) (mpV_12 hZ hT hS hW tz_0 _) rfl rfl hl.1 rfl (lv_room (Nat.le_of_ble_eq_true rfl)) dX12_hall_3 ⟨Nat.zero_le _, Nat.zero_le _⟩) (fun r_1 H locs hf hW hS => ?_)
  refine mci hf hS (fun r τ h => va_runV (As := [.int r_1]) (rest := []) ⟨hx, hb, hml, hown, hts⟩ (c_X12_refused g l σ r_1 r τ h) (cl_X12_98 hts ⟨Nat.le_of_ble_eq_true rfl, Nat.le_of_ble_eq_true rfl⟩) (mpV_12 hZ hT hS hW tz_0 _) rfl rfl hl.1 rfl (lv_room (Nat.le_of_ble_eq_true rfl)) dX12_hall_6 ⟨Nat.zero_le _, Nat.zero_le _⟩) (fun r_2 σ_3 H locs hf hW hS => ?_)
  refine lv_if_eq (tgt := 14) hx hb dX12_hall_9 (by decide) (fun hc => ?_) (fun hc => ?_)
  · have hf := ift hc hf
    refine lv_aload_n hx hb dX12_hall_14 rfl (lv_at hl 0 rfl) ?_
    refine gf_12_10 hx hb htg (htg _ lf_X12_19) hown hZ hW tz_0 dX12_hall_15 hf (fun T_4 tT_4 hf => ?_)
    refine lv_iload_n hx hb dX12_hall_18 rfl (lv_at hl 1 rfl) ?_
    refine mcip hf hS (fun r h => va_runV (As := [.int a1]) (rest := []) ⟨hx, hb, hml, hown, hts⟩ (c_X11_isShut g l 0 81 σ_3 T_4 a1 tT_4 r h) (cl_X12_178 hts ⟨Nat.le_of_ble_eq_true rfl, Nat.le_of_ble_eq_true rfl⟩) (mpV_11 hZ hT hS hW tT_4 _) rfl rfl hl.1 rfl (lv_room (Nat.le_of_ble_eq_true rfl)) dX12_hall_19 ⟨Nat.zero_le _, Nat.zero_le _⟩) (fun r_5 H locs hf hW hS => ?_)
    refine lv_if_eq (tgt := 30) hx hb dX12_hall_22 (by decide) (fun hc => ?_) (fun hc => ?_)
    · have hf := ift hc hf
      refine lv_aload_n hx hb dX12_hall_30 rfl (lv_at hl 0 rfl) ?_
      refine gf_12_2 hx hb htg (htg _ lf_X12_40) hown hZ hW tz_0 dX12_hall_31 ?_
      refine lv_iload_n hx hb dX12_hall_34 rfl (lv_at hl 1 rfl) ?_
      refine mcip hf hS (fun r h => va_runV (As := [.int a1]) (rest := []) ⟨hx, hb, hml, hown, hts⟩ (c_X9_visitor g l 0 81 σ_3 28 a1 tz_28 r h) (cl_X12_181 hts ⟨Nat.le_of_ble_eq_true rfl, Nat.le_of_ble_eq_true rfl⟩) (mpV_9 hZ hT hS hW tz_28 _) rfl rfl hl.1 rfl (lv_room (Nat.le_of_ble_eq_true rfl)) dX12_hall_35 ⟨Nat.zero_le _, Nat.zero_le _⟩) (fun r_6 H locs hf hW hS => ?_)
      subst hQ
      exact mri hx hb hr hlocks hZ hT hS hW (pr1 hf) dX12_hall_38
    · have hf := iff_ hc hf
      refine lv_bipush (v := (-3)) hx hb dX12_hall_25 (by decide) ?_
      refine lv_goto (tgt := 38) hx hb dX12_hall_27 (by decide) ?_
      subst hQ
      exact mri hx hb hr hlocks hZ hT hS hW (pr1 hf) dX12_hall_38
  · have hf := iff_ hc hf
    refine lv_iconst (v := (-1)) hx hb dX12_hall_12 (by decide) ?_
    subst hQ
    exact mri hx hb hr hlocks hZ hT hS hW (pr1 hf) dX12_hall_13
def f_X12_mistaken (σ : Mem) (a1 : Int32) (a2 : Int32) : Option (Int32 × Mem) :=
  bd1 (f_X12_ofPersonOnDay σ a1 a2) (fun (r_1 : Int32) => bd2 (f_X12_refused σ r_1) (fun (r_2 : Int32) (σ_3 : Mem) => (if r_2 = 0 then bd1 (f_X9_mistakes σ_3 28 a1 a2) (fun (r_4 : Int32) => some (r_4, σ_3)) else some ((-1), σ_3))))
set_option maxHeartbeats 4000000 in
set_option maxRecDepth 100000 in
theorem c_X12_mistaken (g : XG) (l : Launch) (σ : Mem) (a1 : Int32) (a2 : Int32) (r : Int32) (τ : Mem) (hf : f_X12_mistaken σ a1 a2 = some (r, τ)) : Met l yX12_mistaken (wx (.code yX12_mistaken cX12_mistaken 3 (some .int))) (kr 5 127) (va_Pc [.ref (bs g 0), .int a1, .int a2] (WS g 0 81 σ)) (Qi' g 0 81 r τ) 0 0 (Ag g 0) := by
  refine Met.ofW (cc := cX12_mistaken) (maxL := 3) (ret := (some .int)) (by decide) rfl ?_
  intro p e s m args below meth c s₁ B hml hv
  obtain ⟨rfl, hZ, hT, hW⟩ := hv
  have hx := B.exec
  have hb := B.bytes
  have hr := B.returns
  have hts : ∀ w ∈ wx (.code yX12_mistaken cX12_mistaken 3 (some .int)), w.before _ s = true := atoms_spec B.pre
  have htg : ∀ w ∈ lwg, w.before _ s = true := fun w h => hts w (List.mem_cons_of_mem _ h)
  have hown : s.vm.findClass RX12 = some m.cls := findClass_of_methodNamed B.named
  have hlocks := B.notSynchronized
  change W p l e (kr 5 127) s m (List.toArray [.ref (bs g 0), .int a1, .int a2]) below meth c s.heap [] 0 0 (MQ below (Qi' g 0 81 r τ) (List.toArray [.ref (bs g 0), .int a1, .int a2]) s 0 0 (Ag g 0)) _
  generalize hQ : MQ below (Qi' g 0 81 r τ) (List.toArray [.ref (bs g 0), .int a1, .int a2]) s 0 0 (Ag g 0) = Q
  have hS : va_S (Ag g 0) s.heap s.heap [] := va_S.rf
  have hl := lv_entry ([.ref (bs g 0), .int a1, .int a2]) (n := 3) (Nat.le_of_ble_eq_true rfl)
  rw [lg_entry_eq]
  generalize (lg_sl ([.ref (bs g 0), .int a1, .int a2]) ++ List.replicate (3 - (lg_sl ([.ref (bs g 0), .int a1, .int a2])).length) Slot.unset).toArray = ls at hl ⊢
  have hl : lv_has ls 3 [(0, .ref (bs g 0)), (1, .int a1), (2, .int a2)] := hl
  delta f_X12_mistaken at hf
  obtain ⟨H, hH⟩ : ∃ H, H = s.heap := ⟨_, rfl⟩
  obtain ⟨locs, hLc⟩ : ∃ z : List Loc, z = [] := ⟨_, rfl⟩
  have hS : va_S (Ag g 0) s.heap H locs := by rw [hH, hLc]; exact hS
  have hW : Wd g 0 81 σ H := by rw [hH]; exact hW
  suffices hG : W p l e (kr 5 127) s m (List.toArray [.ref (bs g 0), .int a1, .int a2]) below meth c H locs 0 0 Q (F0 m 0 ls []) by rw [hH, hLc] at hG; exact hG
  clear hH hLc
  refine lv_aload_n hx hb dX12_mistaken_0 rfl (lv_at hl 0 rfl) ?_
  refine lv_aload_n hx hb dX12_mistaken_1 rfl (lv_at hl 0 rfl) ?_
  refine lv_iload_n hx hb dX12_mistaken_2 rfl (lv_at hl 1 rfl) ?_
  refine lv_iload_n hx hb dX12_mistaken_3 rfl (lv_at hl 2 rfl) ?_
  refine mcip hf hS (fun r h => va_runV (As := [.int a1, .int a2]) (rest := [.ref (bs g 0)]) ⟨hx, hb, hml, hown, hts⟩ (c_X12_ofPersonOnDay g l σ a1 a2 r h) (cl_X12_169 hts ⟨Nat.le_of_ble_eq_true rfl, Nat.le_of_ble_eq_true rfl⟩) (mpV_12 hZ hT hS hW tz_0 _) rfl rfl hl.1 rfl (lv_room (Nat.le_of_ble_eq_true rfl)) dX12_mistaken_4 ⟨Nat.zero_le _, Nat.zero_le _⟩) (fun r_1 H locs hf hW hS => ?_)
  refine mci hf hS (fun r τ h => va_runV (As := [.int r_1]) (rest := []) ⟨hx, hb, hml, hown, hts⟩ (c_X12_refused g l σ r_1 r τ h) (cl_X12_98 hts ⟨Nat.le_of_ble_eq_true rfl, Nat.le_of_ble_eq_true rfl⟩) (mpV_12 hZ hT hS hW tz_0 _) rfl rfl hl.1 rfl (lv_room (Nat.le_of_ble_eq_true rfl)) dX12_mistaken_7 ⟨Nat.zero_le _, Nat.zero_le _⟩) (fun r_2 σ_3 H locs hf hW hS => ?_)
  refine lv_if_eq (tgt := 17) hx hb dX12_mistaken_10 (by decide) (fun hc => ?_) (fun hc => ?_)
  · have hf := ift hc hf
    refine lv_aload_n hx hb dX12_mistaken_17 rfl (lv_at hl 0 rfl) ?_
    refine gf_12_2 hx hb htg (htg _ lf_X12_40) hown hZ hW tz_0 dX12_mistaken_18 ?_
    refine lv_iload_n hx hb dX12_mistaken_21 rfl (lv_at hl 1 rfl) ?_
    refine lv_iload_n hx hb dX12_mistaken_22 rfl (lv_at hl 2 rfl) ?_
    refine mcip hf hS (fun r h => va_runV (As := [.int a1, .int a2]) (rest := []) ⟨hx, hb, hml, hown, hts⟩ (c_X9_mistakes g l 0 81 σ_3 28 a1 a2 tz_28 r h) (cl_X12_184 hts ⟨Nat.le_of_ble_eq_true rfl, Nat.le_of_ble_eq_true rfl⟩) (mpV_9 hZ hT hS hW tz_28 _) rfl rfl hl.1 rfl (lv_room (Nat.le_of_ble_eq_true rfl)) dX12_mistaken_23 ⟨Nat.zero_le _, Nat.zero_le _⟩) (fun r_4 H locs hf hW hS => ?_)
    subst hQ
    exact mri hx hb hr hlocks hZ hT hS hW (pr1 hf) dX12_mistaken_26
  · have hf := iff_ hc hf
    refine lv_iconst (v := (-1)) hx hb dX12_mistaken_13 (by decide) ?_
    refine lv_goto (tgt := 26) hx hb dX12_mistaken_14 (by decide) ?_
    subst hQ
    exact mri hx hb hr hlocks hZ hT hS hW (pr1 hf) dX12_mistaken_26
def f_X12_knows (σ : Mem) (a1 : Int32) : Option (Int32 × Mem) :=
  bd1 (f_X12_ofDay σ a1) (fun (r_1 : Int32) => bd2 (f_X12_refused σ r_1) (fun (r_2 : Int32) (σ_3 : Mem) => (if r_2 = 0 then bd1 (f_X9_knowing σ_3 28 a1) (fun (r_4 : Int32) => some (r_4, σ_3)) else some ((-1), σ_3))))
set_option maxHeartbeats 4000000 in
set_option maxRecDepth 100000 in
theorem c_X12_knows (g : XG) (l : Launch) (σ : Mem) (a1 : Int32) (r : Int32) (τ : Mem) (hf : f_X12_knows σ a1 = some (r, τ)) : Met l yX12_knows (wx (.code yX12_knows cX12_knows 2 (some .int))) (kr 5 151) (va_Pc [.ref (bs g 0), .int a1] (WS g 0 81 σ)) (Qi' g 0 81 r τ) 0 0 (Ag g 0) := by
  refine Met.ofW (cc := cX12_knows) (maxL := 2) (ret := (some .int)) (by decide) rfl ?_
  intro p e s m args below meth c s₁ B hml hv
  obtain ⟨rfl, hZ, hT, hW⟩ := hv
  have hx := B.exec
  have hb := B.bytes
  have hr := B.returns
  have hts : ∀ w ∈ wx (.code yX12_knows cX12_knows 2 (some .int)), w.before _ s = true := atoms_spec B.pre
  have htg : ∀ w ∈ lwg, w.before _ s = true := fun w h => hts w (List.mem_cons_of_mem _ h)
  have hown : s.vm.findClass RX12 = some m.cls := findClass_of_methodNamed B.named
  have hlocks := B.notSynchronized
  change W p l e (kr 5 151) s m (List.toArray [.ref (bs g 0), .int a1]) below meth c s.heap [] 0 0 (MQ below (Qi' g 0 81 r τ) (List.toArray [.ref (bs g 0), .int a1]) s 0 0 (Ag g 0)) _
  generalize hQ : MQ below (Qi' g 0 81 r τ) (List.toArray [.ref (bs g 0), .int a1]) s 0 0 (Ag g 0) = Q
  have hS : va_S (Ag g 0) s.heap s.heap [] := va_S.rf
  have hl := lv_entry ([.ref (bs g 0), .int a1]) (n := 2) (Nat.le_of_ble_eq_true rfl)
  rw [lg_entry_eq]
  generalize (lg_sl ([.ref (bs g 0), .int a1]) ++ List.replicate (2 - (lg_sl ([.ref (bs g 0), .int a1])).length) Slot.unset).toArray = ls at hl ⊢
  have hl : lv_has ls 2 [(0, .ref (bs g 0)), (1, .int a1)] := hl
  delta f_X12_knows at hf
  obtain ⟨H, hH⟩ : ∃ H, H = s.heap := ⟨_, rfl⟩
  obtain ⟨locs, hLc⟩ : ∃ z : List Loc, z = [] := ⟨_, rfl⟩
  have hS : va_S (Ag g 0) s.heap H locs := by rw [hH, hLc]; exact hS
  have hW : Wd g 0 81 σ H := by rw [hH]; exact hW
  suffices hG : W p l e (kr 5 151) s m (List.toArray [.ref (bs g 0), .int a1]) below meth c H locs 0 0 Q (F0 m 0 ls []) by rw [hH, hLc] at hG; exact hG
  clear hH hLc
  refine lv_aload_n hx hb dX12_knows_0 rfl (lv_at hl 0 rfl) ?_
  refine lv_aload_n hx hb dX12_knows_1 rfl (lv_at hl 0 rfl) ?_
  refine lv_iload_n hx hb dX12_knows_2 rfl (lv_at hl 1 rfl) ?_
  refine mcip hf hS (fun r h => va_runV (As := [.int a1]) (rest := [.ref (bs g 0)]) ⟨hx, hb, hml, hown, hts⟩ (c_X12_ofDay g l σ a1 r h) (cl_X12_175 hts ⟨Nat.le_of_ble_eq_true rfl, Nat.le_of_ble_eq_true rfl⟩) (mpV_12 hZ hT hS hW tz_0 _) rfl rfl hl.1 rfl (lv_room (Nat.le_of_ble_eq_true rfl)) dX12_knows_3 ⟨Nat.zero_le _, Nat.zero_le _⟩) (fun r_1 H locs hf hW hS => ?_)
  refine mci hf hS (fun r τ h => va_runV (As := [.int r_1]) (rest := []) ⟨hx, hb, hml, hown, hts⟩ (c_X12_refused g l σ r_1 r τ h) (cl_X12_98 hts ⟨Nat.le_of_ble_eq_true rfl, Nat.le_of_ble_eq_true rfl⟩) (mpV_12 hZ hT hS hW tz_0 _) rfl rfl hl.1 rfl (lv_room (Nat.le_of_ble_eq_true rfl)) dX12_knows_6 ⟨Nat.zero_le _, Nat.zero_le _⟩) (fun r_2 σ_3 H locs hf hW hS => ?_)
  refine lv_if_eq (tgt := 16) hx hb dX12_knows_9 (by decide) (fun hc => ?_) (fun hc => ?_)
  · have hf := ift hc hf
    refine lv_aload_n hx hb dX12_knows_16 rfl (lv_at hl 0 rfl) ?_
    refine gf_12_2 hx hb htg (htg _ lf_X12_40) hown hZ hW tz_0 dX12_knows_17 ?_
    refine lv_iload_n hx hb dX12_knows_20 rfl (lv_at hl 1 rfl) ?_
    refine mcip hf hS (fun r h => va_runV (As := [.int a1]) (rest := []) ⟨hx, hb, hml, hown, hts⟩ (c_X9_knowing g l 0 81 σ_3 28 a1 tz_28 r h) (cl_X12_187 hts ⟨Nat.le_of_ble_eq_true rfl, Nat.le_of_ble_eq_true rfl⟩) (mpV_9 hZ hT hS hW tz_28 _) rfl rfl hl.1 rfl (lv_room (Nat.le_of_ble_eq_true rfl)) dX12_knows_21 ⟨Nat.zero_le _, Nat.zero_le _⟩) (fun r_4 H locs hf hW hS => ?_)
    subst hQ
    exact mri hx hb hr hlocks hZ hT hS hW (pr1 hf) dX12_knows_24
  · have hf := iff_ hc hf
    refine lv_iconst (v := (-1)) hx hb dX12_knows_12 (by decide) ?_
    refine lv_goto (tgt := 24) hx hb dX12_knows_13 (by decide) ?_
    subst hQ
    exact mri hx hb hr hlocks hZ hT hS hW (pr1 hf) dX12_knows_24
def f_X12_stranger (σ : Mem) (a1 : Int32) : Option (Int32 × Mem) :=
  bd1 (f_X12_ofPerson σ a1) (fun (r_1 : Int32) => bd2 (f_X12_refused σ r_1) (fun (r_2 : Int32) (σ_3 : Mem) => (if r_2 = 0 then fx1 FU (fun k_5 (i_4 : Int32) => (if 30 ≤ i_4 then some ((-2), σ_3) else bd1 (f_X9_knowsSelf σ_3 28 a1 i_4) (fun (r_6 : Int32) => (if r_6 = 0 then some (i_4, σ_3) else nm (i_4 + 1) (fun (x_7 : Int32) => k_5 x_7))))) 0 else some ((-1), σ_3))))
set_option maxHeartbeats 4000000 in
set_option maxRecDepth 100000 in
theorem c_X12_stranger (g : XG) (l : Launch) (σ : Mem) (a1 : Int32) (r : Int32) (τ : Mem) (hf : f_X12_stranger σ a1 = some (r, τ)) : Met l yX12_stranger (wx (.code yX12_stranger cX12_stranger 3 (some .int))) (kr 4 128) (va_Pc [.ref (bs g 0), .int a1] (WS g 0 81 σ)) (Qi' g 0 81 r τ) 0 0 (Ag g 0) := by
  refine Met.ofW (cc := cX12_stranger) (maxL := 3) (ret := (some .int)) (by decide) rfl ?_
  intro p e s m args below meth c s₁ B hml hv
  obtain ⟨rfl, hZ, hT, hW⟩ := hv
  have hx := B.exec
  have hb := B.bytes
  have hr := B.returns
  have hts : ∀ w ∈ wx (.code yX12_stranger cX12_stranger 3 (some .int)), w.before _ s = true := atoms_spec B.pre
  have htg : ∀ w ∈ lwg, w.before _ s = true := fun w h => hts w (List.mem_cons_of_mem _ h)
  have hown : s.vm.findClass RX12 = some m.cls := findClass_of_methodNamed B.named
  have hlocks := B.notSynchronized
  change W p l e (kr 4 128) s m (List.toArray [.ref (bs g 0), .int a1]) below meth c s.heap [] 0 0 (MQ below (Qi' g 0 81 r τ) (List.toArray [.ref (bs g 0), .int a1]) s 0 0 (Ag g 0)) _
  generalize hQ : MQ below (Qi' g 0 81 r τ) (List.toArray [.ref (bs g 0), .int a1]) s 0 0 (Ag g 0) = Q
  have hS : va_S (Ag g 0) s.heap s.heap [] := va_S.rf
  have hl := lv_entry ([.ref (bs g 0), .int a1]) (n := 3) (Nat.le_of_ble_eq_true rfl)
  rw [lg_entry_eq]
  generalize (lg_sl ([.ref (bs g 0), .int a1]) ++ List.replicate (3 - (lg_sl ([.ref (bs g 0), .int a1])).length) Slot.unset).toArray = ls at hl ⊢
  have hl : lv_has ls 3 [(0, .ref (bs g 0)), (1, .int a1)] := hl
  delta f_X12_stranger at hf
  obtain ⟨H, hH⟩ : ∃ H, H = s.heap := ⟨_, rfl⟩
  obtain ⟨locs, hLc⟩ : ∃ z : List Loc, z = [] := ⟨_, rfl⟩
  have hS : va_S (Ag g 0) s.heap H locs := by rw [hH, hLc]; exact hS
  have hW : Wd g 0 81 σ H := by rw [hH]; exact hW
  suffices hG : W p l e (kr 4 128) s m (List.toArray [.ref (bs g 0), .int a1]) below meth c H locs 0 0 Q (F0 m 0 ls []) by rw [hH, hLc] at hG; exact hG
  clear hH hLc
  refine lv_aload_n hx hb dX12_stranger_0 rfl (lv_at hl 0 rfl) ?_
  refine lv_aload_n hx hb dX12_stranger_1 rfl (lv_at hl 0 rfl) ?_
  refine lv_iload_n hx hb dX12_stranger_2 rfl (lv_at hl 1 rfl) ?_
  refine mcip hf hS (fun r h => va_runV (As := [.int a1]) (rest := [.ref (bs g 0)]) ⟨hx, hb, hml, hown, hts⟩ (c_X12_ofPerson g l σ a1 r h) (cl_X12_157 hts ⟨Nat.le_of_ble_eq_true rfl, Nat.le_of_ble_eq_true rfl⟩) (mpV_12 hZ hT hS hW tz_0 _) rfl rfl hl.1 rfl (lv_room (Nat.le_of_ble_eq_true rfl)) dX12_stranger_3 ⟨Nat.zero_le _, Nat.zero_le _⟩) (fun r_1 H locs hf hW hS => ?_)
  refine mci hf hS (fun r τ h => va_runV (As := [.int r_1]) (rest := []) ⟨hx, hb, hml, hown, hts⟩ (c_X12_refused g l σ r_1 r τ h) (cl_X12_98 hts ⟨Nat.le_of_ble_eq_true rfl, Nat.le_of_ble_eq_true rfl⟩) (mpV_12 hZ hT hS hW tz_0 _) rfl rfl hl.1 rfl (lv_room (Nat.le_of_ble_eq_true rfl)) dX12_stranger_6 ⟨Nat.zero_le _, Nat.zero_le _⟩) (fun r_2 σ_3 H locs hf hW hS => ?_)
  refine lv_if_eq (tgt := 14) hx hb dX12_stranger_9 (by decide) (fun hc => ?_) (fun hc => ?_)
  · have hf := ift hc hf
    refine lv_iconst (v := 0) hx hb dX12_stranger_14 (by decide) ?_
    refine lv_istore_n (lv' := [(2, .int 0), (0, .ref (bs g 0)), (1, .int a1)]) hx hb dX12_stranger_15 rfl hl (by decide) rfl (fun ls hl => ?_)
    refine fx1_W (fun (i_4 : Int32) => ∀ (H : Heap) (locs : List Loc) (ls : Array Slot), Wd g 0 81 σ_3 H → va_S (Ag g 0) s.heap H locs → lv_has ls 3 [(0, .ref (bs g 0)), (1, .int a1), (2, .int i_4)] → W p l e (kr 4 128) s m (List.toArray [.ref (bs g 0), .int a1]) below meth c H locs 0 0 Q (F0 m 16 ls [])) (fun k_5 hk_5 i_4 hf => ?_) FU 0 hf H locs ls hW hS (lv_sub hl [1, 2, 0] rfl)
    intro H locs ls hW hS hl
    refine lv_iload_n hx hb dX12_stranger_16 rfl (lv_at hl 2 rfl) ?_
    refine lv_bipush (v := 30) hx hb dX12_stranger_17 (by decide) ?_
    refine lv_icmp_ge (tgt := 42) hx hb dX12_stranger_19 (by decide) (fun hc => ?_) (fun hc => ?_)
    · have hf := ift hc hf
      refine lv_bipush (v := (-2)) hx hb dX12_stranger_42 (by decide) ?_
      subst hQ
      exact mri hx hb hr hlocks hZ hT hS hW (pr1 hf) dX12_stranger_44
    · have hf := iff_ hc hf
      refine lv_aload_n hx hb dX12_stranger_22 rfl (lv_at hl 0 rfl) ?_
      refine gf_12_2 hx hb htg (htg _ lf_X12_40) hown hZ hW tz_0 dX12_stranger_23 ?_
      refine lv_iload_n hx hb dX12_stranger_26 rfl (lv_at hl 1 rfl) ?_
      refine lv_iload_n hx hb dX12_stranger_27 rfl (lv_at hl 2 rfl) ?_
      refine mcip hf hS (fun r h => va_runV (As := [.int a1, .int i_4]) (rest := []) ⟨hx, hb, hml, hown, hts⟩ (c_X9_knowsSelf g l 0 81 σ_3 28 a1 i_4 tz_28 r h) (cl_X12_190 hts ⟨Nat.le_of_ble_eq_true rfl, Nat.le_of_ble_eq_true rfl⟩) (mpV_9 hZ hT hS hW tz_28 _) rfl rfl hl.1 rfl (lv_room (Nat.le_of_ble_eq_true rfl)) dX12_stranger_28 ⟨Nat.zero_le _, Nat.zero_le _⟩) (fun r_6 H locs hf hW hS => ?_)
      refine lv_if_ne (tgt := 36) hx hb dX12_stranger_31 (by decide) (fun hc => ?_) (fun hc => ?_)
      · have hf := iff_ hc hf
        obtain ⟨x_7, e_8, hf⟩ := nm_s hf
        refine lv_iinc (v := x_7) (lv' := [(2, .int x_7), (0, .ref (bs g 0)), (1, .int a1)]) hx hb dX12_stranger_36 hl (k := 2) rfl (by rw [e_8]; rfl) (by decide) rfl (fun ls hl => ?_)
        refine lv_goto (tgt := 16) hx hb dX12_stranger_39 (by decide) ?_
        exact hk_5 x_7 hf H locs ls hW hS (lv_sub hl [1, 2, 0] rfl)
      · have hf := ift hc hf
        refine lv_iload_n hx hb dX12_stranger_34 rfl (lv_at hl 2 rfl) ?_
        subst hQ
        exact mri hx hb hr hlocks hZ hT hS hW (pr1 hf) dX12_stranger_35
  · have hf := iff_ hc hf
    refine lv_iconst (v := (-1)) hx hb dX12_stranger_12 (by decide) ?_
    subst hQ
    exact mri hx hb hr hlocks hZ hT hS hW (pr1 hf) dX12_stranger_13
def f_X12_passes (σ : Mem) (a1 : Int32) (a2 : Int32) : Option (Int32 × Mem) :=
  bd1 (f_X12_ofPersonOnDay σ a1 a2) (fun (r_1 : Int32) => bd2 (f_X12_refused σ r_1) (fun (r_2 : Int32) (σ_3 : Mem) => (if r_2 = 0 then fx2 FU (fun k_6 (i_4 : Int32) (i_5 : Int32) => rfc (σ_3.2.2 0 10) (fun (T_7 : Nat) => bd1 (f_X11_people σ_3 T_7) (fun (r_8 : Int32) => (if r_8 ≤ i_5 then some (i_4, σ_3) else bd1 (f_X9_passesFor σ_3 28 a1 i_5 a2) (fun (r_9 : Int32) => jn1 (fun (i_10 : Int32) => nm (i_4 ||| i_10) (fun (x_12 : Int32) => nm (i_5 + 1) (fun (x_13 : Int32) => k_6 x_12 x_13))) (fun k_11 => (if r_9 = 0 then k_11 0 else k_11 (1 <<< (i_5 &&& 31))))))))) 0 0 else some ((-1), σ_3))))
set_option maxHeartbeats 4000000 in
set_option maxRecDepth 100000 in
theorem c_X12_passes (g : XG) (l : Launch) (σ : Mem) (a1 : Int32) (a2 : Int32) (r : Int32) (τ : Mem) (hf : f_X12_passes σ a1 a2 = some (r, τ)) : Met l yX12_passes (wx (.code yX12_passes cX12_passes 5 (some .int))) (kr 5 129) (va_Pc [.ref (bs g 0), .int a1, .int a2] (WS g 0 81 σ)) (Qi' g 0 81 r τ) 0 0 (Ag g 0) := by
  refine Met.ofW (cc := cX12_passes) (maxL := 5) (ret := (some .int)) (by decide) rfl ?_
  intro p e s m args below meth c s₁ B hml hv
  obtain ⟨rfl, hZ, hT, hW⟩ := hv
  have hx := B.exec
  have hb := B.bytes
  have hr := B.returns
  have hts : ∀ w ∈ wx (.code yX12_passes cX12_passes 5 (some .int)), w.before _ s = true := atoms_spec B.pre
  have htg : ∀ w ∈ lwg, w.before _ s = true := fun w h => hts w (List.mem_cons_of_mem _ h)
  have hown : s.vm.findClass RX12 = some m.cls := findClass_of_methodNamed B.named
  have hlocks := B.notSynchronized
  change W p l e (kr 5 129) s m (List.toArray [.ref (bs g 0), .int a1, .int a2]) below meth c s.heap [] 0 0 (MQ below (Qi' g 0 81 r τ) (List.toArray [.ref (bs g 0), .int a1, .int a2]) s 0 0 (Ag g 0)) _
  generalize hQ : MQ below (Qi' g 0 81 r τ) (List.toArray [.ref (bs g 0), .int a1, .int a2]) s 0 0 (Ag g 0) = Q
  have hS : va_S (Ag g 0) s.heap s.heap [] := va_S.rf
  have hl := lv_entry ([.ref (bs g 0), .int a1, .int a2]) (n := 5) (Nat.le_of_ble_eq_true rfl)
  rw [lg_entry_eq]
  generalize (lg_sl ([.ref (bs g 0), .int a1, .int a2]) ++ List.replicate (5 - (lg_sl ([.ref (bs g 0), .int a1, .int a2])).length) Slot.unset).toArray = ls at hl ⊢
  have hl : lv_has ls 5 [(0, .ref (bs g 0)), (1, .int a1), (2, .int a2)] := hl
  delta f_X12_passes at hf
  obtain ⟨H, hH⟩ : ∃ H, H = s.heap := ⟨_, rfl⟩
  obtain ⟨locs, hLc⟩ : ∃ z : List Loc, z = [] := ⟨_, rfl⟩
  have hS : va_S (Ag g 0) s.heap H locs := by rw [hH, hLc]; exact hS
  have hW : Wd g 0 81 σ H := by rw [hH]; exact hW
  suffices hG : W p l e (kr 5 129) s m (List.toArray [.ref (bs g 0), .int a1, .int a2]) below meth c H locs 0 0 Q (F0 m 0 ls []) by rw [hH, hLc] at hG; exact hG
  clear hH hLc
  refine lv_aload_n hx hb dX12_passes_0 rfl (lv_at hl 0 rfl) ?_
  refine lv_aload_n hx hb dX12_passes_1 rfl (lv_at hl 0 rfl) ?_
  refine lv_iload_n hx hb dX12_passes_2 rfl (lv_at hl 1 rfl) ?_
  refine lv_iload_n hx hb dX12_passes_3 rfl (lv_at hl 2 rfl) ?_
  refine mcip hf hS (fun r h => va_runV (As := [.int a1, .int a2]) (rest := [.ref (bs g 0)]) ⟨hx, hb, hml, hown, hts⟩ (c_X12_ofPersonOnDay g l σ a1 a2 r h) (cl_X12_169 hts ⟨Nat.le_of_ble_eq_true rfl, Nat.le_of_ble_eq_true rfl⟩) (mpV_12 hZ hT hS hW tz_0 _) rfl rfl hl.1 rfl (lv_room (Nat.le_of_ble_eq_true rfl)) dX12_passes_4 ⟨Nat.zero_le _, Nat.zero_le _⟩) (fun r_1 H locs hf hW hS => ?_)
  refine mci hf hS (fun r τ h => va_runV (As := [.int r_1]) (rest := []) ⟨hx, hb, hml, hown, hts⟩ (c_X12_refused g l σ r_1 r τ h) (cl_X12_98 hts ⟨Nat.le_of_ble_eq_true rfl, Nat.le_of_ble_eq_true rfl⟩) (mpV_12 hZ hT hS hW tz_0 _) rfl rfl hl.1 rfl (lv_room (Nat.le_of_ble_eq_true rfl)) dX12_passes_7 ⟨Nat.zero_le _, Nat.zero_le _⟩) (fun r_2 σ_3 H locs hf hW hS => ?_)
  refine lv_if_eq (tgt := 15) hx hb dX12_passes_10 (by decide) (fun hc => ?_) (fun hc => ?_)
  · have hf := ift hc hf
    refine lv_iconst (v := 0) hx hb dX12_passes_15 (by decide) ?_
    refine lv_istore_n (lv' := [(3, .int 0), (0, .ref (bs g 0)), (1, .int a1), (2, .int a2)]) hx hb dX12_passes_16 rfl hl (by decide) rfl (fun ls hl => ?_)
    refine lv_iconst (v := 0) hx hb dX12_passes_17 (by decide) ?_
    refine lv_istore (lv' := [(4, .int 0), (3, .int 0), (0, .ref (bs g 0)), (1, .int a1), (2, .int a2)]) hx hb dX12_passes_18 hl (by decide) rfl (fun ls hl => ?_)
    refine fx2_W (fun (i_4 : Int32) (i_5 : Int32) => ∀ (H : Heap) (locs : List Loc) (ls : Array Slot), Wd g 0 81 σ_3 H → va_S (Ag g 0) s.heap H locs → lv_has ls 5 [(0, .ref (bs g 0)), (1, .int a1), (2, .int a2), (3, .int i_4), (4, .int i_5)] → W p l e (kr 5 129) s m (List.toArray [.ref (bs g 0), .int a1, .int a2]) below meth c H locs 0 0 Q (F0 m 20 ls [])) (fun k_6 hk_6 i_4 i_5 hf => ?_) FU 0 0 hf H locs ls hW hS (lv_sub hl [2, 3, 4, 1, 0] rfl)
    intro H locs ls hW hS hl
    refine lv_iload hx hb dX12_passes_20 (lv_at hl 4 rfl) ?_
    refine lv_aload_n hx hb dX12_passes_22 rfl (lv_at hl 0 rfl) ?_
    refine gf_12_10 hx hb htg (htg _ lf_X12_19) hown hZ hW tz_0 dX12_passes_23 hf (fun T_7 tT_7 hf => ?_)
    refine mcip hf hS (fun r h => va_runV (As := []) (rest := [.int i_5]) ⟨hx, hb, hml, hown, hts⟩ (c_X11_people g l 0 81 σ_3 T_7 tT_7 r h) (cl_X12_127 hts ⟨Nat.le_of_ble_eq_true rfl, Nat.le_of_ble_eq_true rfl⟩) (mpV_11 hZ hT hS hW tT_7 _) rfl rfl hl.1 rfl (lv_room (Nat.le_of_ble_eq_true rfl)) dX12_passes_26 ⟨Nat.zero_le _, Nat.zero_le _⟩) (fun r_8 H locs hf hW hS => ?_)
    refine lv_icmp_ge (tgt := 63) hx hb dX12_passes_29 (by decide) (fun hc => ?_) (fun hc => ?_)
    · have hf := ift hc hf
      refine lv_iload_n hx hb dX12_passes_63 rfl (lv_at hl 3 rfl) ?_
      subst hQ
      exact mri hx hb hr hlocks hZ hT hS hW (pr1 hf) dX12_passes_64
    · have hf := iff_ hc hf
      refine lv_iload_n hx hb dX12_passes_32 rfl (lv_at hl 3 rfl) ?_
      refine lv_aload_n hx hb dX12_passes_33 rfl (lv_at hl 0 rfl) ?_
      refine gf_12_2 hx hb htg (htg _ lf_X12_40) hown hZ hW tz_0 dX12_passes_34 ?_
      refine lv_iload_n hx hb dX12_passes_37 rfl (lv_at hl 1 rfl) ?_
      refine lv_iload hx hb dX12_passes_38 (lv_at hl 4 rfl) ?_
      refine lv_iload_n hx hb dX12_passes_40 rfl (lv_at hl 2 rfl) ?_
      refine mcip hf hS (fun r h => va_runV (As := [.int a1, .int i_5, .int a2]) (rest := [.int i_4]) ⟨hx, hb, hml, hown, hts⟩ (c_X9_passesFor g l 0 81 σ_3 28 a1 i_5 a2 tz_28 r h) (cl_X12_194 hts ⟨Nat.le_of_ble_eq_true rfl, Nat.le_of_ble_eq_true rfl⟩) (mpV_9 hZ hT hS hW tz_28 _) rfl rfl hl.1 rfl (lv_room (Nat.le_of_ble_eq_true rfl)) dX12_passes_41 ⟨Nat.zero_le _, Nat.zero_le _⟩) (fun r_9 H locs hf hW hS => ?_)
      refine jn1_W (fun (i_10 : Int32) => ∀ (H : Heap) (locs : List Loc) (ls : Array Slot), Wd g 0 81 σ_3 H → va_S (Ag g 0) s.heap H locs → lv_has ls 5 [(0, .ref (bs g 0)), (1, .int a1), (2, .int a2), (4, .int i_5)] → W p l e (kr 5 129) s m (List.toArray [.ref (bs g 0), .int a1, .int a2]) below meth c H locs 0 0 Q (F0 m 55 ls [.int i_10, .int i_4])) hf (fun i_10 hf => ?_) (fun k_11 hk_11 hf => ?_)
      · intro H locs ls hW hS hl
        refine lv_ior hx hb dX12_passes_55 ?_
        refine mnmi hf (fun (x_12 : Int32) hf => ?_)
        refine lv_istore_n (lv' := [(3, .int x_12), (0, .ref (bs g 0)), (1, .int a1), (2, .int a2), (4, .int i_5)]) hx hb dX12_passes_56 rfl hl (by decide) rfl (fun ls hl => ?_)
        obtain ⟨x_13, e_14, hf⟩ := nm_s hf
        refine lv_iinc (v := x_13) (lv' := [(4, .int x_13), (3, .int x_12), (0, .ref (bs g 0)), (1, .int a1), (2, .int a2)]) hx hb dX12_passes_57 hl (k := 4) rfl (by rw [e_14]; rfl) (by decide) rfl (fun ls hl => ?_)
        refine lv_goto (tgt := 20) hx hb dX12_passes_60 (by decide) ?_
        exact hk_6 x_12 x_13 hf H locs ls hW hS (lv_sub hl [2, 3, 4, 1, 0] rfl)
      · refine lv_if_eq (tgt := 54) hx hb dX12_passes_44 (by decide) (fun hc => ?_) (fun hc => ?_)
        · have hf := ift hc hf
          refine lv_iconst (v := 0) hx hb dX12_passes_54 (by decide) ?_
          exact hk_11 0 hf H locs ls hW hS (lv_sub hl [0, 1, 2, 4] rfl)
        · have hf := iff_ hc hf
          refine lv_iconst (v := 1) hx hb dX12_passes_47 (by decide) ?_
          refine lv_iload hx hb dX12_passes_48 (lv_at hl 4 rfl) ?_
          refine lv_ishl hx hb dX12_passes_50 ?_
          refine lv_goto (tgt := 55) hx hb dX12_passes_51 (by decide) ?_
          exact hk_11 (1 <<< (i_5 &&& 31)) hf H locs ls hW hS (lv_sub hl [0, 1, 2, 4] rfl)
  · have hf := iff_ hc hf
    refine lv_iconst (v := (-1)) hx hb dX12_passes_13 (by decide) ?_
    subst hQ
    exact mri hx hb hr hlocks hZ hT hS hW (pr1 hf) dX12_passes_14
def f_X12_passedBy (σ : Mem) (a1 : Int32) (a2 : Int32) : Option (Int32 × Mem) :=
  bd1 (f_X12_ofPersonOnDay σ a1 a2) (fun (r_1 : Int32) => bd2 (f_X12_refused σ r_1) (fun (r_2 : Int32) (σ_3 : Mem) => (if r_2 = 0 then fx2 FU (fun k_6 (i_4 : Int32) (i_5 : Int32) => rfc (σ_3.2.2 0 10) (fun (T_7 : Nat) => bd1 (f_X11_people σ_3 T_7) (fun (r_8 : Int32) => (if r_8 ≤ i_5 then some (i_4, σ_3) else bd1 (f_X9_passesFor σ_3 28 i_5 a1 a2) (fun (r_9 : Int32) => jn1 (fun (i_10 : Int32) => nm (i_4 ||| i_10) (fun (x_12 : Int32) => nm (i_5 + 1) (fun (x_13 : Int32) => k_6 x_12 x_13))) (fun k_11 => (if r_9 = 0 then k_11 0 else k_11 (1 <<< (i_5 &&& 31))))))))) 0 0 else some ((-1), σ_3))))
set_option maxHeartbeats 4000000 in
set_option maxRecDepth 100000 in
theorem c_X12_passedBy (g : XG) (l : Launch) (σ : Mem) (a1 : Int32) (a2 : Int32) (r : Int32) (τ : Mem) (hf : f_X12_passedBy σ a1 a2 = some (r, τ)) : Met l yX12_passedBy (wx (.code yX12_passedBy cX12_passedBy 5 (some .int))) (kr 5 129) (va_Pc [.ref (bs g 0), .int a1, .int a2] (WS g 0 81 σ)) (Qi' g 0 81 r τ) 0 0 (Ag g 0) := by
  refine Met.ofW (cc := cX12_passedBy) (maxL := 5) (ret := (some .int)) (by decide) rfl ?_
  intro p e s m args below meth c s₁ B hml hv
  obtain ⟨rfl, hZ, hT, hW⟩ := hv
  have hx := B.exec
  have hb := B.bytes
  have hr := B.returns
  have hts : ∀ w ∈ wx (.code yX12_passedBy cX12_passedBy 5 (some .int)), w.before _ s = true := atoms_spec B.pre
  have htg : ∀ w ∈ lwg, w.before _ s = true := fun w h => hts w (List.mem_cons_of_mem _ h)
  have hown : s.vm.findClass RX12 = some m.cls := findClass_of_methodNamed B.named
  have hlocks := B.notSynchronized
  change W p l e (kr 5 129) s m (List.toArray [.ref (bs g 0), .int a1, .int a2]) below meth c s.heap [] 0 0 (MQ below (Qi' g 0 81 r τ) (List.toArray [.ref (bs g 0), .int a1, .int a2]) s 0 0 (Ag g 0)) _
  generalize hQ : MQ below (Qi' g 0 81 r τ) (List.toArray [.ref (bs g 0), .int a1, .int a2]) s 0 0 (Ag g 0) = Q
  have hS : va_S (Ag g 0) s.heap s.heap [] := va_S.rf
  have hl := lv_entry ([.ref (bs g 0), .int a1, .int a2]) (n := 5) (Nat.le_of_ble_eq_true rfl)
  rw [lg_entry_eq]
  generalize (lg_sl ([.ref (bs g 0), .int a1, .int a2]) ++ List.replicate (5 - (lg_sl ([.ref (bs g 0), .int a1, .int a2])).length) Slot.unset).toArray = ls at hl ⊢
  have hl : lv_has ls 5 [(0, .ref (bs g 0)), (1, .int a1), (2, .int a2)] := hl
  delta f_X12_passedBy at hf
  obtain ⟨H, hH⟩ : ∃ H, H = s.heap := ⟨_, rfl⟩
  obtain ⟨locs, hLc⟩ : ∃ z : List Loc, z = [] := ⟨_, rfl⟩
  have hS : va_S (Ag g 0) s.heap H locs := by rw [hH, hLc]; exact hS
  have hW : Wd g 0 81 σ H := by rw [hH]; exact hW
  suffices hG : W p l e (kr 5 129) s m (List.toArray [.ref (bs g 0), .int a1, .int a2]) below meth c H locs 0 0 Q (F0 m 0 ls []) by rw [hH, hLc] at hG; exact hG
  clear hH hLc
  refine lv_aload_n hx hb dX12_passedBy_0 rfl (lv_at hl 0 rfl) ?_
  refine lv_aload_n hx hb dX12_passedBy_1 rfl (lv_at hl 0 rfl) ?_
  refine lv_iload_n hx hb dX12_passedBy_2 rfl (lv_at hl 1 rfl) ?_
  refine lv_iload_n hx hb dX12_passedBy_3 rfl (lv_at hl 2 rfl) ?_
  refine mcip hf hS (fun r h => va_runV (As := [.int a1, .int a2]) (rest := [.ref (bs g 0)]) ⟨hx, hb, hml, hown, hts⟩ (c_X12_ofPersonOnDay g l σ a1 a2 r h) (cl_X12_169 hts ⟨Nat.le_of_ble_eq_true rfl, Nat.le_of_ble_eq_true rfl⟩) (mpV_12 hZ hT hS hW tz_0 _) rfl rfl hl.1 rfl (lv_room (Nat.le_of_ble_eq_true rfl)) dX12_passedBy_4 ⟨Nat.zero_le _, Nat.zero_le _⟩) (fun r_1 H locs hf hW hS => ?_)
  refine mci hf hS (fun r τ h => va_runV (As := [.int r_1]) (rest := []) ⟨hx, hb, hml, hown, hts⟩ (c_X12_refused g l σ r_1 r τ h) (cl_X12_98 hts ⟨Nat.le_of_ble_eq_true rfl, Nat.le_of_ble_eq_true rfl⟩) (mpV_12 hZ hT hS hW tz_0 _) rfl rfl hl.1 rfl (lv_room (Nat.le_of_ble_eq_true rfl)) dX12_passedBy_7 ⟨Nat.zero_le _, Nat.zero_le _⟩) (fun r_2 σ_3 H locs hf hW hS => ?_)
  refine lv_if_eq (tgt := 15) hx hb dX12_passedBy_10 (by decide) (fun hc => ?_) (fun hc => ?_)
  · have hf := ift hc hf
    refine lv_iconst (v := 0) hx hb dX12_passedBy_15 (by decide) ?_
    refine lv_istore_n (lv' := [(3, .int 0), (0, .ref (bs g 0)), (1, .int a1), (2, .int a2)]) hx hb dX12_passedBy_16 rfl hl (by decide) rfl (fun ls hl => ?_)
    refine lv_iconst (v := 0) hx hb dX12_passedBy_17 (by decide) ?_
    refine lv_istore (lv' := [(4, .int 0), (3, .int 0), (0, .ref (bs g 0)), (1, .int a1), (2, .int a2)]) hx hb dX12_passedBy_18 hl (by decide) rfl (fun ls hl => ?_)
    refine fx2_W (fun (i_4 : Int32) (i_5 : Int32) => ∀ (H : Heap) (locs : List Loc) (ls : Array Slot), Wd g 0 81 σ_3 H → va_S (Ag g 0) s.heap H locs → lv_has ls 5 [(0, .ref (bs g 0)), (1, .int a1), (2, .int a2), (3, .int i_4), (4, .int i_5)] → W p l e (kr 5 129) s m (List.toArray [.ref (bs g 0), .int a1, .int a2]) below meth c H locs 0 0 Q (F0 m 20 ls [])) (fun k_6 hk_6 i_4 i_5 hf => ?_) FU 0 0 hf H locs ls hW hS (lv_sub hl [2, 3, 4, 1, 0] rfl)
    intro H locs ls hW hS hl
    refine lv_iload hx hb dX12_passedBy_20 (lv_at hl 4 rfl) ?_
    refine lv_aload_n hx hb dX12_passedBy_22 rfl (lv_at hl 0 rfl) ?_
    refine gf_12_10 hx hb htg (htg _ lf_X12_19) hown hZ hW tz_0 dX12_passedBy_23 hf (fun T_7 tT_7 hf => ?_)
    refine mcip hf hS (fun r h => va_runV (As := []) (rest := [.int i_5]) ⟨hx, hb, hml, hown, hts⟩ (c_X11_people g l 0 81 σ_3 T_7 tT_7 r h) (cl_X12_127 hts ⟨Nat.le_of_ble_eq_true rfl, Nat.le_of_ble_eq_true rfl⟩) (mpV_11 hZ hT hS hW tT_7 _) rfl rfl hl.1 rfl (lv_room (Nat.le_of_ble_eq_true rfl)) dX12_passedBy_26 ⟨Nat.zero_le _, Nat.zero_le _⟩) (fun r_8 H locs hf hW hS => ?_)
    refine lv_icmp_ge (tgt := 63) hx hb dX12_passedBy_29 (by decide) (fun hc => ?_) (fun hc => ?_)
    · have hf := ift hc hf
      refine lv_iload_n hx hb dX12_passedBy_63 rfl (lv_at hl 3 rfl) ?_
      subst hQ
      exact mri hx hb hr hlocks hZ hT hS hW (pr1 hf) dX12_passedBy_64
    · have hf := iff_ hc hf
      refine lv_iload_n hx hb dX12_passedBy_32 rfl (lv_at hl 3 rfl) ?_
      refine lv_aload_n hx hb dX12_passedBy_33 rfl (lv_at hl 0 rfl) ?_
      refine gf_12_2 hx hb htg (htg _ lf_X12_40) hown hZ hW tz_0 dX12_passedBy_34 ?_
      refine lv_iload hx hb dX12_passedBy_37 (lv_at hl 4 rfl) ?_
      refine lv_iload_n hx hb dX12_passedBy_39 rfl (lv_at hl 1 rfl) ?_
      refine lv_iload_n hx hb dX12_passedBy_40 rfl (lv_at hl 2 rfl) ?_
      refine mcip hf hS (fun r h => va_runV (As := [.int i_5, .int a1, .int a2]) (rest := [.int i_4]) ⟨hx, hb, hml, hown, hts⟩ (c_X9_passesFor g l 0 81 σ_3 28 i_5 a1 a2 tz_28 r h) (cl_X12_194 hts ⟨Nat.le_of_ble_eq_true rfl, Nat.le_of_ble_eq_true rfl⟩) (mpV_9 hZ hT hS hW tz_28 _) rfl rfl hl.1 rfl (lv_room (Nat.le_of_ble_eq_true rfl)) dX12_passedBy_41 ⟨Nat.zero_le _, Nat.zero_le _⟩) (fun r_9 H locs hf hW hS => ?_)
      refine jn1_W (fun (i_10 : Int32) => ∀ (H : Heap) (locs : List Loc) (ls : Array Slot), Wd g 0 81 σ_3 H → va_S (Ag g 0) s.heap H locs → lv_has ls 5 [(0, .ref (bs g 0)), (1, .int a1), (2, .int a2), (4, .int i_5)] → W p l e (kr 5 129) s m (List.toArray [.ref (bs g 0), .int a1, .int a2]) below meth c H locs 0 0 Q (F0 m 55 ls [.int i_10, .int i_4])) hf (fun i_10 hf => ?_) (fun k_11 hk_11 hf => ?_)
      · intro H locs ls hW hS hl
        refine lv_ior hx hb dX12_passedBy_55 ?_
        refine mnmi hf (fun (x_12 : Int32) hf => ?_)
        refine lv_istore_n (lv' := [(3, .int x_12), (0, .ref (bs g 0)), (1, .int a1), (2, .int a2), (4, .int i_5)]) hx hb dX12_passedBy_56 rfl hl (by decide) rfl (fun ls hl => ?_)
        obtain ⟨x_13, e_14, hf⟩ := nm_s hf
        refine lv_iinc (v := x_13) (lv' := [(4, .int x_13), (3, .int x_12), (0, .ref (bs g 0)), (1, .int a1), (2, .int a2)]) hx hb dX12_passedBy_57 hl (k := 4) rfl (by rw [e_14]; rfl) (by decide) rfl (fun ls hl => ?_)
        refine lv_goto (tgt := 20) hx hb dX12_passedBy_60 (by decide) ?_
        exact hk_6 x_12 x_13 hf H locs ls hW hS (lv_sub hl [2, 3, 4, 1, 0] rfl)
      · refine lv_if_eq (tgt := 54) hx hb dX12_passedBy_44 (by decide) (fun hc => ?_) (fun hc => ?_)
        · have hf := ift hc hf
          refine lv_iconst (v := 0) hx hb dX12_passedBy_54 (by decide) ?_
          exact hk_11 0 hf H locs ls hW hS (lv_sub hl [0, 1, 2, 4] rfl)
        · have hf := iff_ hc hf
          refine lv_iconst (v := 1) hx hb dX12_passedBy_47 (by decide) ?_
          refine lv_iload hx hb dX12_passedBy_48 (lv_at hl 4 rfl) ?_
          refine lv_ishl hx hb dX12_passedBy_50 ?_
          refine lv_goto (tgt := 55) hx hb dX12_passedBy_51 (by decide) ?_
          exact hk_11 (1 <<< (i_5 &&& 31)) hf H locs ls hW hS (lv_sub hl [0, 1, 2, 4] rfl)
  · have hf := iff_ hc hf
    refine lv_iconst (v := (-1)) hx hb dX12_passedBy_13 (by decide) ?_
    subst hQ
    exact mri hx hb hr hlocks hZ hT hS hW (pr1 hf) dX12_passedBy_14
def f_X12_known (σ : Mem) (a1 : Int32) : Option (Int32 × Mem) :=
  bd1 (f_X12_ofPerson σ a1) (fun (r_1 : Int32) => bd2 (f_X12_refused σ r_1) (fun (r_2 : Int32) (σ_3 : Mem) => (if r_2 = 0 then bd1 (f_X9_daysLost σ_3 28 a1) (fun (r_4 : Int32) => some (30 - r_4, σ_3)) else some ((-1), σ_3))))
set_option maxHeartbeats 4000000 in
set_option maxRecDepth 100000 in
theorem c_X12_known (g : XG) (l : Launch) (σ : Mem) (a1 : Int32) (r : Int32) (τ : Mem) (hf : f_X12_known σ a1 = some (r, τ)) : Met l yX12_known (wx (.code yX12_known cX12_known 2 (some .int))) (kr 5 151) (va_Pc [.ref (bs g 0), .int a1] (WS g 0 81 σ)) (Qi' g 0 81 r τ) 0 0 (Ag g 0) := by
  refine Met.ofW (cc := cX12_known) (maxL := 2) (ret := (some .int)) (by decide) rfl ?_
  intro p e s m args below meth c s₁ B hml hv
  obtain ⟨rfl, hZ, hT, hW⟩ := hv
  have hx := B.exec
  have hb := B.bytes
  have hr := B.returns
  have hts : ∀ w ∈ wx (.code yX12_known cX12_known 2 (some .int)), w.before _ s = true := atoms_spec B.pre
  have htg : ∀ w ∈ lwg, w.before _ s = true := fun w h => hts w (List.mem_cons_of_mem _ h)
  have hown : s.vm.findClass RX12 = some m.cls := findClass_of_methodNamed B.named
  have hlocks := B.notSynchronized
  change W p l e (kr 5 151) s m (List.toArray [.ref (bs g 0), .int a1]) below meth c s.heap [] 0 0 (MQ below (Qi' g 0 81 r τ) (List.toArray [.ref (bs g 0), .int a1]) s 0 0 (Ag g 0)) _
  generalize hQ : MQ below (Qi' g 0 81 r τ) (List.toArray [.ref (bs g 0), .int a1]) s 0 0 (Ag g 0) = Q
  have hS : va_S (Ag g 0) s.heap s.heap [] := va_S.rf
  have hl := lv_entry ([.ref (bs g 0), .int a1]) (n := 2) (Nat.le_of_ble_eq_true rfl)
  rw [lg_entry_eq]
  generalize (lg_sl ([.ref (bs g 0), .int a1]) ++ List.replicate (2 - (lg_sl ([.ref (bs g 0), .int a1])).length) Slot.unset).toArray = ls at hl ⊢
  have hl : lv_has ls 2 [(0, .ref (bs g 0)), (1, .int a1)] := hl
  delta f_X12_known at hf
  obtain ⟨H, hH⟩ : ∃ H, H = s.heap := ⟨_, rfl⟩
  obtain ⟨locs, hLc⟩ : ∃ z : List Loc, z = [] := ⟨_, rfl⟩
  have hS : va_S (Ag g 0) s.heap H locs := by rw [hH, hLc]; exact hS
  have hW : Wd g 0 81 σ H := by rw [hH]; exact hW
  suffices hG : W p l e (kr 5 151) s m (List.toArray [.ref (bs g 0), .int a1]) below meth c H locs 0 0 Q (F0 m 0 ls []) by rw [hH, hLc] at hG; exact hG
  clear hH hLc
  refine lv_aload_n hx hb dX12_known_0 rfl (lv_at hl 0 rfl) ?_
  refine lv_aload_n hx hb dX12_known_1 rfl (lv_at hl 0 rfl) ?_
  refine lv_iload_n hx hb dX12_known_2 rfl (lv_at hl 1 rfl) ?_
  refine mcip hf hS (fun r h => va_runV (As := [.int a1]) (rest := [.ref (bs g 0)]) ⟨hx, hb, hml, hown, hts⟩ (c_X12_ofPerson g l σ a1 r h) (cl_X12_157 hts ⟨Nat.le_of_ble_eq_true rfl, Nat.le_of_ble_eq_true rfl⟩) (mpV_12 hZ hT hS hW tz_0 _) rfl rfl hl.1 rfl (lv_room (Nat.le_of_ble_eq_true rfl)) dX12_known_3 ⟨Nat.zero_le _, Nat.zero_le _⟩) (fun r_1 H locs hf hW hS => ?_)
  refine mci hf hS (fun r τ h => va_runV (As := [.int r_1]) (rest := []) ⟨hx, hb, hml, hown, hts⟩ (c_X12_refused g l σ r_1 r τ h) (cl_X12_98 hts ⟨Nat.le_of_ble_eq_true rfl, Nat.le_of_ble_eq_true rfl⟩) (mpV_12 hZ hT hS hW tz_0 _) rfl rfl hl.1 rfl (lv_room (Nat.le_of_ble_eq_true rfl)) dX12_known_6 ⟨Nat.zero_le _, Nat.zero_le _⟩) (fun r_2 σ_3 H locs hf hW hS => ?_)
  refine lv_if_eq (tgt := 16) hx hb dX12_known_9 (by decide) (fun hc => ?_) (fun hc => ?_)
  · have hf := ift hc hf
    refine lv_bipush (v := 30) hx hb dX12_known_16 (by decide) ?_
    refine lv_aload_n hx hb dX12_known_18 rfl (lv_at hl 0 rfl) ?_
    refine gf_12_2 hx hb htg (htg _ lf_X12_40) hown hZ hW tz_0 dX12_known_19 ?_
    refine lv_iload_n hx hb dX12_known_22 rfl (lv_at hl 1 rfl) ?_
    refine mcip hf hS (fun r h => va_runV (As := [.int a1]) (rest := [.int 30]) ⟨hx, hb, hml, hown, hts⟩ (c_X9_daysLost g l 0 81 σ_3 28 a1 tz_28 r h) (cl_X12_198 hts ⟨Nat.le_of_ble_eq_true rfl, Nat.le_of_ble_eq_true rfl⟩) (mpV_9 hZ hT hS hW tz_28 _) rfl rfl hl.1 rfl (lv_room (Nat.le_of_ble_eq_true rfl)) dX12_known_23 ⟨Nat.zero_le _, Nat.zero_le _⟩) (fun r_4 H locs hf hW hS => ?_)
    refine lv_isub hx hb dX12_known_26 ?_
    subst hQ
    exact mri hx hb hr hlocks hZ hT hS hW (pr1 hf) dX12_known_27
  · have hf := iff_ hc hf
    refine lv_iconst (v := (-1)) hx hb dX12_known_12 (by decide) ?_
    refine lv_goto (tgt := 27) hx hb dX12_known_13 (by decide) ?_
    subst hQ
    exact mri hx hb hr hlocks hZ hT hS hW (pr1 hf) dX12_known_27
def f_X12_worst (σ : Mem) (a1 : Int32) : Option (Int32 × Mem) :=
  bd1 (f_X12_ofDay σ a1) (fun (r_1 : Int32) => bd2 (f_X12_refused σ r_1) (fun (r_2 : Int32) (σ_3 : Mem) => (if r_2 = 0 then fx2 FU (fun k_6 (i_4 : Int32) (i_5 : Int32) => rfc (σ_3.2.2 0 10) (fun (T_7 : Nat) => bd1 (f_X11_people σ_3 T_7) (fun (r_8 : Int32) => (if r_8 ≤ i_5 then some (i_4, σ_3) else bd1 (f_X9_mistakes σ_3 28 i_5 a1) (fun (r_9 : Int32) => bd1 (f_X9_mistakes σ_3 28 i_4 a1) (fun (r_10 : Int32) => jn1 (fun (i_11 : Int32) => nm (i_5 + 1) (fun (x_13 : Int32) => k_6 i_11 x_13)) (fun k_12 => (if r_9 ≤ r_10 then k_12 i_4 else k_12 i_5)))))))) 0 1 else some ((-1), σ_3))))
set_option maxHeartbeats 4000000 in
set_option maxRecDepth 100000 in
theorem c_X12_worst (g : XG) (l : Launch) (σ : Mem) (a1 : Int32) (r : Int32) (τ : Mem) (hf : f_X12_worst σ a1 = some (r, τ)) : Met l yX12_worst (wx (.code yX12_worst cX12_worst 4 (some .int))) (kr 5 127) (va_Pc [.ref (bs g 0), .int a1] (WS g 0 81 σ)) (Qi' g 0 81 r τ) 0 0 (Ag g 0) := by
  refine Met.ofW (cc := cX12_worst) (maxL := 4) (ret := (some .int)) (by decide) rfl ?_
  intro p e s m args below meth c s₁ B hml hv
  obtain ⟨rfl, hZ, hT, hW⟩ := hv
  have hx := B.exec
  have hb := B.bytes
  have hr := B.returns
  have hts : ∀ w ∈ wx (.code yX12_worst cX12_worst 4 (some .int)), w.before _ s = true := atoms_spec B.pre
  have htg : ∀ w ∈ lwg, w.before _ s = true := fun w h => hts w (List.mem_cons_of_mem _ h)
  have hown : s.vm.findClass RX12 = some m.cls := findClass_of_methodNamed B.named
  have hlocks := B.notSynchronized
  change W p l e (kr 5 127) s m (List.toArray [.ref (bs g 0), .int a1]) below meth c s.heap [] 0 0 (MQ below (Qi' g 0 81 r τ) (List.toArray [.ref (bs g 0), .int a1]) s 0 0 (Ag g 0)) _
  generalize hQ : MQ below (Qi' g 0 81 r τ) (List.toArray [.ref (bs g 0), .int a1]) s 0 0 (Ag g 0) = Q
  have hS : va_S (Ag g 0) s.heap s.heap [] := va_S.rf
  have hl := lv_entry ([.ref (bs g 0), .int a1]) (n := 4) (Nat.le_of_ble_eq_true rfl)
  rw [lg_entry_eq]
  generalize (lg_sl ([.ref (bs g 0), .int a1]) ++ List.replicate (4 - (lg_sl ([.ref (bs g 0), .int a1])).length) Slot.unset).toArray = ls at hl ⊢
  have hl : lv_has ls 4 [(0, .ref (bs g 0)), (1, .int a1)] := hl
  delta f_X12_worst at hf
  obtain ⟨H, hH⟩ : ∃ H, H = s.heap := ⟨_, rfl⟩
  obtain ⟨locs, hLc⟩ : ∃ z : List Loc, z = [] := ⟨_, rfl⟩
  have hS : va_S (Ag g 0) s.heap H locs := by rw [hH, hLc]; exact hS
  have hW : Wd g 0 81 σ H := by rw [hH]; exact hW
  suffices hG : W p l e (kr 5 127) s m (List.toArray [.ref (bs g 0), .int a1]) below meth c H locs 0 0 Q (F0 m 0 ls []) by rw [hH, hLc] at hG; exact hG
  clear hH hLc
  refine lv_aload_n hx hb dX12_worst_0 rfl (lv_at hl 0 rfl) ?_
  refine lv_aload_n hx hb dX12_worst_1 rfl (lv_at hl 0 rfl) ?_
  refine lv_iload_n hx hb dX12_worst_2 rfl (lv_at hl 1 rfl) ?_
  refine mcip hf hS (fun r h => va_runV (As := [.int a1]) (rest := [.ref (bs g 0)]) ⟨hx, hb, hml, hown, hts⟩ (c_X12_ofDay g l σ a1 r h) (cl_X12_175 hts ⟨Nat.le_of_ble_eq_true rfl, Nat.le_of_ble_eq_true rfl⟩) (mpV_12 hZ hT hS hW tz_0 _) rfl rfl hl.1 rfl (lv_room (Nat.le_of_ble_eq_true rfl)) dX12_worst_3 ⟨Nat.zero_le _, Nat.zero_le _⟩) (fun r_1 H locs hf hW hS => ?_)
  refine mci hf hS (fun r τ h => va_runV (As := [.int r_1]) (rest := []) ⟨hx, hb, hml, hown, hts⟩ (c_X12_refused g l σ r_1 r τ h) (cl_X12_98 hts ⟨Nat.le_of_ble_eq_true rfl, Nat.le_of_ble_eq_true rfl⟩) (mpV_12 hZ hT hS hW tz_0 _) rfl rfl hl.1 rfl (lv_room (Nat.le_of_ble_eq_true rfl)) dX12_worst_6 ⟨Nat.zero_le _, Nat.zero_le _⟩) (fun r_2 σ_3 H locs hf hW hS => ?_)
  refine lv_if_eq (tgt := 14) hx hb dX12_worst_9 (by decide) (fun hc => ?_) (fun hc => ?_)
  · have hf := ift hc hf
    refine lv_iconst (v := 0) hx hb dX12_worst_14 (by decide) ?_
    refine lv_istore_n (lv' := [(2, .int 0), (0, .ref (bs g 0)), (1, .int a1)]) hx hb dX12_worst_15 rfl hl (by decide) rfl (fun ls hl => ?_)
    refine lv_iconst (v := 1) hx hb dX12_worst_16 (by decide) ?_
    refine lv_istore_n (lv' := [(3, .int 1), (2, .int 0), (0, .ref (bs g 0)), (1, .int a1)]) hx hb dX12_worst_17 rfl hl (by decide) rfl (fun ls hl => ?_)
    refine fx2_W (fun (i_4 : Int32) (i_5 : Int32) => ∀ (H : Heap) (locs : List Loc) (ls : Array Slot), Wd g 0 81 σ_3 H → va_S (Ag g 0) s.heap H locs → lv_has ls 4 [(0, .ref (bs g 0)), (1, .int a1), (2, .int i_4), (3, .int i_5)] → W p l e (kr 5 127) s m (List.toArray [.ref (bs g 0), .int a1]) below meth c H locs 0 0 Q (F0 m 18 ls [])) (fun k_6 hk_6 i_4 i_5 hf => ?_) FU 0 1 hf H locs ls hW hS (lv_sub hl [2, 3, 1, 0] rfl)
    intro H locs ls hW hS hl
    refine lv_iload_n hx hb dX12_worst_18 rfl (lv_at hl 3 rfl) ?_
    refine lv_aload_n hx hb dX12_worst_19 rfl (lv_at hl 0 rfl) ?_
    refine gf_12_10 hx hb htg (htg _ lf_X12_19) hown hZ hW tz_0 dX12_worst_20 hf (fun T_7 tT_7 hf => ?_)
    refine mcip hf hS (fun r h => va_runV (As := []) (rest := [.int i_5]) ⟨hx, hb, hml, hown, hts⟩ (c_X11_people g l 0 81 σ_3 T_7 tT_7 r h) (cl_X12_127 hts ⟨Nat.le_of_ble_eq_true rfl, Nat.le_of_ble_eq_true rfl⟩) (mpV_11 hZ hT hS hW tT_7 _) rfl rfl hl.1 rfl (lv_room (Nat.le_of_ble_eq_true rfl)) dX12_worst_23 ⟨Nat.zero_le _, Nat.zero_le _⟩) (fun r_8 H locs hf hW hS => ?_)
    refine lv_icmp_ge (tgt := 58) hx hb dX12_worst_26 (by decide) (fun hc => ?_) (fun hc => ?_)
    · have hf := ift hc hf
      refine lv_iload_n hx hb dX12_worst_58 rfl (lv_at hl 2 rfl) ?_
      subst hQ
      exact mri hx hb hr hlocks hZ hT hS hW (pr1 hf) dX12_worst_59
    · have hf := iff_ hc hf
      refine lv_aload_n hx hb dX12_worst_29 rfl (lv_at hl 0 rfl) ?_
      refine gf_12_2 hx hb htg (htg _ lf_X12_40) hown hZ hW tz_0 dX12_worst_30 ?_
      refine lv_iload_n hx hb dX12_worst_33 rfl (lv_at hl 3 rfl) ?_
      refine lv_iload_n hx hb dX12_worst_34 rfl (lv_at hl 1 rfl) ?_
      refine mcip hf hS (fun r h => va_runV (As := [.int i_5, .int a1]) (rest := []) ⟨hx, hb, hml, hown, hts⟩ (c_X9_mistakes g l 0 81 σ_3 28 i_5 a1 tz_28 r h) (cl_X12_184 hts ⟨Nat.le_of_ble_eq_true rfl, Nat.le_of_ble_eq_true rfl⟩) (mpV_9 hZ hT hS hW tz_28 _) rfl rfl hl.1 rfl (lv_room (Nat.le_of_ble_eq_true rfl)) dX12_worst_35 ⟨Nat.zero_le _, Nat.zero_le _⟩) (fun r_9 H locs hf hW hS => ?_)
      refine lv_aload_n hx hb dX12_worst_38 rfl (lv_at hl 0 rfl) ?_
      refine gf_12_2 hx hb htg (htg _ lf_X12_40) hown hZ hW tz_0 dX12_worst_39 ?_
      refine lv_iload_n hx hb dX12_worst_42 rfl (lv_at hl 2 rfl) ?_
      refine lv_iload_n hx hb dX12_worst_43 rfl (lv_at hl 1 rfl) ?_
      refine mcip hf hS (fun r h => va_runV (As := [.int i_4, .int a1]) (rest := [.int r_9]) ⟨hx, hb, hml, hown, hts⟩ (c_X9_mistakes g l 0 81 σ_3 28 i_4 a1 tz_28 r h) (cl_X12_184 hts ⟨Nat.le_of_ble_eq_true rfl, Nat.le_of_ble_eq_true rfl⟩) (mpV_9 hZ hT hS hW tz_28 _) rfl rfl hl.1 rfl (lv_room (Nat.le_of_ble_eq_true rfl)) dX12_worst_44 ⟨Nat.zero_le _, Nat.zero_le _⟩) (fun r_10 H locs hf hW hS => ?_)
      refine jn1_W (fun (i_11 : Int32) => ∀ (H : Heap) (locs : List Loc) (ls : Array Slot), Wd g 0 81 σ_3 H → va_S (Ag g 0) s.heap H locs → lv_has ls 4 [(0, .ref (bs g 0)), (1, .int a1), (2, .int i_11), (3, .int i_5)] → W p l e (kr 5 127) s m (List.toArray [.ref (bs g 0), .int a1]) below meth c H locs 0 0 Q (F0 m 52 ls [])) hf (fun i_11 hf => ?_) (fun k_12 hk_12 hf => ?_)
      · intro H locs ls hW hS hl
        obtain ⟨x_13, e_14, hf⟩ := nm_s hf
        refine lv_iinc (v := x_13) (lv' := [(3, .int x_13), (0, .ref (bs g 0)), (1, .int a1), (2, .int i_11)]) hx hb dX12_worst_52 hl (k := 3) rfl (by rw [e_14]; rfl) (by decide) rfl (fun ls hl => ?_)
        refine lv_goto (tgt := 18) hx hb dX12_worst_55 (by decide) ?_
        exact hk_6 i_11 x_13 hf H locs ls hW hS (lv_sub hl [1, 2, 3, 0] rfl)
      · refine lv_icmp_le (tgt := 52) hx hb dX12_worst_47 (by decide) (fun hc => ?_) (fun hc => ?_)
        · have hf := ift hc hf
          exact hk_12 i_4 hf H locs ls hW hS (lv_sub hl [0, 1, 2, 3] rfl)
        · have hf := iff_ hc hf
          refine lv_iload_n hx hb dX12_worst_50 rfl (lv_at hl 3 rfl) ?_
          refine lv_istore_n (lv' := [(2, .int i_5), (0, .ref (bs g 0)), (1, .int a1), (3, .int i_5)]) hx hb dX12_worst_51 rfl hl (by decide) rfl (fun ls hl => ?_)
          exact hk_12 i_5 hf H locs ls hW hS (lv_sub hl [1, 2, 0, 3] rfl)
  · have hf := iff_ hc hf
    refine lv_iconst (v := (-1)) hx hb dX12_worst_12 (by decide) ?_
    subst hQ
    exact mri hx hb hr hlocks hZ hT hS hW (pr1 hf) dX12_worst_13
def f_X12_doubles (σ : Mem) (a1 : Int32) : Option (Int32 × Mem) :=
  bd1 (f_X12_ofDay σ a1) (fun (r_1 : Int32) => bd2 (f_X12_refused σ r_1) (fun (r_2 : Int32) (σ_3 : Mem) => (if r_2 = 0 then fx2 FU (fun k_6 (i_4 : Int32) (i_5 : Int32) => rfc (σ_3.2.2 0 10) (fun (T_7 : Nat) => bd1 (f_X11_people σ_3 T_7) (fun (r_8 : Int32) => (if r_8 ≤ i_5 then some (i_4, σ_3) else fx2 FU (fun k_11 (i_9 : Int32) (i_10 : Int32) => rfc (σ_3.2.2 0 10) (fun (T_12 : Nat) => bd1 (f_X11_people σ_3 T_12) (fun (r_13 : Int32) => (if r_13 ≤ i_10 then nm (i_5 + 1) (fun (x_14 : Int32) => k_6 i_9 x_14) else bd1 (f_X9_passesFor σ_3 28 i_5 i_10 a1) (fun (r_16 : Int32) => jn1 (fun (i_17 : Int32) => nm (i_9 + i_17) (fun (x_19 : Int32) => nm (i_10 + 1) (fun (x_20 : Int32) => k_11 x_19 x_20))) (fun k_18 => (if r_16 = 0 then k_18 0 else k_18 1))))))) i_4 0)))) 0 0 else some ((-1), σ_3))))
set_option maxHeartbeats 4000000 in
set_option maxRecDepth 100000 in
theorem c_X12_doubles (g : XG) (l : Launch) (σ : Mem) (a1 : Int32) (r : Int32) (τ : Mem) (hf : f_X12_doubles σ a1 = some (r, τ)) : Met l yX12_doubles (wx (.code yX12_doubles cX12_doubles 5 (some .int))) (kr 5 129) (va_Pc [.ref (bs g 0), .int a1] (WS g 0 81 σ)) (Qi' g 0 81 r τ) 0 0 (Ag g 0) := by
  refine Met.ofW (cc := cX12_doubles) (maxL := 5) (ret := (some .int)) (by decide) rfl ?_
  intro p e s m args below meth c s₁ B hml hv
  obtain ⟨rfl, hZ, hT, hW⟩ := hv
  have hx := B.exec
  have hb := B.bytes
  have hr := B.returns
  have hts : ∀ w ∈ wx (.code yX12_doubles cX12_doubles 5 (some .int)), w.before _ s = true := atoms_spec B.pre
  have htg : ∀ w ∈ lwg, w.before _ s = true := fun w h => hts w (List.mem_cons_of_mem _ h)
  have hown : s.vm.findClass RX12 = some m.cls := findClass_of_methodNamed B.named
  have hlocks := B.notSynchronized
  change W p l e (kr 5 129) s m (List.toArray [.ref (bs g 0), .int a1]) below meth c s.heap [] 0 0 (MQ below (Qi' g 0 81 r τ) (List.toArray [.ref (bs g 0), .int a1]) s 0 0 (Ag g 0)) _
  generalize hQ : MQ below (Qi' g 0 81 r τ) (List.toArray [.ref (bs g 0), .int a1]) s 0 0 (Ag g 0) = Q
  have hS : va_S (Ag g 0) s.heap s.heap [] := va_S.rf
  have hl := lv_entry ([.ref (bs g 0), .int a1]) (n := 5) (Nat.le_of_ble_eq_true rfl)
  rw [lg_entry_eq]
  generalize (lg_sl ([.ref (bs g 0), .int a1]) ++ List.replicate (5 - (lg_sl ([.ref (bs g 0), .int a1])).length) Slot.unset).toArray = ls at hl ⊢
  have hl : lv_has ls 5 [(0, .ref (bs g 0)), (1, .int a1)] := hl
  delta f_X12_doubles at hf
  obtain ⟨H, hH⟩ : ∃ H, H = s.heap := ⟨_, rfl⟩
  obtain ⟨locs, hLc⟩ : ∃ z : List Loc, z = [] := ⟨_, rfl⟩
  have hS : va_S (Ag g 0) s.heap H locs := by rw [hH, hLc]; exact hS
  have hW : Wd g 0 81 σ H := by rw [hH]; exact hW
  suffices hG : W p l e (kr 5 129) s m (List.toArray [.ref (bs g 0), .int a1]) below meth c H locs 0 0 Q (F0 m 0 ls []) by rw [hH, hLc] at hG; exact hG
  clear hH hLc
  refine lv_aload_n hx hb dX12_doubles_0 rfl (lv_at hl 0 rfl) ?_
  refine lv_aload_n hx hb dX12_doubles_1 rfl (lv_at hl 0 rfl) ?_
  refine lv_iload_n hx hb dX12_doubles_2 rfl (lv_at hl 1 rfl) ?_
  refine mcip hf hS (fun r h => va_runV (As := [.int a1]) (rest := [.ref (bs g 0)]) ⟨hx, hb, hml, hown, hts⟩ (c_X12_ofDay g l σ a1 r h) (cl_X12_175 hts ⟨Nat.le_of_ble_eq_true rfl, Nat.le_of_ble_eq_true rfl⟩) (mpV_12 hZ hT hS hW tz_0 _) rfl rfl hl.1 rfl (lv_room (Nat.le_of_ble_eq_true rfl)) dX12_doubles_3 ⟨Nat.zero_le _, Nat.zero_le _⟩) (fun r_1 H locs hf hW hS => ?_)
  refine mci hf hS (fun r τ h => va_runV (As := [.int r_1]) (rest := []) ⟨hx, hb, hml, hown, hts⟩ (c_X12_refused g l σ r_1 r τ h) (cl_X12_98 hts ⟨Nat.le_of_ble_eq_true rfl, Nat.le_of_ble_eq_true rfl⟩) (mpV_12 hZ hT hS hW tz_0 _) rfl rfl hl.1 rfl (lv_room (Nat.le_of_ble_eq_true rfl)) dX12_doubles_6 ⟨Nat.zero_le _, Nat.zero_le _⟩) (fun r_2 σ_3 H locs hf hW hS => ?_)
  refine lv_if_eq (tgt := 14) hx hb dX12_doubles_9 (by decide) (fun hc => ?_) (fun hc => ?_)
  · have hf := ift hc hf
    refine lv_iconst (v := 0) hx hb dX12_doubles_14 (by decide) ?_
    refine lv_istore_n (lv' := [(2, .int 0), (0, .ref (bs g 0)), (1, .int a1)]) hx hb dX12_doubles_15 rfl hl (by decide) rfl (fun ls hl => ?_)
    refine lv_iconst (v := 0) hx hb dX12_doubles_16 (by decide) ?_
    refine lv_istore_n (lv' := [(3, .int 0), (2, .int 0), (0, .ref (bs g 0)), (1, .int a1)]) hx hb dX12_doubles_17 rfl hl (by decide) rfl (fun ls hl => ?_)
    refine fx2_W (fun (i_4 : Int32) (i_5 : Int32) => ∀ (H : Heap) (locs : List Loc) (ls : Array Slot), Wd g 0 81 σ_3 H → va_S (Ag g 0) s.heap H locs → lv_has ls 5 [(0, .ref (bs g 0)), (1, .int a1), (2, .int i_4), (3, .int i_5)] → W p l e (kr 5 129) s m (List.toArray [.ref (bs g 0), .int a1]) below meth c H locs 0 0 Q (F0 m 18 ls [])) (fun k_6 hk_6 i_4 i_5 hf => ?_) FU 0 0 hf H locs ls hW hS (lv_sub hl [2, 3, 1, 0] rfl)
    intro H locs ls hW hS hl
    refine lv_iload_n hx hb dX12_doubles_18 rfl (lv_at hl 3 rfl) ?_
    refine lv_aload_n hx hb dX12_doubles_19 rfl (lv_at hl 0 rfl) ?_
    refine gf_12_10 hx hb htg (htg _ lf_X12_19) hown hZ hW tz_0 dX12_doubles_20 hf (fun T_7 tT_7 hf => ?_)
    refine mcip hf hS (fun r h => va_runV (As := []) (rest := [.int i_5]) ⟨hx, hb, hml, hown, hts⟩ (c_X11_people g l 0 81 σ_3 T_7 tT_7 r h) (cl_X12_127 hts ⟨Nat.le_of_ble_eq_true rfl, Nat.le_of_ble_eq_true rfl⟩) (mpV_11 hZ hT hS hW tT_7 _) rfl rfl hl.1 rfl (lv_room (Nat.le_of_ble_eq_true rfl)) dX12_doubles_23 ⟨Nat.zero_le _, Nat.zero_le _⟩) (fun r_8 H locs hf hW hS => ?_)
    refine lv_icmp_ge (tgt := 78) hx hb dX12_doubles_26 (by decide) (fun hc => ?_) (fun hc => ?_)
    · have hf := ift hc hf
      refine lv_iload_n hx hb dX12_doubles_78 rfl (lv_at hl 2 rfl) ?_
      subst hQ
      exact mri hx hb hr hlocks hZ hT hS hW (pr1 hf) dX12_doubles_79
    · have hf := iff_ hc hf
      refine lv_iconst (v := 0) hx hb dX12_doubles_29 (by decide) ?_
      refine lv_istore (lv' := [(4, .int 0), (0, .ref (bs g 0)), (1, .int a1), (2, .int i_4), (3, .int i_5)]) hx hb dX12_doubles_30 hl (by decide) rfl (fun ls hl => ?_)
      refine fx2_W (fun (i_9 : Int32) (i_10 : Int32) => ∀ (H : Heap) (locs : List Loc) (ls : Array Slot), Wd g 0 81 σ_3 H → va_S (Ag g 0) s.heap H locs → lv_has ls 5 [(0, .ref (bs g 0)), (1, .int a1), (2, .int i_9), (3, .int i_5), (4, .int i_10)] → W p l e (kr 5 129) s m (List.toArray [.ref (bs g 0), .int a1]) below meth c H locs 0 0 Q (F0 m 32 ls [])) (fun k_11 hk_11 i_9 i_10 hf => ?_) FU i_4 0 hf H locs ls hW hS (lv_sub hl [1, 2, 3, 4, 0] rfl)
      intro H locs ls hW hS hl
      refine lv_iload hx hb dX12_doubles_32 (lv_at hl 4 rfl) ?_
      refine lv_aload_n hx hb dX12_doubles_34 rfl (lv_at hl 0 rfl) ?_
      refine gf_12_10 hx hb htg (htg _ lf_X12_19) hown hZ hW tz_0 dX12_doubles_35 hf (fun T_12 tT_12 hf => ?_)
      refine mcip hf hS (fun r h => va_runV (As := []) (rest := [.int i_10]) ⟨hx, hb, hml, hown, hts⟩ (c_X11_people g l 0 81 σ_3 T_12 tT_12 r h) (cl_X12_127 hts ⟨Nat.le_of_ble_eq_true rfl, Nat.le_of_ble_eq_true rfl⟩) (mpV_11 hZ hT hS hW tT_12 _) rfl rfl hl.1 rfl (lv_room (Nat.le_of_ble_eq_true rfl)) dX12_doubles_38 ⟨Nat.zero_le _, Nat.zero_le _⟩) (fun r_13 H locs hf hW hS => ?_)
      refine lv_icmp_ge (tgt := 72) hx hb dX12_doubles_41 (by decide) (fun hc => ?_) (fun hc => ?_)
      · have hf := ift hc hf
        obtain ⟨x_14, e_15, hf⟩ := nm_s hf
        refine lv_iinc (v := x_14) (lv' := [(3, .int x_14), (0, .ref (bs g 0)), (1, .int a1), (2, .int i_9), (4, .int i_10)]) hx hb dX12_doubles_72 hl (k := 3) rfl (by rw [e_15]; rfl) (by decide) rfl (fun ls hl => ?_)
        refine lv_goto (tgt := 18) hx hb dX12_doubles_75 (by decide) ?_
        exact hk_6 i_9 x_14 hf H locs ls hW hS (lv_sub hl [1, 2, 3, 0] rfl)
      · have hf := iff_ hc hf
        refine lv_iload_n hx hb dX12_doubles_44 rfl (lv_at hl 2 rfl) ?_
        refine lv_aload_n hx hb dX12_doubles_45 rfl (lv_at hl 0 rfl) ?_
        refine gf_12_2 hx hb htg (htg _ lf_X12_40) hown hZ hW tz_0 dX12_doubles_46 ?_
        refine lv_iload_n hx hb dX12_doubles_49 rfl (lv_at hl 3 rfl) ?_
        refine lv_iload hx hb dX12_doubles_50 (lv_at hl 4 rfl) ?_
        refine lv_iload_n hx hb dX12_doubles_52 rfl (lv_at hl 1 rfl) ?_
        refine mcip hf hS (fun r h => va_runV (As := [.int i_5, .int i_10, .int a1]) (rest := [.int i_9]) ⟨hx, hb, hml, hown, hts⟩ (c_X9_passesFor g l 0 81 σ_3 28 i_5 i_10 a1 tz_28 r h) (cl_X12_194 hts ⟨Nat.le_of_ble_eq_true rfl, Nat.le_of_ble_eq_true rfl⟩) (mpV_9 hZ hT hS hW tz_28 _) rfl rfl hl.1 rfl (lv_room (Nat.le_of_ble_eq_true rfl)) dX12_doubles_53 ⟨Nat.zero_le _, Nat.zero_le _⟩) (fun r_16 H locs hf hW hS => ?_)
        refine jn1_W (fun (i_17 : Int32) => ∀ (H : Heap) (locs : List Loc) (ls : Array Slot), Wd g 0 81 σ_3 H → va_S (Ag g 0) s.heap H locs → lv_has ls 5 [(0, .ref (bs g 0)), (1, .int a1), (3, .int i_5), (4, .int i_10)] → W p l e (kr 5 129) s m (List.toArray [.ref (bs g 0), .int a1]) below meth c H locs 0 0 Q (F0 m 64 ls [.int i_17, .int i_9])) hf (fun i_17 hf => ?_) (fun k_18 hk_18 hf => ?_)
        · intro H locs ls hW hS hl
          refine lv_iadd hx hb dX12_doubles_64 ?_
          refine mnmi hf (fun (x_19 : Int32) hf => ?_)
          refine lv_istore_n (lv' := [(2, .int x_19), (0, .ref (bs g 0)), (1, .int a1), (3, .int i_5), (4, .int i_10)]) hx hb dX12_doubles_65 rfl hl (by decide) rfl (fun ls hl => ?_)
          obtain ⟨x_20, e_21, hf⟩ := nm_s hf
          refine lv_iinc (v := x_20) (lv' := [(4, .int x_20), (2, .int x_19), (0, .ref (bs g 0)), (1, .int a1), (3, .int i_5)]) hx hb dX12_doubles_66 hl (k := 4) rfl (by rw [e_21]; rfl) (by decide) rfl (fun ls hl => ?_)
          refine lv_goto (tgt := 32) hx hb dX12_doubles_69 (by decide) ?_
          exact hk_11 x_19 x_20 hf H locs ls hW hS (lv_sub hl [2, 3, 1, 4, 0] rfl)
        · refine lv_if_eq (tgt := 63) hx hb dX12_doubles_56 (by decide) (fun hc => ?_) (fun hc => ?_)
          · have hf := ift hc hf
            refine lv_iconst (v := 0) hx hb dX12_doubles_63 (by decide) ?_
            exact hk_18 0 hf H locs ls hW hS (lv_sub hl [0, 1, 3, 4] rfl)
          · have hf := iff_ hc hf
            refine lv_iconst (v := 1) hx hb dX12_doubles_59 (by decide) ?_
            refine lv_goto (tgt := 64) hx hb dX12_doubles_60 (by decide) ?_
            exact hk_18 1 hf H locs ls hW hS (lv_sub hl [0, 1, 3, 4] rfl)
  · have hf := iff_ hc hf
    refine lv_iconst (v := (-1)) hx hb dX12_doubles_12 (by decide) ?_
    subst hQ
    exact mri hx hb hr hlocks hZ hT hS hW (pr1 hf) dX12_doubles_13
def f_X12_twins (σ : Mem)  : Option (Int32 × Mem) :=
  bd1 (f_X12_ofTown σ) (fun (r_1 : Int32) => bd2 (f_X12_refused σ r_1) (fun (r_2 : Int32) (σ_3 : Mem) => (if r_2 = 0 then fx1 FU (fun k_5 (i_4 : Int32) => (if 30 ≤ i_4 then some ((-2), σ_3) else bd1 (f_X9_hasTwins σ_3 28 i_4) (fun (r_6 : Int32) => (if r_6 = 0 then nm (i_4 + 1) (fun (x_7 : Int32) => k_5 x_7) else some (i_4, σ_3))))) 0 else some ((-1), σ_3))))
set_option maxHeartbeats 4000000 in
set_option maxRecDepth 100000 in
theorem c_X12_twins (g : XG) (l : Launch) (σ : Mem) (r : Int32) (τ : Mem) (hf : f_X12_twins σ = some (r, τ)) : Met l yX12_twins (wx (.code yX12_twins cX12_twins 2 (some .int))) (kr 3 64) (va_Pc [.ref (bs g 0)] (WS g 0 81 σ)) (Qi' g 0 81 r τ) 0 0 (Ag g 0) := by
  refine Met.ofW (cc := cX12_twins) (maxL := 2) (ret := (some .int)) (by decide) rfl ?_
  intro p e s m args below meth c s₁ B hml hv
  obtain ⟨rfl, hZ, hT, hW⟩ := hv
  have hx := B.exec
  have hb := B.bytes
  have hr := B.returns
  have hts : ∀ w ∈ wx (.code yX12_twins cX12_twins 2 (some .int)), w.before _ s = true := atoms_spec B.pre
  have htg : ∀ w ∈ lwg, w.before _ s = true := fun w h => hts w (List.mem_cons_of_mem _ h)
  have hown : s.vm.findClass RX12 = some m.cls := findClass_of_methodNamed B.named
  have hlocks := B.notSynchronized
  change W p l e (kr 3 64) s m (List.toArray [.ref (bs g 0)]) below meth c s.heap [] 0 0 (MQ below (Qi' g 0 81 r τ) (List.toArray [.ref (bs g 0)]) s 0 0 (Ag g 0)) _
  generalize hQ : MQ below (Qi' g 0 81 r τ) (List.toArray [.ref (bs g 0)]) s 0 0 (Ag g 0) = Q
  have hS : va_S (Ag g 0) s.heap s.heap [] := va_S.rf
  have hl := lv_entry ([.ref (bs g 0)]) (n := 2) (Nat.le_of_ble_eq_true rfl)
  rw [lg_entry_eq]
  generalize (lg_sl ([.ref (bs g 0)]) ++ List.replicate (2 - (lg_sl ([.ref (bs g 0)])).length) Slot.unset).toArray = ls at hl ⊢
  have hl : lv_has ls 2 [(0, .ref (bs g 0))] := hl
  delta f_X12_twins at hf
  obtain ⟨H, hH⟩ : ∃ H, H = s.heap := ⟨_, rfl⟩
  obtain ⟨locs, hLc⟩ : ∃ z : List Loc, z = [] := ⟨_, rfl⟩
  have hS : va_S (Ag g 0) s.heap H locs := by rw [hH, hLc]; exact hS
  have hW : Wd g 0 81 σ H := by rw [hH]; exact hW
  suffices hG : W p l e (kr 3 64) s m (List.toArray [.ref (bs g 0)]) below meth c H locs 0 0 Q (F0 m 0 ls []) by rw [hH, hLc] at hG; exact hG
  clear hH hLc
  refine lv_aload_n hx hb dX12_twins_0 rfl (lv_at hl 0 rfl) ?_
  refine lv_aload_n hx hb dX12_twins_1 rfl (lv_at hl 0 rfl) ?_
  refine mcip hf hS (fun r h => va_runV (As := []) (rest := [.ref (bs g 0)]) ⟨hx, hb, hml, hown, hts⟩ (c_X12_ofTown g l σ r h) (cl_X12_201 hts ⟨Nat.le_of_ble_eq_true rfl, Nat.le_of_ble_eq_true rfl⟩) (mpV_12 hZ hT hS hW tz_0 _) rfl rfl hl.1 rfl (lv_room (Nat.le_of_ble_eq_true rfl)) dX12_twins_2 ⟨Nat.zero_le _, Nat.zero_le _⟩) (fun r_1 H locs hf hW hS => ?_)
  refine mci hf hS (fun r τ h => va_runV (As := [.int r_1]) (rest := []) ⟨hx, hb, hml, hown, hts⟩ (c_X12_refused g l σ r_1 r τ h) (cl_X12_98 hts ⟨Nat.le_of_ble_eq_true rfl, Nat.le_of_ble_eq_true rfl⟩) (mpV_12 hZ hT hS hW tz_0 _) rfl rfl hl.1 rfl (lv_room (Nat.le_of_ble_eq_true rfl)) dX12_twins_5 ⟨Nat.zero_le _, Nat.zero_le _⟩) (fun r_2 σ_3 H locs hf hW hS => ?_)
  refine lv_if_eq (tgt := 13) hx hb dX12_twins_8 (by decide) (fun hc => ?_) (fun hc => ?_)
  · have hf := ift hc hf
    refine lv_iconst (v := 0) hx hb dX12_twins_13 (by decide) ?_
    refine lv_istore_n (lv' := [(1, .int 0), (0, .ref (bs g 0))]) hx hb dX12_twins_14 rfl hl (by decide) rfl (fun ls hl => ?_)
    refine fx1_W (fun (i_4 : Int32) => ∀ (H : Heap) (locs : List Loc) (ls : Array Slot), Wd g 0 81 σ_3 H → va_S (Ag g 0) s.heap H locs → lv_has ls 2 [(0, .ref (bs g 0)), (1, .int i_4)] → W p l e (kr 3 64) s m (List.toArray [.ref (bs g 0)]) below meth c H locs 0 0 Q (F0 m 15 ls [])) (fun k_5 hk_5 i_4 hf => ?_) FU 0 hf H locs ls hW hS (lv_sub hl [1, 0] rfl)
    intro H locs ls hW hS hl
    refine lv_iload_n hx hb dX12_twins_15 rfl (lv_at hl 1 rfl) ?_
    refine lv_bipush (v := 30) hx hb dX12_twins_16 (by decide) ?_
    refine lv_icmp_ge (tgt := 40) hx hb dX12_twins_18 (by decide) (fun hc => ?_) (fun hc => ?_)
    · have hf := ift hc hf
      refine lv_bipush (v := (-2)) hx hb dX12_twins_40 (by decide) ?_
      subst hQ
      exact mri hx hb hr hlocks hZ hT hS hW (pr1 hf) dX12_twins_42
    · have hf := iff_ hc hf
      refine lv_aload_n hx hb dX12_twins_21 rfl (lv_at hl 0 rfl) ?_
      refine gf_12_2 hx hb htg (htg _ lf_X12_40) hown hZ hW tz_0 dX12_twins_22 ?_
      refine lv_iload_n hx hb dX12_twins_25 rfl (lv_at hl 1 rfl) ?_
      refine mcip hf hS (fun r h => va_runV (As := [.int i_4]) (rest := []) ⟨hx, hb, hml, hown, hts⟩ (c_X9_hasTwins g l 0 81 σ_3 28 i_4 tz_28 r h) (cl_X12_204 hts ⟨Nat.le_of_ble_eq_true rfl, Nat.le_of_ble_eq_true rfl⟩) (mpV_9 hZ hT hS hW tz_28 _) rfl rfl hl.1 rfl (lv_room (Nat.le_of_ble_eq_true rfl)) dX12_twins_26 ⟨Nat.zero_le _, Nat.zero_le _⟩) (fun r_6 H locs hf hW hS => ?_)
      refine lv_if_eq (tgt := 34) hx hb dX12_twins_29 (by decide) (fun hc => ?_) (fun hc => ?_)
      · have hf := ift hc hf
        obtain ⟨x_7, e_8, hf⟩ := nm_s hf
        refine lv_iinc (v := x_7) (lv' := [(1, .int x_7), (0, .ref (bs g 0))]) hx hb dX12_twins_34 hl (k := 1) rfl (by rw [e_8]; rfl) (by decide) rfl (fun ls hl => ?_)
        refine lv_goto (tgt := 15) hx hb dX12_twins_37 (by decide) ?_
        exact hk_5 x_7 hf H locs ls hW hS (lv_sub hl [1, 0] rfl)
      · have hf := iff_ hc hf
        refine lv_iload_n hx hb dX12_twins_32 rfl (lv_at hl 1 rfl) ?_
        subst hQ
        exact mri hx hb hr hlocks hZ hT hS hW (pr1 hf) dX12_twins_33
  · have hf := iff_ hc hf
    refine lv_iconst (v := (-1)) hx hb dX12_twins_11 (by decide) ?_
    subst hQ
    exact mri hx hb hr hlocks hZ hT hS hW (pr1 hf) dX12_twins_12
def f_X12_holds (σ : Mem)  : Option (Int32 × Mem) :=
  bd1 (f_X12_ofTown σ) (fun (r_1 : Int32) => bd2 (f_X12_refused σ r_1) (fun (r_2 : Int32) (σ_3 : Mem) => (if r_2 = 0 then bd1 (f_X9_wishesHeld σ_3 28) (fun (r_4 : Int32) => some (r_4, σ_3)) else some ((-1), σ_3))))
set_option maxHeartbeats 4000000 in
set_option maxRecDepth 100000 in
theorem c_X12_holds (g : XG) (l : Launch) (σ : Mem) (r : Int32) (τ : Mem) (hf : f_X12_holds σ = some (r, τ)) : Met l yX12_holds (wx (.code yX12_holds cX12_holds 1 (some .int))) (kr 5 150) (va_Pc [.ref (bs g 0)] (WS g 0 81 σ)) (Qi' g 0 81 r τ) 0 0 (Ag g 0) := by
  refine Met.ofW (cc := cX12_holds) (maxL := 1) (ret := (some .int)) (by decide) rfl ?_
  intro p e s m args below meth c s₁ B hml hv
  obtain ⟨rfl, hZ, hT, hW⟩ := hv
  have hx := B.exec
  have hb := B.bytes
  have hr := B.returns
  have hts : ∀ w ∈ wx (.code yX12_holds cX12_holds 1 (some .int)), w.before _ s = true := atoms_spec B.pre
  have htg : ∀ w ∈ lwg, w.before _ s = true := fun w h => hts w (List.mem_cons_of_mem _ h)
  have hown : s.vm.findClass RX12 = some m.cls := findClass_of_methodNamed B.named
  have hlocks := B.notSynchronized
  change W p l e (kr 5 150) s m (List.toArray [.ref (bs g 0)]) below meth c s.heap [] 0 0 (MQ below (Qi' g 0 81 r τ) (List.toArray [.ref (bs g 0)]) s 0 0 (Ag g 0)) _
  generalize hQ : MQ below (Qi' g 0 81 r τ) (List.toArray [.ref (bs g 0)]) s 0 0 (Ag g 0) = Q
  have hS : va_S (Ag g 0) s.heap s.heap [] := va_S.rf
  have hl := lv_entry ([.ref (bs g 0)]) (n := 1) (Nat.le_of_ble_eq_true rfl)
  rw [lg_entry_eq]
  generalize (lg_sl ([.ref (bs g 0)]) ++ List.replicate (1 - (lg_sl ([.ref (bs g 0)])).length) Slot.unset).toArray = ls at hl ⊢
  have hl : lv_has ls 1 [(0, .ref (bs g 0))] := hl
  delta f_X12_holds at hf
  obtain ⟨H, hH⟩ : ∃ H, H = s.heap := ⟨_, rfl⟩
  obtain ⟨locs, hLc⟩ : ∃ z : List Loc, z = [] := ⟨_, rfl⟩
  have hS : va_S (Ag g 0) s.heap H locs := by rw [hH, hLc]; exact hS
  have hW : Wd g 0 81 σ H := by rw [hH]; exact hW
  suffices hG : W p l e (kr 5 150) s m (List.toArray [.ref (bs g 0)]) below meth c H locs 0 0 Q (F0 m 0 ls []) by rw [hH, hLc] at hG; exact hG
  clear hH hLc
  refine lv_aload_n hx hb dX12_holds_0 rfl (lv_at hl 0 rfl) ?_
  refine lv_aload_n hx hb dX12_holds_1 rfl (lv_at hl 0 rfl) ?_
  refine mcip hf hS (fun r h => va_runV (As := []) (rest := [.ref (bs g 0)]) ⟨hx, hb, hml, hown, hts⟩ (c_X12_ofTown g l σ r h) (cl_X12_201 hts ⟨Nat.le_of_ble_eq_true rfl, Nat.le_of_ble_eq_true rfl⟩) (mpV_12 hZ hT hS hW tz_0 _) rfl rfl hl.1 rfl (lv_room (Nat.le_of_ble_eq_true rfl)) dX12_holds_2 ⟨Nat.zero_le _, Nat.zero_le _⟩) (fun r_1 H locs hf hW hS => ?_)
  refine mci hf hS (fun r τ h => va_runV (As := [.int r_1]) (rest := []) ⟨hx, hb, hml, hown, hts⟩ (c_X12_refused g l σ r_1 r τ h) (cl_X12_98 hts ⟨Nat.le_of_ble_eq_true rfl, Nat.le_of_ble_eq_true rfl⟩) (mpV_12 hZ hT hS hW tz_0 _) rfl rfl hl.1 rfl (lv_room (Nat.le_of_ble_eq_true rfl)) dX12_holds_5 ⟨Nat.zero_le _, Nat.zero_le _⟩) (fun r_2 σ_3 H locs hf hW hS => ?_)
  refine lv_if_eq (tgt := 15) hx hb dX12_holds_8 (by decide) (fun hc => ?_) (fun hc => ?_)
  · have hf := ift hc hf
    refine lv_aload_n hx hb dX12_holds_15 rfl (lv_at hl 0 rfl) ?_
    refine gf_12_2 hx hb htg (htg _ lf_X12_40) hown hZ hW tz_0 dX12_holds_16 ?_
    refine mcip hf hS (fun r h => va_runV (As := []) (rest := []) ⟨hx, hb, hml, hown, hts⟩ (c_X9_wishesHeld g l 0 81 σ_3 28 tz_28 r h) (cl_X12_207 hts ⟨Nat.le_of_ble_eq_true rfl, Nat.le_of_ble_eq_true rfl⟩) (mpV_9 hZ hT hS hW tz_28 _) rfl rfl hl.1 rfl (lv_room (Nat.le_of_ble_eq_true rfl)) dX12_holds_19 ⟨Nat.zero_le _, Nat.zero_le _⟩) (fun r_4 H locs hf hW hS => ?_)
    subst hQ
    exact mri hx hb hr hlocks hZ hT hS hW (pr1 hf) dX12_holds_22
  · have hf := iff_ hc hf
    refine lv_iconst (v := (-1)) hx hb dX12_holds_11 (by decide) ?_
    refine lv_goto (tgt := 22) hx hb dX12_holds_12 (by decide) ?_
    subst hQ
    exact mri hx hb hr hlocks hZ hT hS hW (pr1 hf) dX12_holds_22
def f_X12_fewest (σ : Mem)  : Option (Int32 × Mem) :=
  bd1 (f_X12_ofTown σ) (fun (r_1 : Int32) => bd2 (f_X12_refused σ r_1) (fun (r_2 : Int32) (σ_3 : Mem) => (if r_2 = 0 then bd1 (f_X3_search σ_3 28) (fun (σ_4 : Mem) => some (σ_4.1 51 4, σ_4)) else some ((-1), σ_3))))
set_option maxHeartbeats 4000000 in
set_option maxRecDepth 100000 in
theorem c_X12_fewest (g : XG) (l : Launch) (σ : Mem) (r : Int32) (τ : Mem) (hf : f_X12_fewest σ = some (r, τ)) : Met l yX12_fewest (wx (.code yX12_fewest cX12_fewest 1 (some .int))) (kr 26 670) (va_Pc [.ref (bs g 0)] (WS g 0 81 σ)) (Qi' g 0 81 r τ) 0 0 (Ag g 0) := by
  refine Met.ofW (cc := cX12_fewest) (maxL := 1) (ret := (some .int)) (by decide) rfl ?_
  intro p e s m args below meth c s₁ B hml hv
  obtain ⟨rfl, hZ, hT, hW⟩ := hv
  have hx := B.exec
  have hb := B.bytes
  have hr := B.returns
  have hts : ∀ w ∈ wx (.code yX12_fewest cX12_fewest 1 (some .int)), w.before _ s = true := atoms_spec B.pre
  have htg : ∀ w ∈ lwg, w.before _ s = true := fun w h => hts w (List.mem_cons_of_mem _ h)
  have hown : s.vm.findClass RX12 = some m.cls := findClass_of_methodNamed B.named
  have hlocks := B.notSynchronized
  change W p l e (kr 26 670) s m (List.toArray [.ref (bs g 0)]) below meth c s.heap [] 0 0 (MQ below (Qi' g 0 81 r τ) (List.toArray [.ref (bs g 0)]) s 0 0 (Ag g 0)) _
  generalize hQ : MQ below (Qi' g 0 81 r τ) (List.toArray [.ref (bs g 0)]) s 0 0 (Ag g 0) = Q
  have hS : va_S (Ag g 0) s.heap s.heap [] := va_S.rf
  have hl := lv_entry ([.ref (bs g 0)]) (n := 1) (Nat.le_of_ble_eq_true rfl)
  rw [lg_entry_eq]
  generalize (lg_sl ([.ref (bs g 0)]) ++ List.replicate (1 - (lg_sl ([.ref (bs g 0)])).length) Slot.unset).toArray = ls at hl ⊢
  have hl : lv_has ls 1 [(0, .ref (bs g 0))] := hl
  delta f_X12_fewest at hf
  obtain ⟨H, hH⟩ : ∃ H, H = s.heap := ⟨_, rfl⟩
  obtain ⟨locs, hLc⟩ : ∃ z : List Loc, z = [] := ⟨_, rfl⟩
  have hS : va_S (Ag g 0) s.heap H locs := by rw [hH, hLc]; exact hS
  have hW : Wd g 0 81 σ H := by rw [hH]; exact hW
  suffices hG : W p l e (kr 26 670) s m (List.toArray [.ref (bs g 0)]) below meth c H locs 0 0 Q (F0 m 0 ls []) by rw [hH, hLc] at hG; exact hG
  clear hH hLc
  refine lv_aload_n hx hb dX12_fewest_0 rfl (lv_at hl 0 rfl) ?_
  refine lv_aload_n hx hb dX12_fewest_1 rfl (lv_at hl 0 rfl) ?_
  refine mcip hf hS (fun r h => va_runV (As := []) (rest := [.ref (bs g 0)]) ⟨hx, hb, hml, hown, hts⟩ (c_X12_ofTown g l σ r h) (cl_X12_201 hts ⟨Nat.le_of_ble_eq_true rfl, Nat.le_of_ble_eq_true rfl⟩) (mpV_12 hZ hT hS hW tz_0 _) rfl rfl hl.1 rfl (lv_room (Nat.le_of_ble_eq_true rfl)) dX12_fewest_2 ⟨Nat.zero_le _, Nat.zero_le _⟩) (fun r_1 H locs hf hW hS => ?_)
  refine mci hf hS (fun r τ h => va_runV (As := [.int r_1]) (rest := []) ⟨hx, hb, hml, hown, hts⟩ (c_X12_refused g l σ r_1 r τ h) (cl_X12_98 hts ⟨Nat.le_of_ble_eq_true rfl, Nat.le_of_ble_eq_true rfl⟩) (mpV_12 hZ hT hS hW tz_0 _) rfl rfl hl.1 rfl (lv_room (Nat.le_of_ble_eq_true rfl)) dX12_fewest_5 ⟨Nat.zero_le _, Nat.zero_le _⟩) (fun r_2 σ_3 H locs hf hW hS => ?_)
  refine lv_if_eq (tgt := 13) hx hb dX12_fewest_8 (by decide) (fun hc => ?_) (fun hc => ?_)
  · have hf := ift hc hf
    refine lv_aload_n hx hb dX12_fewest_13 rfl (lv_at hl 0 rfl) ?_
    refine gf_12_6 hx hb htg (htg _ lf_X12_61) hown hZ hW tz_0 dX12_fewest_14 ?_
    refine lv_aload_n hx hb dX12_fewest_17 rfl (lv_at hl 0 rfl) ?_
    refine gf_12_2 hx hb htg (htg _ lf_X12_40) hown hZ hW tz_0 dX12_fewest_18 ?_
    refine mcv hf hS (fun τ h => va_runV (As := [.ref (bs g 28)]) (rest := []) ⟨hx, hb, hml, hown, hts⟩ (c_X3_search g l σ_3 28 tz_28 τ h) (cl_X12_210 hts ⟨Nat.le_of_ble_eq_true rfl, Nat.le_of_ble_eq_true rfl⟩) (mpV_3 hZ hT hS hW tz_51 _) rfl rfl hl.1 rfl (lv_room (Nat.le_of_ble_eq_true rfl)) dX12_fewest_21 ⟨Nat.zero_le _, Nat.zero_le _⟩) (fun σ_4 H locs hf hW hS => ?_)
    refine lv_aload_n hx hb dX12_fewest_24 rfl (lv_at hl 0 rfl) ?_
    refine gf_12_6 hx hb htg (htg _ lf_X12_61) hown hZ hW tz_0 dX12_fewest_25 ?_
    refine gfN_3_4 hx hb htg ln_X12_214 hown hZ hW tz_51 dX12_fewest_28 ?_
    subst hQ
    exact mri hx hb hr hlocks hZ hT hS hW (pr1 hf) dX12_fewest_31
  · have hf := iff_ hc hf
    refine lv_iconst (v := (-1)) hx hb dX12_fewest_11 (by decide) ?_
    subst hQ
    exact mri hx hb hr hlocks hZ hT hS hW (pr1 hf) dX12_fewest_12
def f_X12_fewestAt (σ : Mem) (a1 : Int32) : Option (Int32 × Mem) :=
  bd1 (f_X12_ofTown σ) (fun (r_1 : Int32) => bd2 (f_X12_refused σ r_1) (fun (r_2 : Int32) (σ_3 : Mem) => (if r_2 = 0 then bd1 (f_X3_search σ_3 28) (fun (σ_4 : Mem) => jn1 (fun (i_5 : Int32) => bd2 (f_X12_refused σ_4 i_5) (fun (r_7 : Int32) (σ_8 : Mem) => (if r_7 = 0 then bd1 (f_X12_get σ_8 (51 + 3) a1) (fun (r_9 : Int32) => some (r_9, σ_8)) else some ((-1), σ_8)))) (fun k_6 => (if 0 ≤ (σ_4.1 51 4) then bd1 (f_X12_inside a1 (σ_4.1 51 4)) (fun (r_10 : Int32) => (if r_10 = 0 then k_6 1 else k_6 0)) else k_6 6))) else some ((-1), σ_3))))
set_option maxHeartbeats 4000000 in
set_option maxRecDepth 100000 in
theorem c_X12_fewestAt (g : XG) (l : Launch) (σ : Mem) (a1 : Int32) (r : Int32) (τ : Mem) (hf : f_X12_fewestAt σ a1 = some (r, τ)) : Met l yX12_fewestAt (wx (.code yX12_fewestAt cX12_fewestAt 2 (some .int))) (kr 26 670) (va_Pc [.ref (bs g 0), .int a1] (WS g 0 81 σ)) (Qi' g 0 81 r τ) 0 0 (Ag g 0) := by
  refine Met.ofW (cc := cX12_fewestAt) (maxL := 2) (ret := (some .int)) (by decide) rfl ?_
  intro p e s m args below meth c s₁ B hml hv
  obtain ⟨rfl, hZ, hT, hW⟩ := hv
  have hx := B.exec
  have hb := B.bytes
  have hr := B.returns
  have hts : ∀ w ∈ wx (.code yX12_fewestAt cX12_fewestAt 2 (some .int)), w.before _ s = true := atoms_spec B.pre
  have htg : ∀ w ∈ lwg, w.before _ s = true := fun w h => hts w (List.mem_cons_of_mem _ h)
  have hown : s.vm.findClass RX12 = some m.cls := findClass_of_methodNamed B.named
  have hlocks := B.notSynchronized
  change W p l e (kr 26 670) s m (List.toArray [.ref (bs g 0), .int a1]) below meth c s.heap [] 0 0 (MQ below (Qi' g 0 81 r τ) (List.toArray [.ref (bs g 0), .int a1]) s 0 0 (Ag g 0)) _
  generalize hQ : MQ below (Qi' g 0 81 r τ) (List.toArray [.ref (bs g 0), .int a1]) s 0 0 (Ag g 0) = Q
  have hS : va_S (Ag g 0) s.heap s.heap [] := va_S.rf
  have hl := lv_entry ([.ref (bs g 0), .int a1]) (n := 2) (Nat.le_of_ble_eq_true rfl)
  rw [lg_entry_eq]
  generalize (lg_sl ([.ref (bs g 0), .int a1]) ++ List.replicate (2 - (lg_sl ([.ref (bs g 0), .int a1])).length) Slot.unset).toArray = ls at hl ⊢
  have hl : lv_has ls 2 [(0, .ref (bs g 0)), (1, .int a1)] := hl
  delta f_X12_fewestAt at hf
  obtain ⟨H, hH⟩ : ∃ H, H = s.heap := ⟨_, rfl⟩
  obtain ⟨locs, hLc⟩ : ∃ z : List Loc, z = [] := ⟨_, rfl⟩
  have hS : va_S (Ag g 0) s.heap H locs := by rw [hH, hLc]; exact hS
  have hW : Wd g 0 81 σ H := by rw [hH]; exact hW
  suffices hG : W p l e (kr 26 670) s m (List.toArray [.ref (bs g 0), .int a1]) below meth c H locs 0 0 Q (F0 m 0 ls []) by rw [hH, hLc] at hG; exact hG
  clear hH hLc
  refine lv_aload_n hx hb dX12_fewestAt_0 rfl (lv_at hl 0 rfl) ?_
  refine lv_aload_n hx hb dX12_fewestAt_1 rfl (lv_at hl 0 rfl) ?_
  refine mcip hf hS (fun r h => va_runV (As := []) (rest := [.ref (bs g 0)]) ⟨hx, hb, hml, hown, hts⟩ (c_X12_ofTown g l σ r h) (cl_X12_201 hts ⟨Nat.le_of_ble_eq_true rfl, Nat.le_of_ble_eq_true rfl⟩) (mpV_12 hZ hT hS hW tz_0 _) rfl rfl hl.1 rfl (lv_room (Nat.le_of_ble_eq_true rfl)) dX12_fewestAt_2 ⟨Nat.zero_le _, Nat.zero_le _⟩) (fun r_1 H locs hf hW hS => ?_)
  refine mci hf hS (fun r τ h => va_runV (As := [.int r_1]) (rest := []) ⟨hx, hb, hml, hown, hts⟩ (c_X12_refused g l σ r_1 r τ h) (cl_X12_98 hts ⟨Nat.le_of_ble_eq_true rfl, Nat.le_of_ble_eq_true rfl⟩) (mpV_12 hZ hT hS hW tz_0 _) rfl rfl hl.1 rfl (lv_room (Nat.le_of_ble_eq_true rfl)) dX12_fewestAt_5 ⟨Nat.zero_le _, Nat.zero_le _⟩) (fun r_2 σ_3 H locs hf hW hS => ?_)
  refine lv_if_eq (tgt := 13) hx hb dX12_fewestAt_8 (by decide) (fun hc => ?_) (fun hc => ?_)
  · have hf := ift hc hf
    refine lv_aload_n hx hb dX12_fewestAt_13 rfl (lv_at hl 0 rfl) ?_
    refine gf_12_6 hx hb htg (htg _ lf_X12_61) hown hZ hW tz_0 dX12_fewestAt_14 ?_
    refine lv_aload_n hx hb dX12_fewestAt_17 rfl (lv_at hl 0 rfl) ?_
    refine gf_12_2 hx hb htg (htg _ lf_X12_40) hown hZ hW tz_0 dX12_fewestAt_18 ?_
    refine mcv hf hS (fun τ h => va_runV (As := [.ref (bs g 28)]) (rest := []) ⟨hx, hb, hml, hown, hts⟩ (c_X3_search g l σ_3 28 tz_28 τ h) (cl_X12_210 hts ⟨Nat.le_of_ble_eq_true rfl, Nat.le_of_ble_eq_true rfl⟩) (mpV_3 hZ hT hS hW tz_51 _) rfl rfl hl.1 rfl (lv_room (Nat.le_of_ble_eq_true rfl)) dX12_fewestAt_21 ⟨Nat.zero_le _, Nat.zero_le _⟩) (fun σ_4 H locs hf hW hS => ?_)
    refine lv_aload_n hx hb dX12_fewestAt_24 rfl (lv_at hl 0 rfl) ?_
    refine lv_aload_n hx hb dX12_fewestAt_25 rfl (lv_at hl 0 rfl) ?_
    refine gf_12_6 hx hb htg (htg _ lf_X12_61) hown hZ hW tz_0 dX12_fewestAt_26 ?_
    refine gfN_3_4 hx hb htg ln_X12_214 hown hZ hW tz_51 dX12_fewestAt_29 ?_
    refine jn1_W (fun (i_5 : Int32) => ∀ (H : Heap) (locs : List Loc) (ls : Array Slot), Wd g 0 81 σ_4 H → va_S (Ag g 0) s.heap H locs → lv_has ls 2 [(0, .ref (bs g 0)), (1, .int a1)] → W p l e (kr 26 670) s m (List.toArray [.ref (bs g 0), .int a1]) below meth c H locs 0 0 Q (F0 m 59 ls [.int i_5, .ref (bs g 0)])) hf (fun i_5 hf => ?_) (fun k_6 hk_6 hf => ?_)
    · intro H locs ls hW hS hl
      refine mci hf hS (fun r τ h => va_runV (As := [.int i_5]) (rest := []) ⟨hx, hb, hml, hown, hts⟩ (c_X12_refused g l σ_4 i_5 r τ h) (cl_X12_98 hts ⟨Nat.le_of_ble_eq_true rfl, Nat.le_of_ble_eq_true rfl⟩) (mpV_12 hZ hT hS hW tz_0 _) rfl rfl hl.1 rfl (lv_room (Nat.le_of_ble_eq_true rfl)) dX12_fewestAt_59 ⟨Nat.zero_le _, Nat.zero_le _⟩) (fun r_7 σ_8 H locs hf hW hS => ?_)
      refine lv_if_eq (tgt := 67) hx hb dX12_fewestAt_62 (by decide) (fun hc => ?_) (fun hc => ?_)
      · have hf := ift hc hf
        refine lv_aload_n hx hb dX12_fewestAt_67 rfl (lv_at hl 0 rfl) ?_
        refine gf_12_6 hx hb htg (htg _ lf_X12_61) hown hZ hW tz_0 dX12_fewestAt_68 ?_
        refine gfN_3_2 hx hb htg ln_X12_218 hown hZ hW tz_51 dX12_fewestAt_71 ?_
        refine lv_iload_n hx hb dX12_fewestAt_74 rfl (lv_at hl 1 rfl) ?_
        refine mcip hf hS (fun r h => va_runS (As := [.ref (bs g (51 + 3)), .int a1]) (rest := []) ⟨hx, hb, hml, hown, hts⟩ (c_X12_get g l 0 81 σ_8 (51 + 3) a1 (tz_51.sub 20 3 so_3_20_3) r h) (cl_X12_165 hts ⟨Nat.le_of_ble_eq_true rfl, Nat.le_of_ble_eq_true rfl⟩) (mpS hZ hT hS hW _) rfl rfl hl.1 rfl (lv_room (Nat.le_of_ble_eq_true rfl)) dX12_fewestAt_75 ⟨Nat.zero_le _, Nat.zero_le _⟩) (fun r_9 H locs hf hW hS => ?_)
        subst hQ
        exact mri hx hb hr hlocks hZ hT hS hW (pr1 hf) dX12_fewestAt_78
      · have hf := iff_ hc hf
        refine lv_iconst (v := (-1)) hx hb dX12_fewestAt_65 (by decide) ?_
        subst hQ
        exact mri hx hb hr hlocks hZ hT hS hW (pr1 hf) dX12_fewestAt_66
    · refine lv_if_ge (tgt := 40) hx hb dX12_fewestAt_32 (by decide) (fun hc => ?_) (fun hc => ?_)
      · have hf := ift hc hf
        refine lv_iload_n hx hb dX12_fewestAt_40 rfl (lv_at hl 1 rfl) ?_
        refine lv_aload_n hx hb dX12_fewestAt_41 rfl (lv_at hl 0 rfl) ?_
        refine gf_12_6 hx hb htg (htg _ lf_X12_61) hown hZ hW tz_0 dX12_fewestAt_42 ?_
        refine gfN_3_4 hx hb htg ln_X12_214 hown hZ hW tz_51 dX12_fewestAt_45 ?_
        refine mcip hf hS (fun r h => va_runS (As := [.int a1, .int (σ_4.1 51 4)]) (rest := [.ref (bs g 0)]) ⟨hx, hb, hml, hown, hts⟩ (c_X12_inside g l 0 81 σ_4 a1 (σ_4.1 51 4) r h) (cl_X12_215 hts ⟨Nat.le_of_ble_eq_true rfl, Nat.le_of_ble_eq_true rfl⟩) (mpS hZ hT hS hW _) rfl rfl hl.1 rfl (lv_room (Nat.le_of_ble_eq_true rfl)) dX12_fewestAt_48 ⟨Nat.zero_le _, Nat.zero_le _⟩) (fun r_10 H locs hf hW hS => ?_)
        refine lv_if_eq (tgt := 58) hx hb dX12_fewestAt_51 (by decide) (fun hc => ?_) (fun hc => ?_)
        · have hf := ift hc hf
          refine lv_iconst (v := 1) hx hb dX12_fewestAt_58 (by decide) ?_
          exact hk_6 1 hf H locs ls hW hS (lv_sub hl [0, 1] rfl)
        · have hf := iff_ hc hf
          refine lv_iconst (v := 0) hx hb dX12_fewestAt_54 (by decide) ?_
          refine lv_goto (tgt := 59) hx hb dX12_fewestAt_55 (by decide) ?_
          exact hk_6 0 hf H locs ls hW hS (lv_sub hl [0, 1] rfl)
      · have hf := iff_ hc hf
        refine lv_bipush (v := 6) hx hb dX12_fewestAt_35 (by decide) ?_
        refine lv_goto (tgt := 59) hx hb dX12_fewestAt_37 (by decide) ?_
        exact hk_6 6 hf H locs ls hW hS (lv_sub hl [0, 1] rfl)
  · have hf := iff_ hc hf
    refine lv_iconst (v := (-1)) hx hb dX12_fewestAt_11 (by decide) ?_
    subst hQ
    exact mri hx hb hr hlocks hZ hT hS hW (pr1 hf) dX12_fewestAt_12
def f_X12_ring (σ : Mem) (a1 : Int32) : Option (Int32 × Mem) :=
  bd1 (f_X12_ofPerson σ a1) (fun (r_1 : Int32) => bd2 (f_X12_refused σ r_1) (fun (r_2 : Int32) (σ_3 : Mem) => (if r_2 = 0 then bd1 (f_X8_trade σ_3 28) (fun (σ_4 : Mem) => bd1 (f_X12_get σ_4 (55 + 2) a1) (fun (r_5 : Int32) => some (r_5, σ_4))) else some ((-1), σ_3))))
set_option maxHeartbeats 4000000 in
set_option maxRecDepth 100000 in
theorem c_X12_ring (g : XG) (l : Launch) (σ : Mem) (a1 : Int32) (r : Int32) (τ : Mem) (hf : f_X12_ring σ a1 = some (r, τ)) : Met l yX12_ring (wx (.code yX12_ring cX12_ring 2 (some .int))) (kr 5 152) (va_Pc [.ref (bs g 0), .int a1] (WS g 0 81 σ)) (Qi' g 0 81 r τ) 0 0 (Ag g 0) := by
  refine Met.ofW (cc := cX12_ring) (maxL := 2) (ret := (some .int)) (by decide) rfl ?_
  intro p e s m args below meth c s₁ B hml hv
  obtain ⟨rfl, hZ, hT, hW⟩ := hv
  have hx := B.exec
  have hb := B.bytes
  have hr := B.returns
  have hts : ∀ w ∈ wx (.code yX12_ring cX12_ring 2 (some .int)), w.before _ s = true := atoms_spec B.pre
  have htg : ∀ w ∈ lwg, w.before _ s = true := fun w h => hts w (List.mem_cons_of_mem _ h)
  have hown : s.vm.findClass RX12 = some m.cls := findClass_of_methodNamed B.named
  have hlocks := B.notSynchronized
  change W p l e (kr 5 152) s m (List.toArray [.ref (bs g 0), .int a1]) below meth c s.heap [] 0 0 (MQ below (Qi' g 0 81 r τ) (List.toArray [.ref (bs g 0), .int a1]) s 0 0 (Ag g 0)) _
  generalize hQ : MQ below (Qi' g 0 81 r τ) (List.toArray [.ref (bs g 0), .int a1]) s 0 0 (Ag g 0) = Q
  have hS : va_S (Ag g 0) s.heap s.heap [] := va_S.rf
  have hl := lv_entry ([.ref (bs g 0), .int a1]) (n := 2) (Nat.le_of_ble_eq_true rfl)
  rw [lg_entry_eq]
  generalize (lg_sl ([.ref (bs g 0), .int a1]) ++ List.replicate (2 - (lg_sl ([.ref (bs g 0), .int a1])).length) Slot.unset).toArray = ls at hl ⊢
  have hl : lv_has ls 2 [(0, .ref (bs g 0)), (1, .int a1)] := hl
  delta f_X12_ring at hf
  obtain ⟨H, hH⟩ : ∃ H, H = s.heap := ⟨_, rfl⟩
  obtain ⟨locs, hLc⟩ : ∃ z : List Loc, z = [] := ⟨_, rfl⟩
  have hS : va_S (Ag g 0) s.heap H locs := by rw [hH, hLc]; exact hS
  have hW : Wd g 0 81 σ H := by rw [hH]; exact hW
  suffices hG : W p l e (kr 5 152) s m (List.toArray [.ref (bs g 0), .int a1]) below meth c H locs 0 0 Q (F0 m 0 ls []) by rw [hH, hLc] at hG; exact hG
  clear hH hLc
  refine lv_aload_n hx hb dX12_ring_0 rfl (lv_at hl 0 rfl) ?_
  refine lv_aload_n hx hb dX12_ring_1 rfl (lv_at hl 0 rfl) ?_
  refine lv_iload_n hx hb dX12_ring_2 rfl (lv_at hl 1 rfl) ?_
  refine mcip hf hS (fun r h => va_runV (As := [.int a1]) (rest := [.ref (bs g 0)]) ⟨hx, hb, hml, hown, hts⟩ (c_X12_ofPerson g l σ a1 r h) (cl_X12_157 hts ⟨Nat.le_of_ble_eq_true rfl, Nat.le_of_ble_eq_true rfl⟩) (mpV_12 hZ hT hS hW tz_0 _) rfl rfl hl.1 rfl (lv_room (Nat.le_of_ble_eq_true rfl)) dX12_ring_3 ⟨Nat.zero_le _, Nat.zero_le _⟩) (fun r_1 H locs hf hW hS => ?_)
  refine mci hf hS (fun r τ h => va_runV (As := [.int r_1]) (rest := []) ⟨hx, hb, hml, hown, hts⟩ (c_X12_refused g l σ r_1 r τ h) (cl_X12_98 hts ⟨Nat.le_of_ble_eq_true rfl, Nat.le_of_ble_eq_true rfl⟩) (mpV_12 hZ hT hS hW tz_0 _) rfl rfl hl.1 rfl (lv_room (Nat.le_of_ble_eq_true rfl)) dX12_ring_6 ⟨Nat.zero_le _, Nat.zero_le _⟩) (fun r_2 σ_3 H locs hf hW hS => ?_)
  refine lv_if_eq (tgt := 14) hx hb dX12_ring_9 (by decide) (fun hc => ?_) (fun hc => ?_)
  · have hf := ift hc hf
    refine lv_aload_n hx hb dX12_ring_14 rfl (lv_at hl 0 rfl) ?_
    refine gf_12_7 hx hb htg (htg _ lf_X12_68) hown hZ hW tz_0 dX12_ring_15 ?_
    refine lv_aload_n hx hb dX12_ring_18 rfl (lv_at hl 0 rfl) ?_
    refine gf_12_2 hx hb htg (htg _ lf_X12_40) hown hZ hW tz_0 dX12_ring_19 ?_
    refine mcv hf hS (fun τ h => va_runV (As := [.ref (bs g 28)]) (rest := []) ⟨hx, hb, hml, hown, hts⟩ (c_X8_trade g l σ_3 28 tz_28 τ h) (cl_X12_221 hts ⟨Nat.le_of_ble_eq_true rfl, Nat.le_of_ble_eq_true rfl⟩) (mpV_8 hZ hT hS hW tz_55 _) rfl rfl hl.1 rfl (lv_room (Nat.le_of_ble_eq_true rfl)) dX12_ring_22 ⟨Nat.zero_le _, Nat.zero_le _⟩) (fun σ_4 H locs hf hW hS => ?_)
    refine lv_aload_n hx hb dX12_ring_25 rfl (lv_at hl 0 rfl) ?_
    refine gf_12_7 hx hb htg (htg _ lf_X12_68) hown hZ hW tz_0 dX12_ring_26 ?_
    refine gfN_8_1 hx hb htg ln_X12_224 hown hZ hW tz_55 dX12_ring_29 ?_
    refine lv_iload_n hx hb dX12_ring_32 rfl (lv_at hl 1 rfl) ?_
    refine mcip hf hS (fun r h => va_runS (As := [.ref (bs g (55 + 2)), .int a1]) (rest := []) ⟨hx, hb, hml, hown, hts⟩ (c_X12_get g l 0 81 σ_4 (55 + 2) a1 (tz_55.sub 20 2 so_8_20_2) r h) (cl_X12_165 hts ⟨Nat.le_of_ble_eq_true rfl, Nat.le_of_ble_eq_true rfl⟩) (mpS hZ hT hS hW _) rfl rfl hl.1 rfl (lv_room (Nat.le_of_ble_eq_true rfl)) dX12_ring_33 ⟨Nat.zero_le _, Nat.zero_le _⟩) (fun r_5 H locs hf hW hS => ?_)
    subst hQ
    exact mri hx hb hr hlocks hZ hT hS hW (pr1 hf) dX12_ring_36
  · have hf := iff_ hc hf
    refine lv_iconst (v := (-1)) hx hb dX12_ring_12 (by decide) ?_
    subst hQ
    exact mri hx hb hr hlocks hZ hT hS hW (pr1 hf) dX12_ring_13
def f_X12_changed (σ : Mem)  : Option (Int32 × Mem) :=
  bd1 (f_X12_ofTown σ) (fun (r_1 : Int32) => bd2 (f_X12_refused σ r_1) (fun (r_2 : Int32) (σ_3 : Mem) => (if r_2 = 0 then bd1 (f_X8_trade σ_3 28) (fun (σ_4 : Mem) => fx2 FU (fun k_7 (i_5 : Int32) (i_6 : Int32) => rfc (σ_4.2.2 0 10) (fun (T_8 : Nat) => bd1 (f_X11_people σ_4 T_8) (fun (r_9 : Int32) => (if r_9 ≤ i_6 then some (i_5, σ_4) else bd1 (f_X12_get σ_4 (55 + 2) i_6) (fun (r_10 : Int32) => bd1 (f_X12_get σ_4 (55 + 1) i_6) (fun (r_11 : Int32) => jn1 (fun (i_12 : Int32) => nm (i_5 + i_12) (fun (x_14 : Int32) => nm (i_6 + 1) (fun (x_15 : Int32) => k_7 x_14 x_15))) (fun k_13 => (if r_10 = r_11 then k_13 0 else k_13 1)))))))) 0 0) else some ((-1), σ_3))))
set_option maxHeartbeats 4000000 in
set_option maxRecDepth 100000 in
theorem c_X12_changed (g : XG) (l : Launch) (σ : Mem) (r : Int32) (τ : Mem) (hf : f_X12_changed σ = some (r, τ)) : Met l yX12_changed (wx (.code yX12_changed cX12_changed 3 (some .int))) (kr 5 152) (va_Pc [.ref (bs g 0)] (WS g 0 81 σ)) (Qi' g 0 81 r τ) 0 0 (Ag g 0) := by
  refine Met.ofW (cc := cX12_changed) (maxL := 3) (ret := (some .int)) (by decide) rfl ?_
  intro p e s m args below meth c s₁ B hml hv
  obtain ⟨rfl, hZ, hT, hW⟩ := hv
  have hx := B.exec
  have hb := B.bytes
  have hr := B.returns
  have hts : ∀ w ∈ wx (.code yX12_changed cX12_changed 3 (some .int)), w.before _ s = true := atoms_spec B.pre
  have htg : ∀ w ∈ lwg, w.before _ s = true := fun w h => hts w (List.mem_cons_of_mem _ h)
  have hown : s.vm.findClass RX12 = some m.cls := findClass_of_methodNamed B.named
  have hlocks := B.notSynchronized
  change W p l e (kr 5 152) s m (List.toArray [.ref (bs g 0)]) below meth c s.heap [] 0 0 (MQ below (Qi' g 0 81 r τ) (List.toArray [.ref (bs g 0)]) s 0 0 (Ag g 0)) _
  generalize hQ : MQ below (Qi' g 0 81 r τ) (List.toArray [.ref (bs g 0)]) s 0 0 (Ag g 0) = Q
  have hS : va_S (Ag g 0) s.heap s.heap [] := va_S.rf
  have hl := lv_entry ([.ref (bs g 0)]) (n := 3) (Nat.le_of_ble_eq_true rfl)
  rw [lg_entry_eq]
  generalize (lg_sl ([.ref (bs g 0)]) ++ List.replicate (3 - (lg_sl ([.ref (bs g 0)])).length) Slot.unset).toArray = ls at hl ⊢
  have hl : lv_has ls 3 [(0, .ref (bs g 0))] := hl
  delta f_X12_changed at hf
  obtain ⟨H, hH⟩ : ∃ H, H = s.heap := ⟨_, rfl⟩
  obtain ⟨locs, hLc⟩ : ∃ z : List Loc, z = [] := ⟨_, rfl⟩
  have hS : va_S (Ag g 0) s.heap H locs := by rw [hH, hLc]; exact hS
  have hW : Wd g 0 81 σ H := by rw [hH]; exact hW
  suffices hG : W p l e (kr 5 152) s m (List.toArray [.ref (bs g 0)]) below meth c H locs 0 0 Q (F0 m 0 ls []) by rw [hH, hLc] at hG; exact hG
  clear hH hLc
  refine lv_aload_n hx hb dX12_changed_0 rfl (lv_at hl 0 rfl) ?_
  refine lv_aload_n hx hb dX12_changed_1 rfl (lv_at hl 0 rfl) ?_
  refine mcip hf hS (fun r h => va_runV (As := []) (rest := [.ref (bs g 0)]) ⟨hx, hb, hml, hown, hts⟩ (c_X12_ofTown g l σ r h) (cl_X12_201 hts ⟨Nat.le_of_ble_eq_true rfl, Nat.le_of_ble_eq_true rfl⟩) (mpV_12 hZ hT hS hW tz_0 _) rfl rfl hl.1 rfl (lv_room (Nat.le_of_ble_eq_true rfl)) dX12_changed_2 ⟨Nat.zero_le _, Nat.zero_le _⟩) (fun r_1 H locs hf hW hS => ?_)
  refine mci hf hS (fun r τ h => va_runV (As := [.int r_1]) (rest := []) ⟨hx, hb, hml, hown, hts⟩ (c_X12_refused g l σ r_1 r τ h) (cl_X12_98 hts ⟨Nat.le_of_ble_eq_true rfl, Nat.le_of_ble_eq_true rfl⟩) (mpV_12 hZ hT hS hW tz_0 _) rfl rfl hl.1 rfl (lv_room (Nat.le_of_ble_eq_true rfl)) dX12_changed_5 ⟨Nat.zero_le _, Nat.zero_le _⟩) (fun r_2 σ_3 H locs hf hW hS => ?_)
  refine lv_if_eq (tgt := 13) hx hb dX12_changed_8 (by decide) (fun hc => ?_) (fun hc => ?_)
  · have hf := ift hc hf
    refine lv_aload_n hx hb dX12_changed_13 rfl (lv_at hl 0 rfl) ?_
    refine gf_12_7 hx hb htg (htg _ lf_X12_68) hown hZ hW tz_0 dX12_changed_14 ?_
    refine lv_aload_n hx hb dX12_changed_17 rfl (lv_at hl 0 rfl) ?_
    refine gf_12_2 hx hb htg (htg _ lf_X12_40) hown hZ hW tz_0 dX12_changed_18 ?_
    refine mcv hf hS (fun τ h => va_runV (As := [.ref (bs g 28)]) (rest := []) ⟨hx, hb, hml, hown, hts⟩ (c_X8_trade g l σ_3 28 tz_28 τ h) (cl_X12_221 hts ⟨Nat.le_of_ble_eq_true rfl, Nat.le_of_ble_eq_true rfl⟩) (mpV_8 hZ hT hS hW tz_55 _) rfl rfl hl.1 rfl (lv_room (Nat.le_of_ble_eq_true rfl)) dX12_changed_21 ⟨Nat.zero_le _, Nat.zero_le _⟩) (fun σ_4 H locs hf hW hS => ?_)
    refine lv_iconst (v := 0) hx hb dX12_changed_24 (by decide) ?_
    refine lv_istore_n (lv' := [(1, .int 0), (0, .ref (bs g 0))]) hx hb dX12_changed_25 rfl hl (by decide) rfl (fun ls hl => ?_)
    refine lv_iconst (v := 0) hx hb dX12_changed_26 (by decide) ?_
    refine lv_istore_n (lv' := [(2, .int 0), (1, .int 0), (0, .ref (bs g 0))]) hx hb dX12_changed_27 rfl hl (by decide) rfl (fun ls hl => ?_)
    refine fx2_W (fun (i_5 : Int32) (i_6 : Int32) => ∀ (H : Heap) (locs : List Loc) (ls : Array Slot), Wd g 0 81 σ_4 H → va_S (Ag g 0) s.heap H locs → lv_has ls 3 [(0, .ref (bs g 0)), (1, .int i_5), (2, .int i_6)] → W p l e (kr 5 152) s m (List.toArray [.ref (bs g 0)]) below meth c H locs 0 0 Q (F0 m 28 ls [])) (fun k_7 hk_7 i_5 i_6 hf => ?_) FU 0 0 hf H locs ls hW hS (lv_sub hl [2, 1, 0] rfl)
    intro H locs ls hW hS hl
    refine lv_iload_n hx hb dX12_changed_28 rfl (lv_at hl 2 rfl) ?_
    refine lv_aload_n hx hb dX12_changed_29 rfl (lv_at hl 0 rfl) ?_
    refine gf_12_10 hx hb htg (htg _ lf_X12_19) hown hZ hW tz_0 dX12_changed_30 hf (fun T_8 tT_8 hf => ?_)
    refine mcip hf hS (fun r h => va_runV (As := []) (rest := [.int i_6]) ⟨hx, hb, hml, hown, hts⟩ (c_X11_people g l 0 81 σ_4 T_8 tT_8 r h) (cl_X12_127 hts ⟨Nat.le_of_ble_eq_true rfl, Nat.le_of_ble_eq_true rfl⟩) (mpV_11 hZ hT hS hW tT_8 _) rfl rfl hl.1 rfl (lv_room (Nat.le_of_ble_eq_true rfl)) dX12_changed_33 ⟨Nat.zero_le _, Nat.zero_le _⟩) (fun r_9 H locs hf hW hS => ?_)
    refine lv_icmp_ge (tgt := 78) hx hb dX12_changed_36 (by decide) (fun hc => ?_) (fun hc => ?_)
    · have hf := ift hc hf
      refine lv_iload_n hx hb dX12_changed_78 rfl (lv_at hl 1 rfl) ?_
      subst hQ
      exact mri hx hb hr hlocks hZ hT hS hW (pr1 hf) dX12_changed_79
    · have hf := iff_ hc hf
      refine lv_iload_n hx hb dX12_changed_39 rfl (lv_at hl 1 rfl) ?_
      refine lv_aload_n hx hb dX12_changed_40 rfl (lv_at hl 0 rfl) ?_
      refine gf_12_7 hx hb htg (htg _ lf_X12_68) hown hZ hW tz_0 dX12_changed_41 ?_
      refine gfN_8_1 hx hb htg ln_X12_224 hown hZ hW tz_55 dX12_changed_44 ?_
      refine lv_iload_n hx hb dX12_changed_47 rfl (lv_at hl 2 rfl) ?_
      refine mcip hf hS (fun r h => va_runS (As := [.ref (bs g (55 + 2)), .int i_6]) (rest := [.int i_5]) ⟨hx, hb, hml, hown, hts⟩ (c_X12_get g l 0 81 σ_4 (55 + 2) i_6 (tz_55.sub 20 2 so_8_20_2) r h) (cl_X12_165 hts ⟨Nat.le_of_ble_eq_true rfl, Nat.le_of_ble_eq_true rfl⟩) (mpS hZ hT hS hW _) rfl rfl hl.1 rfl (lv_room (Nat.le_of_ble_eq_true rfl)) dX12_changed_48 ⟨Nat.zero_le _, Nat.zero_le _⟩) (fun r_10 H locs hf hW hS => ?_)
      refine lv_aload_n hx hb dX12_changed_51 rfl (lv_at hl 0 rfl) ?_
      refine gf_12_7 hx hb htg (htg _ lf_X12_68) hown hZ hW tz_0 dX12_changed_52 ?_
      refine gfN_8_0 hx hb htg ln_X12_227 hown hZ hW tz_55 dX12_changed_55 ?_
      refine lv_iload_n hx hb dX12_changed_58 rfl (lv_at hl 2 rfl) ?_
      refine mcip hf hS (fun r h => va_runS (As := [.ref (bs g (55 + 1)), .int i_6]) (rest := [.int r_10, .int i_5]) ⟨hx, hb, hml, hown, hts⟩ (c_X12_get g l 0 81 σ_4 (55 + 1) i_6 (tz_55.sub 20 1 so_8_20_1) r h) (cl_X12_165 hts ⟨Nat.le_of_ble_eq_true rfl, Nat.le_of_ble_eq_true rfl⟩) (mpS hZ hT hS hW _) rfl rfl hl.1 rfl (lv_room (Nat.le_of_ble_eq_true rfl)) dX12_changed_59 ⟨Nat.zero_le _, Nat.zero_le _⟩) (fun r_11 H locs hf hW hS => ?_)
      refine jn1_W (fun (i_12 : Int32) => ∀ (H : Heap) (locs : List Loc) (ls : Array Slot), Wd g 0 81 σ_4 H → va_S (Ag g 0) s.heap H locs → lv_has ls 3 [(0, .ref (bs g 0)), (2, .int i_6)] → W p l e (kr 5 152) s m (List.toArray [.ref (bs g 0)]) below meth c H locs 0 0 Q (F0 m 70 ls [.int i_12, .int i_5])) hf (fun i_12 hf => ?_) (fun k_13 hk_13 hf => ?_)
      · intro H locs ls hW hS hl
        refine lv_iadd hx hb dX12_changed_70 ?_
        refine mnmi hf (fun (x_14 : Int32) hf => ?_)
        refine lv_istore_n (lv' := [(1, .int x_14), (0, .ref (bs g 0)), (2, .int i_6)]) hx hb dX12_changed_71 rfl hl (by decide) rfl (fun ls hl => ?_)
        obtain ⟨x_15, e_16, hf⟩ := nm_s hf
        refine lv_iinc (v := x_15) (lv' := [(2, .int x_15), (1, .int x_14), (0, .ref (bs g 0))]) hx hb dX12_changed_72 hl (k := 2) rfl (by rw [e_16]; rfl) (by decide) rfl (fun ls hl => ?_)
        refine lv_goto (tgt := 28) hx hb dX12_changed_75 (by decide) ?_
        exact hk_7 x_14 x_15 hf H locs ls hW hS (lv_sub hl [2, 1, 0] rfl)
      · refine lv_icmp_eq (tgt := 69) hx hb dX12_changed_62 (by decide) (fun hc => ?_) (fun hc => ?_)
        · have hf := ift hc hf
          refine lv_iconst (v := 0) hx hb dX12_changed_69 (by decide) ?_
          exact hk_13 0 hf H locs ls hW hS (lv_sub hl [0, 2] rfl)
        · have hf := iff_ hc hf
          refine lv_iconst (v := 1) hx hb dX12_changed_65 (by decide) ?_
          refine lv_goto (tgt := 70) hx hb dX12_changed_66 (by decide) ?_
          exact hk_13 1 hf H locs ls hW hS (lv_sub hl [0, 2] rfl)
  · have hf := iff_ hc hf
    refine lv_iconst (v := (-1)) hx hb dX12_changed_11 (by decide) ?_
    subst hQ
    exact mri hx hb hr hlocks hZ hT hS hW (pr1 hf) dX12_changed_12
def f_X12_bestDay (σ : Mem) (a1 : Int32) : Option (Int32 × Mem) :=
  bd1 (f_X12_ofPerson σ a1) (fun (r_1 : Int32) => bd2 (f_X12_refused σ r_1) (fun (r_2 : Int32) (σ_3 : Mem) => (if r_2 = 0 then bd1 (f_X9_copy σ_3 32 28) (fun (σ_4 : Mem) => fx4 FU (fun k_9 (i_5 : Int32) (i_6 : Int32) (i_7 : Int32) (σ_8 : Mem) => (if 30 ≤ i_7 then some (i_5, σ_8) else bd1 (f_X9_isFree σ_8 28 i_7) (fun (r_10 : Int32) => jn3 (fun (i_11 : Int32) (i_12 : Int32) (σ_13 : Mem) => nm (i_7 + 1) (fun (x_15 : Int32) => k_9 i_11 i_12 x_15 σ_13)) (fun k_14 => (if r_10 = 0 then k_14 i_5 i_6 σ_8 else bd1 (f_X9_setVisitor σ_8 32 i_7 a1) (fun (σ_17 : Mem) => bd1 (f_X9_countHeld σ_17 32) (fun (r_18 : Int32) => bd1 (f_X9_setVisitor σ_17 32 i_7 (-2)) (fun (σ_19 : Mem) => jn1 (fun (i_20 : Int32) => nm (if r_18 < i_6 then i_6 else r_18) (fun (x_22 : Int32) => k_14 i_20 x_22 σ_19)) (fun k_21 => (if r_18 ≤ i_6 then k_21 i_5 else k_21 i_7)))))))))) (-2) (-1) 0 σ_4) else some ((-1), σ_3))))
set_option maxHeartbeats 4000000 in
set_option maxRecDepth 100000 in
theorem c_X12_bestDay (g : XG) (l : Launch) (σ : Mem) (a1 : Int32) (r : Int32) (τ : Mem) (hf : f_X12_bestDay σ a1 = some (r, τ)) : Met l yX12_bestDay (wx (.code yX12_bestDay cX12_bestDay 6 (some .int))) (kr 6 170) (va_Pc [.ref (bs g 0), .int a1] (WS g 0 81 σ)) (Qi' g 0 81 r τ) 0 0 (Ag g 0) := by
  refine Met.ofW (cc := cX12_bestDay) (maxL := 6) (ret := (some .int)) (by decide) rfl ?_
  intro p e s m args below meth c s₁ B hml hv
  obtain ⟨rfl, hZ, hT, hW⟩ := hv
  have hx := B.exec
  have hb := B.bytes
  have hr := B.returns
  have hts : ∀ w ∈ wx (.code yX12_bestDay cX12_bestDay 6 (some .int)), w.before _ s = true := atoms_spec B.pre
  have htg : ∀ w ∈ lwg, w.before _ s = true := fun w h => hts w (List.mem_cons_of_mem _ h)
  have hown : s.vm.findClass RX12 = some m.cls := findClass_of_methodNamed B.named
  have hlocks := B.notSynchronized
  change W p l e (kr 6 170) s m (List.toArray [.ref (bs g 0), .int a1]) below meth c s.heap [] 0 0 (MQ below (Qi' g 0 81 r τ) (List.toArray [.ref (bs g 0), .int a1]) s 0 0 (Ag g 0)) _
  generalize hQ : MQ below (Qi' g 0 81 r τ) (List.toArray [.ref (bs g 0), .int a1]) s 0 0 (Ag g 0) = Q
  have hS : va_S (Ag g 0) s.heap s.heap [] := va_S.rf
  have hl := lv_entry ([.ref (bs g 0), .int a1]) (n := 6) (Nat.le_of_ble_eq_true rfl)
  rw [lg_entry_eq]
  generalize (lg_sl ([.ref (bs g 0), .int a1]) ++ List.replicate (6 - (lg_sl ([.ref (bs g 0), .int a1])).length) Slot.unset).toArray = ls at hl ⊢
  have hl : lv_has ls 6 [(0, .ref (bs g 0)), (1, .int a1)] := hl
  delta f_X12_bestDay at hf
  obtain ⟨H, hH⟩ : ∃ H, H = s.heap := ⟨_, rfl⟩
  obtain ⟨locs, hLc⟩ : ∃ z : List Loc, z = [] := ⟨_, rfl⟩
  have hS : va_S (Ag g 0) s.heap H locs := by rw [hH, hLc]; exact hS
  have hW : Wd g 0 81 σ H := by rw [hH]; exact hW
  suffices hG : W p l e (kr 6 170) s m (List.toArray [.ref (bs g 0), .int a1]) below meth c H locs 0 0 Q (F0 m 0 ls []) by rw [hH, hLc] at hG; exact hG
  clear hH hLc
  refine lv_aload_n hx hb dX12_bestDay_0 rfl (lv_at hl 0 rfl) ?_
  refine lv_aload_n hx hb dX12_bestDay_1 rfl (lv_at hl 0 rfl) ?_
  refine lv_iload_n hx hb dX12_bestDay_2 rfl (lv_at hl 1 rfl) ?_
  refine mcip hf hS (fun r h => va_runV (As := [.int a1]) (rest := [.ref (bs g 0)]) ⟨hx, hb, hml, hown, hts⟩ (c_X12_ofPerson g l σ a1 r h) (cl_X12_157 hts ⟨Nat.le_of_ble_eq_true rfl, Nat.le_of_ble_eq_true rfl⟩) (mpV_12 hZ hT hS hW tz_0 _) rfl rfl hl.1 rfl (lv_room (Nat.le_of_ble_eq_true rfl)) dX12_bestDay_3 ⟨Nat.zero_le _, Nat.zero_le _⟩) (fun r_1 H locs hf hW hS => ?_)
  refine mci hf hS (fun r τ h => va_runV (As := [.int r_1]) (rest := []) ⟨hx, hb, hml, hown, hts⟩ (c_X12_refused g l σ r_1 r τ h) (cl_X12_98 hts ⟨Nat.le_of_ble_eq_true rfl, Nat.le_of_ble_eq_true rfl⟩) (mpV_12 hZ hT hS hW tz_0 _) rfl rfl hl.1 rfl (lv_room (Nat.le_of_ble_eq_true rfl)) dX12_bestDay_6 ⟨Nat.zero_le _, Nat.zero_le _⟩) (fun r_2 σ_3 H locs hf hW hS => ?_)
  refine lv_if_eq (tgt := 14) hx hb dX12_bestDay_9 (by decide) (fun hc => ?_) (fun hc => ?_)
  · have hf := ift hc hf
    refine lv_aload_n hx hb dX12_bestDay_14 rfl (lv_at hl 0 rfl) ?_
    refine gf_12_3 hx hb htg (htg _ lf_X12_44) hown hZ hW tz_0 dX12_bestDay_15 ?_
    refine lv_aload_n hx hb dX12_bestDay_18 rfl (lv_at hl 0 rfl) ?_
    refine gf_12_2 hx hb htg (htg _ lf_X12_40) hown hZ hW tz_0 dX12_bestDay_19 ?_
    refine mcv hf hS (fun τ h => va_runV (As := [.ref (bs g 28)]) (rest := []) ⟨hx, hb, hml, hown, hts⟩ (c_X9_copy g l 0 81 σ_3 32 28 tz_32 tz_28 τ h) (cl_X12_230 hts ⟨Nat.le_of_ble_eq_true rfl, Nat.le_of_ble_eq_true rfl⟩) (mpV_9 hZ hT hS hW tz_32 _) rfl rfl hl.1 rfl (lv_room (Nat.le_of_ble_eq_true rfl)) dX12_bestDay_22 ⟨Nat.zero_le _, Nat.zero_le _⟩) (fun σ_4 H locs hf hW hS => ?_)
    refine lv_bipush (v := (-2)) hx hb dX12_bestDay_25 (by decide) ?_
    refine lv_istore_n (lv' := [(2, .int (-2)), (0, .ref (bs g 0)), (1, .int a1)]) hx hb dX12_bestDay_27 rfl hl (by decide) rfl (fun ls hl => ?_)
    refine lv_iconst (v := (-1)) hx hb dX12_bestDay_28 (by decide) ?_
    refine lv_istore_n (lv' := [(3, .int (-1)), (2, .int (-2)), (0, .ref (bs g 0)), (1, .int a1)]) hx hb dX12_bestDay_29 rfl hl (by decide) rfl (fun ls hl => ?_)
    refine lv_iconst (v := 0) hx hb dX12_bestDay_30 (by decide) ?_
    refine lv_istore (lv' := [(4, .int 0), (3, .int (-1)), (2, .int (-2)), (0, .ref (bs g 0)), (1, .int a1)]) hx hb dX12_bestDay_31 hl (by decide) rfl (fun ls hl => ?_)
    refine fx4_W (fun (i_5 : Int32) (i_6 : Int32) (i_7 : Int32) (σ_8 : Mem) => ∀ (H : Heap) (locs : List Loc) (ls : Array Slot), Wd g 0 81 σ_8 H → va_S (Ag g 0) s.heap H locs → lv_has ls 6 [(0, .ref (bs g 0)), (1, .int a1), (2, .int i_5), (3, .int i_6), (4, .int i_7)] → W p l e (kr 6 170) s m (List.toArray [.ref (bs g 0), .int a1]) below meth c H locs 0 0 Q (F0 m 33 ls [])) (fun k_9 hk_9 i_5 i_6 i_7 σ_8 hf => ?_) FU (-2) (-1) 0 σ_4 hf H locs ls hW hS (lv_sub hl [3, 4, 2, 1, 0] rfl)
    intro H locs ls hW hS hl
    refine lv_iload hx hb dX12_bestDay_33 (lv_at hl 4 rfl) ?_
    refine lv_bipush (v := 30) hx hb dX12_bestDay_35 (by decide) ?_
    refine lv_icmp_ge (tgt := 108) hx hb dX12_bestDay_37 (by decide) (fun hc => ?_) (fun hc => ?_)
    · have hf := ift hc hf
      refine lv_iload_n hx hb dX12_bestDay_108 rfl (lv_at hl 2 rfl) ?_
      subst hQ
      exact mri hx hb hr hlocks hZ hT hS hW (pr1 hf) dX12_bestDay_109
    · have hf := iff_ hc hf
      refine lv_aload_n hx hb dX12_bestDay_40 rfl (lv_at hl 0 rfl) ?_
      refine gf_12_2 hx hb htg (htg _ lf_X12_40) hown hZ hW tz_0 dX12_bestDay_41 ?_
      refine lv_iload hx hb dX12_bestDay_44 (lv_at hl 4 rfl) ?_
      refine mcip hf hS (fun r h => va_runV (As := [.int i_7]) (rest := []) ⟨hx, hb, hml, hown, hts⟩ (c_X9_isFree g l 0 81 σ_8 28 i_7 tz_28 r h) (cl_X12_233 hts ⟨Nat.le_of_ble_eq_true rfl, Nat.le_of_ble_eq_true rfl⟩) (mpV_9 hZ hT hS hW tz_28 _) rfl rfl hl.1 rfl (lv_room (Nat.le_of_ble_eq_true rfl)) dX12_bestDay_46 ⟨Nat.zero_le _, Nat.zero_le _⟩) (fun r_10 H locs hf hW hS => ?_)
      refine jn3_W (fun (i_11 : Int32) (i_12 : Int32) (σ_13 : Mem) => ∀ (H : Heap) (locs : List Loc) (ls : Array Slot), Wd g 0 81 σ_13 H → va_S (Ag g 0) s.heap H locs → lv_has ls 6 [(0, .ref (bs g 0)), (1, .int a1), (2, .int i_11), (3, .int i_12), (4, .int i_7)] → W p l e (kr 6 170) s m (List.toArray [.ref (bs g 0), .int a1]) below meth c H locs 0 0 Q (F0 m 102 ls [])) hf (fun i_11 i_12 σ_13 hf => ?_) (fun k_14 hk_14 hf => ?_)
      · intro H locs ls hW hS hl
        obtain ⟨x_15, e_16, hf⟩ := nm_s hf
        refine lv_iinc (v := x_15) (lv' := [(4, .int x_15), (0, .ref (bs g 0)), (1, .int a1), (2, .int i_11), (3, .int i_12)]) hx hb dX12_bestDay_102 hl (k := 4) rfl (by rw [e_16]; rfl) (by decide) rfl (fun ls hl => ?_)
        refine lv_goto (tgt := 33) hx hb dX12_bestDay_105 (by decide) ?_
        exact hk_9 i_11 i_12 x_15 σ_13 hf H locs ls hW hS (lv_sub hl [1, 2, 3, 4, 0] rfl)
      · refine lv_if_eq (tgt := 102) hx hb dX12_bestDay_49 (by decide) (fun hc => ?_) (fun hc => ?_)
        · have hf := ift hc hf
          exact hk_14 i_5 i_6 σ_8 hf H locs ls hW hS (lv_sub hl [0, 1, 2, 3, 4] rfl)
        · have hf := iff_ hc hf
          refine lv_aload_n hx hb dX12_bestDay_52 rfl (lv_at hl 0 rfl) ?_
          refine gf_12_3 hx hb htg (htg _ lf_X12_44) hown hZ hW tz_0 dX12_bestDay_53 ?_
          refine lv_iload hx hb dX12_bestDay_56 (lv_at hl 4 rfl) ?_
          refine lv_iload_n hx hb dX12_bestDay_58 rfl (lv_at hl 1 rfl) ?_
          refine mcv hf hS (fun τ h => va_runV (As := [.int i_7, .int a1]) (rest := []) ⟨hx, hb, hml, hown, hts⟩ (c_X9_setVisitor g l 0 81 σ_8 32 i_7 a1 tz_32 τ h) (cl_X12_236 hts ⟨Nat.le_of_ble_eq_true rfl, Nat.le_of_ble_eq_true rfl⟩) (mpV_9 hZ hT hS hW tz_32 _) rfl rfl hl.1 rfl (lv_room (Nat.le_of_ble_eq_true rfl)) dX12_bestDay_59 ⟨Nat.zero_le _, Nat.zero_le _⟩) (fun σ_17 H locs hf hW hS => ?_)
          refine lv_aload_n hx hb dX12_bestDay_62 rfl (lv_at hl 0 rfl) ?_
          refine gf_12_3 hx hb htg (htg _ lf_X12_44) hown hZ hW tz_0 dX12_bestDay_63 ?_
          refine mcip hf hS (fun r h => va_runV (As := []) (rest := []) ⟨hx, hb, hml, hown, hts⟩ (c_X9_countHeld g l 0 81 σ_17 32 tz_32 r h) (cl_X12_240 hts ⟨Nat.le_of_ble_eq_true rfl, Nat.le_of_ble_eq_true rfl⟩) (mpV_9 hZ hT hS hW tz_32 _) rfl rfl hl.1 rfl (lv_room (Nat.le_of_ble_eq_true rfl)) dX12_bestDay_66 ⟨Nat.zero_le _, Nat.zero_le _⟩) (fun r_18 H locs hf hW hS => ?_)
          refine lv_istore (lv' := [(5, .int r_18), (0, .ref (bs g 0)), (1, .int a1), (2, .int i_5), (3, .int i_6), (4, .int i_7)]) hx hb dX12_bestDay_69 hl (by decide) rfl (fun ls hl => ?_)
          refine lv_aload_n hx hb dX12_bestDay_71 rfl (lv_at hl 1 rfl) ?_
          refine gf_12_3 hx hb htg (htg _ lf_X12_44) hown hZ hW tz_0 dX12_bestDay_72 ?_
          refine lv_iload hx hb dX12_bestDay_75 (lv_at hl 5 rfl) ?_
          refine lv_bipush (v := (-2)) hx hb dX12_bestDay_77 (by decide) ?_
          refine mcv hf hS (fun τ h => va_runV (As := [.int i_7, .int (-2)]) (rest := []) ⟨hx, hb, hml, hown, hts⟩ (c_X9_setVisitor g l 0 81 σ_17 32 i_7 (-2) tz_32 τ h) (cl_X12_236 hts ⟨Nat.le_of_ble_eq_true rfl, Nat.le_of_ble_eq_true rfl⟩) (mpV_9 hZ hT hS hW tz_32 _) rfl rfl hl.1 rfl (lv_room (Nat.le_of_ble_eq_true rfl)) dX12_bestDay_79 ⟨Nat.zero_le _, Nat.zero_le _⟩) (fun σ_19 H locs hf hW hS => ?_)
          refine lv_iload hx hb dX12_bestDay_82 (lv_at hl 0 rfl) ?_
          refine lv_iload_n hx hb dX12_bestDay_84 rfl (lv_at hl 4 rfl) ?_
          refine jn1_W (fun (i_20 : Int32) => ∀ (H : Heap) (locs : List Loc) (ls : Array Slot), Wd g 0 81 σ_19 H → va_S (Ag g 0) s.heap H locs → lv_has ls 6 [(0, .ref (bs g 0)), (1, .int a1), (3, .int i_6), (4, .int i_7), (5, .int r_18)] → W p l e (kr 6 170) s m (List.toArray [.ref (bs g 0), .int a1]) below meth c H locs 0 0 Q (F0 m 94 ls [.int i_20])) hf (fun i_20 hf => ?_) (fun k_21 hk_21 hf => ?_)
          · intro H locs ls hW hS hl
            refine lv_istore_n (lv' := [(2, .int i_20), (0, .ref (bs g 0)), (1, .int a1), (3, .int i_6), (4, .int i_7), (5, .int r_18)]) hx hb dX12_bestDay_94 rfl hl (by decide) rfl (fun ls hl => ?_)
            refine lv_iload hx hb dX12_bestDay_95 (lv_at hl 5 rfl) ?_
            refine lv_iload_n hx hb dX12_bestDay_97 rfl (lv_at hl 3 rfl) ?_
            refine va_mmax hx hb (hml.trans hl.1.symm) hown (htg _ lm_X12_243) (htg _ lst_Math_max) (htg _ ini_Math) (htg _ lc_Math_max) (Nat.le_of_ble_eq_true rfl) (Nat.le_of_ble_eq_true rfl) (Nat.zero_le _) (Nat.zero_le _) dX12_bestDay_98 ?_
            refine mnmi hf (fun (x_22 : Int32) hf => ?_)
            refine lv_istore_n (lv' := [(3, .int x_22), (2, .int i_20), (0, .ref (bs g 0)), (1, .int a1), (4, .int i_7), (5, .int r_18)]) hx hb dX12_bestDay_101 rfl hl (by decide) rfl (fun ls hl => ?_)
            exact hk_14 i_20 x_22 σ_19 hf H locs ls hW hS (lv_sub hl [2, 3, 1, 0, 4] rfl)
          · refine lv_icmp_le (tgt := 93) hx hb dX12_bestDay_85 (by decide) (fun hc => ?_) (fun hc => ?_)
            · have hf := ift hc hf
              refine lv_iload_n hx hb dX12_bestDay_93 rfl (lv_at hl 3 rfl) ?_
              exact hk_21 i_5 hf H locs ls hW hS (lv_sub hl [1, 2, 4, 5, 0] rfl)
            · have hf := iff_ hc hf
              refine lv_iload hx hb dX12_bestDay_88 (lv_at hl 5 rfl) ?_
              refine lv_goto (tgt := 94) hx hb dX12_bestDay_90 (by decide) ?_
              exact hk_21 i_7 hf H locs ls hW hS (lv_sub hl [1, 2, 4, 5, 0] rfl)
  · have hf := iff_ hc hf
    refine lv_iconst (v := (-1)) hx hb dX12_bestDay_12 (by decide) ?_
    subst hQ
    exact mri hx hb hr hlocks hZ hT hS hW (pr1 hf) dX12_bestDay_13
