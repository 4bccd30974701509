section MS
variable {p : Program} {l : Launch} {e : Env} {R : Room} {s : State} {m : MethodId} {args : Array Value} {below : List Frame} {meth : Method} {c : Code} {H : Heap} {locs : List Loc} {cells slots : Nat} {Q : State → Prop}
variable {cc : ByteArray} {pc : Nat} {ls : Array Slot} {rest st0 : List Value} {g : XG} {lo n : Nat} {σ : Mem} {β : Type} {out : β} {a : Array Value}

theorem gEN_number (hx : p.tables.exec = Jvm.exec) (hb : c.code = cc) {own host : String} {index : Nat} (hq : (own, index, "MirrorHour$Line", "numbe\x72", "I", host) ∈ fnL) (hown : s.vm.findClass own = some m.cls) (hZ : ZS g s) (hT : ST g s s.heap) (hS : va_S (Ag g lo) s.heap H locs) {i : Nat} (hi : i < 7) (hdg : decode cc pc = .ok (.getfield index, 3)) (kk : W p l e R s m args below meth c H locs cells slots Q (F0 m (pc + 3) ls (.int (lnNum.getD i 0) :: rest))) : W p l e R s m args below meth c H locs cells slots Q (F0 m pc ls (.ref (adE g i) :: rest)) := by
  obtain ⟨cf, k, fi, f, cell, h1, h2, h3, h4, h5, h6⟩ := (va_OF.narrow ((hT.1.1.1 i hi).2.2 ("MirrorHour$Line", "numbe\x72", "I", lnNum) (List.mem_cons_self)) (fun q h => ag_a0 g lo q h)).kept hS.2.1
  exact va_Wgetf hx hb hown (nuF hZ hq) h1 h2 h3 h4 (v := .int (lnNum.getD i 0)) h5 rfl rfl hdg kk
theorem gEN_room (hx : p.tables.exec = Jvm.exec) (hb : c.code = cc) {own host : String} {index : Nat} (hq : (own, index, "MirrorHour$Line", "room", "I", host) ∈ fnL) (hown : s.vm.findClass own = some m.cls) (hZ : ZS g s) (hT : ST g s s.heap) (hS : va_S (Ag g lo) s.heap H locs) {i : Nat} (hi : i < 7) (hdg : decode cc pc = .ok (.getfield index, 3)) (kk : W p l e R s m args below meth c H locs cells slots Q (F0 m (pc + 3) ls (.int (lnRoom.getD i 0) :: rest))) : W p l e R s m args below meth c H locs cells slots Q (F0 m pc ls (.ref (adE g i) :: rest)) := by
  obtain ⟨cf, k, fi, f, cell, h1, h2, h3, h4, h5, h6⟩ := (va_OF.narrow ((hT.1.1.1 i hi).2.2 ("MirrorHour$Line", "room", "I", lnRoom) (List.mem_cons_of_mem _ List.mem_cons_self)) (fun q h => ag_a0 g lo q h)).kept hS.2.1
  exact va_Wgetf hx hb hown (nuF hZ hq) h1 h2 h3 h4 (v := .int (lnRoom.getD i 0)) h5 rfl rfl hdg kk
theorem gEN_word (hx : p.tables.exec = Jvm.exec) (hb : c.code = cc) {own host : String} {index : Nat} (hq : (own, index, "MirrorHour$Line", "word", "Ljava/lang/String;", host) ∈ fnL) (hown : s.vm.findClass own = some m.cls) (hZ : ZS g s) (hT : ST g s s.heap) (hS : va_S (Ag g lo) s.heap H locs) {i : Nat} (hi : i < 7) (hdg : decode cc pc = .ok (.getfield index, 3)) (kk : W p l e R s m args below meth c H locs cells slots Q (F0 m (pc + 3) ls (.ref (adS g i) :: rest))) : W p l e R s m args below meth c H locs cells slots Q (F0 m pc ls (.ref (adE g i) :: rest)) := by
  obtain ⟨cf, k, fi, f, cell, h1, h2, h3, h4, h5, h6⟩ := (va_OF.narrow (hT.2.2.1 i hi) (fun q h => ag_a0 g lo q h)).kept hS.2.1
  exact va_Wgetf hx hb hown (nuF hZ hq) h1 h2 h3 h4 (v := .ref (adS g i)) h5 rfl rfl hdg kk
theorem gE_ordinal (hx : p.tables.exec = Jvm.exec) (hb : c.code = cc) {own : String} {index : Nat} (hlink : (Cond.fieldLink own index "java/lang/Enum" "ordinal" "I").before args s = true) (hown : s.vm.findClass own = some m.cls) (hT : ST g s s.heap) (hS : va_S (Ag g lo) s.heap H locs) {i : Nat} (hi : i < 7) (hdg : decode cc pc = .ok (.getfield index, 3)) (kk : W p l e R s m args below meth c H locs cells slots Q (F0 m (pc + 3) ls (.int (lnNum.getD i 0) :: rest))) : W p l e R s m args below meth c H locs cells slots Q (F0 m pc ls (.ref (adE g i) :: rest)) := by
  obtain ⟨cf, k, fi, f, cell, h1, h2, h3, h4, h5, h6⟩ := (va_OF.narrow ((hT.1.1.1 i hi).2.2 ("java/lang/Enum", "ordinal", "I", lnNum) (List.mem_cons_of_mem _ (List.mem_cons_of_mem _ List.mem_cons_self))) (fun q h => ag_a0 g lo q h)).kept hS.2.1
  exact W.getf hx hb hown hlink h1 h2 h3 h4 (v := .int (lnNum.getD i 0)) h5 rfl rfl hdg kk
theorem gLN (hx : p.tables.exec = Jvm.exec) (hb : c.code = cc) (hT : ST g s s.heap) (hS : va_S (Ag g lo) s.heap H locs) {i : Int32} {K : Nat → Option β} (hf : ixd i 7 (nm i.toNatClampNeg K) = some out) (hdg : decode cc pc = .ok (.aaload, 1)) (kk : ∀ L : Nat, L < 7 → K L = some out → W p l e R s m args below meth c H locs cells slots Q (F0 m (pc + 1) ls (.ref (adE g L) :: rest))) : W p l e R s m args below meth c H locs cells slots Q (F0 m pc ls (.int i :: .ref (tLn g) :: rest)) := by
  obtain ⟨h1, h2⟩ := ixd_s hf
  exact vb_tq hx hb (va_T.narrow hT.1.2.2 (fun q h => ag_a0 g lo q h)) hS h1 rfl hdg (kk i.toNatClampNeg (Nat.not_le.mp fun q => h1 (Or.inr q)) h2)
theorem gAC_ne (hx : p.tables.exec = Jvm.exec) (hb : c.code = cc) (hT : ST g s s.heap) {i j : Nat} (hi : i < 7) (hj : j < 7) {off : Int} {tgt : Nat} (hdg : decode cc pc = .ok (.if_acmp .ne off, 3)) (ht : (pc : Int) + off = (tgt : Int)) (kt : ¬ i = j → W p l e R s m args below meth c H locs cells slots Q (F0 m tgt ls rest)) (kf : i = j → W p l e R s m args below meth c H locs cells slots Q (F0 m (pc + 3) ls rest)) : W p l e R s m args below meth c H locs cells slots Q (F0 m pc ls (.ref (adE g j) :: .ref (adE g i) :: rest)) := by
  refine lv_acmp_ne (rx := some (adE g i)) (ry := some (adE g j)) hx hb hdg ht (fun h => kt (fun e => h (by rw [e]))) (fun h => kf (hT.1.1.2 i j hi hj (Option.some.inj h)))
theorem gAC_eq (hx : p.tables.exec = Jvm.exec) (hb : c.code = cc) (hT : ST g s s.heap) {i j : Nat} (hi : i < 7) (hj : j < 7) {off : Int} {tgt : Nat} (hdg : decode cc pc = .ok (.if_acmp .eq off, 3)) (ht : (pc : Int) + off = (tgt : Int)) (kt : i = j → W p l e R s m args below meth c H locs cells slots Q (F0 m tgt ls rest)) (kf : ¬ i = j → W p l e R s m args below meth c H locs cells slots Q (F0 m (pc + 3) ls rest)) : W p l e R s m args below meth c H locs cells slots Q (F0 m pc ls (.ref (adE g j) :: .ref (adE g i) :: rest)) := by
  refine lv_acmp_eq (rx := some (adE g i)) (ry := some (adE g j)) hx hb hdg ht (fun h => kt (hT.1.1.2 i j hi hj (Option.some.inj h))) (fun h => kf (fun e => h (by rw [e])))
theorem gSV (hx : p.tables.exec = Jvm.exec) (hb : c.code = cc) {own : String} {index : Nat} (hlink : (Cond.fieldLink own index "java/lang/String" "value" "[B").before args s = true) (hown : s.vm.findClass own = some m.cls) (hT : ST g s s.heap) (hS : va_S (Ag g lo) s.heap H locs) {i : Nat} (hi : i < 19) (hdg : decode cc pc = .ok (.getfield index, 3)) (kk : W p l e R s m args below meth c H locs cells slots Q (F0 m (pc + 3) ls (.ref (adV g i) :: rest))) : W p l e R s m args below meth c H locs cells slots Q (F0 m pc ls (.ref (adS g i) :: rest)) := by
  obtain ⟨cf, k, fi, f, cell, h1, h2, h3, h4, h5, h6⟩ := (va_OF.narrow (hT.2.2.2.1.1 i hi).2.2.1 (fun q h => ag_a0 g lo q h)).kept hS.2.1
  exact W.getf hx hb hown hlink h1 h2 h3 h4 (v := .ref (adV g i)) h5 rfl rfl hdg kk
theorem gSC (hx : p.tables.exec = Jvm.exec) (hb : c.code = cc) {own : String} {index : Nat} (hlink : (Cond.fieldLink own index "java/lang/String" "code\x72" "B").before args s = true) (hown : s.vm.findClass own = some m.cls) (hT : ST g s s.heap) (hS : va_S (Ag g lo) s.heap H locs) {i : Nat} (hi : i < 19) (hdg : decode cc pc = .ok (.getfield index, 3)) (kk : W p l e R s m args below meth c H locs cells slots Q (F0 m (pc + 3) ls (.int 0 :: rest))) : W p l e R s m args below meth c H locs cells slots Q (F0 m pc ls (.ref (adS g i) :: rest)) := by
  obtain ⟨cf, k, fi, f, cell, h1, h2, h3, h4, h5, h6⟩ := (va_OF.narrow (hT.2.2.2.1.1 i hi).2.1 (fun q h => ag_a0 g lo q h)).kept hS.2.1
  exact W.getf hx hb hown hlink h1 h2 h3 h4 (v := .int 0) h5 rfl rfl hdg kk
theorem gSL (hx : p.tables.exec = Jvm.exec) (hb : c.code = cc) (hT : ST g s s.heap) (hS : va_S (Ag g lo) s.heap H locs) {i : Nat} (hi : i < 19) (hdg : decode cc pc = .ok (.arraylength, 1)) (kk : W p l e R s m args below meth c H locs cells slots Q (F0 m (pc + 1) ls (.int (nI (strLen.getD i 0)) :: rest))) : W p l e R s m args below meth c H locs cells slots Q (F0 m pc ls (.ref (adV g i) :: rest)) :=
  va_tlen hx hb (va_T.narrow (hT.2.2.2.1.1 i hi).2.2.2 (fun q h => ag_a0 g lo q h)) hS rfl hdg kk
theorem gSB (hx : p.tables.exec = Jvm.exec) (hb : c.code = cc) (hT : ST g s s.heap) (hS : va_S (Ag g lo) s.heap H locs) {i : Nat} (hi : i < 19) {j : Int32} {K : Option β} (hf : ixd j (strLen.getD i 0) K = some out) (hdg : decode cc pc = .ok (.baload, 1)) (kk : K = some out → W p l e R s m args below meth c H locs cells slots Q (F0 m (pc + 1) ls (.int ((strB.getD i []).getD j.toNatClampNeg 0) :: rest))) : W p l e R s m args below meth c H locs cells slots Q (F0 m pc ls (.int j :: .ref (adV g i) :: rest)) := by
  obtain ⟨h1, h2⟩ := ixd_s hf
  exact va_tb hx hb (va_T.narrow (hT.2.2.2.1.1 i hi).2.2.2 (fun q h => ag_a0 g lo q h)) hS h1 rfl hdg (kk h2)
theorem gSF (hx : p.tables.exec = Jvm.exec) (hb : c.code = cc) {own : String} {index : Nat} (hlink : (Cond.fieldLink own index "jdk/internal/util/Preconditions" "SIOOBE_FORMATTER" "Ljava/util/function/BiFunction;").before args s = true) (hown : s.vm.findClass own = some m.cls) (hT : ST g s s.heap) (hS : va_S (Ag g lo) s.heap H locs) (hdg : decode cc pc = .ok (.getstatic index, 3)) (kk : ∀ v : Value, (v = .null ∨ ∃ t, v = .ref t) → W p l e R s m args below meth c H locs cells slots Q (F0 m (pc + 3) ls (v :: rest))) : W p l e R s m args below meth c H locs cells slots Q (F0 m pc ls rest) := by
  rcases hT.2.2.2.2.2.2 with h | ⟨t, h⟩
  · exact va_gets hx hb (va_Z.narrow h (fun q h => ag_a0 g lo q h)) hS hown hlink (fun _ h => h) hdg (kk .null (Or.inl rfl))
  · exact va_gets hx hb (va_Z.narrow h (fun q h => ag_a0 g lo q h)) hS hown hlink (fun _ h => h) hdg (kk (.ref t) (Or.inr ⟨t, rfl⟩))
theorem mpV_S (hZ : ZS g s) (hT : ST g s s.heap) (hS : va_S (Ag g lo) s.heap H locs) (hW : Wd g lo n σ H) {i : Nat} (hi : i < 19) (As : List Value) : PreV s H RJ0 (adS g i) (va_Pc (.ref (adS g i) :: As) (WS g lo n σ)) As := ⟨WS.blind g lo n σ _, vk_recv (vk_S.narrow hT.2.2.2.1 (fun q h => ag_a0 g lo q h)) hi hS, fun U hU hw => ⟨rfl, ws_of hZ hT hS hW hU hw⟩⟩
theorem mpV_E (hZ : ZS g s) (hT : ST g s s.heap) (hS : va_S (Ag g lo) s.heap H locs) (hW : Wd g lo n σ H) {i : Nat} (hi : i < 7) (As : List Value) : PreV s H RX4 (adE g i) (va_Pc (.ref (adE g i) :: As) (WS g lo n σ)) As := by
  obtain ⟨cell, h1, h2, h3, -⟩ := (va_O.narrow (hT.1.1.1 i hi).2.1 (fun q h => ag_a0 g lo q h)).kept hS.2.1
  exact ⟨WS.blind g lo n σ _, ⟨cell, h1, h2, h3⟩, fun U hU hw => ⟨rfl, ws_of hZ hT hS hW hU hw⟩⟩
def zrc (x : Int32) : Option Int32 := if (x.toUInt32 % 65536).toInt32 = x then some x else none
theorem zrc_s {x r : Int32} (h : zrc x = some r) : narrow .char (.int x) = .int x ∧ x = r := by
  unfold zrc at h
  split at h
  · rename_i h1
    refine ⟨?_, Option.some.inj h⟩
    rw [← h1]
    exact pk_nc x
  · cases h
theorem mcvp {o : Option Unit} {K : Unit → Option β} (hf : bd1 o K = some out) (hS : va_S (Ag g lo) s.heap H locs) (hr : o = some () → va_Run p l e R s m args below meth c H locs cells slots 0 0 (F0 m pc ls st0) rest (Qv' g lo n σ a) (Ag g lo)) (kk : ∀ (H1 : Heap) (locs1 : List Loc), K () = some out → Wd g lo n σ H1 → va_S (Ag g lo) s.heap H1 locs1 → W p l e R s m args below meth c H1 locs1 cells slots Q (F0 m (pc + 3) ls rest)) : W p l e R s m args below meth c H locs cells slots Q (F0 m pc ls st0) := by
  obtain ⟨r, ho, hf⟩ := bd1_s hf
  refine va_callv (hr ho) hS (fun _ _ h => h) (fun _ h => h) (fun u t H1 locs1 ht hvm hp hB hz hk hS1 => ?_)
  subst hp
  have hW1 := hB.2.2
  rw [ht] at hW1
  exact kk H1 locs1 hf hW1 hS1
end MS
