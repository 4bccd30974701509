section MC
variable {p : Program} {l : Launch} {e : Env} {R : Room} {s : State} {m : MethodId} {args : Array Value} {below : List Frame} {meth : Method} {c : Code} {H : Heap} {locs : List Loc} {cells slots : Nat} {Q : State → Prop}
variable {cc : ByteArray} {pc : Nat} {ls : Array Slot} {rest st0 : List Value} {g : XG} {lo n : Nat} {σ : Mem} {f : Nat → va_E}
def wc (g : XG) (lo n : Nat) (f : Nat → va_E) : va_W := (List.range (n - lo)).map fun i => (bs g (lo + i), f (lo + i))
theorem wc_wl (g : XG) (lo n : Nat) (σ : Mem) : wc g lo n (ct g σ) = wl g lo n σ := rfl
theorem wc_get (g : XG) (f : Nat → va_E) {lo n k : Nat} (h : lo ≤ k ∧ k < n) : (wc g lo n f)[k - lo]? = some (bs g k, f k) := by
  have e : lo + (k - lo) = k := by omega
  rw [wc, List.getElem?_map, List.getElem?_range (by omega)]
  show some (bs g (lo + (k - lo)), f (lo + (k - lo))) = _
  rw [e]
theorem wc_of (g : XG) (f : Nat → va_E) {lo n i : Nat} {q : Nat × va_E} (h : (wc g lo n f)[i]? = some q) : i < n - lo ∧ q = (bs g (lo + i), f (lo + i)) := by
  rw [wc, List.getElem?_map] at h
  by_cases hi : i < n - lo
  · rw [List.getElem?_range hi] at h
    exact ⟨hi, (Option.some.inj h).symm⟩
  · rw [List.getElem?_eq_none (by simp; omega)] at h
    cases h
theorem wc_D (g : XG) (f : Nat → va_E) (lo n : Nat) : va_D (Ag g lo) (wc g lo n f) := by
  refine ⟨fun i j p q hi hj e => ?_, fun i q hi => ?_⟩
  · obtain ⟨-, rfl⟩ := wc_of g f hi
    obtain ⟨-, rfl⟩ := wc_of g f hj
    have := bs_inj g e
    omega
  · obtain ⟨-, rfl⟩ := wc_of g f hi
    show g.2.2.1 + lo ≤ g.2.2.1 + (lo + i)
    omega
theorem wc_at {D : va_G} {cl : List vw_C} (hP : va_P D cl (wc g lo n f) H) {k : Nat} (h : lo ≤ k ∧ k < n) : va_at D cl (bs g k, f k) H := hP (k - lo) _ (wc_get g f h)
theorem wc_mk {D : va_G} {cl : List vw_C} (h : ∀ k, lo ≤ k → k < n → va_at D cl (bs g k, f k) H) : va_P D cl (wc g lo n f) H := by
  intro i q hq
  obtain ⟨hi, rfl⟩ := wc_of g f hq
  exact h _ (by omega) (by omega)
theorem wc_one {D : va_G} {cl : List vw_C} {k : Nat} {x : va_E} (h : va_at D cl (bs g k, x) H) : va_P D cl (wc g k (k + 1) (va_up f k x)) H := by
  refine wc_mk (fun i h1 h2 => ?_)
  obtain rfl : i = k := by omega
  rw [va_up, if_pos rfl]
  exact h
theorem wc_eq {D : va_G} {cl : List vw_C} {f2 : Nat → va_E} (hP : va_P D cl (wc g lo n f) H) (h : ∀ k, lo ≤ k → k < n → f2 k = f k) : va_P D cl (wc g lo n f2) H :=
  wc_mk (fun k h1 h2 => by rw [h k h1 h2]; exact wc_at hP ⟨h1, h2⟩)
theorem wc_set (g : XG) (f : Nat → va_E) {lo n k : Nat} {e : va_E} (h : lo ≤ k ∧ k < n) : (wc g lo n f).set (k - lo) (bs g k, e) = wc g lo n (va_up f k e) := by
  apply List.ext_getElem?
  intro i
  by_cases hi : i = k - lo
  · subst hi
    rw [wc_get g _ h, va_up, if_pos rfl]
    exact List.getElem?_set_self (by rw [wc, List.length_map, List.length_range]; omega)
  · rw [List.getElem?_set_ne (Ne.symm hi), wc, wc, List.getElem?_map, List.getElem?_map]
    by_cases hl : i < n - lo
    · rw [List.getElem?_range hl]
      show some (bs g (lo + i), f (lo + i)) = some (bs g (lo + i), va_up f k e (lo + i))
      rw [va_up, if_neg (by omega)]
    · rw [List.getElem?_eq_none (by simp; omega)]
      rfl
theorem W.szk {fr : JFrame} (k : H.size ≤ s.heap.size + cells → W p l e R s m args below meth c H locs cells slots Q fr) : W p l e R s m args below meth c H locs cells slots Q fr := fun T hT X => k (by rw [← hT]; exact X.heapSize) T hT X
theorem bs_add (g : XG) (a b : Nat) : bs g a + b = bs g (a + b) := Nat.add_assoc _ _ _
theorem wc_size {D : va_G} {cl : List vw_C} (hP : va_P D cl (wc g lo n f) H) (hn : lo < n) (hz : H.size ≤ s.heap.size + cells) (he : s.heap.size + cells = bs g n) : H.size = bs g n := by
  have h1 := (wc_at hP (k := n - 1) ⟨by omega, by omega⟩).lt
  have h2 : bs g (n - 1) + 1 = bs g n := by rw [bs_add]; congr 1; omega
  have h1 : bs g (n - 1) < H.size := h1
  omega
theorem wc_push {D : va_G} {cl : List vw_C} {H1 : Heap} {e : va_E} (hP : va_P D cl (wc g lo n f) H) (ho : ∀ q : Nat, q < H.size → H1[q]? = H[q]?) (he : va_at D cl (bs g n, e) H1) : va_P D cl (wc g lo (n + 1) (va_up f n e)) H1 := by
  refine wc_mk (fun k h1 h2 => ?_)
  by_cases hk : k = n
  · subst hk
    rw [va_up, if_pos rfl]
    exact he
  · rw [va_up, if_neg hk]
    have h3 := wc_at hP (k := k) ⟨h1, by omega⟩
    exact h3.kept (ho _ h3.lt)
/-- a new object of class C -/
theorem cnew (hx : p.tables.exec = Jvm.exec) (hb : c.code = cc) {own C : String} {T : u_T} {N ci index : Nat} (hts : ∀ w ∈ lwg, w.before args s = true) (hin : ∀ w ∈ u_ws C T N, w ∈ lwg) (ty : Nat → FieldType) (hty : ∀ k, k < N → parseFieldDescriptor (T k).2.2.1 = some (ty k)) (hown : s.vm.findClass own = some m.cls) (hcl : Cond.classLink own index C ∈ lwg) (hinst : Cond.instantiable C N ∈ lwg) (hini : Cond.initialized C ∈ lwg)
    (hZ : ZS g s) (hP : va_P g.1 vwCl (wc g lo n f) H) (hn : lo < n) (he : s.heap.size + cells = bs g n) (hS : va_S (Ag g lo) s.heap H locs) (hc : vwCl[ci]? = some (C, T, N)) {fs : List Value} (hfs : ∀ j, j < N → defaultValue (ty j) = vp_V fs j) (hcells : cells + 1 ≤ R.cells) (hslots : slots + N ≤ R.slots) (hdg : decode cc pc = .ok (.new index, 3))
    (kk : ∀ (H1 : Heap), va_P g.1 vwCl (wc g lo (n + 1) (va_up f n (.inr (ci, fs)))) H1 → va_S (Ag g lo) s.heap H1 locs → H1.size = bs g (n + 1) → W p l e R s m args below meth c H1 locs (cells + 1) (slots + N) Q (F0 m (pc + 3) ls (.ref (bs g n) :: rest))) : W p l e R s m args below meth c H locs cells slots Q (F0 m pc ls rest) := by
  refine W.szk (fun hz => ?_)
  have hH := wc_size hP hn hz he
  have hKn := hZ.1.1 ci _ hc
  refine W.newcK hx hb hown (hts _ hcl) (hts _ hinst) (hts _ hini) rfl hdg hcells hslots hKn.2.1 hH fun H1 kC hkC e1 z1 o1 => ?_
  refine kk H1 (wc_push hP (fun q hq => o1 q (by rw [← hH]; exact hq)) ⟨_, hc, (u_born ty hts hin hKn hkC e1 hty).to hfs⟩) ⟨?_, fun x h1 h2 => ?_, hS.2.2⟩ (by rw [z1]; rfl)
  · rw [z1, ← hH]; exact Nat.le_succ_of_le hS.1
  · rw [o1 x (by rw [← hH]; exact Nat.lt_of_lt_of_le h1 hS.1)]; exact hS.2.1 x h1 h2

theorem cna_i (hx : p.tables.exec = Jvm.exec) (hb : c.code = cc) (hts : ∀ w ∈ lwg, w.before args s = true) (harr : Cond.arrayClass .int ∈ lwg) (hZ : ZS g s) (hP : va_P g.1 vwCl (wc g lo n f) H) (hn : lo < n) (he : s.heap.size + cells = bs g n) (hS : va_S (Ag g lo) s.heap H locs) {z : Int32} {N : Nat} (hz0 : ¬ z < 0) (hN : z.toNatClampNeg = N) (hbytes : N * 8 ≤ 536870912) (hcells : cells + 1 ≤ R.cells) (hslots : slots + N ≤ R.slots) (hdg : decode cc pc = .ok (.newarray .int, 2))
    (kk : ∀ (H1 : Heap), va_P g.1 vwCl (wc g lo (n + 1) (va_up f n (.inl (xI g, N, .inl (fun _ => 0))))) H1 → va_S (Ag g lo) s.heap H1 locs → H1.size = bs g (n + 1) → W p l e R s m args below meth c H1 locs (cells + 1) (slots + N) Q (F0 m (pc + 2) ls (.ref (bs g n) :: rest))) : W p l e R s m args below meth c H locs cells slots Q (F0 m pc ls (.int z :: rest)) := by
  refine W.szk (fun hz => ?_)
  have hH := wc_size hP hn hz he
  refine va_newaK (atype := .int) hx hb (hts _ harr) rfl hdg rfl hz0 hN (Nat.le_trans (Nat.mul_le_mul_left _ (by decide)) hbytes) hcells hslots hH fun H1 cA e1 z1 o1 hAr hNm => ?_
  have hcA : cA = xI g := Option.some.inj (hNm.symm.trans (hZ.1.2 0 _ rfl).2)
  subst hcA
  refine kk H1 (wc_push hP (fun q hq => o1 q (by rw [← hH]; exact hq)) e1) ⟨?_, fun x h1 h2 => ?_, hS.2.2⟩ (by rw [z1]; rfl)
  · rw [z1, ← hH]; exact Nat.le_succ_of_le hS.1
  · rw [o1 x (by rw [← hH]; exact Nat.lt_of_lt_of_le h1 hS.1)]; exact hS.2.1 x h1 h2
theorem cna_b (hx : p.tables.exec = Jvm.exec) (hb : c.code = cc) (hts : ∀ w ∈ lwg, w.before args s = true) (harr : Cond.arrayClass .byte ∈ lwg) (hZ : ZS g s) (hP : va_P g.1 vwCl (wc g lo n f) H) (hn : lo < n) (he : s.heap.size + cells = bs g n) (hS : va_S (Ag g lo) s.heap H locs) {z : Int32} {N : Nat} (hz0 : ¬ z < 0) (hN : z.toNatClampNeg = N) (hbytes : N * 8 ≤ 536870912) (hcells : cells + 1 ≤ R.cells) (hslots : slots + N ≤ R.slots) (hdg : decode cc pc = .ok (.newarray .byte, 2))
    (kk : ∀ (H1 : Heap), va_P g.1 vwCl (wc g lo (n + 1) (va_up f n (.inl (xB g, N, .inl (fun _ => 0))))) H1 → va_S (Ag g lo) s.heap H1 locs → H1.size = bs g (n + 1) → W p l e R s m args below meth c H1 locs (cells + 1) (slots + N) Q (F0 m (pc + 2) ls (.ref (bs g n) :: rest))) : W p l e R s m args below meth c H locs cells slots Q (F0 m pc ls (.int z :: rest)) := by
  refine W.szk (fun hz => ?_)
  have hH := wc_size hP hn hz he
  refine va_newaK (atype := .byte) hx hb (hts _ harr) rfl hdg rfl hz0 hN (Nat.le_trans (Nat.mul_le_mul_left _ (by decide)) hbytes) hcells hslots hH fun H1 cA e1 z1 o1 hAr hNm => ?_
  have hcA : cA = xB g := Option.some.inj (hNm.symm.trans (hZ.1.2 1 _ rfl).2)
  subst hcA
  refine kk H1 (wc_push hP (fun q hq => o1 q (by rw [← hH]; exact hq)) e1) ⟨?_, fun x h1 h2 => ?_, hS.2.2⟩ (by rw [z1]; rfl)
  · rw [z1, ← hH]; exact Nat.le_succ_of_le hS.1
  · rw [o1 x (by rw [← hH]; exact Nat.lt_of_lt_of_le h1 hS.1)]; exact hS.2.1 x h1 h2
theorem cna_l (hx : p.tables.exec = Jvm.exec) (hb : c.code = cc) (hts : ∀ w ∈ lwg, w.before args s = true) (harr : Cond.arrayClass .long ∈ lwg) (hZ : ZS g s) (hP : va_P g.1 vwCl (wc g lo n f) H) (hn : lo < n) (he : s.heap.size + cells = bs g n) (hS : va_S (Ag g lo) s.heap H locs) {z : Int32} {N : Nat} (hz0 : ¬ z < 0) (hN : z.toNatClampNeg = N) (hbytes : N * 8 ≤ 536870912) (hcells : cells + 1 ≤ R.cells) (hslots : slots + N ≤ R.slots) (hdg : decode cc pc = .ok (.newarray .long, 2))
    (kk : ∀ (H1 : Heap), va_P g.1 vwCl (wc g lo (n + 1) (va_up f n (.inl (xJ g, N, .inr (.inl (fun _ => 0)))))) H1 → va_S (Ag g lo) s.heap H1 locs → H1.size = bs g (n + 1) → W p l e R s m args below meth c H1 locs (cells + 1) (slots + N) Q (F0 m (pc + 2) ls (.ref (bs g n) :: rest))) : W p l e R s m args below meth c H locs cells slots Q (F0 m pc ls (.int z :: rest)) := by
  refine W.szk (fun hz => ?_)
  have hH := wc_size hP hn hz he
  refine va_newaK (atype := .long) hx hb (hts _ harr) rfl hdg rfl hz0 hN (Nat.le_trans (Nat.mul_le_mul_left _ (by decide)) hbytes) hcells hslots hH fun H1 cA e1 z1 o1 hAr hNm => ?_
  have hcA : cA = xJ g := Option.some.inj (hNm.symm.trans (hZ.1.2 2 _ rfl).2)
  subst hcA
  refine kk H1 (wc_push hP (fun q hq => o1 q (by rw [← hH]; exact hq)) e1) ⟨?_, fun x h1 h2 => ?_, hS.2.2⟩ (by rw [z1]; rfl)
  · rw [z1, ← hH]; exact Nat.le_succ_of_le hS.1
  · rw [o1 x (by rw [← hH]; exact Nat.lt_of_lt_of_le h1 hS.1)]; exact hS.2.1 x h1 h2
theorem cna_q (hx : p.tables.exec = Jvm.exec) (hb : c.code = cc) {own : String} {index : Nat} (hts : ∀ w ∈ lwg, w.before args s = true) (hown : s.vm.findClass own = some m.cls) (hcl : Cond.classLink own index RX9 ∈ lwg) (hover : (Cond.arrayOver (.object RX9)).before #[] s = true) (hZ : ZS g s) (hP : va_P g.1 vwCl (wc g lo n f) H) (hn : lo < n) (he : s.heap.size + cells = bs g n) (hS : va_S (Ag g lo) s.heap H locs) {z : Int32} {N : Nat} (hz0 : ¬ z < 0) (hN : z.toNatClampNeg = N) (hbytes : N * 8 ≤ 536870912) (hcells : cells + 1 ≤ R.cells) (hslots : slots + N ≤ R.slots) (hdg : decode cc pc = .ok (.anewarray index, 3))
    (kk : ∀ (H1 : Heap), va_P g.1 vwCl (wc g lo (n + 1) (va_up f n (.inl (xO g, N, .inr (.inr (.inr (.inr (fun _ => none)))))))) H1 → va_S (Ag g lo) s.heap H1 locs → H1.size = bs g (n + 1) → W p l e R s m args below meth c H1 locs (cells + 1) (slots + N) Q (F0 m (pc + 3) ls (.ref (bs g n) :: rest))) : W p l e R s m args below meth c H locs cells slots Q (F0 m pc ls (.int z :: rest)) := by
  refine W.szk (fun hz => ?_)
  have hH := wc_size hP hn hz he
  subst hN
  refine W.anew hx hb hown (hts _ hcl) (va_AO.use hover) rfl hdg rfl hz0 (Nat.le_trans (Nat.mul_le_mul_left _ (by decide)) hbytes) hcells hslots fun cA kA comp f1 f2 f3 f4 => ?_
  generalize hH1 : H.push ({ cls := cA, slots := Array.replicate z.toNatClampNeg .null, vm := .none } : Cell) = H1
  have z1 : H1.size = H.size + 1 := by rw [← hH1, Array.size_push]
  have e1 : H1[H.size]? = some (arrV cA z.toNatClampNeg (fun _ => .null)) := by rw [← hH1, Array.getElem?_push_size, ← arrV_new]
  have o1 : ∀ q : Nat, q < H.size → H1[q]? = H[q]? := fun q hq => by rw [← hH1, Array.getElem?_push, if_neg (Nat.ne_of_lt hq)]
  have hcA : cA = xO g := by
    obtain ⟨-, kA2, comp2, q1, q2, q3, q4⟩ := hZ.1.2 3 _ rfl
    exact Option.some.inj (f1.symm.trans q4)
  subst hcA
  rw [hH] at e1 z1 o1 ⊢
  refine kk H1 (wc_push hP (fun q hq => o1 q (by rw [← hH]; exact hq)) e1) ⟨?_, fun x h1 h2 => ?_, hS.2.2⟩ (by rw [z1]; rfl)
  · rw [z1, ← hH]; exact Nat.le_succ_of_le hS.1
  · rw [o1 x (by rw [← hH]; exact Nat.lt_of_lt_of_le h1 hS.1)]; exact hS.2.1 x h1 h2
theorem cputF (hx : p.tables.exec = Jvm.exec) (hb : c.code = cc) {own C : String} {T : u_T} {N ci index : Nat} (hts : ∀ w ∈ lwg, w.before args s = true) (hin : ∀ w ∈ u_ws C T N, w ∈ lwg) (ty0 : Nat → FieldType) (hty : ∀ k, k < N → parseFieldDescriptor (T k).2.2.1 = some (ty0 k)) (hnm : ∀ a, a < N → ∀ b, b < N → a ≠ b → (T a).2.1 ≠ (T b).2.1) (hown : s.vm.findClass own = some m.cls)
    (hZ : ZS g s) (hP : va_P g.1 vwCl (wc g lo n f) H) (hS : va_S (Ag g lo) s.heap H locs) {k : Nat} (hk : lo ≤ k ∧ k < n) {fs : List Value} (hf : f k = .inr (ci, fs)) (hc : vwCl[ci]? = some (C, T, N)) (j : Nat) (hj : j < N) (hlink : Cond.fieldLink own index C (T j).2.1 (T j).2.2.1 ∈ lwg) (hsame : (T j).1 = C) (hin2 : meth.name = "<init>") (hfin : (T j).2.2.2 = true) (hdecl : (T j).1 = own) {v : Value} (hn : narrow (ty0 j) v = v) (hfit : fits (ty0 j) v = true) (hl : j < fs.length) (hdg : decode cc pc = .ok (.putfield index, 3))
    (kk : ∀ (H1 : Heap) (locs1 : List Loc), va_P g.1 vwCl (wc g lo n (va_up f k (.inr (ci, fs.set j v)))) H1 → va_S (Ag g lo) s.heap H1 locs1 → W p l e R s m args below meth c H1 locs1 cells slots Q (F0 m (pc + 3) ls rest)) : W p l e R s m args below meth c H locs cells slots Q (F0 m pc ls (v :: .ref (bs g k) :: rest)) := by
  refine va_putF hx hb hts hin ty0 hty hnm hown hZ.1 hP (wc_D g f lo n) hS (k - lo) (by rw [wc_get g f hk, hf]) hc j hj (hts _ hlink) (fun x h => by rw [hsame] at h; exact h) hfin hin2 hdecl (hty j hj) hn hfit hl hdg (fun H1 locs1 hP1 hD1 hS1 => kk H1 locs1 ?_ hS1)
  rw [← wc_set g f hk]
  exact hP1
theorem cput (hx : p.tables.exec = Jvm.exec) (hb : c.code = cc) {own C : String} {T : u_T} {N ci index : Nat} (hts : ∀ w ∈ lwg, w.before args s = true) (hin : ∀ w ∈ u_ws C T N, w ∈ lwg) (ty0 : Nat → FieldType) (hty : ∀ k, k < N → parseFieldDescriptor (T k).2.2.1 = some (ty0 k)) (hnm : ∀ a, a < N → ∀ b, b < N → a ≠ b → (T a).2.1 ≠ (T b).2.1) (hown : s.vm.findClass own = some m.cls)
    (hZ : ZS g s) (hP : va_P g.1 vwCl (wc g lo n f) H) (hS : va_S (Ag g lo) s.heap H locs) {k : Nat} (hk : lo ≤ k ∧ k < n) {fs : List Value} (hf : f k = .inr (ci, fs)) (hc : vwCl[ci]? = some (C, T, N)) (j : Nat) (hj : j < N) (hlink : Cond.fieldLink own index C (T j).2.1 (T j).2.2.1 ∈ lwg) (hsame : (T j).1 = C) (hfin : (T j).2.2.2 = false) {v : Value} (hn : narrow (ty0 j) v = v) (hfit : fits (ty0 j) v = true) (hl : j < fs.length) (hdg : decode cc pc = .ok (.putfield index, 3))
    (kk : ∀ (H1 : Heap) (locs1 : List Loc), va_P g.1 vwCl (wc g lo n (va_up f k (.inr (ci, fs.set j v)))) H1 → va_S (Ag g lo) s.heap H1 locs1 → W p l e R s m args below meth c H1 locs1 cells slots Q (F0 m (pc + 3) ls rest)) : W p l e R s m args below meth c H locs cells slots Q (F0 m pc ls (v :: .ref (bs g k) :: rest)) := by
  refine va_put hx hb hts hin ty0 hty hnm hown hZ.1 hP (wc_D g f lo n) hS (k - lo) (by rw [wc_get g f hk, hf]) hc j hj (hts _ hlink) (fun x h => by rw [hsame] at h; exact h) hfin (hty j hj) hn hfit hl hdg (fun H1 locs1 hP1 hD1 hS1 => kk H1 locs1 ?_ hS1)
  rw [← wc_set g f hk]
  exact hP1
theorem cget (hx : p.tables.exec = Jvm.exec) (hb : c.code = cc) {own C : String} {T : u_T} {N ci index : Nat} (hts : ∀ w ∈ lwg, w.before args s = true) (hin : ∀ w ∈ u_ws C T N, w ∈ lwg) (hown : s.vm.findClass own = some m.cls) (hZ : ZS g s) (hP : va_P g.1 vwCl (wc g lo n f) H) {k : Nat} (hk : lo ≤ k ∧ k < n) {fs : List Value} (hf : f k = .inr (ci, fs)) (hc : vwCl[ci]? = some (C, T, N)) (j : Nat) (hj : j < N) (hlink : Cond.fieldLink own index C (T j).2.1 (T j).2.2.1 ∈ lwg) (hsame : (T j).1 = C) {v : Value} (hv : fs[j]? = some v) (hdg : decode cc pc = .ok (.getfield index, 3)) (kk : W p l e R s m args below meth c H locs cells slots Q (F0 m (pc + 3) ls (v :: rest))) : W p l e R s m args below meth c H locs cells slots Q (F0 m pc ls (.ref (bs g k) :: rest)) :=
  va_get hx hb hts hin hown hZ.1 hP (k - lo) (by rw [wc_get g f hk, hf]) hc j hj (hts _ hlink) (fun x h => by rw [hsame] at h; exact h) hv hdg kk
/-- behind a call that works from place k2 on -/
theorem cglue {D : va_G} {cl : List vw_C} {f2 : Nat → va_E} {H1 : Heap} {k2 n2 : Nat} (hP : va_P D cl (wc g lo n f) H) (hk : k2 ≤ n) (ho : ∀ q : Nat, q < H.size → ¬ Ag g k2 q → H1[q]? = H[q]?) (hP1 : va_P D cl (wc g k2 n2 f2) H1) : va_P D cl (wc g lo n2 (fun i => if i < k2 then f i else f2 i)) H1 := by
  refine wc_mk (fun k h1 h2 => ?_)
  by_cases h : k < k2
  · show va_at D cl (bs g k, if k < k2 then f k else f2 k) H1
    rw [if_pos h]
    have h3 := wc_at hP (k := k) ⟨h1, by omega⟩
    refine h3.kept (ho _ h3.lt (fun q => ?_))
    have q : g.2.2.1 + k2 ≤ g.2.2.1 + k := q
    omega
  · show va_at D cl (bs g k, if k < k2 then f k else f2 k) H1
    rw [if_neg h]
    exact wc_at hP1 ⟨by omega, h2⟩
def Z0 : Mem := (fun _ _ => 0, fun _ _ => 0, fun _ _ => none)
/-- nothing is written from place k on -/
def ZA (k : Nat) (σ : Mem) : Prop := ∀ a, k ≤ a → σ.1 a = (fun _ => 0) ∧ σ.2.1 a = (fun _ => 0) ∧ σ.2.2 a = (fun _ => none)
end MC
section MC2
variable {p : Program} {l : Launch} {e : Env} {R : Room} {s : State} {m : MethodId} {args : Array Value} {below : List Frame} {meth : Method} {c : Code} {H : Heap} {locs : List Loc} {cells slots : Nat} {Q : State → Prop}
variable {cc : ByteArray} {pc : Nat} {ls : Array Slot} {rest st0 : List Value} {g : XG} {lo n k : Nat} {σ : Mem} {f : Nat → va_E} {x : va_E}
theorem aln_sub {c a off N : Nat} (h : K0 a = c) (ho : ((List.range 81).all (fun a => K0 a != c || aln (a + off) == N) && c != 99) = true) : aln (a + off) = N := by
  simp only [Bool.and_eq_true, bne_iff_ne, ne_eq] at ho
  have h4 := List.all_eq_true.mp ho.1 a (List.mem_range.mpr (K0_lt h ho.2))
  simp only [Bool.or_eq_true, bne_iff_ne, ne_eq, beq_iff_eq] at h4
  exact h4.resolve_left (fun q => q h)
/-- the own object at place k, all else complete -/
def cfw (g : XG) (lo n k : Nat) (σ : Mem) (f : Nat → va_E) (x : va_E) : Prop := f k = x ∧ (k < n ∧ lo ≤ k) ∧ ∀ i, lo ≤ i → i < n → i ≠ k → f i = ct g σ i
theorem cfw.push {y : va_E} (h : cfw g lo n k σ f x) (hy : ct g σ n = y) : cfw g lo (n + 1) k σ (va_up f n y) x := by
  obtain ⟨h1, ⟨h2, h4⟩, h3⟩ := h
  refine ⟨by rw [va_up, if_neg (by omega)]; exact h1, ⟨by omega, h4⟩, fun i a b d => ?_⟩
  by_cases hi : i = n
  · rw [va_up, if_pos hi, hi, hy]
  · rw [va_up, if_neg hi]; exact h3 i a (by omega) d
theorem cfw.put {y : va_E} (h : cfw g lo n k σ f x) : cfw g lo n k σ (va_up f k y) y := by
  obtain ⟨h1, h2, h3⟩ := h
  exact ⟨if_pos rfl, h2, fun i a b d => by rw [va_up, if_neg d]; exact h3 i a b d⟩
theorem cfw.start (h : lo ≤ k) (y : va_E) : cfw g lo (k + 1) k σ (va_up (ct g σ) k y) y := ⟨if_pos rfl, ⟨Nat.lt_succ_self k, h⟩, fun i a b d => by rw [va_up, if_neg d]⟩
theorem cfw.done {D : va_G} {cl : List vw_C} (h : cfw g lo n k σ f x) (hx : x = ct g σ k) (hP : va_P D cl (wc g lo n f) H) : va_P D cl (wl g lo n σ) H := by
  rw [← wc_wl]
  refine wc_eq hP (fun i a b => ?_)
  by_cases hi : i = k
  · rw [hi, h.1, hx]
  · rw [h.2.2 i a b hi]
theorem cfw.done2 {D : va_G} {cl : List vw_C} (h : cfw g lo n k σ f x) (τ : Mem) (hx : x = ct g τ k) (ho : ∀ i, i ≠ k → ct g τ i = ct g σ i) (hP : va_P D cl (wc g lo n f) H) : va_P D cl (wl g lo n τ) H := by
  rw [← wc_wl]
  refine wc_eq hP (fun i a b => ?_)
  by_cases hi : i = k
  · rw [hi, h.1, hx]
  · rw [h.2.2 i a b hi, ho i hi]
theorem cfw.glue {D : va_G} {cl : List vw_C} {H1 : Heap} {k2 n2 : Nat} {τ : Mem} (h : cfw g lo n k σ f x) (hk : k < k2) (h2 : k2 ≤ n) (hn2 : k < n2) (hP : va_P D cl (wc g lo n f) H) (ho : ∀ q : Nat, q < H.size → ¬ Ag g k2 q → H1[q]? = H[q]?) (hP1 : va_P D cl (wl g k2 n2 τ) H1) (hs : ∀ i, i < k2 → i ≠ k → lo ≤ i → ct g τ i = ct g σ i) : ∃ f1 : Nat → va_E, cfw g lo n2 k τ f1 x ∧ va_P D cl (wc g lo n2 f1) H1 := by
  refine ⟨fun i => if i < k2 then f i else ct g τ i, ⟨(if_pos hk).trans h.1, ⟨hn2, h.2.1.2⟩, fun i a b d => ?_⟩, cglue (f2 := ct g τ) hP h2 ho hP1⟩
  by_cases hi : i < k2
  · exact (if_pos hi).trans ((h.2.2 i a (by omega) d).trans (hs i hi d a).symm)
  · exact if_neg hi
theorem cfw.sub {D : va_G} {cl : List vw_C} {y : va_E} {lo2 : Nat} (h : cfw g lo n k σ f x) (hk : k < lo2) (hl : lo ≤ lo2) (hP : va_P D cl (wc g lo (n + 1) (va_up f n y)) H) : va_P D cl (wc g lo2 (n + 1) (va_up (ct g σ) n y)) H := by
  refine wc_mk (fun i a b => ?_)
  have h3 := wc_at hP (k := i) ⟨Nat.le_trans hl a, b⟩
  by_cases hi : i = n
  · rw [va_up, if_pos hi] at h3 ⊢; exact h3
  · rw [va_up, if_neg hi] at h3 ⊢
    rw [← h.2.2 i (Nat.le_trans hl a) (by omega) (by omega)]
    exact h3
theorem cfw.cut {D : va_G} {cl : List vw_C} {y : va_E} (hP : va_P D cl (wc g lo (n + 1) (va_up f n y)) H) : va_P D cl (wc g lo n f) H :=
  wc_mk (fun i h1 h2 => by have h3 := wc_at hP (k := i) ⟨h1, by omega⟩; rw [va_up, if_neg (by omega)] at h3; exact h3)
theorem TRz (h : TR lo k σ) (hz : ZA k σ) (n : Nat) (hn : k ≤ n) : TR lo n σ := by
  intro a j T h1 h2 h3
  by_cases ha : a < k
  · obtain ⟨q1, q2⟩ := h a j T h1 ha h3
    exact ⟨fun w => ⟨(q1 w).1, (q1 w).2.1, Nat.le_trans (q1 w).2.2 hn⟩, fun w => ⟨(q2 w).1, (q2 w).2.1, Nat.le_trans (q2 w).2.2 hn⟩⟩
  · rw [(hz a (by omega)).2.2] at h3; cases h3
theorem ctz_20 (hz : ZA k σ) {N off : Nat} (hK : K0 (k + off) = 20) (ha : aln (k + off) = N) : ct g σ (k + off) = .inl (xI g, N, .inl (fun _ => 0)) := by rw [ct_20 g σ hK, ha, (hz (k + off) (Nat.le_add_right _ _)).1]
theorem ctz_21 (hz : ZA k σ) {N off : Nat} (hK : K0 (k + off) = 21) (ha : aln (k + off) = N) : ct g σ (k + off) = .inl (xB g, N, .inl (fun _ => 0)) := by rw [ct_21 g σ hK, ha, (hz (k + off) (Nat.le_add_right _ _)).1]
theorem ctz_22 (hz : ZA k σ) {N off : Nat} (hK : K0 (k + off) = 22) (ha : aln (k + off) = N) : ct g σ (k + off) = .inl (xJ g, N, .inr (.inl (fun _ => 0))) := by rw [ct_22 g σ hK, ha, (hz (k + off) (Nat.le_add_right _ _)).2.1]
theorem ZA.up (hz : ZA k σ) {j : Nat} (h : k ≤ j) : ZA j σ := fun a ha => hz a (Nat.le_trans h ha)
/-- what a constructor finds -/
def CP (g : XG) (lo k : Nat) (σ : Mem) (y : va_E) (U : State) : Prop := ZS g U ∧ ST g U U.heap ∧ U.heap.size = bs g (k + 1) ∧ va_P g.1 vwCl (wc g lo (k + 1) (va_up (ct g σ) k y)) U.heap ∧ TR lo k σ ∧ (Cond.arrayOver (.object RX9)).before #[] U = true
theorem CP.blind (g : XG) (lo k : Nat) (σ : Mem) (y : va_E) (av : List Value) : FrameBlind (va_Pc av (CP g lo k σ y)) := by
  intro a U fr mk h
  obtain ⟨h1, ⟨h2, h3⟩, h4, h5, h6, h7, h8⟩ := h
  exact ⟨h1, ⟨va_K.moved (u := U) (U := U.calling fr mk a) (Vm.Alike.refl U.vm) h2, NU.same (u := U) (U := U.calling fr mk a) rfl h3⟩, ST.moved (u := U) (U := U.calling fr mk a) (Vm.Alike.refl U.vm) h4, h5, h6, h7, va_AO.moved (u := U) (U := U.calling fr mk a) (Vm.Alike.refl U.vm) h8⟩
end MC2
theorem agle (g : XG) {lo lo2 : Nat} (h : lo ≤ lo2) (q : Nat) (hq : Ag g lo2 q) : Ag g lo q := Nat.le_trans (Nat.add_le_add_left h _) hq
