/-- an int of 32 bits from a whole number -/
def zI (n : Int) : Int32 := Int32.ofInt n
theorem zI_nI (n : Nat) : nI n = zI n := (Int32.ofInt_eq_ofNat (n := n)).symm
theorem zI_lit (n : Nat) : (no_index (OfNat.ofNat n) : Int32) = zI (OfNat.ofNat n : Int) := (Int32.ofInt_eq_ofNat (n := n)).symm
theorem zI_add (a b : Int) : zI a + zI b = zI (a + b) := (Int32.ofInt_add a b).symm
theorem zI_mul (a b : Int) : zI a * zI b = zI (a * b) := (Int32.ofInt_mul a b).symm
theorem zI_sub (a b : Int) : zI a - zI b = zI (a - b) := (Int32.ofInt_sub a b).symm
theorem zI_neg (a : Int) : - zI a = zI (-a) := (Int32.ofInt_neg a).symm
theorem zI_int {a : Int} (h : -2147483648 ≤ a ∧ a < 2147483648) : (zI a).toInt = a := Int32.toInt_ofInt_of_le (by omega) (by omega)
theorem zI_lt {a b : Int} (ha : -2147483648 ≤ a ∧ a < 2147483648) (hb : -2147483648 ≤ b ∧ b < 2147483648) : (zI a < zI b) ↔ a < b := by
  rw [Int32.lt_iff_toInt_lt, zI_int ha, zI_int hb]
theorem zI_le {a b : Int} (ha : -2147483648 ≤ a ∧ a < 2147483648) (hb : -2147483648 ≤ b ∧ b < 2147483648) : (zI a ≤ zI b) ↔ a ≤ b := by
  rw [Int32.le_iff_toInt_le, zI_int ha, zI_int hb]
theorem zI_eq {a b : Int} (ha : -2147483648 ≤ a ∧ a < 2147483648) (hb : -2147483648 ≤ b ∧ b < 2147483648) : (zI a = zI b) ↔ a = b := by
  rw [← Int32.toInt_inj, zI_int ha, zI_int hb]
theorem zI_nat {a : Int} (ha : -2147483648 ≤ a ∧ a < 2147483648) : (zI a).toNatClampNeg = a.toNat := Int32.toNatClampNeg_ofInt_of_le (by omega) (by omega)
theorem zI_div {a b : Int} (ha : -2147483648 ≤ a ∧ a < 2147483648) (hb : -2147483648 ≤ b ∧ b < 2147483648) : zI a / zI b = zI (a.tdiv b) := by
  refine (Int32.ofInt_tdiv ?_ ?_ ?_ ?_).symm <;> first | rw [show Int32.minValue.toInt = -2147483648 from by decide]; omega | rw [show Int32.maxValue.toInt = 2147483647 from by decide]; omega
theorem zI_mod {a b : Int} (ha : -2147483648 ≤ a ∧ a < 2147483648) (hb : -2147483648 ≤ b ∧ b < 2147483648) : zI a % zI b = zI (a.tmod b) := by
  refine (Int32.ofInt_tmod ?_ ?_ ?_ ?_).symm <;> first | rw [show Int32.minValue.toInt = -2147483648 from by decide]; omega | rw [show Int32.maxValue.toInt = 2147483647 from by decide]; omega
theorem zI_all (x : Int32) : x = zI x.toInt := (Int32.ofInt_toInt x).symm
theorem zI_rng (x : Int32) : -2147483648 ≤ x.toInt ∧ x.toInt < 2147483648 := ⟨Int32.le_toInt x, Int32.toInt_lt x⟩
/-- bits -/
theorem zI_bv (a : Nat) : (zI a).toBitVec = BitVec.ofNat 32 a := by
  rw [← zI_nI]; rfl
theorem zI_or (a b : Nat) : zI a ||| zI b = zI ((a ||| b : Nat)) := by
  apply Int32.toBitVec_inj.1
  rw [Int32.toBitVec_or, zI_bv, zI_bv, zI_bv]
  apply BitVec.eq_of_toNat_eq; simp [Nat.or_mod_two_pow]
theorem zI_and (a b : Nat) : zI a &&& zI b = zI ((a &&& b : Nat)) := by
  apply Int32.toBitVec_inj.1
  rw [Int32.toBitVec_and, zI_bv, zI_bv, zI_bv]
  apply BitVec.eq_of_toNat_eq; simp [Nat.and_mod_two_pow]
theorem zI_xor (a b : Nat) : zI a ^^^ zI b = zI ((a ^^^ b : Nat)) := by
  apply Int32.toBitVec_inj.1
  rw [Int32.toBitVec_xor, zI_bv, zI_bv, zI_bv]
  apply BitVec.eq_of_toNat_eq; simp [Nat.xor_mod_two_pow]
theorem upd_self (f : Nat → Int32) (k : Nat) (v : Int32) : upd f k v k = v := if_pos rfl
theorem upd_ne (f : Nat → Int32) {k j : Nat} (v : Int32) (h : j ≠ k) : upd f k v j = f j := if_neg h
theorem sI_1 (σ : Mem) (a j : Nat) (v : Int32) (b i : Nat) : (sI σ a j v).1 b i = if b = a ∧ i = j then v else σ.1 b i := by
  by_cases h : b = a
  · subst h
    by_cases h2 : i = j
    · subst h2; simp [sI, upd]
    · simp [sI, upd, h2]
  · simp [sI, h]
theorem sI_2 (σ : Mem) (a j : Nat) (v : Int32) : (sI σ a j v).2 = σ.2 := rfl
theorem sL_1 (σ : Mem) (a j : Nat) (v : Int64) : (sL σ a j v).1 = σ.1 := rfl
theorem sL_R (σ : Mem) (a j : Nat) (v : Int64) : (sL σ a j v).2.2 = σ.2.2 := rfl
theorem sL_2 (σ : Mem) (a j : Nat) (v : Int64) (b i : Nat) : (sL σ a j v).2.1 b i = if b = a ∧ i = j then v else σ.2.1 b i := by
  by_cases h : b = a
  · subst h
    by_cases h2 : i = j
    · subst h2; simp [sL, vp_updL]
    · simp [sL, vp_updL, h2]
  · simp [sL, h]
theorem sR_1 (σ : Mem) (a j : Nat) (v : Option Nat) : (sR σ a j v).1 = σ.1 := rfl
theorem sR_L (σ : Mem) (a j : Nat) (v : Option Nat) : (sR σ a j v).2.1 = σ.2.1 := rfl
theorem sR_2 (σ : Mem) (a j : Nat) (v : Option Nat) (b i : Nat) : (sR σ a j v).2.2 b i = if b = a ∧ i = j then v else σ.2.2 b i := by
  by_cases h : b = a
  · subst h
    by_cases h2 : i = j
    · subst h2; simp [sR, va_up]
    · simp [sR, va_up, h2]
  · simp [sR, h]
theorem sA_1 (σ : Mem) (a : Nat) (f : Nat → Int32) (b : Nat) : (sA σ a f).1 b = if b = a then f else σ.1 b := rfl
theorem sA_2 (σ : Mem) (a : Nat) (f : Nat → Int32) : (sA σ a f).2 = σ.2 := rfl
/-- joins and the like, unfolded -/
theorem jn0_e {β : Type} (k : Option β) (b : Option β → Option β) : jn0 k b = b k := rfl
theorem jn1_e {A1 β : Type} (k : A1 → Option β) (b : (A1 → Option β) → Option β) : jn1 k b = b k := rfl
theorem jn2_e {A1 A2 β : Type} (k : A1 → A2 → Option β) (b : (A1 → A2 → Option β) → Option β) : jn2 k b = b k := rfl
theorem pnm_e {α β : Type} (a : α) (k : α → Option β) : nm a k = k a := rfl
theorem pbd1_s {α β : Type} (a : α) (k : α → Option β) : bd1 (some a) k = k a := rfl
theorem pbd2_s {α β : Type} (a : α) (σ : Mem) (k : α → Mem → Option β) : bd2 (some (a, σ)) k = k a σ := rfl
theorem prfc_s {β : Type} (T : Nat) (k : Nat → Option β) : rfc (some T) k = k T := rfl
theorem onm_sm {β : Type} (T : Nat) (a : Option β) (k : Nat → Option β) : onm (some T) a k = k T := rfl
theorem onm_nn {β : Type} (a : Option β) (k : Nat → Option β) : onm none a k = a := rfl
theorem ixd_in {β : Type} {i : Int} {n : Nat} {k : Option β} (h : 0 ≤ i ∧ i < n ∧ n ≤ 2000000) : ixd (zI i) n k = k := by
  have h0 : (0 : Int32) = zI 0 := zI_lit 0
  rw [ixd, if_neg]
  rw [h0, zI_lt (by omega) (by omega), zI_nat (by omega)]
  omega
theorem dvd_ne {β : Type} {y : Int} {k : Option β} (h : y ≠ 0 ∧ -2147483648 ≤ y ∧ y < 2147483648) : dvd (zI y) k = k := by
  have h0 : (0 : Int32) = zI 0 := zI_lit 0
  rw [dvd, if_neg]
  rw [h0, zI_eq (by omega) (by omega)]
  omega
def bI (b : Bool) : Int32 := if b then 1 else 0
theorem bI_t : bI true = 1 := rfl
theorem bI_f : bI false = 0 := rfl
theorem f_inside (a b : Int) (ha : -2147483648 ≤ a ∧ a < 2147483648) (hb : -2147483648 ≤ b ∧ b < 2147483648) : f_X12_inside (zI a) (zI b) = some (bI (decide (0 ≤ a ∧ a < b))) := by
  unfold f_X12_inside
  simp (disch := omega) only [jn0_e, jn1_e, jn2_e, pnm_e, pbd1_s, pbd2_s, prfc_s, onm_sm, onm_nn, zI_lit, zI_nI, zI_add, zI_sub, zI_mul, zI_neg, zI_lt, zI_le, zI_eq, zI_nat, zI_div, zI_mod, ixd_in, dvd_ne]
  by_cases h1 : a < 0
  · rw [if_pos h1, decide_eq_false (by omega)]; rfl
  · rw [if_neg h1]
    by_cases h2 : b ≤ a
    · rw [if_pos h2, decide_eq_false (by omega)]; rfl
    · rw [if_neg h2, decide_eq_true (by omega)]; rfl
theorem f_get (σ : Mem) (a : Nat) (i : Int) (hi : -2147483648 ≤ i ∧ i < 2147483648) (hn : aln a ≤ 2000000) : f_X12_get σ a (zI i) = some (if 0 ≤ i ∧ i < aln a then σ.1 a i.toNat else 0) := by
  unfold f_X12_get
  simp (disch := omega) only [jn0_e, jn1_e, jn2_e, pnm_e, pbd1_s, pbd2_s, prfc_s, onm_sm, onm_nn, zI_lit, zI_nI, zI_add, zI_sub, zI_mul, zI_neg, zI_lt, zI_le, zI_eq, zI_nat, zI_div, zI_mod, ixd_in, dvd_ne]
  by_cases h1 : i < 0
  · rw [if_pos h1, if_neg (by omega)]
  · rw [if_neg h1]
    by_cases h2 : i < aln a
    · rw [if_neg (by omega), if_pos (by omega)]
    · rw [if_pos (by omega), if_neg (by omega)]
theorem f_set (σ : Mem) (a : Nat) (i : Int) (v : Int32) (hi : -2147483648 ≤ i ∧ i < 2147483648) (hn : aln a ≤ 2000000) : f_X12_set σ a (zI i) v = some (if 0 ≤ i ∧ i < aln a then sI σ a i.toNat v else σ) := by
  unfold f_X12_set
  simp (disch := omega) only [jn0_e, jn1_e, jn2_e, pnm_e, pbd1_s, pbd2_s, prfc_s, onm_sm, onm_nn, zI_lit, zI_nI, zI_add, zI_sub, zI_mul, zI_neg, zI_lt, zI_le, zI_eq, zI_nat, zI_div, zI_mod, ixd_in, dvd_ne]
  by_cases h1 : i < 0
  · rw [if_pos h1, if_neg (by omega)]
  · rw [if_neg h1]
    by_cases h2 : i < aln a
    · rw [if_neg (by omega), if_pos (by omega)]
    · rw [if_pos (by omega), if_neg (by omega)]
theorem bt_shr : ((List.range 4096).all fun n => (List.range 6).all fun m => (nI n >>> ((2 * nI m) &&& 31)) == nI (n / 4 ^ m)) = true := by decide +kernel
theorem bt_put : ((List.range 4096).all fun n => (List.range 6).all fun m => (List.range 4).all fun v => ((nI n &&& ((3 <<< ((2 * nI m) &&& 31)) ^^^ (-1))) ||| (nI v <<< ((2 * nI m) &&& 31))) == nI (n - (n / 4 ^ m % 4) * 4 ^ m + v * 4 ^ m)) = true := by decide +kernel
theorem bt_shr' {n m : Nat} (hn : n < 4096) (hm : m < 6) : zI n >>> (zI (2 * m) &&& zI 31) = zI (n / 4 ^ m : Nat) := by
  have h := List.all_eq_true.1 (List.all_eq_true.1 bt_shr n (List.mem_range.2 hn)) m (List.mem_range.2 hm)
  have h := eq_of_beq h
  simp only [zI_lit, zI_nI, zI_mul, zI_neg] at h; exact h
theorem bt_put' {n m v : Nat} (hn : n < 4096) (hm : m < 6) (hv : v < 4) : ((zI n &&& ((zI 3 <<< (zI (2 * m) &&& zI 31)) ^^^ zI (-1))) ||| (zI v <<< (zI (2 * m) &&& zI 31))) = zI (n - (n / 4 ^ m % 4) * 4 ^ m + v * 4 ^ m : Nat) := by
  have h := List.all_eq_true.1 (List.all_eq_true.1 (List.all_eq_true.1 bt_put n (List.mem_range.2 hn)) m (List.mem_range.2 hm)) v (List.mem_range.2 hv)
  have h := eq_of_beq h
  simp only [zI_lit, zI_nI, zI_mul, zI_neg] at h; exact h
theorem zI_and3 (a : Nat) : zI a &&& zI 3 = zI ((a % 4 : Nat)) := by
  have h := zI_and a 3
  rw [show ((3 : Nat) : Int) = 3 from rfl] at h
  rw [h, show (3 : Nat) = 2 ^ 2 - 1 from rfl, Nat.and_two_pow_sub_one_eq_mod]
/-- a look by its marks: the model's number, the class's number -/
def e4 (f : Nat → Nat) : Nat := f 0 + 4 * f 1 + 16 * f 2 + 64 * f 3 + 256 * f 4 + 1024 * f 5
def e5 (f : Nat → Nat) : Nat := e4 (fun m => f (5 - m))
def lt4 (f : Nat → Nat) : Prop := ∀ m, f m < 4
theorem e4_lt {f : Nat → Nat} (h : lt4 f) : e4 f < 4096 := by
  have := h 0; have := h 1; have := h 2; have := h 3; have := h 4; have := h 5
  unfold e4; omega
theorem e4_at {f : Nat → Nat} (h : lt4 f) {m : Nat} (hm : m < 6) : e4 f / 4 ^ m % 4 = f m := by
  have := h 0; have := h 1; have := h 2; have := h 3; have := h 4; have := h 5
  unfold e4
  rcases (show m = 0 ∨ m = 1 ∨ m = 2 ∨ m = 3 ∨ m = 4 ∨ m = 5 by omega) with rfl | rfl | rfl | rfl | rfl | rfl <;> simp only [Nat.reducePow] <;> omega
def fu (f : Nat → Nat) (m v : Nat) : Nat → Nat := fun k => if k = m then v else f k
theorem e4_put {f : Nat → Nat} (h : lt4 f) {m v : Nat} (hm : m < 6) : e4 f - (e4 f / 4 ^ m % 4) * 4 ^ m + v * 4 ^ m = e4 (fu f m v) := by
  rw [e4_at h hm]
  have := h 0; have := h 1; have := h 2; have := h 3; have := h 4; have := h 5
  unfold e4 fu
  rcases (show m = 0 ∨ m = 1 ∨ m = 2 ∨ m = 3 ∨ m = 4 ∨ m = 5 by omega) with rfl | rfl | rfl | rfl | rfl | rfl <;> simp <;> omega
theorem e4_inj {f h : Nat → Nat} (h1 : lt4 f) (h2 : lt4 h) (e : e4 f = e4 h) (m : Nat) (hm : m < 6) : f m = h m := by
  rw [← e4_at h1 hm, e, e4_at h2 hm]
theorem m_mark {f : Nat → Nat} (h : lt4 f) {m : Nat} (hm : m < 6) : f_X13_markOf (zI (e4 f)) (zI m) = some (zI (f m)) := by
  unfold f_X13_markOf
  simp (disch := omega) only [jn0_e, jn1_e, jn2_e, pnm_e, pbd1_s, pbd2_s, prfc_s, onm_sm, onm_nn, zI_lit, zI_nI, zI_add, zI_sub, zI_mul, zI_neg, zI_lt, zI_le, zI_eq, zI_nat, zI_div, zI_mod, ixd_in, dvd_ne]
  rw [bt_shr' (e4_lt h) hm, zI_and3, e4_at h hm]
theorem m_goes {f : Nat → Nat} (h : lt4 f) {m by_ : Nat} (hm : m < 6) : f_X13_goesOn (zI (e4 f)) (zI m) (zI by_) = some (zI (e4 (fu f m ((f m + by_) % 4)))) := by
  unfold f_X13_goesOn
  rw [m_mark h hm]
  simp (disch := omega) only [jn0_e, jn1_e, jn2_e, pnm_e, pbd1_s, pbd2_s, prfc_s, onm_sm, onm_nn, zI_lit, zI_nI, zI_add, zI_sub, zI_mul, zI_neg, zI_lt, zI_le, zI_eq, zI_nat, zI_div, zI_mod, ixd_in, dvd_ne]
  rw [show ((f m : Int) + by_) = ((f m + by_ : Nat) : Int) from (Int.natCast_add _ _).symm, zI_and3, bt_put' (e4_lt h) hm (by omega), e4_put h hm]
theorem e5_at {f : Nat → Nat} (h : lt4 f) {m : Nat} (hm : m < 6) : e5 f / 4 ^ (5 - m) % 4 = f m := by
  unfold e5
  rw [e4_at (fun k => h (5 - k)) (by omega)]
  congr 1; omega
theorem e5_lt {f : Nat → Nat} (h : lt4 f) : e5 f < 4096 := e4_lt (fun k => h (5 - k))
theorem e4_congr {f h : Nat → Nat} (e : ∀ m, m < 6 → f m = h m) : e4 f = e4 h := by
  unfold e4; rw [e 0, e 1, e 2, e 3, e 4, e 5] <;> omega
theorem e5_congr {f h : Nat → Nat} (e : ∀ m, m < 6 → f m = h m) : e5 f = e5 h := e4_congr (fun m hm => e (5 - m) (by omega))
theorem e5_inj {f h : Nat → Nat} (h1 : lt4 f) (h2 : lt4 h) (e : e5 f = e5 h) (m : Nat) (hm : m < 6) : f m = h m := by
  rw [← e5_at h1 hm, e, e5_at h2 hm]
theorem fu_lt {f : Nat → Nat} (h : lt4 f) (m : Nat) {v : Nat} (hv : v < 4) : lt4 (fu f m v) := by
  intro k; unfold fu; split
  · exact hv
  · exact h k
theorem e5_put {f : Nat → Nat} (h : lt4 f) {m v : Nat} (hm : m < 6) : e5 f - (e5 f / 4 ^ (5 - m) % 4) * 4 ^ (5 - m) + v * 4 ^ (5 - m) = e5 (fu f m v) := by
  unfold e5
  rw [e4_put (fun k => h (5 - k)) (by omega)]
  refine e4_congr (fun k hk => ?_)
  unfold fu
  by_cases e : k = 5 - m
  · rw [if_pos e, if_pos (by omega)]
  · rw [if_neg e, if_neg (by omega)]
theorem zI_two (m : Nat) (hm : m < 6) : zI (2 * (5 - m)) = zI (2 * (5 - m : Nat)) := by congr 1; omega
theorem c_letter {f : Nat → Nat} (h : lt4 f) {m : Nat} (hm : m < 6) : f_X5_letter (zI (e5 f)) (zI m) = some (zI (f m)) := by
  unfold f_X5_letter
  simp (disch := omega) only [jn0_e, jn1_e, jn2_e, pnm_e, pbd1_s, pbd2_s, prfc_s, onm_sm, onm_nn, zI_lit, zI_nI, zI_add, zI_sub, zI_mul, zI_neg, zI_lt, zI_le, zI_eq, zI_nat, zI_div, zI_mod, ixd_in, dvd_ne]
  rw [zI_two m hm, bt_shr' (e5_lt h) (by omega), zI_and3, e5_at h hm]
theorem c_gone {f : Nat → Nat} (h : lt4 f) {m by_ : Nat} (hm : m < 6) : f_X5_goneOn (zI (e5 f)) (zI m) (zI by_) = some (zI (e5 (fu f m ((f m + by_) % 4)))) := by
  unfold f_X5_goneOn
  simp (disch := omega) only [jn0_e, jn1_e, jn2_e, pnm_e, pbd1_s, pbd2_s, prfc_s, onm_sm, onm_nn, zI_lit, zI_nI, zI_add, zI_sub, zI_mul, zI_neg, zI_lt, zI_le, zI_eq, zI_nat, zI_div, zI_mod, ixd_in, dvd_ne]
  rw [zI_two m hm, bt_shr' (e5_lt h) (by omega), zI_add, show ((e5 f / 4 ^ (5 - m) : Nat) : Int) + by_ = ((e5 f / 4 ^ (5 - m) + by_ : Nat) : Int) from (Int.natCast_add _ _).symm, zI_and3, bt_put' (e5_lt h) (by omega) (by omega), e5_put h hm]
  congr 4
  have := e5_at h hm
  congr 1
  omega
/-- in how many marks two looks are unlike -/
def unl (f h : Nat → Nat) : Nat → Nat
  | 0 => 0
  | n + 1 => unl f h n + (if f n = h n then 0 else 1)
theorem unl_congr {f h f2 h2 : Nat → Nat} : ∀ n, (∀ m, m < n → f m = f2 m) → (∀ m, m < n → h m = h2 m) → unl f h n = unl f2 h2 n
  | 0, _, _ => rfl
  | n + 1, a, b => by rw [unl, unl, unl_congr n (fun m hm => a m (by omega)) (fun m hm => b m (by omega)), a n (by omega), b n (by omega)]
theorem unl_le (f h : Nat → Nat) : ∀ n, unl f h n ≤ n
  | 0 => Nat.le_refl 0
  | n + 1 => by have := unl_le f h n; rw [unl]; split <;> omega
theorem unl_comm (f h : Nat → Nat) : ∀ n, unl f h n = unl h f n
  | 0 => rfl
  | n + 1 => by
    rw [unl, unl, unl_comm f h n]
    by_cases e : f n = h n
    · rw [if_pos e, if_pos e.symm]
    · rw [if_neg e, if_neg (fun q => e q.symm)]
/-- marks behind n are alike -/
theorem unl_more {f h : Nat → Nat} {n : Nat} : ∀ k, (∀ m, n ≤ m → m < n + k → f m = h m) → unl f h (n + k) = unl f h n
  | 0, _ => rfl
  | k + 1, a => by rw [← Nat.add_assoc, unl, if_pos (a (n + k) (by omega) (by omega)), unl_more k (fun m h1 h2 => a m h1 (by omega))]; rfl
def bc (n : Nat) : Nat → Nat
  | 0 => 0
  | k + 1 => bc n k + (if n / 4 ^ k % 4 = 0 then 0 else 1)
theorem bt_unl : ((List.range 4096).all fun n => f_X5_unlike (nI n) 0 == some (nI (bc n 6))) = true := by decide +kernel
theorem xor_at (a b m : Nat) : (a ^^^ b) / 4 ^ m % 4 = (a / 4 ^ m % 4) ^^^ (b / 4 ^ m % 4) := by
  have e : ∀ x : Nat, x / 4 ^ m % 4 = (x >>> (2 * m)) % 2 ^ 2 := by
    intro x; rw [Nat.shiftRight_eq_div_pow, Nat.pow_mul]
  rw [e, e, e, Nat.shiftRight_xor_distrib, Nat.xor_mod_two_pow]
theorem xor_lt4 {a b : Nat} : (a ^^^ b = 0) ↔ a = b := by
  constructor
  · intro h
    have := congrArg (· ^^^ b) h
    simpa [Nat.xor_assoc] using this
  · rintro rfl; exact Nat.xor_self a
theorem bc_xor {f h : Nat → Nat} (h1 : lt4 f) (h2 : lt4 h) : ∀ k, k ≤ 6 → bc (e4 f ^^^ e4 h) k = unl f h k
  | 0, _ => rfl
  | k + 1, hk => by
    rw [bc, unl, bc_xor h1 h2 k (by omega), xor_at, e4_at h1 (by omega), e4_at h2 (by omega)]
    by_cases e : f k = h k
    · rw [if_pos e, if_pos (xor_lt4.2 e)]
    · rw [if_neg e, if_neg (fun q => e (xor_lt4.1 q))]
theorem unl_rev (f h : Nat → Nat) : unl (fun m => f (5 - m)) (fun m => h (5 - m)) 6 = unl f h 6 := by
  simp only [unl, Nat.reduceSub]; omega
theorem c_unlike {f h : Nat → Nat} (h1 : lt4 f) (h2 : lt4 h) : f_X5_unlike (zI (e5 f)) (zI (e5 h)) = some (zI (unl f h 6)) := by
  have e : f_X5_unlike (zI (e5 f)) (zI (e5 h)) = f_X5_unlike (nI (e5 f ^^^ e5 h)) 0 := by
    unfold f_X5_unlike
    rw [zI_xor, zI_nI, Int32.xor_zero]
  have hlt : e5 f ^^^ e5 h < 4096 := Nat.xor_lt_two_pow (n := 12) (e5_lt h1) (e5_lt h2)
  have := eq_of_beq (List.all_eq_true.1 bt_unl _ (List.mem_range.2 hlt))
  rw [e, this, zI_nI]
  unfold e5
  rw [bc_xor (fun m => h1 (5 - m)) (fun m => h2 (5 - m)) 6 (Nat.le_refl 6), unl_rev]
/-- a town as told -/
def TT : Type := (Nat) × (Nat) × (Nat) × (Nat) × (Nat) × (Nat) × (Nat) × (Nat) × (Nat) × (List (Nat × Nat × Nat × Nat)) × (Nat → Nat) × (Nat → Nat → Nat) × (Nat → Option Nat) × (Nat → Nat) × (Nat → Nat) × (Nat → Nat → Option Nat) × (Nat → Option Nat)
def TT.mk (ms : Nat) (wi : Nat) (la : Nat) (sh : Nat) (P : Nat) (V : Nat) (W : Nat) (A : Nat) (S : Nat) (ch : List (Nat × Nat × Nat × Nat)) (kind : Nat → Nat) (told : Nat → Nat → Nat) (vis : Nat → Option Nat) (wp : Nat → Nat) (wd : Nat → Nat) (odds : Nat → Nat → Option Nat) (st : Nat → Option Nat) : TT := (ms, wi, la, sh, P, V, W, A, S, ch, kind, told, vis, wp, wd, odds, st)
def TT.ms (t : TT) : Nat := t.1
def TT.wi (t : TT) : Nat := t.2.1
def TT.la (t : TT) : Nat := t.2.2.1
def TT.sh (t : TT) : Nat := t.2.2.2.1
def TT.P (t : TT) : Nat := t.2.2.2.2.1
def TT.V (t : TT) : Nat := t.2.2.2.2.2.1
def TT.W (t : TT) : Nat := t.2.2.2.2.2.2.1
def TT.A (t : TT) : Nat := t.2.2.2.2.2.2.2.1
def TT.S (t : TT) : Nat := t.2.2.2.2.2.2.2.2.1
def TT.ch (t : TT) : List (Nat × Nat × Nat × Nat) := t.2.2.2.2.2.2.2.2.2.1
def TT.kind (t : TT) : Nat → Nat := t.2.2.2.2.2.2.2.2.2.2.1
def TT.told (t : TT) : Nat → Nat → Nat := t.2.2.2.2.2.2.2.2.2.2.2.1
def TT.vis (t : TT) : Nat → Option Nat := t.2.2.2.2.2.2.2.2.2.2.2.2.1
def TT.wp (t : TT) : Nat → Nat := t.2.2.2.2.2.2.2.2.2.2.2.2.2.1
def TT.wd (t : TT) : Nat → Nat := t.2.2.2.2.2.2.2.2.2.2.2.2.2.2.1
def TT.odds (t : TT) : Nat → Nat → Option Nat := t.2.2.2.2.2.2.2.2.2.2.2.2.2.2.2.1
def TT.st (t : TT) : Nat → Option Nat := t.2.2.2.2.2.2.2.2.2.2.2.2.2.2.2.2
theorem TT.ms_mk (ms : Nat) (wi : Nat) (la : Nat) (sh : Nat) (P : Nat) (V : Nat) (W : Nat) (A : Nat) (S : Nat) (ch : List (Nat × Nat × Nat × Nat)) (kind : Nat → Nat) (told : Nat → Nat → Nat) (vis : Nat → Option Nat) (wp : Nat → Nat) (wd : Nat → Nat) (odds : Nat → Nat → Option Nat) (st : Nat → Option Nat) : (TT.mk ms wi la sh P V W A S ch kind told vis wp wd odds st).ms = ms := rfl
theorem TT.wi_mk (ms : Nat) (wi : Nat) (la : Nat) (sh : Nat) (P : Nat) (V : Nat) (W : Nat) (A : Nat) (S : Nat) (ch : List (Nat × Nat × Nat × Nat)) (kind : Nat → Nat) (told : Nat → Nat → Nat) (vis : Nat → Option Nat) (wp : Nat → Nat) (wd : Nat → Nat) (odds : Nat → Nat → Option Nat) (st : Nat → Option Nat) : (TT.mk ms wi la sh P V W A S ch kind told vis wp wd odds st).wi = wi := rfl
theorem TT.la_mk (ms : Nat) (wi : Nat) (la : Nat) (sh : Nat) (P : Nat) (V : Nat) (W : Nat) (A : Nat) (S : Nat) (ch : List (Nat × Nat × Nat × Nat)) (kind : Nat → Nat) (told : Nat → Nat → Nat) (vis : Nat → Option Nat) (wp : Nat → Nat) (wd : Nat → Nat) (odds : Nat → Nat → Option Nat) (st : Nat → Option Nat) : (TT.mk ms wi la sh P V W A S ch kind told vis wp wd odds st).la = la := rfl
theorem TT.sh_mk (ms : Nat) (wi : Nat) (la : Nat) (sh : Nat) (P : Nat) (V : Nat) (W : Nat) (A : Nat) (S : Nat) (ch : List (Nat × Nat × Nat × Nat)) (kind : Nat → Nat) (told : Nat → Nat → Nat) (vis : Nat → Option Nat) (wp : Nat → Nat) (wd : Nat → Nat) (odds : Nat → Nat → Option Nat) (st : Nat → Option Nat) : (TT.mk ms wi la sh P V W A S ch kind told vis wp wd odds st).sh = sh := rfl
theorem TT.P_mk (ms : Nat) (wi : Nat) (la : Nat) (sh : Nat) (P : Nat) (V : Nat) (W : Nat) (A : Nat) (S : Nat) (ch : List (Nat × Nat × Nat × Nat)) (kind : Nat → Nat) (told : Nat → Nat → Nat) (vis : Nat → Option Nat) (wp : Nat → Nat) (wd : Nat → Nat) (odds : Nat → Nat → Option Nat) (st : Nat → Option Nat) : (TT.mk ms wi la sh P V W A S ch kind told vis wp wd odds st).P = P := rfl
theorem TT.V_mk (ms : Nat) (wi : Nat) (la : Nat) (sh : Nat) (P : Nat) (V : Nat) (W : Nat) (A : Nat) (S : Nat) (ch : List (Nat × Nat × Nat × Nat)) (kind : Nat → Nat) (told : Nat → Nat → Nat) (vis : Nat → Option Nat) (wp : Nat → Nat) (wd : Nat → Nat) (odds : Nat → Nat → Option Nat) (st : Nat → Option Nat) : (TT.mk ms wi la sh P V W A S ch kind told vis wp wd odds st).V = V := rfl
theorem TT.W_mk (ms : Nat) (wi : Nat) (la : Nat) (sh : Nat) (P : Nat) (V : Nat) (W : Nat) (A : Nat) (S : Nat) (ch : List (Nat × Nat × Nat × Nat)) (kind : Nat → Nat) (told : Nat → Nat → Nat) (vis : Nat → Option Nat) (wp : Nat → Nat) (wd : Nat → Nat) (odds : Nat → Nat → Option Nat) (st : Nat → Option Nat) : (TT.mk ms wi la sh P V W A S ch kind told vis wp wd odds st).W = W := rfl
theorem TT.A_mk (ms : Nat) (wi : Nat) (la : Nat) (sh : Nat) (P : Nat) (V : Nat) (W : Nat) (A : Nat) (S : Nat) (ch : List (Nat × Nat × Nat × Nat)) (kind : Nat → Nat) (told : Nat → Nat → Nat) (vis : Nat → Option Nat) (wp : Nat → Nat) (wd : Nat → Nat) (odds : Nat → Nat → Option Nat) (st : Nat → Option Nat) : (TT.mk ms wi la sh P V W A S ch kind told vis wp wd odds st).A = A := rfl
theorem TT.S_mk (ms : Nat) (wi : Nat) (la : Nat) (sh : Nat) (P : Nat) (V : Nat) (W : Nat) (A : Nat) (S : Nat) (ch : List (Nat × Nat × Nat × Nat)) (kind : Nat → Nat) (told : Nat → Nat → Nat) (vis : Nat → Option Nat) (wp : Nat → Nat) (wd : Nat → Nat) (odds : Nat → Nat → Option Nat) (st : Nat → Option Nat) : (TT.mk ms wi la sh P V W A S ch kind told vis wp wd odds st).S = S := rfl
theorem TT.ch_mk (ms : Nat) (wi : Nat) (la : Nat) (sh : Nat) (P : Nat) (V : Nat) (W : Nat) (A : Nat) (S : Nat) (ch : List (Nat × Nat × Nat × Nat)) (kind : Nat → Nat) (told : Nat → Nat → Nat) (vis : Nat → Option Nat) (wp : Nat → Nat) (wd : Nat → Nat) (odds : Nat → Nat → Option Nat) (st : Nat → Option Nat) : (TT.mk ms wi la sh P V W A S ch kind told vis wp wd odds st).ch = ch := rfl
theorem TT.kind_mk (ms : Nat) (wi : Nat) (la : Nat) (sh : Nat) (P : Nat) (V : Nat) (W : Nat) (A : Nat) (S : Nat) (ch : List (Nat × Nat × Nat × Nat)) (kind : Nat → Nat) (told : Nat → Nat → Nat) (vis : Nat → Option Nat) (wp : Nat → Nat) (wd : Nat → Nat) (odds : Nat → Nat → Option Nat) (st : Nat → Option Nat) : (TT.mk ms wi la sh P V W A S ch kind told vis wp wd odds st).kind = kind := rfl
theorem TT.told_mk (ms : Nat) (wi : Nat) (la : Nat) (sh : Nat) (P : Nat) (V : Nat) (W : Nat) (A : Nat) (S : Nat) (ch : List (Nat × Nat × Nat × Nat)) (kind : Nat → Nat) (told : Nat → Nat → Nat) (vis : Nat → Option Nat) (wp : Nat → Nat) (wd : Nat → Nat) (odds : Nat → Nat → Option Nat) (st : Nat → Option Nat) : (TT.mk ms wi la sh P V W A S ch kind told vis wp wd odds st).told = told := rfl
theorem TT.vis_mk (ms : Nat) (wi : Nat) (la : Nat) (sh : Nat) (P : Nat) (V : Nat) (W : Nat) (A : Nat) (S : Nat) (ch : List (Nat × Nat × Nat × Nat)) (kind : Nat → Nat) (told : Nat → Nat → Nat) (vis : Nat → Option Nat) (wp : Nat → Nat) (wd : Nat → Nat) (odds : Nat → Nat → Option Nat) (st : Nat → Option Nat) : (TT.mk ms wi la sh P V W A S ch kind told vis wp wd odds st).vis = vis := rfl
theorem TT.wp_mk (ms : Nat) (wi : Nat) (la : Nat) (sh : Nat) (P : Nat) (V : Nat) (W : Nat) (A : Nat) (S : Nat) (ch : List (Nat × Nat × Nat × Nat)) (kind : Nat → Nat) (told : Nat → Nat → Nat) (vis : Nat → Option Nat) (wp : Nat → Nat) (wd : Nat → Nat) (odds : Nat → Nat → Option Nat) (st : Nat → Option Nat) : (TT.mk ms wi la sh P V W A S ch kind told vis wp wd odds st).wp = wp := rfl
theorem TT.wd_mk (ms : Nat) (wi : Nat) (la : Nat) (sh : Nat) (P : Nat) (V : Nat) (W : Nat) (A : Nat) (S : Nat) (ch : List (Nat × Nat × Nat × Nat)) (kind : Nat → Nat) (told : Nat → Nat → Nat) (vis : Nat → Option Nat) (wp : Nat → Nat) (wd : Nat → Nat) (odds : Nat → Nat → Option Nat) (st : Nat → Option Nat) : (TT.mk ms wi la sh P V W A S ch kind told vis wp wd odds st).wd = wd := rfl
theorem TT.odds_mk (ms : Nat) (wi : Nat) (la : Nat) (sh : Nat) (P : Nat) (V : Nat) (W : Nat) (A : Nat) (S : Nat) (ch : List (Nat × Nat × Nat × Nat)) (kind : Nat → Nat) (told : Nat → Nat → Nat) (vis : Nat → Option Nat) (wp : Nat → Nat) (wd : Nat → Nat) (odds : Nat → Nat → Option Nat) (st : Nat → Option Nat) : (TT.mk ms wi la sh P V W A S ch kind told vis wp wd odds st).odds = odds := rfl
theorem TT.st_mk (ms : Nat) (wi : Nat) (la : Nat) (sh : Nat) (P : Nat) (V : Nat) (W : Nat) (A : Nat) (S : Nat) (ch : List (Nat × Nat × Nat × Nat)) (kind : Nat → Nat) (told : Nat → Nat → Nat) (vis : Nat → Option Nat) (wp : Nat → Nat) (wd : Nat → Nat) (odds : Nat → Nat → Option Nat) (st : Nat → Option Nat) : (TT.mk ms wi la sh P V W A S ch kind told vis wp wd odds st).st = st := rfl
/-- what acts change -/
def SS : Type := (Nat → Option Nat) × (Nat) × (List (Nat × Nat × Nat × Nat))
def SS.mk (vis : Nat → Option Nat) (day : Nat) (sk : List (Nat × Nat × Nat × Nat)) : SS := (vis, day, sk)
def SS.vis (t : SS) : Nat → Option Nat := t.1
def SS.day (t : SS) : Nat := t.2.1
def SS.sk (t : SS) : List (Nat × Nat × Nat × Nat) := t.2.2
theorem SS.vis_mk (vis : Nat → Option Nat) (day : Nat) (sk : List (Nat × Nat × Nat × Nat)) : (SS.mk vis day sk).vis = vis := rfl
theorem SS.day_mk (vis : Nat → Option Nat) (day : Nat) (sk : List (Nat × Nat × Nat × Nat)) : (SS.mk vis day sk).day = day := rfl
theorem SS.sk_mk (vis : Nat → Option Nat) (day : Nat) (sk : List (Nat × Nat × Nat × Nat)) : (SS.mk vis day sk).sk = sk := rfl
/-- what changes add to a mark of a person up to a day -/
def adds (E : List (Nat × Nat × Nat × Nat)) (p d m : Nat) : Nat :=
  match E with
  | [] => 0
  | c :: r => (if c.1 = p ∧ c.2.1 ≤ d ∧ c.2.2.1 = m then c.2.2.2 else 0) + adds r p d m
theorem adds_app (E F : List (Nat × Nat × Nat × Nat)) (p d m : Nat) : adds (E ++ F) p d m = adds E p d m + adds F p d m := by
  induction E with
  | nil => simp [adds]
  | cons c r ih => simp only [List.cons_append, adds, ih]; omega
def age (t : TT) (p d m : Nat) : Nat := (if t.kind p = 1 ∧ m = 0 then d / 10 else 0) + (if t.kind p = 2 ∧ m = 1 then d / 4 else 0)
/-- the look of p on day d by its marks, with the changes E -/
def lk (t : TT) (E : List (Nat × Nat × Nat × Nat)) (p d : Nat) : Nat → Nat := fun m => (t.told p m + adds E p d m + age t p d m) % 4
theorem lk_lt (t : TT) (E : List (Nat × Nat × Nat × Nat)) (p d : Nat) : lt4 (lk t E p d) := fun _ => Nat.mod_lt _ (by omega)
/-- the latest of p's visits on days below n -/
def lat (vis : Nat → Option Nat) (p : Nat) : Nat → Option Nat
  | 0 => none
  | n + 1 => if vis n = some p then some n else lat vis p n
theorem lat_lt {vis : Nat → Option Nat} {p : Nat} : ∀ {n d : Nat}, lat vis p n = some d → d < n ∧ vis d = some p
  | 0, _, h => by cases h
  | n + 1, d, h => by
    rw [lat] at h
    split at h
    · obtain rfl := Option.some.inj h
      exact ⟨by omega, by assumption⟩
    · have := lat_lt h
      exact ⟨by omega, this.2⟩
/-- no one or a number, as the class keeps it -/
def oC (o : Option Nat) : Int := match o with | none => -2 | some p => p
/-- .. and as the model keeps it -/
def oM (o : Option Nat) : Int := match o with | none => 0 | some p => p + 1
theorem oM_eq (o : Option Nat) (p : Nat) : (oM o = (p : Int) + 1) ↔ o = some p := by
  cases o with
  | none => simp only [oM]; constructor
            · intro h; omega
            · intro h; cases h
  | some q => simp only [oM, Option.some.injEq]; omega
theorem oC_eq (o : Option Nat) (p : Nat) : (oC o = (p : Int)) ↔ o = some p := by
  cases o with
  | none => simp only [oC]; constructor
            · intro h; omega
            · intro h; cases h
  | some q => simp only [oC, Option.some.injEq]; omega
theorem fx1_dn {A1 β : Type} {F : (A1 → Option β) → A1 → Option β} (a1 : Nat → A1) (r : Nat → Option β) (N : Nat) (he : ∀ k, F k (a1 0) = r 0) (hs : ∀ n, n < N → ∀ k, F k (a1 (n + 1)) = r (n + 1) ∨ (F k (a1 (n + 1)) = k (a1 n) ∧ r n = r (n + 1))) : ∀ n, n ≤ N → ∀ m, fx1 (n + 1 + m) F (a1 n) = r n
  | 0, _, m => by
    rw [Nat.zero_add, Nat.add_comm]
    exact he _
  | n + 1, hn, m => by
    rw [show n + 1 + 1 + m = (n + 1 + m) + 1 from by omega]
    rcases hs n (by omega) (fx1 (n + 1 + m) F) with h | ⟨h, e⟩
    · exact h
    · exact h.trans ((fx1_dn a1 r N he hs n (by omega) m).trans e)
theorem fx1_down {A1 β : Type} {F : (A1 → Option β) → A1 → Option β} (a1 : Nat → A1) (r : Nat → Option β) (N : Nat) (hN : N < 100000) (he : ∀ k, F k (a1 0) = r 0) (hs : ∀ n, n < N → ∀ k, F k (a1 (n + 1)) = r (n + 1) ∨ (F k (a1 (n + 1)) = k (a1 n) ∧ r n = r (n + 1))) (n : Nat) (hn : n ≤ N) : fx1 FU F (a1 n) = r n := by
  have h := fx1_dn a1 r N he hs n hn (99999 - n)
  rw [show n + 1 + (99999 - n) = FU from by unfold FU; omega] at h
  exact h
theorem fx1_up {A1 β : Type} {F : (A1 → Option β) → A1 → Option β} (a1 : Nat → A1) (r : Nat → Option β) (N : Nat) (hN : N < 100000) (he : ∀ k, F k (a1 N) = r N) (hs : ∀ i, i < N → ∀ k, F k (a1 i) = r i ∨ (F k (a1 i) = k (a1 (i + 1)) ∧ r (i + 1) = r i)) (i : Nat) (hi : i ≤ N) : fx1 FU F (a1 i) = r i := by
  have h := fx1_down (F := F) (fun n => a1 (N - n)) (fun n => r (N - n)) N hN (by simpa using he) (fun n hn k => by
    have e : N - n = N - (n + 1) + 1 := by omega
    simp only [e]
    exact hs (N - (n + 1)) (by omega) k) (N - i) (by omega)
  have e : N - (N - i) = i := by omega
  simpa only [e] using h
theorem fx2_dn {A1 A2 β : Type} {F : (A1 → A2 → Option β) → A1 → A2 → Option β} (a1 : Nat → A1) (a2 : Nat → A2) (r : Nat → Option β) (N : Nat) (he : ∀ k, F k (a1 0) (a2 0) = r 0) (hs : ∀ n, n < N → ∀ k, F k (a1 (n + 1)) (a2 (n + 1)) = r (n + 1) ∨ (F k (a1 (n + 1)) (a2 (n + 1)) = k (a1 n) (a2 n) ∧ r n = r (n + 1))) : ∀ n, n ≤ N → ∀ m, fx2 (n + 1 + m) F (a1 n) (a2 n) = r n
  | 0, _, m => by
    rw [Nat.zero_add, Nat.add_comm]
    exact he _
  | n + 1, hn, m => by
    rw [show n + 1 + 1 + m = (n + 1 + m) + 1 from by omega]
    rcases hs n (by omega) (fx2 (n + 1 + m) F) with h | ⟨h, e⟩
    · exact h
    · exact h.trans ((fx2_dn a1 a2 r N he hs n (by omega) m).trans e)
theorem fx2_down {A1 A2 β : Type} {F : (A1 → A2 → Option β) → A1 → A2 → Option β} (a1 : Nat → A1) (a2 : Nat → A2) (r : Nat → Option β) (N : Nat) (hN : N < 100000) (he : ∀ k, F k (a1 0) (a2 0) = r 0) (hs : ∀ n, n < N → ∀ k, F k (a1 (n + 1)) (a2 (n + 1)) = r (n + 1) ∨ (F k (a1 (n + 1)) (a2 (n + 1)) = k (a1 n) (a2 n) ∧ r n = r (n + 1))) (n : Nat) (hn : n ≤ N) : fx2 FU F (a1 n) (a2 n) = r n := by
  have h := fx2_dn a1 a2 r N he hs n hn (99999 - n)
  rw [show n + 1 + (99999 - n) = FU from by unfold FU; omega] at h
  exact h
theorem fx2_up {A1 A2 β : Type} {F : (A1 → A2 → Option β) → A1 → A2 → Option β} (a1 : Nat → A1) (a2 : Nat → A2) (r : Nat → Option β) (N : Nat) (hN : N < 100000) (he : ∀ k, F k (a1 N) (a2 N) = r N) (hs : ∀ i, i < N → ∀ k, F k (a1 i) (a2 i) = r i ∨ (F k (a1 i) (a2 i) = k (a1 (i + 1)) (a2 (i + 1)) ∧ r (i + 1) = r i)) (i : Nat) (hi : i ≤ N) : fx2 FU F (a1 i) (a2 i) = r i := by
  have h := fx2_down (F := F) (fun n => a1 (N - n)) (fun n => a2 (N - n)) (fun n => r (N - n)) N hN (by simpa using he) (fun n hn k => by
    have e : N - n = N - (n + 1) + 1 := by omega
    simp only [e]
    exact hs (N - (n + 1)) (by omega) k) (N - i) (by omega)
  have e : N - (N - i) = i := by omega
  simpa only [e] using h
theorem fx3_dn {A1 A2 A3 β : Type} {F : (A1 → A2 → A3 → Option β) → A1 → A2 → A3 → Option β} (a1 : Nat → A1) (a2 : Nat → A2) (a3 : Nat → A3) (r : Nat → Option β) (N : Nat) (he : ∀ k, F k (a1 0) (a2 0) (a3 0) = r 0) (hs : ∀ n, n < N → ∀ k, F k (a1 (n + 1)) (a2 (n + 1)) (a3 (n + 1)) = r (n + 1) ∨ (F k (a1 (n + 1)) (a2 (n + 1)) (a3 (n + 1)) = k (a1 n) (a2 n) (a3 n) ∧ r n = r (n + 1))) : ∀ n, n ≤ N → ∀ m, fx3 (n + 1 + m) F (a1 n) (a2 n) (a3 n) = r n
  | 0, _, m => by
    rw [Nat.zero_add, Nat.add_comm]
    exact he _
  | n + 1, hn, m => by
    rw [show n + 1 + 1 + m = (n + 1 + m) + 1 from by omega]
    rcases hs n (by omega) (fx3 (n + 1 + m) F) with h | ⟨h, e⟩
    · exact h
    · exact h.trans ((fx3_dn a1 a2 a3 r N he hs n (by omega) m).trans e)
theorem fx3_down {A1 A2 A3 β : Type} {F : (A1 → A2 → A3 → Option β) → A1 → A2 → A3 → Option β} (a1 : Nat → A1) (a2 : Nat → A2) (a3 : Nat → A3) (r : Nat → Option β) (N : Nat) (hN : N < 100000) (he : ∀ k, F k (a1 0) (a2 0) (a3 0) = r 0) (hs : ∀ n, n < N → ∀ k, F k (a1 (n + 1)) (a2 (n + 1)) (a3 (n + 1)) = r (n + 1) ∨ (F k (a1 (n + 1)) (a2 (n + 1)) (a3 (n + 1)) = k (a1 n) (a2 n) (a3 n) ∧ r n = r (n + 1))) (n : Nat) (hn : n ≤ N) : fx3 FU F (a1 n) (a2 n) (a3 n) = r n := by
  have h := fx3_dn a1 a2 a3 r N he hs n hn (99999 - n)
  rw [show n + 1 + (99999 - n) = FU from by unfold FU; omega] at h
  exact h
theorem fx3_up {A1 A2 A3 β : Type} {F : (A1 → A2 → A3 → Option β) → A1 → A2 → A3 → Option β} (a1 : Nat → A1) (a2 : Nat → A2) (a3 : Nat → A3) (r : Nat → Option β) (N : Nat) (hN : N < 100000) (he : ∀ k, F k (a1 N) (a2 N) (a3 N) = r N) (hs : ∀ i, i < N → ∀ k, F k (a1 i) (a2 i) (a3 i) = r i ∨ (F k (a1 i) (a2 i) (a3 i) = k (a1 (i + 1)) (a2 (i + 1)) (a3 (i + 1)) ∧ r (i + 1) = r i)) (i : Nat) (hi : i ≤ N) : fx3 FU F (a1 i) (a2 i) (a3 i) = r i := by
  have h := fx3_down (F := F) (fun n => a1 (N - n)) (fun n => a2 (N - n)) (fun n => a3 (N - n)) (fun n => r (N - n)) N hN (by simpa using he) (fun n hn k => by
    have e : N - n = N - (n + 1) + 1 := by omega
    simp only [e]
    exact hs (N - (n + 1)) (by omega) k) (N - i) (by omega)
  have e : N - (N - i) = i := by omega
  simpa only [e] using h
theorem fx4_dn {A1 A2 A3 A4 β : Type} {F : (A1 → A2 → A3 → A4 → Option β) → A1 → A2 → A3 → A4 → Option β} (a1 : Nat → A1) (a2 : Nat → A2) (a3 : Nat → A3) (a4 : Nat → A4) (r : Nat → Option β) (N : Nat) (he : ∀ k, F k (a1 0) (a2 0) (a3 0) (a4 0) = r 0) (hs : ∀ n, n < N → ∀ k, F k (a1 (n + 1)) (a2 (n + 1)) (a3 (n + 1)) (a4 (n + 1)) = r (n + 1) ∨ (F k (a1 (n + 1)) (a2 (n + 1)) (a3 (n + 1)) (a4 (n + 1)) = k (a1 n) (a2 n) (a3 n) (a4 n) ∧ r n = r (n + 1))) : ∀ n, n ≤ N → ∀ m, fx4 (n + 1 + m) F (a1 n) (a2 n) (a3 n) (a4 n) = r n
  | 0, _, m => by
    rw [Nat.zero_add, Nat.add_comm]
    exact he _
  | n + 1, hn, m => by
    rw [show n + 1 + 1 + m = (n + 1 + m) + 1 from by omega]
    rcases hs n (by omega) (fx4 (n + 1 + m) F) with h | ⟨h, e⟩
    · exact h
    · exact h.trans ((fx4_dn a1 a2 a3 a4 r N he hs n (by omega) m).trans e)
theorem fx4_down {A1 A2 A3 A4 β : Type} {F : (A1 → A2 → A3 → A4 → Option β) → A1 → A2 → A3 → A4 → Option β} (a1 : Nat → A1) (a2 : Nat → A2) (a3 : Nat → A3) (a4 : Nat → A4) (r : Nat → Option β) (N : Nat) (hN : N < 100000) (he : ∀ k, F k (a1 0) (a2 0) (a3 0) (a4 0) = r 0) (hs : ∀ n, n < N → ∀ k, F k (a1 (n + 1)) (a2 (n + 1)) (a3 (n + 1)) (a4 (n + 1)) = r (n + 1) ∨ (F k (a1 (n + 1)) (a2 (n + 1)) (a3 (n + 1)) (a4 (n + 1)) = k (a1 n) (a2 n) (a3 n) (a4 n) ∧ r n = r (n + 1))) (n : Nat) (hn : n ≤ N) : fx4 FU F (a1 n) (a2 n) (a3 n) (a4 n) = r n := by
  have h := fx4_dn a1 a2 a3 a4 r N he hs n hn (99999 - n)
  rw [show n + 1 + (99999 - n) = FU from by unfold FU; omega] at h
  exact h
theorem fx4_up {A1 A2 A3 A4 β : Type} {F : (A1 → A2 → A3 → A4 → Option β) → A1 → A2 → A3 → A4 → Option β} (a1 : Nat → A1) (a2 : Nat → A2) (a3 : Nat → A3) (a4 : Nat → A4) (r : Nat → Option β) (N : Nat) (hN : N < 100000) (he : ∀ k, F k (a1 N) (a2 N) (a3 N) (a4 N) = r N) (hs : ∀ i, i < N → ∀ k, F k (a1 i) (a2 i) (a3 i) (a4 i) = r i ∨ (F k (a1 i) (a2 i) (a3 i) (a4 i) = k (a1 (i + 1)) (a2 (i + 1)) (a3 (i + 1)) (a4 (i + 1)) ∧ r (i + 1) = r i)) (i : Nat) (hi : i ≤ N) : fx4 FU F (a1 i) (a2 i) (a3 i) (a4 i) = r i := by
  have h := fx4_down (F := F) (fun n => a1 (N - n)) (fun n => a2 (N - n)) (fun n => a3 (N - n)) (fun n => a4 (N - n)) (fun n => r (N - n)) N hN (by simpa using he) (fun n hn k => by
    have e : N - n = N - (n + 1) + 1 := by omega
    simp only [e]
    exact hs (N - (n + 1)) (by omega) k) (N - i) (by omega)
  have e : N - (N - i) = i := by omega
  simpa only [e] using h
theorem oM_b {o : Option Nat} (h : ∀ q, o = some q → q < 5) : 0 ≤ oM o ∧ oM o ≤ 5 := by
  cases o with
  | none => simp only [oM]; omega
  | some q => have := h q rfl; simp only [oM]; omega
theorem oC_b {o : Option Nat} (h : ∀ q, o = some q → q < 5) : -2 ≤ oC o ∧ oC o ≤ 4 := by
  cases o with
  | none => simp only [oC]; omega
  | some q => have := h q rfl; simp only [oC]; omega
/-- the model's latest visit -/
theorem m_lat {σ : Mem} {vis : Nat → Option Nat} (hv : ∀ d, d < 30 → σ.1 69 d = zI (oM (vis d))) (hb : ∀ d q, vis d = some q → q < 5) {p d : Nat} (hp : p < 5) (hd : d < 30) : f_X13_latestOn σ (zI p) (zI d) = some (zI (oC (lat vis p (d + 1)))) := by
  have e := fx1_down (F := fun k_2 (i_1 : Int32) => (if i_1 < 0 then some (-2) else ixd i_1 (aln 69) ((if (σ.1 69 i_1.toNatClampNeg) = (zI p + 1) then some i_1 else nm (i_1 + (-1)) (fun (x_3 : Int32) => k_2 x_3))))) (fun n => zI ((n : Int) - 1)) (fun n => some (zI (oC (lat vis p n)))) 30 (by omega) (fun k => rfl) (fun n hn k => ?_) (d + 1) (by omega)
  · rw [show ((d + 1 : Nat) : Int) - 1 = d from by omega] at e
    exact e
  · have ha : aln 69 = 80 := rfl
    have hq := oM_b (hb n)
    simp only [show ((n + 1 : Nat) : Int) - 1 = n from by omega]
    simp (disch := omega) only [jn0_e, jn1_e, jn2_e, pnm_e, pbd1_s, pbd2_s, prfc_s, onm_sm, onm_nn, zI_lit, zI_nI, zI_add, zI_sub, zI_mul, zI_neg, zI_lt, zI_le, zI_eq, zI_nat, zI_div, zI_mod, ixd_in, dvd_ne]
    rw [if_neg (by omega), show (n : Int).toNat = n from by omega, hv n (by omega)]
    simp (disch := omega) only [jn0_e, jn1_e, jn2_e, pnm_e, pbd1_s, pbd2_s, prfc_s, onm_sm, onm_nn, zI_lit, zI_nI, zI_add, zI_sub, zI_mul, zI_neg, zI_lt, zI_le, zI_eq, zI_nat, zI_div, zI_mod, ixd_in, dvd_ne]
    rw [show (n : Int) + -1 = n - 1 from by omega, lat]
    simp only [oM_eq]
    by_cases h : vis n = some p
    · left; rw [if_pos h, if_pos h]; rfl
    · right; rw [if_neg h, if_neg h]; exact ⟨rfl, rfl⟩
theorem fx1_go {A1 β : Type} {F : (A1 → Option β) → A1 → Option β} {x1 : A1} (a1 : Nat → A1) (r : Nat → Option β) (N i : Nat) (hN : i ≤ N ∧ N < 100000) (e1 : x1 = a1 i) (he : ∀ k, F k (a1 N) = r N) (hs : ∀ i, i < N → ∀ k, F k (a1 i) = r i ∨ (F k (a1 i) = k (a1 (i + 1)) ∧ r (i + 1) = r i)) : fx1 FU F x1 = r i := by
  rw [e1]; exact fx1_up a1 r N hN.2 he hs i hN.1
theorem fx1_run {A1 β : Type} {F : (A1 → Option β) → A1 → Option β} {x1 : A1} {out : Option β} (a1 : Nat → A1) (N i : Nat) (hN : i ≤ N ∧ N < 100000) (e1 : x1 = a1 i) (he : ∀ k, F k (a1 N) = out) (hs : ∀ i, i < N → ∀ k, F k (a1 i) = k (a1 (i + 1))) : fx1 FU F x1 = out :=
  fx1_go a1 (fun _ => out) N i hN e1 he (fun i hi k => .inr ⟨hs i hi k, rfl⟩)
theorem fx2_go {A1 A2 β : Type} {F : (A1 → A2 → Option β) → A1 → A2 → Option β} {x1 : A1} {x2 : A2} (a1 : Nat → A1) (a2 : Nat → A2) (r : Nat → Option β) (N i : Nat) (hN : i ≤ N ∧ N < 100000) (e1 : x1 = a1 i) (e2 : x2 = a2 i) (he : ∀ k, F k (a1 N) (a2 N) = r N) (hs : ∀ i, i < N → ∀ k, F k (a1 i) (a2 i) = r i ∨ (F k (a1 i) (a2 i) = k (a1 (i + 1)) (a2 (i + 1)) ∧ r (i + 1) = r i)) : fx2 FU F x1 x2 = r i := by
  rw [e1, e2]; exact fx2_up a1 a2 r N hN.2 he hs i hN.1
theorem fx2_run {A1 A2 β : Type} {F : (A1 → A2 → Option β) → A1 → A2 → Option β} {x1 : A1} {x2 : A2} {out : Option β} (a1 : Nat → A1) (a2 : Nat → A2) (N i : Nat) (hN : i ≤ N ∧ N < 100000) (e1 : x1 = a1 i) (e2 : x2 = a2 i) (he : ∀ k, F k (a1 N) (a2 N) = out) (hs : ∀ i, i < N → ∀ k, F k (a1 i) (a2 i) = k (a1 (i + 1)) (a2 (i + 1))) : fx2 FU F x1 x2 = out :=
  fx2_go a1 a2 (fun _ => out) N i hN e1 e2 he (fun i hi k => .inr ⟨hs i hi k, rfl⟩)
theorem fx3_go {A1 A2 A3 β : Type} {F : (A1 → A2 → A3 → Option β) → A1 → A2 → A3 → Option β} {x1 : A1} {x2 : A2} {x3 : A3} (a1 : Nat → A1) (a2 : Nat → A2) (a3 : Nat → A3) (r : Nat → Option β) (N i : Nat) (hN : i ≤ N ∧ N < 100000) (e1 : x1 = a1 i) (e2 : x2 = a2 i) (e3 : x3 = a3 i) (he : ∀ k, F k (a1 N) (a2 N) (a3 N) = r N) (hs : ∀ i, i < N → ∀ k, F k (a1 i) (a2 i) (a3 i) = r i ∨ (F k (a1 i) (a2 i) (a3 i) = k (a1 (i + 1)) (a2 (i + 1)) (a3 (i + 1)) ∧ r (i + 1) = r i)) : fx3 FU F x1 x2 x3 = r i := by
  rw [e1, e2, e3]; exact fx3_up a1 a2 a3 r N hN.2 he hs i hN.1
theorem fx3_run {A1 A2 A3 β : Type} {F : (A1 → A2 → A3 → Option β) → A1 → A2 → A3 → Option β} {x1 : A1} {x2 : A2} {x3 : A3} {out : Option β} (a1 : Nat → A1) (a2 : Nat → A2) (a3 : Nat → A3) (N i : Nat) (hN : i ≤ N ∧ N < 100000) (e1 : x1 = a1 i) (e2 : x2 = a2 i) (e3 : x3 = a3 i) (he : ∀ k, F k (a1 N) (a2 N) (a3 N) = out) (hs : ∀ i, i < N → ∀ k, F k (a1 i) (a2 i) (a3 i) = k (a1 (i + 1)) (a2 (i + 1)) (a3 (i + 1))) : fx3 FU F x1 x2 x3 = out :=
  fx3_go a1 a2 a3 (fun _ => out) N i hN e1 e2 e3 he (fun i hi k => .inr ⟨hs i hi k, rfl⟩)
theorem fx4_go {A1 A2 A3 A4 β : Type} {F : (A1 → A2 → A3 → A4 → Option β) → A1 → A2 → A3 → A4 → Option β} {x1 : A1} {x2 : A2} {x3 : A3} {x4 : A4} (a1 : Nat → A1) (a2 : Nat → A2) (a3 : Nat → A3) (a4 : Nat → A4) (r : Nat → Option β) (N i : Nat) (hN : i ≤ N ∧ N < 100000) (e1 : x1 = a1 i) (e2 : x2 = a2 i) (e3 : x3 = a3 i) (e4 : x4 = a4 i) (he : ∀ k, F k (a1 N) (a2 N) (a3 N) (a4 N) = r N) (hs : ∀ i, i < N → ∀ k, F k (a1 i) (a2 i) (a3 i) (a4 i) = r i ∨ (F k (a1 i) (a2 i) (a3 i) (a4 i) = k (a1 (i + 1)) (a2 (i + 1)) (a3 (i + 1)) (a4 (i + 1)) ∧ r (i + 1) = r i)) : fx4 FU F x1 x2 x3 x4 = r i := by
  rw [e1, e2, e3, e4]; exact fx4_up a1 a2 a3 a4 r N hN.2 he hs i hN.1
theorem fx4_run {A1 A2 A3 A4 β : Type} {F : (A1 → A2 → A3 → A4 → Option β) → A1 → A2 → A3 → A4 → Option β} {x1 : A1} {x2 : A2} {x3 : A3} {x4 : A4} {out : Option β} (a1 : Nat → A1) (a2 : Nat → A2) (a3 : Nat → A3) (a4 : Nat → A4) (N i : Nat) (hN : i ≤ N ∧ N < 100000) (e1 : x1 = a1 i) (e2 : x2 = a2 i) (e3 : x3 = a3 i) (e4 : x4 = a4 i) (he : ∀ k, F k (a1 N) (a2 N) (a3 N) (a4 N) = out) (hs : ∀ i, i < N → ∀ k, F k (a1 i) (a2 i) (a3 i) (a4 i) = k (a1 (i + 1)) (a2 (i + 1)) (a3 (i + 1)) (a4 (i + 1))) : fx4 FU F x1 x2 x3 x4 = out :=
  fx4_go a1 a2 a3 a4 (fun _ => out) N i hN e1 e2 e3 e4 he (fun i hi k => .inr ⟨hs i hi k, rfl⟩)
/-- a town's bounds -/
abbrev TB (t : TT) : Prop :=
  (t.ms ≤ 6) ∧ (0 < t.P → 3 ≤ t.ms) ∧ (t.wi ≤ 2) ∧ (t.la ≤ 3) ∧ (t.sh ≤ 6) ∧ (t.P ≤ 5) ∧ (t.V ≤ 10) ∧ (t.W ≤ 5) ∧ (t.A ≤ 8) ∧ (t.S ≤ 5) ∧ (t.ch.length ≤ 10) ∧ (∀ c ∈ t.ch, c.1 < t.P ∧ c.2.1 < 30 ∧ c.2.2.1 < t.ms ∧ 1 ≤ c.2.2.2 ∧ c.2.2.2 ≤ 3) ∧ (∀ p, p < t.P → t.kind p ≤ 3) ∧ (∀ p, lt4 (t.told p)) ∧ (∀ p m, t.ms ≤ m → t.told p m = 0) ∧ (∀ d p, t.vis d = some p → p < t.P) ∧ (∀ w, w < t.W → t.wp w < t.P) ∧ (∀ w, w < t.W → t.wd w < 30) ∧ (∀ p q o, t.odds p q = some o → p < t.P ∧ q < t.P ∧ p ≠ q ∧ o ≤ 100) ∧ (∀ p n, t.st p = some n → p < t.P ∧ n ≤ t.ms)
theorem TB.ms {t : TT} (h : TB t) : t.ms ≤ 6 := h.1
theorem TB.ms3 {t : TT} (h : TB t) : 0 < t.P → 3 ≤ t.ms := h.2.1
theorem TB.wi {t : TT} (h : TB t) : t.wi ≤ 2 := h.2.2.1
theorem TB.la {t : TT} (h : TB t) : t.la ≤ 3 := h.2.2.2.1
theorem TB.sh {t : TT} (h : TB t) : t.sh ≤ 6 := h.2.2.2.2.1
theorem TB.P {t : TT} (h : TB t) : t.P ≤ 5 := h.2.2.2.2.2.1
theorem TB.V {t : TT} (h : TB t) : t.V ≤ 10 := h.2.2.2.2.2.2.1
theorem TB.W {t : TT} (h : TB t) : t.W ≤ 5 := h.2.2.2.2.2.2.2.1
theorem TB.A {t : TT} (h : TB t) : t.A ≤ 8 := h.2.2.2.2.2.2.2.2.1
theorem TB.S {t : TT} (h : TB t) : t.S ≤ 5 := h.2.2.2.2.2.2.2.2.2.1
theorem TB.C {t : TT} (h : TB t) : t.ch.length ≤ 10 := h.2.2.2.2.2.2.2.2.2.2.1
theorem TB.chb {t : TT} (h : TB t) : ∀ c ∈ t.ch, c.1 < t.P ∧ c.2.1 < 30 ∧ c.2.2.1 < t.ms ∧ 1 ≤ c.2.2.2 ∧ c.2.2.2 ≤ 3 := h.2.2.2.2.2.2.2.2.2.2.2.1
theorem TB.kind {t : TT} (h : TB t) : ∀ p, p < t.P → t.kind p ≤ 3 := h.2.2.2.2.2.2.2.2.2.2.2.2.1
theorem TB.told {t : TT} (h : TB t) : ∀ p, lt4 (t.told p) := h.2.2.2.2.2.2.2.2.2.2.2.2.2.1
theorem TB.tolz {t : TT} (h : TB t) : ∀ p m, t.ms ≤ m → t.told p m = 0 := h.2.2.2.2.2.2.2.2.2.2.2.2.2.2.1
theorem TB.vis {t : TT} (h : TB t) : ∀ d p, t.vis d = some p → p < t.P := h.2.2.2.2.2.2.2.2.2.2.2.2.2.2.2.1
theorem TB.wp {t : TT} (h : TB t) : ∀ w, w < t.W → t.wp w < t.P := h.2.2.2.2.2.2.2.2.2.2.2.2.2.2.2.2.1
theorem TB.wd {t : TT} (h : TB t) : ∀ w, w < t.W → t.wd w < 30 := h.2.2.2.2.2.2.2.2.2.2.2.2.2.2.2.2.2.1
theorem TB.odds {t : TT} (h : TB t) : ∀ p q o, t.odds p q = some o → p < t.P ∧ q < t.P ∧ p ≠ q ∧ o ≤ 100 := h.2.2.2.2.2.2.2.2.2.2.2.2.2.2.2.2.2.2.1
theorem TB.st {t : TT} (h : TB t) : ∀ p n, t.st p = some n → p < t.P ∧ n ≤ t.ms := h.2.2.2.2.2.2.2.2.2.2.2.2.2.2.2.2.2.2.2
/-- a state's bounds -/
abbrev SB (t : TT) (s : SS) : Prop :=
  (∀ d p, s.vis d = some p → p < t.P) ∧ (s.day < 30) ∧ (s.sk.length ≤ 12) ∧ (∀ c ∈ s.sk, c.1 < t.P ∧ c.2.1 ≤ s.day ∧ c.2.2.1 < t.ms ∧ 1 ≤ c.2.2.2 ∧ c.2.2.2 ≤ 3)
theorem SB.vis {t : TT}{s : SS} (h : SB t s) : ∀ d p, s.vis d = some p → p < t.P := h.1
theorem SB.day {t : TT}{s : SS} (h : SB t s) : s.day < 30 := h.2.1
theorem SB.n {t : TT}{s : SS} (h : SB t s) : s.sk.length ≤ 12 := h.2.2.1
theorem SB.skb {t : TT}{s : SS} (h : SB t s) : ∀ c ∈ s.sk, c.1 < t.P ∧ c.2.1 ≤ s.day ∧ c.2.2.1 < t.ms ∧ 1 ≤ c.2.2.2 ∧ c.2.2.2 ≤ 3 := h.2.2.2
/-- the model's array r tells the town -/
abbrev MR (f : Nat → Int32) (t : TT) : Prop :=
  (f 0 = zI t.ms) ∧ (f 1 = zI t.wi) ∧ (f 2 = zI t.la) ∧ (f 3 = zI t.sh) ∧ (f 4 = zI t.P) ∧ (f 5 = zI t.ch.length) ∧ (f 6 = zI t.V) ∧ (f 7 = zI t.W) ∧ (f 8 = zI t.A) ∧ (f 9 = zI t.S) ∧ (∀ p, p < t.P → f (10 + 2 * p) = zI (t.kind p)) ∧ (∀ p, p < t.P → f (11 + 2 * p) = zI (e4 (t.told p))) ∧ (∀ k c, t.ch[k]? = some c → f (20 + 4 * k) = zI c.1 ∧ f (20 + 4 * k + 1) = zI c.2.1 ∧ f (20 + 4 * k + 2) = zI c.2.2.1 ∧ f (20 + 4 * k + 3) = zI c.2.2.2) ∧ (∀ d, d < 30 → f (60 + d) = zI (oM (t.vis d))) ∧ (∀ w, w < t.W → f (90 + 2 * w) = zI (t.wp w)) ∧ (∀ w, w < t.W → f (90 + 2 * w + 1) = zI (t.wd w)) ∧ (∀ p q, p < 5 → q < 5 → f (100 + 5 * p + q) = zI (oM (t.odds p q))) ∧ (∀ p, p < 5 → f (125 + p) = zI (oM (t.st p)))
theorem MR.ms {f : Nat → Int32}{t : TT} (h : MR f t) : f 0 = zI t.ms := h.1
theorem MR.wi {f : Nat → Int32}{t : TT} (h : MR f t) : f 1 = zI t.wi := h.2.1
theorem MR.la {f : Nat → Int32}{t : TT} (h : MR f t) : f 2 = zI t.la := h.2.2.1
theorem MR.sh {f : Nat → Int32}{t : TT} (h : MR f t) : f 3 = zI t.sh := h.2.2.2.1
theorem MR.P {f : Nat → Int32}{t : TT} (h : MR f t) : f 4 = zI t.P := h.2.2.2.2.1
theorem MR.C {f : Nat → Int32}{t : TT} (h : MR f t) : f 5 = zI t.ch.length := h.2.2.2.2.2.1
theorem MR.V {f : Nat → Int32}{t : TT} (h : MR f t) : f 6 = zI t.V := h.2.2.2.2.2.2.1
theorem MR.W {f : Nat → Int32}{t : TT} (h : MR f t) : f 7 = zI t.W := h.2.2.2.2.2.2.2.1
theorem MR.A {f : Nat → Int32}{t : TT} (h : MR f t) : f 8 = zI t.A := h.2.2.2.2.2.2.2.2.1
theorem MR.S {f : Nat → Int32}{t : TT} (h : MR f t) : f 9 = zI t.S := h.2.2.2.2.2.2.2.2.2.1
theorem MR.kind {f : Nat → Int32}{t : TT} (h : MR f t) : ∀ p, p < t.P → f (10 + 2 * p) = zI (t.kind p) := h.2.2.2.2.2.2.2.2.2.2.1
theorem MR.told {f : Nat → Int32}{t : TT} (h : MR f t) : ∀ p, p < t.P → f (11 + 2 * p) = zI (e4 (t.told p)) := h.2.2.2.2.2.2.2.2.2.2.2.1
theorem MR.ch {f : Nat → Int32}{t : TT} (h : MR f t) : ∀ k c, t.ch[k]? = some c → f (20 + 4 * k) = zI c.1 ∧ f (20 + 4 * k + 1) = zI c.2.1 ∧ f (20 + 4 * k + 2) = zI c.2.2.1 ∧ f (20 + 4 * k + 3) = zI c.2.2.2 := h.2.2.2.2.2.2.2.2.2.2.2.2.1
theorem MR.vis {f : Nat → Int32}{t : TT} (h : MR f t) : ∀ d, d < 30 → f (60 + d) = zI (oM (t.vis d)) := h.2.2.2.2.2.2.2.2.2.2.2.2.2.1
theorem MR.wp {f : Nat → Int32}{t : TT} (h : MR f t) : ∀ w, w < t.W → f (90 + 2 * w) = zI (t.wp w) := h.2.2.2.2.2.2.2.2.2.2.2.2.2.2.1
theorem MR.wd {f : Nat → Int32}{t : TT} (h : MR f t) : ∀ w, w < t.W → f (90 + 2 * w + 1) = zI (t.wd w) := h.2.2.2.2.2.2.2.2.2.2.2.2.2.2.2.1
theorem MR.odds {f : Nat → Int32}{t : TT} (h : MR f t) : ∀ p q, p < 5 → q < 5 → f (100 + 5 * p + q) = zI (oM (t.odds p q)) := h.2.2.2.2.2.2.2.2.2.2.2.2.2.2.2.2.1
theorem MR.st {f : Nat → Int32}{t : TT} (h : MR f t) : ∀ p, p < 5 → f (125 + p) = zI (oM (t.st p)) := h.2.2.2.2.2.2.2.2.2.2.2.2.2.2.2.2.2
/-- cells from o on of an array of the model tell a state -/
abbrev MV (f : Nat → Int32) (o : Nat) (s : SS) : Prop :=
  (∀ d, d < 30 → f (o + d) = zI (oM (s.vis d))) ∧ (∀ k c, s.sk[k]? = some c → f (o + (30 + 4 * k)) = zI c.1 ∧ f (o + (30 + 4 * k + 1)) = zI c.2.1 ∧ f (o + (30 + 4 * k + 2)) = zI c.2.2.1 ∧ f (o + (30 + 4 * k + 3)) = zI c.2.2.2) ∧ (f (o + 78) = zI s.sk.length) ∧ (f (o + 79) = zI s.day)
theorem MV.vis {f : Nat → Int32}{o : Nat}{s : SS} (h : MV f o s) : ∀ d, d < 30 → f (o + d) = zI (oM (s.vis d)) := h.1
theorem MV.sk {f : Nat → Int32}{o : Nat}{s : SS} (h : MV f o s) : ∀ k c, s.sk[k]? = some c → f (o + (30 + 4 * k)) = zI c.1 ∧ f (o + (30 + 4 * k + 1)) = zI c.2.1 ∧ f (o + (30 + 4 * k + 2)) = zI c.2.2.1 ∧ f (o + (30 + 4 * k + 3)) = zI c.2.2.2 := h.2.1
theorem MV.n {f : Nat → Int32}{o : Nat}{s : SS} (h : MV f o s) : f (o + 78) = zI s.sk.length := h.2.2.1
theorem MV.day {f : Nat → Int32}{o : Nat}{s : SS} (h : MV f o s) : f (o + 79) = zI s.day := h.2.2.2
/-- the class's town at place T -/
abbrev CT (σ : Mem) (T : Nat) (t : TT) : Prop :=
  (T = 3 ∨ T = 15) ∧ (σ.1 T 0 = zI t.ms) ∧ (σ.1 T 1 = zI t.wi) ∧ (σ.1 T 2 = zI t.la) ∧ (σ.1 T 3 = zI t.sh) ∧ (σ.1 (T + 1) 1 = zI t.P) ∧ (σ.1 (T + 1) 2 = zI t.ch.length) ∧ (σ.1 (T + 1) 3 = zI t.V) ∧ (σ.1 (T + 1) 4 = zI t.W) ∧ (σ.1 (T + 1) 5 = zI t.A) ∧ (σ.1 (T + 1) 6 = zI t.S) ∧ (∀ p, p < t.P → σ.1 (T + 3) p = zI (t.kind p)) ∧ (∀ p, p < t.P → σ.1 (T + 4) p = zI (e5 (t.told p))) ∧ (∀ d, d < 30 → σ.1 (T + 7) d = zI (oC (t.vis d))) ∧ (∀ w, w < t.W → σ.1 (T + 8) w = zI (t.wp w)) ∧ (∀ w, w < t.W → σ.1 (T + 9) w = zI (t.wd w)) ∧ (∀ p q, p < 5 → q < 5 → σ.1 (T + 10) (p * 5 + q) = zI (oC (t.odds p q))) ∧ (∀ p, p < 5 → σ.1 (T + 11) p = zI (oC (t.st p)))
theorem CT.at_ {σ : Mem}{T : Nat}{t : TT} (h : CT σ T t) : T = 3 ∨ T = 15 := h.1
theorem CT.ms {σ : Mem}{T : Nat}{t : TT} (h : CT σ T t) : σ.1 T 0 = zI t.ms := h.2.1
theorem CT.wi {σ : Mem}{T : Nat}{t : TT} (h : CT σ T t) : σ.1 T 1 = zI t.wi := h.2.2.1
theorem CT.la {σ : Mem}{T : Nat}{t : TT} (h : CT σ T t) : σ.1 T 2 = zI t.la := h.2.2.2.1
theorem CT.sh {σ : Mem}{T : Nat}{t : TT} (h : CT σ T t) : σ.1 T 3 = zI t.sh := h.2.2.2.2.1
theorem CT.P {σ : Mem}{T : Nat}{t : TT} (h : CT σ T t) : σ.1 (T + 1) 1 = zI t.P := h.2.2.2.2.2.1
theorem CT.C {σ : Mem}{T : Nat}{t : TT} (h : CT σ T t) : σ.1 (T + 1) 2 = zI t.ch.length := h.2.2.2.2.2.2.1
theorem CT.V {σ : Mem}{T : Nat}{t : TT} (h : CT σ T t) : σ.1 (T + 1) 3 = zI t.V := h.2.2.2.2.2.2.2.1
theorem CT.W {σ : Mem}{T : Nat}{t : TT} (h : CT σ T t) : σ.1 (T + 1) 4 = zI t.W := h.2.2.2.2.2.2.2.2.1
theorem CT.A {σ : Mem}{T : Nat}{t : TT} (h : CT σ T t) : σ.1 (T + 1) 5 = zI t.A := h.2.2.2.2.2.2.2.2.2.1
theorem CT.S {σ : Mem}{T : Nat}{t : TT} (h : CT σ T t) : σ.1 (T + 1) 6 = zI t.S := h.2.2.2.2.2.2.2.2.2.2.1
theorem CT.kind {σ : Mem}{T : Nat}{t : TT} (h : CT σ T t) : ∀ p, p < t.P → σ.1 (T + 3) p = zI (t.kind p) := h.2.2.2.2.2.2.2.2.2.2.2.1
theorem CT.told {σ : Mem}{T : Nat}{t : TT} (h : CT σ T t) : ∀ p, p < t.P → σ.1 (T + 4) p = zI (e5 (t.told p)) := h.2.2.2.2.2.2.2.2.2.2.2.2.1
theorem CT.vis {σ : Mem}{T : Nat}{t : TT} (h : CT σ T t) : ∀ d, d < 30 → σ.1 (T + 7) d = zI (oC (t.vis d)) := h.2.2.2.2.2.2.2.2.2.2.2.2.2.1
theorem CT.wp {σ : Mem}{T : Nat}{t : TT} (h : CT σ T t) : ∀ w, w < t.W → σ.1 (T + 8) w = zI (t.wp w) := h.2.2.2.2.2.2.2.2.2.2.2.2.2.2.1
theorem CT.wd {σ : Mem}{T : Nat}{t : TT} (h : CT σ T t) : ∀ w, w < t.W → σ.1 (T + 9) w = zI (t.wd w) := h.2.2.2.2.2.2.2.2.2.2.2.2.2.2.2.1
theorem CT.odds {σ : Mem}{T : Nat}{t : TT} (h : CT σ T t) : ∀ p q, p < 5 → q < 5 → σ.1 (T + 10) (p * 5 + q) = zI (oC (t.odds p q)) := h.2.2.2.2.2.2.2.2.2.2.2.2.2.2.2.2.1
theorem CT.st {σ : Mem}{T : Nat}{t : TT} (h : CT σ T t) : ∀ p, p < 5 → σ.1 (T + 11) p = zI (oC (t.st p)) := h.2.2.2.2.2.2.2.2.2.2.2.2.2.2.2.2.2
/-- the class's state at place k, of the town at place T, with the changes E -/
abbrev CS (σ : Mem) (k T : Nat) (t : TT) (E : List (Nat × Nat × Nat × Nat)) (s : SS) : Prop :=
  (k = 28 ∨ k = 32 ∨ k = 37 ∨ k = 41 ∨ k = 45) ∧ (σ.2.2 k 0 = some T) ∧ (σ.1 k 1 = zI s.day) ∧ (σ.1 k 2 = zI s.sk.length) ∧ (∀ d, d < 30 → σ.1 (k + 1) d = zI (oC (s.vis d))) ∧ (∀ p d, p < t.P → d < 30 → σ.1 (k + 3) (p * 30 + d) = zI (e5 (lk t E p d)))
theorem CS.at_ {σ : Mem}{k T : Nat}{t : TT}{E : List (Nat × Nat × Nat × Nat)}{s : SS} (h : CS σ k T t E s) : k = 28 ∨ k = 32 ∨ k = 37 ∨ k = 41 ∨ k = 45 := h.1
theorem CS.town {σ : Mem}{k T : Nat}{t : TT}{E : List (Nat × Nat × Nat × Nat)}{s : SS} (h : CS σ k T t E s) : σ.2.2 k 0 = some T := h.2.1
theorem CS.day {σ : Mem}{k T : Nat}{t : TT}{E : List (Nat × Nat × Nat × Nat)}{s : SS} (h : CS σ k T t E s) : σ.1 k 1 = zI s.day := h.2.2.1
theorem CS.n {σ : Mem}{k T : Nat}{t : TT}{E : List (Nat × Nat × Nat × Nat)}{s : SS} (h : CS σ k T t E s) : σ.1 k 2 = zI s.sk.length := h.2.2.2.1
theorem CS.vis {σ : Mem}{k T : Nat}{t : TT}{E : List (Nat × Nat × Nat × Nat)}{s : SS} (h : CS σ k T t E s) : ∀ d, d < 30 → σ.1 (k + 1) d = zI (oC (s.vis d)) := h.2.2.2.2.1
theorem CS.look {σ : Mem}{k T : Nat}{t : TT}{E : List (Nat × Nat × Nat × Nat)}{s : SS} (h : CS σ k T t E s) : ∀ p d, p < t.P → d < 30 → σ.1 (k + 3) (p * 30 + d) = zI (e5 (lk t E p d)) := h.2.2.2.2.2
/-- without age -/
def lkp (t : TT) (E : List (Nat × Nat × Nat × Nat)) (p d : Nat) : Nat → Nat := fun m => (t.told p m + adds E p d m) % 4
theorem lkp_lt (t : TT) (E : List (Nat × Nat × Nat × Nat)) (p d : Nat) : lt4 (lkp t E p d) := fun _ => Nat.mod_lt _ (by omega)
theorem lkp_add {t : TT} {E : List (Nat × Nat × Nat × Nat)} {p d : Nat} {c : Nat × Nat × Nat × Nat} (h1 : c.1 = p) (h2 : c.2.1 ≤ d) : e4 (fu (lkp t E p d) c.2.2.1 ((lkp t E p d c.2.2.1 + c.2.2.2) % 4)) = e4 (lkp t (E ++ [c]) p d) := by
  refine e4_congr (fun m _ => ?_)
  simp only [fu, lkp, adds_app, adds]
  by_cases e : m = c.2.2.1
  · subst e
    rw [if_pos rfl, if_pos ⟨h1, h2, rfl⟩]; omega
  · rw [if_neg e, if_neg (fun q => e q.2.2.symm)]; rfl
theorem lkp_not {t : TT} {E : List (Nat × Nat × Nat × Nat)} {p d : Nat} {c : Nat × Nat × Nat × Nat} (h : ¬ (c.1 = p ∧ c.2.1 ≤ d)) : lkp t (E ++ [c]) p d = lkp t E p d := by
  funext m
  simp only [lkp, adds_app, adds]
  rw [if_neg (fun q => h ⟨q.1, q.2.1⟩)]; rfl
theorem tk_s {α : Type} (L : List α) {i : Nat} {c : α} (h : L[i]? = some c) : L.take (i + 1) = L.take i ++ [c] := by
  rw [List.take_succ, h]; rfl
theorem tk_a {α : Type} (L : List α) : L.take L.length = L := List.take_length
theorem get_some {α : Type} (L : List α) {i : Nat} (h : i < L.length) : ∃ c, L[i]? = some c ∧ c ∈ L := ⟨L[i], List.getElem?_eq_getElem h, List.getElem_mem h⟩
def DL (dr : Option (Nat → Nat × Nat)) (n : Nat) : List (Nat × Nat × Nat × Nat) := match dr with
  | none => []
  | some f => (List.range n).map (fun d => ((f d).1, d, (f d).2, 1))
/-- what the model holds by draws -/
def MD (σ : Mem) (t : TT) (dr : Option (Nat → Nat × Nat)) : Prop := match dr with
  | none => σ.1 64 24 = zI 0
  | some f => σ.1 64 24 = zI 1 ∧ ∀ d, d < 30 → σ.1 72 d = zI (f d).1 ∧ σ.1 73 d = zI (f d).2 ∧ (f d).1 < 65537 ∧ (f d).2 < t.ms
theorem DL_s (f : Nat → Nat × Nat) (n : Nat) : DL (some f) (n + 1) = DL (some f) n ++ [((f n).1, n, (f n).2, 1)] := by
  unfold DL; simp [List.range_succ]
theorem adds_late {E : List (Nat × Nat × Nat × Nat)} {p d m : Nat} (h : ∀ c ∈ E, d < c.2.1) : adds E p d m = 0 := by
  induction E with
  | nil => rfl
  | cons c r ih =>
    have := h c (by simp)
    rw [adds, if_neg (fun q => by omega), ih (fun c hc => h c (by simp [hc]))]
theorem DL_adds (f : Nat → Nat × Nat) {p d m : Nat} (hd : d < 30) : adds (DL (some f) 30) p d m = adds (DL (some f) (d + 1)) p d m := by
  have e : ∀ k, adds (DL (some f) (d + 1 + k)) p d m = adds (DL (some f) (d + 1)) p d m := by
    intro k
    induction k with
    | zero => rfl
    | succ k ih => rw [← Nat.add_assoc, DL_s, adds_app, ih, adds, if_neg (fun q => by have := q.2.1; dsimp only at this; omega)]; rfl
  have := e (29 - d)
  rwa [show d + 1 + (29 - d) = 30 from by omega] at this
theorem m_told {σ : Mem} {t : TT} (hR : MR (σ.1 67) t) (tb : TB t) {p : Nat} (hp : p < t.P) : f_X13_toldLook σ (zI p) = some (zI (e4 (t.told p))) := by
  unfold f_X13_toldLook
  have := tb.P
  have ha : aln 67 = 175 := rfl
  simp (disch := omega) only [jn0_e, jn1_e, jn2_e, pnm_e, pbd1_s, pbd2_s, prfc_s, onm_sm, onm_nn, zI_lit, zI_nI, zI_add, zI_sub, zI_mul, zI_neg, zI_lt, zI_le, zI_eq, zI_nat, zI_div, zI_mod, ixd_in, dvd_ne]
  rw [show (10 + 2 * (p : Int) + 1).toNat = 11 + 2 * p from by omega, hR.told p hp]
theorem some_zI {a b : Nat} (h : a = b) : some (zI a) = some (zI b) := by rw [h]
theorem zI_div_nat (d k : Nat) (h : d < 2147483648 ∧ 0 < k ∧ k < 2147483648) : zI d / zI k = zI ((d / k : Nat)) := by
  rw [zI_div (by omega) (by omega)]
  congr 1
theorem m_look3 {σ : Mem} {t : TT} {dr : Option (Nat → Nat × Nat)} {E : List (Nat × Nat × Nat × Nat)} (hR : MR (σ.1 67) t) (tb : TB t) (hD : MD σ t dr) {p d : Nat} (hp : p < t.P) (hd : d < 30) : fx2 FU (fun k_10 (i_8 : Int32) (i_9 : Int32) => jn0 (ixd (10 + (2 * zI p)) (aln 67) (jn1 (fun (i_12 : Int32) => ixd (10 + (2 * zI p)) (aln 67) ((if (σ.1 67 (10 + (2 * zI p)).toNatClampNeg) = 2 then dvd 4 (bd1 (f_X13_goesOn i_12 1 (zI d / 4)) (fun (r_14 : Int32) => some r_14)) else some i_12))) (fun k_13 => (if (σ.1 67 (10 + (2 * zI p)).toNatClampNeg) = 1 then dvd 10 (bd1 (f_X13_goesOn i_8 0 (zI d / 10)) (fun (r_15 : Int32) => k_13 r_15)) else k_13 i_8)))) (fun k_11 => (if zI d < i_9 then k_11 else (if (σ.1 64 24) = 0 then k_11 else ixd i_9 (aln 72) (jn1 (fun (i_16 : Int32) => nm (i_9 + 1) (fun (x_18 : Int32) => k_10 i_16 x_18)) (fun k_17 => (if (σ.1 72 i_9.toNatClampNeg) = zI p then ixd i_9 (aln 73) (bd1 (f_X13_goesOn i_8 (σ.1 73 i_9.toNatClampNeg) 1) (fun (r_20 : Int32) => k_17 r_20)) else k_17 i_8))))))) (zI (e4 (lkp t E p d))) 0 = some (zI (e4 (lk t (E ++ DL dr 30) p d))) := by
  have a67 : aln 67 = 175 := rfl
  have a72 : aln 72 = 30 := rfl
  have a73 : aln 73 = 30 := rfl
  have hP := tb.P
  have hms := tb.ms
  have hms3 := tb.ms3 (by omega)
  have hkd := tb.kind p hp
  have hage : ∀ F : List (Nat × Nat × Nat × Nat), (∀ m, adds F p d m = adds (E ++ DL dr 30) p d m) → (ixd (10 + (2 * zI p)) (aln 67) (jn1 (fun (i_12 : Int32) => ixd (10 + (2 * zI p)) (aln 67) ((if (σ.1 67 (10 + (2 * zI p)).toNatClampNeg) = 2 then dvd 4 (bd1 (f_X13_goesOn i_12 1 (zI d / 4)) (fun (r_14 : Int32) => some r_14)) else some i_12))) (fun k_13 => (if (σ.1 67 (10 + (2 * zI p)).toNatClampNeg) = 1 then dvd 10 (bd1 (f_X13_goesOn (zI (e4 (lkp t F p d))) 0 (zI d / 10)) (fun (r_15 : Int32) => k_13 r_15)) else k_13 (zI (e4 (lkp t F p d))))))) = some (zI (e4 (lk t (E ++ DL dr 30) p d))) := by
    intro F hF
    have g1 := m_goes (lkp_lt t F p d) (m := 1) (by_ := d / 4) (by omega)
    have g0 := m_goes (lkp_lt t F p d) (m := 0) (by_ := d / 10) (by omega)
    have z4 : zI d / 4 = zI ((d / 4 : Nat)) := zI_div_nat d 4 (by omega)
    have z10 : zI d / 10 = zI ((d / 10 : Nat)) := zI_div_nat d 10 (by omega)
    rw [z4, z10]
    simp (disch := omega) only [jn0_e, jn1_e, jn2_e, pnm_e, pbd1_s, pbd2_s, prfc_s, onm_sm, onm_nn, zI_lit, zI_nI, zI_add, zI_sub, zI_mul, zI_neg, zI_lt, zI_le, zI_eq, zI_nat, zI_div, zI_mod, ixd_in, dvd_ne]
    simp only [show (10 + 2 * (p : Int)).toNat = 10 + 2 * p from by omega, hR.kind p hp]
    simp (disch := omega) only [jn0_e, jn1_e, jn2_e, pnm_e, pbd1_s, pbd2_s, prfc_s, onm_sm, onm_nn, zI_lit, zI_nI, zI_add, zI_sub, zI_mul, zI_neg, zI_lt, zI_le, zI_eq, zI_nat, zI_div, zI_mod, ixd_in, dvd_ne]
    have g1 : f_X13_goesOn (zI (e4 (lkp t F p d))) (zI 1) (zI ((d / 4 : Nat))) = _ := g1
    have g0 : f_X13_goesOn (zI (e4 (lkp t F p d))) (zI 0) (zI ((d / 10 : Nat))) = _ := g0
    rw [g0, g1]
    by_cases k1 : t.kind p = 1
    · rw [if_pos (by omega), pbd1_s, if_neg (by omega)]
      refine some_zI (e4_congr (fun m _ => ?_))
      simp only [fu, lkp, lk, age, hF]
      by_cases m0 : m = 0
      · subst m0; rw [if_pos rfl, if_pos ⟨k1, rfl⟩, if_neg (by omega)]; omega
      · rw [if_neg m0, if_neg (by omega), if_neg (by omega)]; rfl
    · rw [if_neg (by omega)]
      by_cases k2 : t.kind p = 2
      · rw [if_pos (by omega), pbd1_s]
        refine some_zI (e4_congr (fun m _ => ?_))
        simp only [fu, lkp, lk, age, hF]
        by_cases m0 : m = 1
        · subst m0; rw [if_pos rfl, if_neg (by omega), if_pos ⟨k2, rfl⟩]; omega
        · rw [if_neg m0, if_neg (by omega), if_neg (by omega)]; rfl
      · rw [if_neg (by omega)]
        refine some_zI (e4_congr (fun m _ => ?_))
        simp only [lkp, lk, age, hF]
        rw [if_neg (by omega), if_neg (by omega)]; rfl
  cases dr with
  | none =>
    have hD : σ.1 64 24 = zI 0 := hD
    refine fx2_run (fun _ => zI (e4 (lkp t E p d))) (fun i => zI i) 0 0 (by omega) rfl rfl (fun k => ?_) (fun i hi k => absurd hi (by omega))
    have := hage E (fun m => by rw [adds_app]; rfl)
    rw [jn0_e, hD, if_pos (show zI 0 = 0 from rfl), ite_self]
    exact this
  | some f =>
    obtain ⟨hD1, hD2⟩ := hD
    refine fx2_run (fun i => zI (e4 (lkp t (E ++ DL (some f) i) p d))) (fun i => zI i) (d + 1) 0 (by omega) (by rw [show DL (some f) 0 = [] from rfl, List.append_nil]) rfl (fun k => ?_) (fun i hi k => ?_)
    · have := hage (E ++ DL (some f) (d + 1)) (fun m => by rw [adds_app, adds_app, DL_adds f hd])
      rw [jn0_e, if_pos (by rw [zI_lt (by omega) (by omega)]; omega)]
      exact this
    · obtain ⟨q1, q2, q3, q4⟩ := hD2 i (by omega)
      have g := m_goes (lkp_lt t (E ++ DL (some f) i) p d) (m := (f i).2) (by_ := 1) (by omega)
      have g : f_X13_goesOn (zI (e4 (lkp t (E ++ DL (some f) i) p d))) (zI (f i).2) (zI 1) = _ := g
      rw [hD1]
      simp (disch := omega) only [jn0_e, jn1_e, jn2_e, pnm_e, pbd1_s, pbd2_s, prfc_s, onm_sm, onm_nn, zI_lit, zI_nI, zI_add, zI_sub, zI_mul, zI_neg, zI_lt, zI_le, zI_eq, zI_nat, zI_div, zI_mod, ixd_in, dvd_ne]
      rw [if_neg (by omega), if_neg (by omega), show (i : Int).toNat = i from by omega, q1, q2, g]
      simp (disch := omega) only [jn0_e, jn1_e, jn2_e, pnm_e, pbd1_s, pbd2_s, prfc_s, onm_sm, onm_nn, zI_lit, zI_nI, zI_add, zI_sub, zI_mul, zI_neg, zI_lt, zI_le, zI_eq, zI_nat, zI_div, zI_mod, ixd_in, dvd_ne]
      rw [DL_s, ← List.append_assoc]
      by_cases h1 : ((f i).1 : Int) = p
      · rw [if_pos h1]
        have h2 := lkp_add (t := t) (E := E ++ DL (some f) i) (p := p) (d := d) (c := ((f i).1, i, (f i).2, 1)) (by dsimp only; omega) (by dsimp only; omega)
        rw [← h2]; rfl
      · rw [if_neg h1, lkp_not (by dsimp only; omega)]
        rfl
theorem m_look {σ : Mem} {t : TT} {s : SS} {dr : Option (Nat → Nat × Nat)} (hR : MR (σ.1 67) t) (hV : MV (σ.1 69) 0 s) (tb : TB t) (sb : SB t s) (hD : MD σ t dr) {p d : Nat} (hp : p < t.P) (hd : d < 30) : f_X13_lookOn σ (zI p) (zI d) = some (zI (e4 (lk t (t.ch ++ s.sk ++ DL dr 30) p d))) := by
  have a67 : aln 67 = 175 := rfl
  have a69 : aln 69 = 80 := rfl
  have a72 : aln 72 = 30 := rfl
  have a73 : aln 73 = 30 := rfl
  have hP := tb.P
  have hms := tb.ms
  have hC := tb.C
  have hn := sb.n
  unfold f_X13_lookOn
  rw [m_told hR tb hp]
  simp only [pbd1_s]
  refine fx2_run (fun i => zI (e4 (lkp t (t.ch.take i) p d))) (fun i => zI i) t.ch.length 0 (by omega) ?_ rfl (fun k => ?_) (fun i hi k => ?_)
  · congr 2; exact e4_congr (fun m _ => by simp [lkp, adds, Nat.mod_eq_of_lt (tb.told p m)])
  · refine (ixd_in (i := 5) (by omega)).trans ?_
    rw [if_pos (by rw [show (5 : Int32).toNatClampNeg = 5 from rfl, hR.C, zI_le (by omega) (by omega)]; omega), tk_a]
    refine fx2_run (fun i => zI (e4 (lkp t (t.ch ++ s.sk.take i) p d))) (fun i => zI i) s.sk.length 0 (by omega) (by rw [List.take_zero, List.append_nil]) rfl (fun k => ?_) (fun i hi k => ?_)
    · refine (ixd_in (i := 78) (by omega)).trans ?_
      rw [if_pos (by rw [show (78 : Int32).toNatClampNeg = 0 + 78 from rfl, hV.n, zI_le (by omega) (by omega)]; omega), tk_a]
      exact m_look3 hR tb hD hp hd
    · obtain ⟨c, hc, hm⟩ := get_some s.sk hi
      obtain ⟨q1, q2, q3, q4⟩ := hV.sk i c hc
      obtain ⟨b1, b2, b3, b4, b5⟩ := sb.skb c hm
      have hday := sb.day
      simp (disch := omega) only [jn0_e, jn1_e, jn2_e, pnm_e, pbd1_s, pbd2_s, prfc_s, onm_sm, onm_nn, zI_lit, zI_nI, zI_add, zI_sub, zI_mul, zI_neg, zI_lt, zI_le, zI_eq, zI_nat, zI_div, zI_mod, ixd_in, dvd_ne]
      rw [show (78 : Int).toNat = 0 + 78 from rfl, hV.n]
      simp only [show (30 + 4 * (i : Int)).toNat = 0 + (30 + 4 * i) from by omega, show (30 + 4 * (i : Int) + 1).toNat = 0 + (30 + 4 * i + 1) from by omega, show (30 + 4 * (i : Int) + 2).toNat = 0 + (30 + 4 * i + 2) from by omega, show (30 + 4 * (i : Int) + 3).toNat = 0 + (30 + 4 * i + 3) from by omega, q1, q2, q3, q4]
      simp (disch := omega) only [jn0_e, jn1_e, jn2_e, pnm_e, pbd1_s, pbd2_s, prfc_s, onm_sm, onm_nn, zI_lit, zI_nI, zI_add, zI_sub, zI_mul, zI_neg, zI_lt, zI_le, zI_eq, zI_nat, zI_div, zI_mod, ixd_in, dvd_ne]
      rw [if_neg (by omega), tk_s s.sk hc, m_goes (lkp_lt _ _ _ _) (by omega), ← List.append_assoc]
      simp (disch := omega) only [jn0_e, jn1_e, jn2_e, pnm_e, pbd1_s, pbd2_s, prfc_s, onm_sm, onm_nn, zI_lit, zI_nI, zI_add, zI_sub, zI_mul, zI_neg, zI_lt, zI_le, zI_eq, zI_nat, zI_div, zI_mod, ixd_in, dvd_ne]
      by_cases h1 : (c.1 : Int) = p
      · by_cases h2 : (d : Int) < c.2.1
        · rw [if_pos h1, if_pos h2, lkp_not (by omega)]
          rfl
        · rw [if_pos h1, if_neg h2, lkp_add (by omega) (by omega)]
          rfl
      · rw [if_neg h1, lkp_not (by omega)]
        rfl
  · obtain ⟨c, hc, hm⟩ := get_some t.ch hi
    obtain ⟨q1, q2, q3, q4⟩ := hR.ch i c hc
    obtain ⟨b1, b2, b3, b4, b5⟩ := tb.chb c hm
    simp (disch := omega) only [jn0_e, jn1_e, jn2_e, pnm_e, pbd1_s, pbd2_s, prfc_s, onm_sm, onm_nn, zI_lit, zI_nI, zI_add, zI_sub, zI_mul, zI_neg, zI_lt, zI_le, zI_eq, zI_nat, zI_div, zI_mod, ixd_in, dvd_ne]
    rw [show (5 : Int).toNat = 5 from rfl, hR.C]
    simp only [show (20 + 4 * (i : Int)).toNat = 20 + 4 * i from by omega, show (20 + 4 * (i : Int) + 1).toNat = 20 + 4 * i + 1 from by omega, show (20 + 4 * (i : Int) + 2).toNat = 20 + 4 * i + 2 from by omega, show (20 + 4 * (i : Int) + 3).toNat = 20 + 4 * i + 3 from by omega, q1, q2, q3, q4]
    simp (disch := omega) only [jn0_e, jn1_e, jn2_e, pnm_e, pbd1_s, pbd2_s, prfc_s, onm_sm, onm_nn, zI_lit, zI_nI, zI_add, zI_sub, zI_mul, zI_neg, zI_lt, zI_le, zI_eq, zI_nat, zI_div, zI_mod, ixd_in, dvd_ne]
    rw [if_neg (by omega), tk_s t.ch hc, m_goes (lkp_lt _ _ _ _) (by omega)]
    simp (disch := omega) only [jn0_e, jn1_e, jn2_e, pnm_e, pbd1_s, pbd2_s, prfc_s, onm_sm, onm_nn, zI_lit, zI_nI, zI_add, zI_sub, zI_mul, zI_neg, zI_lt, zI_le, zI_eq, zI_nat, zI_div, zI_mod, ixd_in, dvd_ne]
    by_cases h1 : (c.1 : Int) = p
    · by_cases h2 : (d : Int) < c.2.1
      · rw [if_pos h1, if_pos h2, lkp_not (by omega)]
        rfl
      · rw [if_pos h1, if_neg h2, lkp_add (by omega) (by omega)]
        rfl
    · rw [if_neg h1, lkp_not (by omega)]
      rfl
theorem cs_aln {k : Nat} (h : k = 28 ∨ k = 32 ∨ k = 37 ∨ k = 41 ∨ k = 45) : aln (k + 1) = 30 ∧ aln (k + 3) = 150 := by
  rcases h with rfl | rfl | rfl | rfl | rfl <;> exact ⟨rfl, rfl⟩
theorem ct_aln {T : Nat} (h : T = 3 ∨ T = 15) : aln (T + 1) = 7 ∧ aln (T + 2) = 5 ∧ aln (T + 3) = 5 ∧ aln (T + 4) = 5 ∧ aln (T + 6) = 150 ∧ aln (T + 7) = 30 ∧ aln (T + 8) = 5 ∧ aln (T + 9) = 5 ∧ aln (T + 10) = 25 ∧ aln (T + 11) = 5 := by
  rcases h with rfl | rfl <;> exact ⟨rfl, rfl, rfl, rfl, rfl, rfl, rfl, rfl, rfl, rfl⟩
theorem g_get {σ : Mem} {a : Nat} {i : Nat} {v : Int32} (h : σ.1 a i = v) (hi : i < aln a) (hn : aln a ≤ 2000000) : f_X12_get σ a (zI i) = some v := by
  rw [f_get σ a i (by omega) hn, if_pos (by omega), show (i : Int).toNat = i from by omega, h]
theorem c_at {σ : Mem} {k T : Nat} {t : TT} {E : List (Nat × Nat × Nat × Nat)} {s : SS} (h : CS σ k T t E s) {p d : Nat} (hP : t.P ≤ 5) (hp : p < t.P) (hd : d < 30) : f_X5_at σ (k + 2) (zI p) (zI d) = some (zI (e5 (lk t E p d))) := by
  have ha := (cs_aln h.at_).2
  unfold f_X5_at
  rw [show k + 2 + 1 = k + 3 from rfl]
  simp (disch := omega) only [jn0_e, jn1_e, jn2_e, pnm_e, pbd1_s, pbd2_s, prfc_s, onm_sm, onm_nn, zI_lit, zI_nI, zI_add, zI_sub, zI_mul, zI_neg, zI_lt, zI_le, zI_eq, zI_nat, zI_div, zI_mod, ixd_in, dvd_ne]
  rw [if_neg (by omega), if_neg (by omega), if_neg (by omega), if_neg (by omega), show ((p : Int) * 30 + d).toNat = p * 30 + d from by omega, h.look p d hp hd]
theorem c_visitor {σ : Mem} {k T : Nat} {t : TT} {E : List (Nat × Nat × Nat × Nat)} {s : SS} (h : CS σ k T t E s) {d : Nat} (hd : d < 30) : f_X9_visitor σ k (zI d) = some (zI (oC (s.vis d))) := by
  have ha := (cs_aln h.at_).1
  unfold f_X9_visitor
  rw [show (30 : Int32) = zI 30 from rfl, f_inside _ _ (by omega) (by omega), decide_eq_true (by omega), pbd1_s, if_neg (by decide), g_get (h.vis d hd) (by omega) (by omega)]
  rfl
theorem c_lat {σ : Mem} {k T : Nat} {t : TT} {E : List (Nat × Nat × Nat × Nat)} {s : SS} (h : CS σ k T t E s) (hb : ∀ d q, s.vis d = some q → q < 5) {p d : Nat} (hp : p < 5) (hd : d < 30) : f_X9_latestVisit σ k (zI p) (zI d) = some (zI (oC (lat s.vis p (d + 1)))) := by
  unfold f_X9_latestVisit
  rw [pnm_e, if_neg (by rw [show (29 : Int32) = zI 29 from rfl, zI_lt (by omega) (by omega)]; omega)]
  have e := fx1_down (F := fun k_3 (i_2 : Int32) => (if i_2 < 0 then some (-2) else bd1 (f_X9_visitor σ k i_2) (fun (r_4 : Int32) => (if r_4 = zI p then some i_2 else nm (i_2 + (-1)) (fun (x_5 : Int32) => k_3 x_5))))) (fun n => zI ((n : Int) - 1)) (fun n => some (zI (oC (lat s.vis p n)))) 30 (by omega) (fun k => rfl) (fun n hn k => ?_) (d + 1) (by omega)
  · rw [show ((d + 1 : Nat) : Int) - 1 = d from by omega] at e
    exact e
  · have hq := oC_b (hb n)
    simp only [show ((n + 1 : Nat) : Int) - 1 = n from by omega]
    rw [c_visitor h hn]
    simp (disch := omega) only [jn0_e, jn1_e, jn2_e, pnm_e, pbd1_s, pbd2_s, prfc_s, onm_sm, onm_nn, zI_lit, zI_nI, zI_add, zI_sub, zI_mul, zI_neg, zI_lt, zI_le, zI_eq, zI_nat, zI_div, zI_mod, ixd_in, dvd_ne]
    rw [if_neg (by omega), show (n : Int) + -1 = n - 1 from by omega, lat]
    simp only [oC_eq]
    by_cases h : s.vis n = some p
    · left; rw [if_pos h, if_pos h]; rfl
    · right; rw [if_neg h, if_neg h]; exact ⟨rfl, rfl⟩
theorem bt_c : ((List.range 4096).all fun n => (nI n &&& (-3073)) == nI (n % 1024)) = true := by decide +kernel
theorem bt_m : ((List.range 4096).all fun n => (nI n &&& (-4)) == nI (n - n % 4)) = true := by decide +kernel
theorem c_vain {f : Nat → Nat} (h : lt4 f) : zI (e5 f) &&& (-3073) = zI (e5 (fu f 0 0)) := by
  have e := eq_of_beq (List.all_eq_true.1 bt_c _ (List.mem_range.2 (e5_lt h)))
  rw [zI_nI, zI_nI] at e
  rw [e]
  congr 2
  have := h 0; have := h 1; have := h 2; have := h 3; have := h 4; have := h 5
  simp [e5, e4, fu]
  omega
theorem m_vain {f : Nat → Nat} (h : lt4 f) : zI (e4 f) &&& (-4) = zI (e4 (fu f 0 0)) := by
  have e := eq_of_beq (List.all_eq_true.1 bt_m _ (List.mem_range.2 (e4_lt h)))
  rw [zI_nI, zI_nI] at e
  rw [e]
  congr 2
  have := h 0; have := h 1; have := h 2; have := h 3; have := h 4; have := h 5
  simp [e4, fu]
  omega
/-- papers by the latest visit -/
def pap (t : TT) (E : List (Nat × Nat × Nat × Nat)) (p : Nat) (v : Option Nat) : Nat → Nat := match v with
  | none => t.told p
  | some v => lk t E p v
/-- belief by the latest visit -/
def bel (t : TT) (E : List (Nat × Nat × Nat × Nat)) (p : Nat) (v : Option Nat) : Nat → Nat :=
  let f := match v with
    | none => t.told p
    | some v => lk t E p (v - t.la)
  if t.kind p = 3 then fu f 0 0 else f
theorem pap_lt {t : TT} (tb : TB t) (E : List (Nat × Nat × Nat × Nat)) (p : Nat) (v : Option Nat) : lt4 (pap t E p v) := by
  cases v with
  | none => exact tb.told p
  | some v => exact lk_lt _ _ _ _
theorem bel_lt {t : TT} (tb : TB t) (E : List (Nat × Nat × Nat × Nat)) (p : Nat) (v : Option Nat) : lt4 (bel t E p v) := by
  unfold bel
  cases v with
  | none => dsimp only; split
            · exact fu_lt (tb.told p) 0 (by omega)
            · exact tb.told p
  | some v => dsimp only; split
              · exact fu_lt (lk_lt _ _ _ _) 0 (by omega)
              · exact lk_lt _ _ _ _
/-- changes are of marks that there are -/
def EB (t : TT) (E : List (Nat × Nat × Nat × Nat)) : Prop := ∀ c ∈ E, c.2.2.1 < t.ms
theorem adds_z {t : TT} {E : List (Nat × Nat × Nat × Nat)} (h : EB t E) {p d m : Nat} (hm : t.ms ≤ m) : adds E p d m = 0 := by
  induction E with
  | nil => rfl
  | cons c r ih =>
    have h1 := h c (by simp)
    rw [adds, if_neg (fun q => by have := q.2.2; omega), ih (fun c hc => h c (by simp [hc]))]
theorem lk_z {t : TT} {E : List (Nat × Nat × Nat × Nat)} (tb : TB t) (hP : 0 < t.P) (h : EB t E) {p d m : Nat} (hm : t.ms ≤ m) : lk t E p d m = 0 := by
  have := tb.ms3 hP
  unfold lk age
  rw [tb.tolz p m hm, adds_z h hm, if_neg (by omega), if_neg (by omega)]
theorem pap_z {t : TT} {E : List (Nat × Nat × Nat × Nat)} (tb : TB t) (hP : 0 < t.P) (h : EB t E) {p m : Nat} {v : Option Nat} (hm : t.ms ≤ m) : pap t E p v m = 0 := by
  cases v with
  | none => exact tb.tolz p m hm
  | some v => exact lk_z tb hP h hm
theorem bel_z {t : TT} {E : List (Nat × Nat × Nat × Nat)} (tb : TB t) (hP : 0 < t.P) (h : EB t E) {p m : Nat} {v : Option Nat} (hm : t.ms ≤ m) : bel t E p v m = 0 := by
  have := tb.ms3 hP
  unfold bel
  cases v with
  | none => dsimp only; split
            · unfold fu; rw [if_neg (by omega)]; exact tb.tolz p m hm
            · exact tb.tolz p m hm
  | some v => dsimp only; split
              · unfold fu; rw [if_neg (by omega)]; exact lk_z tb hP h hm
              · exact lk_z tb hP h hm
theorem unl_ms {t : TT} (tb : TB t) {f h : Nat → Nat} (h1 : ∀ m, t.ms ≤ m → f m = 0) (h2 : ∀ m, t.ms ≤ m → h m = 0) : unl f h t.ms = unl f h 6 := by
  have := tb.ms
  have e := unl_more (f := f) (h := h) (n := t.ms) (6 - t.ms) (fun m a b => by rw [h1 m a, h2 m a])
  rw [show t.ms + (6 - t.ms) = 6 from by omega] at e
  exact e.symm
theorem m_unlike {σ : Mem} {t : TT} (hR : MR (σ.1 67) t) (tb : TB t) {f h : Nat → Nat} (h1 : lt4 f) (h2 : lt4 h) (z1 : ∀ m, t.ms ≤ m → f m = 0) (z2 : ∀ m, t.ms ≤ m → h m = 0) : f_X13_unlike σ (zI (e4 f)) (zI (e4 h)) = some (zI (unl f h 6)) := by
  have hms := tb.ms
  have a67 : aln 67 = 175 := rfl
  rw [← unl_ms tb z1 z2]
  unfold f_X13_unlike
  refine fx2_run (fun i => zI (unl f h i)) (fun i => zI i) t.ms 0 (by omega) rfl rfl (fun k => ?_) (fun i hi k => ?_)
  · simp (disch := omega) only [jn0_e, jn1_e, jn2_e, pnm_e, pbd1_s, pbd2_s, prfc_s, onm_sm, onm_nn, zI_lit, zI_nI, zI_add, zI_sub, zI_mul, zI_neg, zI_lt, zI_le, zI_eq, zI_nat, zI_div, zI_mod, ixd_in, dvd_ne]
    rw [show (0 : Int).toNat = 0 from rfl, hR.ms]
    simp (disch := omega) only [jn0_e, jn1_e, jn2_e, pnm_e, pbd1_s, pbd2_s, prfc_s, onm_sm, onm_nn, zI_lit, zI_nI, zI_add, zI_sub, zI_mul, zI_neg, zI_lt, zI_le, zI_eq, zI_nat, zI_div, zI_mod, ixd_in, dvd_ne]
    rw [if_pos (by omega)]
  · have b1 := h1 i
    have b2 := h2 i
    simp (disch := omega) only [jn0_e, jn1_e, jn2_e, pnm_e, pbd1_s, pbd2_s, prfc_s, onm_sm, onm_nn, zI_lit, zI_nI, zI_add, zI_sub, zI_mul, zI_neg, zI_lt, zI_le, zI_eq, zI_nat, zI_div, zI_mod, ixd_in, dvd_ne]
    rw [show (0 : Int).toNat = 0 from rfl, hR.ms, m_mark h1 (by omega), m_mark h2 (by omega)]
    simp (disch := omega) only [jn0_e, jn1_e, jn2_e, pnm_e, pbd1_s, pbd2_s, prfc_s, onm_sm, onm_nn, zI_lit, zI_nI, zI_add, zI_sub, zI_mul, zI_neg, zI_lt, zI_le, zI_eq, zI_nat, zI_div, zI_mod, ixd_in, dvd_ne]
    rw [if_neg (by omega), unl]
    by_cases e : f i = h i
    · rw [if_pos (by omega), if_pos e]; rfl
    · rw [if_neg (by omega), if_neg e]; rfl
theorem oC_s (v : Nat) : oC (some v) = v := rfl
theorem oC_n : oC none = -2 := rfl
theorem m_bel {σ : Mem} {t : TT} {s : SS} {dr : Option (Nat → Nat × Nat)} (hR : MR (σ.1 67) t) (hV : MV (σ.1 69) 0 s) (tb : TB t) (sb : SB t s) (hD : MD σ t dr) {p d : Nat} (hp : p < t.P) (hd : d < 30) : f_X13_beliefOn σ (zI p) (zI d) = some (zI (e4 (bel t (t.ch ++ s.sk ++ DL dr 30) p (lat s.vis p (d + 1))))) := by
  have hP := tb.P
  have hla := tb.la
  have a67 : aln 67 = 175 := rfl
  have hk := tb.kind p hp
  unfold f_X13_beliefOn
  rw [m_lat (fun d hd => by have := hV.vis d hd; rwa [Nat.zero_add] at this) (fun d q h => Nat.lt_of_lt_of_le (sb.vis d q h) hP) (by omega) hd, pbd1_s]
  have h2 : ∀ v, lat s.vis p (d + 1) = some v → v < 30 := fun v h => by have := (lat_lt h).1; omega
  cases hl : lat s.vis p (d + 1) with
  | none =>
    rw [oC_n]
    simp (disch := omega) only [jn0_e, jn1_e, jn2_e, pnm_e, pbd1_s, pbd2_s, prfc_s, onm_sm, onm_nn, zI_lit, zI_nI, zI_add, zI_sub, zI_mul, zI_neg, zI_lt, zI_le, zI_eq, zI_nat, zI_div, zI_mod, ixd_in, dvd_ne]
    simp only [show (2 : Int).toNat = 2 from rfl, hR.la, show (10 + 2 * (p : Int)).toNat = 10 + 2 * p from by omega, hR.kind p hp]
    simp (disch := omega) only [jn0_e, jn1_e, jn2_e, pnm_e, pbd1_s, pbd2_s, prfc_s, onm_sm, onm_nn, zI_lit, zI_nI, zI_add, zI_sub, zI_mul, zI_neg, zI_lt, zI_le, zI_eq, zI_nat, zI_div, zI_mod, ixd_in, dvd_ne]
    rw [if_neg (by omega), if_neg (by omega), m_told hR tb hp, pbd1_s]
    unfold bel
    by_cases k3 : t.kind p = 3
    · rw [if_pos (by omega), if_pos k3]; dsimp only
      rw [show zI (-4) = -4 from rfl, m_vain (tb.told p)]
    · rw [if_neg (by omega), if_neg k3]
  | some v =>
    have hv := h2 v hl
    rw [oC_s]
    simp (disch := omega) only [jn0_e, jn1_e, jn2_e, pnm_e, pbd1_s, pbd2_s, prfc_s, onm_sm, onm_nn, zI_lit, zI_nI, zI_add, zI_sub, zI_mul, zI_neg, zI_lt, zI_le, zI_eq, zI_nat, zI_div, zI_mod, ixd_in, dvd_ne]
    simp only [show (2 : Int).toNat = 2 from rfl, hR.la, show (10 + 2 * (p : Int)).toNat = 10 + 2 * p from by omega, hR.kind p hp]
    simp (disch := omega) only [jn0_e, jn1_e, jn2_e, pnm_e, pbd1_s, pbd2_s, prfc_s, onm_sm, onm_nn, zI_lit, zI_nI, zI_add, zI_sub, zI_mul, zI_neg, zI_lt, zI_le, zI_eq, zI_nat, zI_div, zI_mod, ixd_in, dvd_ne]
    have hl := m_look hR hV tb sb hD hp (show v - t.la < 30 by omega)
    unfold bel
    dsimp only
    have e : (if (t.la : Int) ≤ v then (if 0 ≤ (v : Int) then bd1 (f_X13_lookOn σ (zI p) (zI (v - t.la))) (fun r => if (t.kind p : Int) = 3 then some (r &&& zI (-4)) else some r) else bd1 (f_X13_toldLook σ (zI p)) (fun r => if (t.kind p : Int) = 3 then some (r &&& zI (-4)) else some r)) else (if 0 ≤ (v : Int) then bd1 (f_X13_lookOn σ (zI p) (zI 0)) (fun r => if (t.kind p : Int) = 3 then some (r &&& zI (-4)) else some r) else bd1 (f_X13_toldLook σ (zI p)) (fun r => if (t.kind p : Int) = 3 then some (r &&& zI (-4)) else some r))) = bd1 (f_X13_lookOn σ (zI p) (zI (v - t.la : Nat))) (fun r => if (t.kind p : Int) = 3 then some (r &&& zI (-4)) else some r) := by
      by_cases c : t.la ≤ v
      · rw [if_pos (by omega), if_pos (by omega), show (v : Int) - t.la = (v - t.la : Nat) from by omega]
      · rw [if_neg (by omega), if_pos (by omega), show ((v - t.la : Nat) : Int) = 0 from by omega]
    refine e.trans ?_
    rw [hl, pbd1_s]
    by_cases k3 : t.kind p = 3
    · rw [if_pos (by omega), if_pos k3, show zI (-4) = -4 from rfl, m_vain (lk_lt _ _ _ _)]
    · rw [if_neg (by omega), if_neg k3]
/-- whether p knows himself on day d, by a latest visit -/
def knb (t : TT) (E : List (Nat × Nat × Nat × Nat)) (p d : Nat) (v : Option Nat) : Bool := decide (unl (lk t E p d) (bel t E p v) 6 ≤ t.wi)
def kn (t : TT) (E : List (Nat × Nat × Nat × Nat)) (s : SS) (p d : Nat) : Bool := knb t E p d (lat s.vis p (d + 1))
theorem EB_of {t : TT} {s : SS} (tb : TB t) (sb : SB t s) : EB t (t.ch ++ s.sk) := by
  intro c hc
  rcases List.mem_append.1 hc with h | h
  · exact (tb.chb c h).2.2.1
  · exact (sb.skb c h).2.2.1
theorem EB_dl {t : TT} {s : SS} {σ : Mem} {dr : Option (Nat → Nat × Nat)} (tb : TB t) (sb : SB t s) (hD : MD σ t dr) : EB t (t.ch ++ s.sk ++ DL dr 30) := by
  intro c hc
  rcases List.mem_append.1 hc with h | h
  · exact EB_of tb sb c h
  · cases dr with
    | none => cases h
    | some f =>
      obtain ⟨d, hd, rfl⟩ := List.mem_map.1 h
      exact (hD.2 d (List.mem_range.1 hd)).2.2.2
theorem m_know {σ : Mem} {t : TT} {s : SS} {dr : Option (Nat → Nat × Nat)} (hR : MR (σ.1 67) t) (hV : MV (σ.1 69) 0 s) (tb : TB t) (sb : SB t s) (hD : MD σ t dr) {p d : Nat} (hp : p < t.P) (hd : d < 30) : f_X13_doesKnow σ (zI p) (zI d) = some (bI (kn t (t.ch ++ s.sk ++ DL dr 30) s p d)) := by
  have hP0 : 0 < t.P := by omega
  have hE := EB_dl tb sb hD
  have a67 : aln 67 = 175 := rfl
  have hwi := tb.wi
  have hu := unl_le (bel t (t.ch ++ s.sk ++ DL dr 30) p (lat s.vis p (d + 1))) (lk t (t.ch ++ s.sk ++ DL dr 30) p d) 6
  unfold f_X13_doesKnow
  rw [m_bel hR hV tb sb hD hp hd, pbd1_s, m_look hR hV tb sb hD hp hd, pbd1_s, m_unlike hR tb (bel_lt tb _ _ _) (lk_lt _ _ _ _) (fun m hm => bel_z tb hP0 hE hm) (fun m hm => lk_z tb hP0 hE hm)]
  simp (disch := omega) only [jn0_e, jn1_e, jn2_e, pnm_e, pbd1_s, pbd2_s, prfc_s, onm_sm, onm_nn, zI_lit, zI_nI, zI_add, zI_sub, zI_mul, zI_neg, zI_lt, zI_le, zI_eq, zI_nat, zI_div, zI_mod, ixd_in, dvd_ne]
  rw [show (1 : Int).toNat = 1 from rfl, hR.wi]
  simp (disch := omega) only [jn0_e, jn1_e, jn2_e, pnm_e, pbd1_s, pbd2_s, prfc_s, onm_sm, onm_nn, zI_lit, zI_nI, zI_add, zI_sub, zI_mul, zI_neg, zI_lt, zI_le, zI_eq, zI_nat, zI_div, zI_mod, ixd_in, dvd_ne]
  unfold kn knb
  rw [unl_comm (lk t (t.ch ++ s.sk ++ DL dr 30) p d)]
  by_cases h : unl (bel t (t.ch ++ s.sk ++ DL dr 30) p (lat s.vis p (d + 1))) (lk t (t.ch ++ s.sk ++ DL dr 30) p d) 6 ≤ t.wi
  · rw [if_neg (by omega), decide_eq_true h]; rfl
  · rw [if_pos (by omega), decide_eq_false h]; rfl
theorem m_pap {σ : Mem} {t : TT} {s : SS} {dr : Option (Nat → Nat × Nat)} (hR : MR (σ.1 67) t) (hV : MV (σ.1 69) 0 s) (tb : TB t) (sb : SB t s) (hD : MD σ t dr) {p d : Nat} (hp : p < t.P) (hd : d < 30) : f_X13_papersOn σ (zI p) (zI d) = some (zI (e4 (pap t (t.ch ++ s.sk ++ DL dr 30) p (lat s.vis p (d + 1))))) := by
  have hP := tb.P
  unfold f_X13_papersOn
  rw [m_lat (fun d hd => by have := hV.vis d hd; rwa [Nat.zero_add] at this) (fun d q h => Nat.lt_of_lt_of_le (sb.vis d q h) hP) (by omega) hd, pbd1_s]
  cases hl : lat s.vis p (d + 1) with
  | none =>
    rw [oC_n, if_neg (by decide), m_told hR tb hp]
    rfl
  | some v =>
    have hv := (lat_lt hl).1
    rw [oC_s, if_pos (by rw [show (0 : Int32) = zI 0 from rfl, zI_le (by omega) (by omega)]; omega), m_look hR hV tb sb hD hp (by omega)]
    rfl
theorem c_bel {σ : Mem} {k T : Nat} {t : TT} {E : List (Nat × Nat × Nat × Nat)} {s : SS} (h : CS σ k T t E s) (hT : CT σ T t) (tb : TB t) {p : Nat} {v : Option Nat} (hp : p < t.P) (hv : ∀ d, v = some d → d < 30) : f_X9_beliefBy σ k (zI p) (zI (oC v)) = some (zI (e5 (bel t E p v))) := by
  have hP := tb.P
  have hla := tb.la
  have hk := tb.kind p hp
  obtain ⟨a1, a2, a3, a4, a5, a6, a7, a8, a9, a10⟩ := ct_aln hT.at_
  have g3 := g_get (hT.kind p hp) (by omega) (by omega)
  have g4 := g_get (hT.told p hp) (by omega) (by omega)
  unfold f_X9_beliefBy
  rw [h.town]
  cases v with
  | none =>
    rw [oC_n, jn1_e, if_neg (by decide), prfc_s, g4, pbd1_s]
    simp only [prfc_s, g3, pbd1_s]
    unfold bel
    dsimp only
    by_cases k3 : t.kind p = 3
    · rw [if_pos (by rw [k3]; rfl), if_pos k3, c_vain (tb.told p)]
    · rw [if_neg (by rw [show (3 : Int32) = zI 3 from rfl, zI_eq (by omega) (by omega)]; omega), if_neg k3]
  | some v =>
    have hv := hv v rfl
    have e : (if zI v - zI t.la < 0 then (0 : Int32) else zI v - zI t.la) = zI (v - t.la : Nat) := by
      simp (disch := omega) only [jn0_e, jn1_e, jn2_e, pnm_e, pbd1_s, pbd2_s, prfc_s, onm_sm, onm_nn, zI_lit, zI_nI, zI_add, zI_sub, zI_mul, zI_neg, zI_lt, zI_le, zI_eq, zI_nat, zI_div, zI_mod, ixd_in, dvd_ne]
      by_cases c : t.la ≤ v
      · rw [if_neg (by omega)]; congr 1; omega
      · rw [if_pos (by omega)]; congr 1; omega
    rw [oC_s, jn1_e, if_pos (by rw [show (0 : Int32) = zI 0 from rfl, zI_le (by omega) (by omega)]; omega), prfc_s, pnm_e, hT.la, e, c_at h hP hp (by omega), pbd1_s]
    simp only [prfc_s, g3, pbd1_s]
    unfold bel
    dsimp only
    by_cases k3 : t.kind p = 3
    · rw [if_pos (by rw [k3]; rfl), if_pos k3, c_vain (lk_lt _ _ _ _)]
    · rw [if_neg (by rw [show (3 : Int32) = zI 3 from rfl, zI_eq (by omega) (by omega)]; omega), if_neg k3]
theorem c_knowsBy {σ : Mem} {k T : Nat} {t : TT} {E : List (Nat × Nat × Nat × Nat)} {s : SS} (h : CS σ k T t E s) (hT : CT σ T t) (tb : TB t) {p d : Nat} {v : Option Nat} (hp : p < t.P) (hd : d < 30) (hv : ∀ d, v = some d → d < 30) : f_X9_knowsBy σ k (zI p) (zI d) (zI (oC v)) = some (bI (knb t E p d v)) := by
  have hu := unl_le (lk t E p d) (bel t E p v) 6
  have hwi := tb.wi
  unfold f_X9_knowsBy
  rw [c_at h tb.P hp hd, pbd1_s, c_bel h hT tb hp hv, pbd1_s, c_unlike (lk_lt _ _ _ _) (bel_lt tb _ _ _), pbd1_s, h.town, prfc_s, hT.wi]
  simp (disch := omega) only [jn0_e, jn1_e, jn2_e, pnm_e, pbd1_s, pbd2_s, prfc_s, onm_sm, onm_nn, zI_lit, zI_nI, zI_add, zI_sub, zI_mul, zI_neg, zI_lt, zI_le, zI_eq, zI_nat, zI_div, zI_mod, ixd_in, dvd_ne]
  unfold knb
  by_cases h : unl (lk t E p d) (bel t E p v) 6 ≤ t.wi
  · rw [if_neg (by omega), decide_eq_true h]; rfl
  · rw [if_pos (by omega), decide_eq_false h]; rfl
theorem zrt_b (b : Bool) : zrt (bI b) = some (bI b) := by cases b <;> rfl
theorem lat_b {vis : Nat → Option Nat} {p d : Nat} (hd : d < 30) : ∀ v, lat vis p (d + 1) = some v → v < 30 := fun v h => by have := (lat_lt h).1; omega
theorem sb_5 {t : TT} {s : SS} (tb : TB t) (sb : SB t s) : ∀ d q, s.vis d = some q → q < 5 := fun d q h => Nat.lt_of_lt_of_le (sb.vis d q h) tb.P
theorem c_know {σ : Mem} {k T : Nat} {t : TT} {E : List (Nat × Nat × Nat × Nat)} {s : SS} (h : CS σ k T t E s) (hT : CT σ T t) (tb : TB t) (sb : SB t s) {p d : Nat} (hp : p < t.P) (hd : d < 30) : f_X9_knowsSelf σ k (zI p) (zI d) = some (bI (kn t E s p d)) := by
  have hP := tb.P
  unfold f_X9_knowsSelf
  rw [c_lat h (sb_5 tb sb) (by omega) hd, pbd1_s, c_knowsBy h hT tb hp hd (lat_b hd), pbd1_s, zrt_b]
  rfl
theorem c_belOn {σ : Mem} {k T : Nat} {t : TT} {E : List (Nat × Nat × Nat × Nat)} {s : SS} (h : CS σ k T t E s) (hT : CT σ T t) (tb : TB t) (sb : SB t s) {p d : Nat} (hp : p < t.P) (hd : d < 30) : f_X9_beliefOn σ k (zI p) (zI d) = some (zI (e5 (bel t E p (lat s.vis p (d + 1))))) := by
  have hP := tb.P
  unfold f_X9_beliefOn
  rw [c_lat h (sb_5 tb sb) (by omega) hd, pbd1_s, c_bel h hT tb hp (lat_b hd), pbd1_s]
theorem c_pap {σ : Mem} {k T : Nat} {t : TT} {E : List (Nat × Nat × Nat × Nat)} {s : SS} (h : CS σ k T t E s) (hT : CT σ T t) (tb : TB t) (sb : SB t s) {p d : Nat} (hp : p < t.P) (hd : d < 30) : f_X9_papersOn σ k (zI p) (zI d) = some (zI (e5 (pap t E p (lat s.vis p (d + 1))))) := by
  have hP := tb.P
  obtain ⟨a1, a2, a3, a4, a5, a6, a7, a8, a9, a10⟩ := ct_aln hT.at_
  unfold f_X9_papersOn
  rw [c_lat h (sb_5 tb sb) (by omega) hd, pbd1_s]
  cases hl : lat s.vis p (d + 1) with
  | none =>
    rw [oC_n, if_neg (by decide), h.town, prfc_s, g_get (hT.told p hp) (by omega) (by omega)]
    rfl
  | some v =>
    have hv := lat_b hd v hl
    rw [oC_s, if_pos (by rw [show (0 : Int32) = zI 0 from rfl, zI_le (by omega) (by omega)]; omega), c_at h hP hp hv]
    rfl
theorem c_mist {σ : Mem} {k T : Nat} {t : TT} {E : List (Nat × Nat × Nat × Nat)} {s : SS} (h : CS σ k T t E s) (hT : CT σ T t) (tb : TB t) (sb : SB t s) {p d : Nat} (hp : p < t.P) (hd : d < 30) : f_X9_mistakes σ k (zI p) (zI d) = some (zI (unl (lk t E p d) (bel t E p (lat s.vis p (d + 1))) 6)) := by
  unfold f_X9_mistakes
  rw [c_at h tb.P hp hd, pbd1_s, c_belOn h hT tb sb hp hd, pbd1_s, c_unlike (lk_lt _ _ _ _) (bel_lt tb _ _ _), pbd1_s]
theorem bt_one : ((List.range 31).all fun i => ((1 : Int32) <<< (nI i &&& 31)) == nI (2 ^ i)) = true := by decide +kernel
theorem one_shl {i : Nat} (h : i < 31) : zI 1 <<< (zI i &&& zI 31) = zI ((2 ^ i : Nat)) := by
  have e := eq_of_beq (List.all_eq_true.1 bt_one i (List.mem_range.2 h))
  rw [zI_nI, zI_nI] at e
  exact e
/-- a set by its bits -/
def bits (f : Nat → Bool) : Nat → Nat
  | 0 => 0
  | n + 1 => bits f n ||| (if f n then 2 ^ n else 0)
theorem bits_lt (f : Nat → Bool) : ∀ n, bits f n < 2 ^ n
  | 0 => Nat.one_pos
  | n + 1 => by
    have h := bits_lt f n
    rw [bits]
    refine Nat.or_lt_two_pow (Nat.lt_trans h (Nat.pow_lt_pow_right (by omega) (by omega))) ?_
    split
    · exact Nat.pow_lt_pow_right (by omega) (by omega)
    · exact Nat.two_pow_pos _
theorem bits_congr {f h : Nat → Bool} : ∀ n, (∀ i, i < n → f i = h i) → bits f n = bits h n
  | 0, _ => rfl
  | n + 1, e => by rw [bits, bits, bits_congr n (fun i hi => e i (by omega)), e n (by omega)]
theorem bits_at (f : Nat → Bool) : ∀ n i, (bits f n).testBit i = (decide (i < n) && f i)
  | 0, i => by simp [bits]
  | n + 1, i => by
    rw [bits, Nat.testBit_or, bits_at f n i]
    by_cases e : i = n
    · subst e
      by_cases h : f i = true
      · rw [if_pos h, Nat.testBit_two_pow_self, h]; simp
      · rw [if_neg h]; simp [h]
    · have h0 : (if f n then 2 ^ n else 0 : Nat).testBit i = false := by
        split
        · rw [Nat.testBit_two_pow]; simp; omega
        · exact Nat.zero_testBit i
      rw [h0, Bool.or_false]
      congr 1
      have : (i < n) ↔ (i < n + 1) := by omega
      simp [this]
theorem bI_0 (b : Bool) : (bI b = zI 0) ↔ b = false := by cases b <;> decide
theorem bits_step (f : Nat → Bool) {i : Nat} (h : i < 31) : zI (bits f i) ||| zI (if f i then 2 ^ i else 0 : Nat) = zI (bits f (i + 1)) := by
  rw [zI_or]; rfl
theorem ct_people {σ : Mem} {T : Nat} {t : TT} (hT : CT σ T t) : f_X11_people σ T = some (zI t.P) := by
  obtain ⟨a1, a2, a3, a4, a5, a6, a7, a8, a9, a10⟩ := ct_aln hT.at_
  unfold f_X11_people
  rw [show lnNum.getD 1 0 = zI (1 : Nat) from rfl, g_get hT.P (by omega) (by omega)]
  rfl
theorem ct_wishes {σ : Mem} {T : Nat} {t : TT} (hT : CT σ T t) : f_X11_wishes σ T = some (zI t.W) := by
  obtain ⟨a1, a2, a3, a4, a5, a6, a7, a8, a9, a10⟩ := ct_aln hT.at_
  unfold f_X11_wishes
  rw [show lnNum.getD 4 0 = zI (4 : Nat) from rfl, g_get hT.W (by omega) (by omega)]
  rfl
theorem c_knowing {σ : Mem} {k T : Nat} {t : TT} {E : List (Nat × Nat × Nat × Nat)} {s : SS} (h : CS σ k T t E s) (hT : CT σ T t) (tb : TB t) (sb : SB t s) {d : Nat} (hd : d < 30) : f_X9_knowing σ k (zI d) = some (zI (bits (fun p => kn t E s p d) t.P)) := by
  have hP := tb.P
  unfold f_X9_knowing
  rw [h.town]
  simp only [prfc_s, ct_people hT, pbd1_s]
  refine fx2_run (fun i => zI (bits (fun p => kn t E s p d) i)) (fun i => zI i) t.P 0 (by omega) rfl rfl (fun k => ?_) (fun i hi k => ?_)
  · simp (disch := omega) only [jn0_e, jn1_e, jn2_e, pnm_e, pbd1_s, pbd2_s, prfc_s, onm_sm, onm_nn, zI_lit, zI_nI, zI_add, zI_sub, zI_mul, zI_neg, zI_lt, zI_le, zI_eq, zI_nat, zI_div, zI_mod, ixd_in, dvd_ne]
    rw [if_pos (by omega)]
  · rw [c_know h hT tb sb hi hd]
    simp (disch := omega) only [jn0_e, jn1_e, jn2_e, pnm_e, pbd1_s, pbd2_s, prfc_s, onm_sm, onm_nn, zI_lit, zI_nI, zI_add, zI_sub, zI_mul, zI_neg, zI_lt, zI_le, zI_eq, zI_nat, zI_div, zI_mod, ixd_in, dvd_ne]
    rw [if_neg (by omega), one_shl (by omega), ← bits_step _ (show i < 31 by omega)]
    by_cases e : kn t E s i d = true
    · rw [if_neg (by rw [bI_0, e]; simp), e]; rfl
    · have e : kn t E s i d = false := by simpa using e
      rw [if_pos (by rw [bI_0, e]), e]; rfl
