/-- a long from a whole number -/
def zL (n : Int) : Int64 := Int64.ofInt n
def rL (a : Int) : Prop := -1000000000000000 ≤ a ∧ a ≤ 1000000000000000
theorem zL_add (a b : Int) : zL a + zL b = zL (a + b) := (Int64.ofInt_add a b).symm
theorem zL_mul (a b : Int) : zL a * zL b = zL (a * b) := (Int64.ofInt_mul a b).symm
theorem zL_sub (a b : Int) : zL a - zL b = zL (a - b) := (Int64.ofInt_sub a b).symm
theorem zL_int {a : Int} (h : rL a) : (zL a).toInt = a := Int64.toInt_ofInt_of_le (by unfold rL at h; omega) (by unfold rL at h; omega)
theorem zL_lt {a b : Int} (ha : rL a) (hb : rL b) : (zL a < zL b) ↔ a < b := by rw [Int64.lt_iff_toInt_lt, zL_int ha, zL_int hb]
theorem zL_eq {a b : Int} (ha : rL a) (hb : rL b) : (zL a = zL b) ↔ a = b := by rw [← Int64.toInt_inj, zL_int ha, zL_int hb]
theorem zL_div {a b : Int} (ha : rL a) (hb : rL b) : zL a / zL b = zL (a.tdiv b) := by
  unfold rL at ha hb
  refine (Int64.ofInt_tdiv ?_ ?_ ?_ ?_).symm <;> first | rw [show Int64.minValue.toInt = -9223372036854775808 from by decide]; omega | rw [show Int64.maxValue.toInt = 9223372036854775807 from by decide]; omega
theorem zL_divN (a b : Nat) (ha : a ≤ 1000000000000000) (hb : b ≤ 1000000000000000) : zL a / zL b = zL (a / b : Nat) := by
  rw [zL_div (by unfold rL; omega) (by unfold rL; omega)]
  congr 1
theorem zL_rem (a b : Nat) (ha : a ≤ 1000000000000000) (hb : b ≤ 1000000000000000) : zL a - zL a / zL b * zL b = zL (a % b : Nat) := by
  rw [zL_divN a b ha hb, zL_mul, zL_sub]
  congr 1
  have := Nat.div_add_mod a b
  rw [Nat.mul_comm] at this
  omega
theorem zI_L (a : Int) (h : -2147483648 ≤ a ∧ a < 2147483648) : (zI a).toInt64 = zL a := by
  rw [← Int64.toInt_inj, Int32.toInt_toInt64, zI_int h, zL_int (by unfold rL; omega)]
theorem zL_0 : (0 : Int64) = zL 0 := rfl
theorem cmp_e {a b : Int} (ha : rL a) (hb : rL b) : lg_cmp (zL a) (zL b) = if b < a then 1 else if a = b then 0 else -1 := by
  unfold lg_cmp
  by_cases h : b < a
  · rw [if_pos h, if_pos ((zL_lt hb ha).2 h)]
  · rw [if_neg h, if_neg (fun x => h ((zL_lt hb ha).1 x))]
    by_cases q : a = b
    · rw [if_pos q, if_pos (by rw [q])]
    · rw [if_neg q, if_neg (fun x => q ((zL_eq ha hb).1 x))]
theorem dvl_ne {β : Type} {y : Int} {k : Option β} (h : rL y) (h0 : y ≠ 0) : dvl (zL y) k = k := by
  rw [dvl, if_neg]
  rw [zL_0, zL_eq h (by unfold rL; omega)]; exact h0
theorem mod_half {a b : Nat} (hb : 0 < b) (h0 : a % b ≠ 0) : 2 * (b % (a % b)) < b := by
  have h1 := Nat.mod_lt a hb
  have h2 := Nat.mod_lt b (show 0 < a % b by omega)
  have h3 := Nat.div_add_mod b (a % b)
  have h4 : 1 ≤ b / (a % b) := (Nat.one_le_div_iff (by omega)).2 (by omega)
  have h5 : a % b * 1 ≤ a % b * (b / (a % b)) := Nat.mul_le_mul_left _ h4
  omega
/-- the class's way to the greatest common measure -/
theorem c_eu {β : Type} {F : (Int64 → Int64 → Int32 → Option β) → Int64 → Int64 → Int32 → Option β} (out : Nat → Option β) (h0 : ∀ k a i, a ≤ 10000000000 → i ≤ 100 → F k (zL (a : Nat)) (zL (0 : Nat)) (zI (i : Nat)) = out a) (hs : ∀ k a b i, a ≤ 10000000000 → b ≤ 10000000000 → 0 < b → i < 100 → F k (zL (a : Nat)) (zL (b : Nat)) (zI (i : Nat)) = k (zL (b : Nat)) (zL (a % b : Nat)) (zI (i + 1 : Nat))) : ∀ m a b i M, b < 2 ^ m → a ≤ 10000000000 → b ≤ 10000000000 → i + 2 * m ≤ 100 → fx3 (2 * m + 1 + M) F (zL (a : Nat)) (zL (b : Nat)) (zI (i : Nat)) = out (Nat.gcd a b) := by
  intro m
  induction m with
  | zero =>
    intro a b i M hb ha hb2 hi
    rw [show b = 0 from by omega, show 2 * 0 + 1 + M = M + 1 from by omega, Nat.gcd_zero_right]
    exact h0 _ a i ha (by omega)
  | succ m ih =>
    intro a b i M hb ha hb2 hi
    rw [show 2 * (m + 1) + 1 + M = (2 * m + 1 + M + 1) + 1 from by omega]
    show F (fx3 (2 * m + 1 + M + 1) F) _ _ _ = _
    rcases Nat.eq_zero_or_pos b with q | q
    · rw [q, Nat.gcd_zero_right]; exact h0 _ a i ha (by omega)
    · rw [hs _ a b i ha hb2 q (by omega)]
      have h1 := Nat.mod_lt a q
      rcases Nat.eq_zero_or_pos (a % b) with q2 | q2
      · show F (fx3 (2 * m + 1 + M) F) _ _ _ = _
        rw [q2, h0 _ b (i + 1) hb2 (by omega), Nat.gcd_comm a b, Nat.gcd_rec b a, q2, Nat.gcd_zero_left]
      · have h2 := mod_half q (by omega : a % b ≠ 0)
        show F (fx3 (2 * m + 1 + M) F) _ _ _ = _
        rw [hs _ b (a % b) (i + 1) hb2 (by omega) q2 (by omega), ih (a % b) (b % (a % b)) (i + 1 + 1) M (by rw [Nat.pow_succ] at hb; omega) (by omega) (by omega) (by omega)]
        rw [Nat.gcd_comm a b, Nat.gcd_rec b a, Nat.gcd_comm (a % b) b, Nat.gcd_comm (a % b), ← Nat.gcd_rec, Nat.gcd_comm]
/-- the model's way -/
theorem m_eu {β : Type} {F : (Int64 → Int64 → Option β) → Int64 → Int64 → Option β} (out : Nat → Option β) (h0 : ∀ k a, a ≤ 10000000000 → F k (zL (a : Nat)) (zL (0 : Nat)) = out a) (hs : ∀ k a b, a ≤ 10000000000 → b ≤ 10000000000 → 0 < b → F k (zL (a : Nat)) (zL (b : Nat)) = k (zL (b : Nat)) (zL (a % b : Nat))) : ∀ m a b M, b < 2 ^ m → a ≤ 10000000000 → b ≤ 10000000000 → fx2 (2 * m + 1 + M) F (zL (a : Nat)) (zL (b : Nat)) = out (Nat.gcd a b) := by
  intro m
  induction m with
  | zero =>
    intro a b M hb ha hb2
    rw [show b = 0 from by omega, show 2 * 0 + 1 + M = M + 1 from by omega, Nat.gcd_zero_right]
    exact h0 _ a ha
  | succ m ih =>
    intro a b M hb ha hb2
    rw [show 2 * (m + 1) + 1 + M = (2 * m + 1 + M + 1) + 1 from by omega]
    show F (fx2 (2 * m + 1 + M + 1) F) _ _ = _
    rcases Nat.eq_zero_or_pos b with q | q
    · rw [q, Nat.gcd_zero_right]; exact h0 _ a ha
    · rw [hs _ a b ha hb2 q]
      have h1 := Nat.mod_lt a q
      rcases Nat.eq_zero_or_pos (a % b) with q2 | q2
      · show F (fx2 (2 * m + 1 + M) F) _ _ = _
        rw [q2, h0 _ b hb2, Nat.gcd_comm a b, Nat.gcd_rec b a, q2, Nat.gcd_zero_left]
      · have h2 := mod_half q (by omega : a % b ≠ 0)
        show F (fx2 (2 * m + 1 + M) F) _ _ = _
        rw [hs _ b (a % b) hb2 (by omega) q2, ih (a % b) (b % (a % b)) M (by rw [Nat.pow_succ] at hb; omega) (by omega) (by omega)]
        rw [Nat.gcd_comm a b, Nat.gcd_rec b a, Nat.gcd_comm (a % b) b, Nat.gcd_comm (a % b), ← Nat.gcd_rec, Nat.gcd_comm]
theorem rLn {a : Nat} (h : a ≤ 1000000000000000) : rL (a : Int) := by unfold rL; omega
theorem c_low {a : Nat} (ha : a ≤ 10000000000) (x : Int32) : f_X2_lowestTerm (zL (a : Nat)) x = some (zL ((if x = 0 then a else 10000000000) / Nat.gcd a 10000000000 : Nat)) := by
  unfold f_X2_lowestTerm
  have h := c_eu (F := fun k_4 (j_1 : Int64) (j_2 : Int64) (i_3 : Int32) => jn0 ((if (lg_cmp j_1 0) ≤ 0 then some 0 else jn1 (fun (j_6 : Int64) => dvl j_1 (some (j_6 / j_1))) (fun k_7 => (if x = 0 then k_7 (zL (a : Nat)) else k_7 10000000000)))) (fun k_5 => (if 100 ≤ i_3 then k_5 else (if (lg_cmp j_2 0) = 0 then k_5 else dvl j_2 (nm (j_1 - j_1 / j_2 * j_2) (fun (x_8 : Int64) => nm (i_3 + 1) (fun (x_9 : Int32) => k_4 j_2 x_8 x_9))))))) (fun g => if g = 0 then some 0 else some (zL ((if x = 0 then a else 10000000000) / g : Nat))) (fun k c i hc hi => ?_) (fun k c b i hc hb hb0 hi => ?_) 34 a 10000000000 0 99931 (by decide) ha (Nat.le_refl _) (by omega)
  · have hg : Nat.gcd a 10000000000 ≠ 0 := fun w => by have := Nat.gcd_pos_of_pos_right a (show 0 < 10000000000 by omega); omega
    rw [if_neg hg] at h
    exact h
  · have e1 : (if (lg_cmp (zL (c : Nat)) 0) ≤ 0 then some (0 : Int64) else jn1 (fun (j_6 : Int64) => dvl (zL (c : Nat)) (some (j_6 / zL (c : Nat)))) (fun k_7 => (if x = 0 then k_7 (zL (a : Nat)) else k_7 10000000000))) = (if c = 0 then some 0 else some (zL ((if x = 0 then a else 10000000000) / c : Nat))) := by
      rw [zL_0, cmp_e (rLn (by omega)) (by unfold rL; omega), jn1_e]
      by_cases q : c = 0
      · rw [if_pos q, if_pos (by rw [if_neg (by omega), if_pos (by omega)]; decide)]
      · rw [if_neg q, if_neg (by rw [if_pos (by omega)]; decide)]
        have hd : ∀ v : Int64, dvl (zL (c : Nat)) (some (v / zL (c : Nat))) = some (v / zL (c : Nat)) := fun v => dvl_ne (rLn (by omega)) (by omega)
        simp only [hd]
        by_cases q2 : x = 0
        · rw [if_pos q2, if_pos q2, zL_divN _ _ (by omega) (by omega)]
        · rw [if_neg q2, if_neg q2, show (10000000000 : Int64) = zL ((10000000000 : Nat) : Int) from rfl, zL_divN _ _ (by omega) (by omega)]
    rw [jn0_e, e1]
    have e2 : lg_cmp (zL ((0 : Nat) : Int)) 0 = 0 := rfl
    rw [e2, if_pos rfl, ite_self]
  · rw [jn0_e, if_neg (by rw [show (100 : Int32) = zI 100 from rfl, zI_le (by omega) (by omega)]; omega), zL_0, if_neg (by rw [cmp_e (rLn (by omega)) (by unfold rL; omega), if_pos (by omega)]; decide), dvl_ne (rLn (by omega)) (by omega), pnm_e, pnm_e, zL_rem _ _ (by omega) (by omega), show zI i + 1 = zI (i + 1 : Nat) from by rw [show (1 : Int32) = zI 1 from rfl, zI_add]; rfl]
theorem m_low {a d : Nat} (ha : a ≤ 10000000000) (hd : d ≤ 10000000000) (hd0 : 0 < d) (x : Int32) : f_X13_lowest (zL (a : Nat)) (zL (d : Nat)) x = some (zL ((if x = 0 then a else d) / Nat.gcd a d : Nat)) := by
  unfold f_X13_lowest
  have h := m_eu (F := fun k_3 (j_1 : Int64) (j_2 : Int64) => (if (lg_cmp j_2 0) = 0 then jn1 (fun (j_4 : Int64) => dvl j_1 (some (j_4 / j_1))) (fun k_5 => (if x = 0 then k_5 (zL (a : Nat)) else k_5 (zL (d : Nat)))) else dvl j_2 (nm (j_1 - j_1 / j_2 * j_2) (fun (x_6 : Int64) => k_3 j_2 x_6)))) (fun g => if g = 0 then none else some (zL ((if x = 0 then a else d) / g : Nat))) (fun k c hc => ?_) (fun k c b hc hb hb0 => ?_) 34 d a 99931 (by omega) hd ha
  · have hg : Nat.gcd d a ≠ 0 := fun w => by have := Nat.gcd_pos_of_pos_left a hd0; omega
    rw [if_neg hg] at h
    rw [Nat.gcd_comm]
    exact h
  · have e2 : lg_cmp (zL ((0 : Nat) : Int)) 0 = 0 := rfl
    rw [e2, if_pos rfl, jn1_e]
    by_cases q : c = 0
    · rw [if_pos q, q]
      by_cases q2 : x = 0
      · rw [if_pos q2]; rfl
      · rw [if_neg q2]; rfl
    · have hd : ∀ v : Int64, dvl (zL (c : Nat)) (some (v / zL (c : Nat))) = some (v / zL (c : Nat)) := fun v => dvl_ne (rLn (by omega)) (by omega)
      simp only [hd]
      rw [if_neg q, zL_divN _ _ (by omega) (by omega), zL_divN _ _ (by omega) (by omega)]
      by_cases q2 : x = 0
      · rw [if_pos q2, if_pos q2]
      · rw [if_neg q2, if_neg q2]
  · rw [zL_0, if_neg (by rw [cmp_e (rLn (by omega)) (by unfold rL; omega), if_pos (by omega)]; decide), dvl_ne (rLn (by omega)) (by omega), pnm_e, zL_rem _ _ (by omega) (by omega)]
/-- both sides' lowest terms are one -/
theorem low_e {up d c : Nat} (hc : 0 < c) (h : d * c = 10000000000) (x : Int32) : (if x = 0 then up * c else 10000000000) / Nat.gcd (up * c) 10000000000 = (if x = 0 then up else d) / Nat.gcd up d := by
  rw [← h, Nat.gcd_mul_right]
  by_cases q : x = 0
  · rw [if_pos q, if_pos q, Nat.mul_div_mul_right _ _ hc]
  · rw [if_neg q, if_neg q, Nat.mul_div_mul_right _ _ hc]
def odn (t : TT) (p q : Nat) : Nat := match t.odds p q with | none => 0 | some v => v
def askB (t : TT) (p q : Nat) : Bool := (t.odds p q).isSome
theorem odn_le {t : TT} (tb : TB t) (p q : Nat) : odn t p q ≤ 100 := by
  unfold odn
  cases h : t.odds p q with
  | none => exact Nat.zero_le _
  | some v => exact (tb.odds p q v h).2.2.2
theorem oC_od {t : TT} {p q : Nat} (h : askB t p q = true) : oC (t.odds p q) = odn t p q := by
  unfold askB at h; unfold odn
  cases ho : t.odds p q with
  | none => rw [ho] at h; cases h
  | some v => rfl
theorem oM_od {t : TT} {p q : Nat} (h : askB t p q = true) : oM (t.odds p q) - 1 = odn t p q := by
  unfold askB at h; unfold odn
  cases ho : t.odds p q with
  | none => rw [ho] at h; cases h
  | some v => show (v : Int) + 1 - 1 = v; omega
theorem od_b {t : TT} (tb : TB t) (p q : Nat) : -2 ≤ oC (t.odds p q) ∧ oC (t.odds p q) ≤ 100 ∧ 0 ≤ oM (t.odds p q) ∧ oM (t.odds p q) ≤ 101 := by
  cases h : t.odds p q with
  | none => simp only [oC, oM]; omega
  | some v => have := (tb.odds p q v h).2.2.2; simp only [oC, oM]; omega
theorem c_odds {σ : Mem} {T : Nat} {t : TT} (hT : CT σ T t) (tb : TB t) {p q : Nat} (hp : p < t.P) (hq : q < t.P) : f_X11_oddsOf σ T (zI p) (zI q) = some (zI (oC (t.odds p q))) := by
  have hP := tb.P
  obtain ⟨a1, a2, a3, a4, a5, a6, a7, a8, a9, a10⟩ := ct_aln hT.at_
  unfold f_X11_oddsOf
  rw [ct_people hT, pbd1_s, f_inside _ _ (by omega) (by omega), decide_eq_true (by omega), pbd1_s, jn0_e, if_neg (by decide), pbd1_s, f_inside _ _ (by omega) (by omega), decide_eq_true (by omega), pbd1_s, if_neg (by decide), show zI p * 5 + zI q = zI (p * 5 + q : Nat) from by rw [show (5 : Int32) = zI 5 from rfl, zI_mul, zI_add]; congr 1, g_get (hT.odds p q (by omega) (by omega)) (by omega) (by omega), pbd1_s]
theorem c_asks {σ : Mem} {T : Nat} {t : TT} (hT : CT σ T t) (tb : TB t) {p q : Nat} (hp : p < t.P) (hq : q < t.P) : f_X11_asks σ T (zI p) (zI q) = some (bI (askB t p q)) := by
  have hb := od_b tb p q
  unfold f_X11_asks
  rw [c_odds hT tb hp hq, pbd1_s, askB]
  cases ho : t.odds p q with
  | none => rfl
  | some v => rw [ho] at hb; rw [if_neg (by rw [show (0 : Int32) = zI 0 from rfl, zI_lt (by omega) (by omega)]; simp only [oC]; omega)]; rfl
theorem c_asked {σ : Mem} {T : Nat} {t : TT} (hT : CT σ T t) (tb : TB t) {p : Nat} (hp : p < t.P) : f_X2_askedBy σ T (zI p) = some (zI (bits (askB t p) t.P)) := by
  have hP := tb.P
  unfold f_X2_askedBy
  refine fx2_run (fun i => zI (bits (askB t p) i)) (fun i => zI i) t.P 0 (by omega) rfl rfl (fun k => ?_) (fun i hi k => ?_)
  · rw [ct_people hT, pbd1_s, if_pos (by rw [zI_le (by omega) (by omega)]; omega)]
  · rw [ct_people hT, pbd1_s, if_neg (by rw [zI_le (by omega) (by omega)]; omega), c_asks hT tb hp hi, pbd1_s]
    simp only [jn1_e, pnm_e, show zI i + 1 = zI (i + 1 : Nat) from by rw [show (1 : Int32) = zI 1 from rfl, zI_add]; rfl]
    cases hx : askB t p i with
    | true => rw [if_neg (by decide), bit_or _ (by omega) _ (by rw [hx, if_pos rfl]; rfl)]
    | false => rw [if_pos (by rfl), bit_or _ (by omega) _ (by rw [hx, if_neg (by decide)])]
theorem m_asked {σ : Mem} {t : TT} (hR : MR (σ.1 67) t) (tb : TB t) {p : Nat} (hp : p < t.P) : f_X13_askedBy σ (zI p) = some (zI (bits (askB t p) t.P)) := by
  have hP := tb.P
  have a67 : aln 67 = 175 := rfl
  have i4 : ∀ β (k : Option β), ixd 4 (aln 67) k = k := fun β k => by rw [show (4 : Int32) = zI 4 from rfl, ixd_in (by omega)]
  have p4 : σ.1 67 (4 : Int32).toNatClampNeg = zI t.P := hR.P
  unfold f_X13_askedBy
  simp only [i4, p4]
  refine fx2_run (fun i => zI (bits (askB t p) i)) (fun i => zI i) t.P 0 (by omega) rfl rfl (fun k => ?_) (fun i hi k => ?_)
  · rw [if_pos (by rw [zI_le (by omega) (by omega)]; omega)]
  · have ho := hR.odds p i (by omega) (by omega)
    have hb := od_b tb p i
    rw [if_neg (by rw [zI_le (by omega) (by omega)]; omega), show (100 : Int32) + 5 * zI p + zI i = zI (100 + 5 * p + i : Nat) from by rw [show (100 : Int32) = zI 100 from rfl, show (5 : Int32) = zI 5 from rfl, zI_mul, zI_add, zI_add]; congr 1, ixd_in (by omega), zI_nat (by omega), show ((100 + 5 * p + i : Nat) : Int).toNat = 100 + 5 * p + i from by omega, ho]
    simp only [jn1_e, pnm_e, show zI i + 1 = zI (i + 1 : Nat) from by rw [show (1 : Int32) = zI 1 from rfl, zI_add]; rfl]
    cases hx : t.odds p i with
    | none =>
      have hx2 : askB t p i = false := by unfold askB; rw [hx]; rfl
      rw [if_pos (by decide), bit_or _ (by omega) _ (by rw [hx2, if_neg (by decide)])]
    | some v =>
      have hx2 : askB t p i = true := by unfold askB; rw [hx]; rfl
      rw [hx] at hb
      rw [if_neg (by rw [show (0 : Int32) = zI 0 from rfl, zI_le (by omega) (by omega)]; simp only [oM]; omega), bit_or _ (by omega) _ (by rw [hx2, if_pos rfl]; rfl)]
theorem m_odds {σ : Mem} {t : TT} (hR : MR (σ.1 67) t) (tb : TB t) {p q : Nat} (hp : p < t.P) (hq : q < t.P) (h : askB t p q = true) : f_X13_oddsOf σ (zI p) (zI q) = some (zI (odn t p q)) := by
  have hP := tb.P
  have a67 : aln 67 = 175 := rfl
  have ho := hR.odds p q (by omega) (by omega)
  unfold f_X13_oddsOf
  rw [show (100 : Int32) + 5 * zI p + zI q = zI (100 + 5 * p + q : Nat) from by rw [show (100 : Int32) = zI 100 from rfl, show (5 : Int32) = zI 5 from rfl, zI_mul, zI_add, zI_add]; congr 1, ixd_in (by omega), zI_nat (by omega), show ((100 + 5 * p + q : Nat) : Int).toNat = 100 + 5 * p + q from by omega, ho, show (1 : Int32) = zI 1 from rfl, zI_sub, oM_od h]
def prv (f : Nat → Nat) : Nat → Nat
  | 0 => 0
  | n + 1 => f n
/-- chances: n of those of S below j tell the truth, times 100 to how many they are -/
def el (S : Nat) (o : Nat → Nat) : Nat → Nat → Nat
  | 0, n => if n = 0 then 1 else 0
  | j + 1, n => if S.testBit j = true then el S o j n * (100 - o j) + prv (el S o j) n * o j else el S o j n
def kS (S j : Nat) : Nat := cnt (fun i => S.testBit i) j
theorem el_s (S : Nat) (o : Nat → Nat) (j n : Nat) : el S o (j + 1) n = if S.testBit j = true then el S o j n * (100 - o j) + prv (el S o j) n * o j else el S o j n := rfl
theorem kS_s (S j : Nat) : kS S (j + 1) = kS S j + (if S.testBit j = true then 1 else 0) := rfl
theorem kS_le (S j : Nat) : kS S j ≤ j := cnt_le _ j
theorem el_le (S : Nat) (o : Nat → Nat) (ho : ∀ q, o q ≤ 100) : ∀ j n, el S o j n ≤ 100 ^ kS S j
  | 0, n => by rw [el]; split <;> simp [kS, cnt]
  | j + 1, n => by
    have h1 := el_le S o ho j n
    rw [el_s, kS_s]
    by_cases q : S.testBit j = true
    · rw [if_pos q, if_pos q, Nat.pow_succ]
      have h2 := ho j
      have h3 : el S o j n * (100 - o j) ≤ 100 ^ kS S j * (100 - o j) := Nat.mul_le_mul_right _ h1
      have h4 : prv (el S o j) n * o j ≤ 100 ^ kS S j * o j := by
        refine Nat.mul_le_mul_right _ ?_
        cases n with
        | zero => exact Nat.zero_le _
        | succ n' => exact el_le S o ho j n'
      have h5 : 100 ^ kS S j * (100 - o j) + 100 ^ kS S j * o j = 100 ^ kS S j * 100 := by
        rw [← Nat.mul_add]; congr 1; omega
      omega
    · rw [if_neg q, if_neg q, Nat.add_zero]; exact h1
theorem el_z (S : Nat) (o : Nat → Nat) : ∀ j n, j < n → el S o j n = 0
  | 0, n, h => by rw [el, if_neg (by omega)]
  | j + 1, n, h => by
    obtain ⟨m, rfl⟩ : ∃ m, n = m + 1 := ⟨n - 1, by omega⟩
    show (if S.testBit j = true then el S o j (m + 1) * (100 - o j) + el S o j m * o j else el S o j (m + 1)) = 0
    rw [el_z S o j (m + 1) (by omega)]
    by_cases q : S.testBit j = true
    · rw [if_pos q, el_z S o j m (by omega)]; simp
    · rw [if_neg q]
/-- only the row of chances has changed -/
def FrL (σ τ : Mem) : Prop := τ.1 = σ.1 ∧ τ.2.2 = σ.2.2 ∧ ∀ a, a ≠ 60 → τ.2.1 a = σ.2.1 a
theorem FrL.rfl' (σ : Mem) : FrL σ σ := ⟨rfl, rfl, fun _ _ => rfl⟩
theorem FrL.trans {σ τ υ : Mem} (h1 : FrL σ τ) (h2 : FrL τ υ) : FrL σ υ := ⟨h2.1.trans h1.1, h2.2.1.trans h1.2.1, fun a h => (h2.2.2 a h).trans (h1.2.2 a h)⟩
theorem FrL.sL {σ τ : Mem} (h : FrL σ τ) (j : Nat) (v : Int64) : FrL σ (sL τ 60 j v) := ⟨by rw [sL_1]; exact h.1, by rw [sL_R]; exact h.2.1, fun a q => by
  show (if a = 60 then _ else _) = _
  rw [if_neg q]; exact h.2.2 a q⟩
theorem FrL.ev {σ τ : Mem} (h : FrL σ τ) : Ev σ τ := ⟨⟨fun a j _ => by rw [h.1], fun a _ => by rw [h.2.1], fun a h1 h2 => h.2.2 a (by omega)⟩, by rw [h.1], by rw [h.1]⟩
theorem FrL.ct {σ τ : Mem} (h : FrL σ τ) {T : Nat} {t : TT} (hT : CT σ T t) : CT τ T t := hT.of (fun a _ _ => by rw [h.1])
theorem prv_le {f : Nat → Nat} {b : Nat} (h : ∀ n, f n ≤ b) (n : Nat) : prv f n ≤ b := by
  cases n with
  | zero => exact Nat.zero_le _
  | succ n => exact h n
theorem c_tell {σ : Mem} (C : Nat → Nat) (hC : ∀ m, m ≤ 5 → σ.2.1 60 m = zL (C m : Nat)) (hb : ∀ m, C m ≤ 10000000000) {o : Nat} (ho : o ≤ 100) : ∃ τ, f_X2_tellBy σ (zI o) = some τ ∧ FrL σ τ ∧ ∀ m, m ≤ 5 → τ.2.1 60 m = zL ((C m * (100 - o) + prv C m * o) / 100 : Nat) := by
  have a60 : aln (59 + 1) = 6 := rfl
  have hb2 := prv_le hb
  have hm1 : ∀ m, C m * (100 - o) ≤ 1000000000000 := fun m => Nat.le_trans (Nat.mul_le_mul (hb m) (show 100 - o ≤ 100 by omega)) (by decide)
  have hm2 : ∀ m, prv C m * o ≤ 1000000000000 := fun m => Nat.le_trans (Nat.mul_le_mul (hb2 m) ho) (by decide)
  have hL1 : ((100 : Int32) - zI o).toInt64 = zL (100 - o : Nat) := by
    rw [show (100 : Int32) = zI 100 from rfl, zI_sub, zI_L _ (by omega)]; congr 1; omega
  have hL2 : (zI o).toInt64 = zL (o : Nat) := zI_L _ (by omega)
  unfold f_X2_tellBy
  rw [a60]
  have e5 : nI 6 - 1 = zI 5 := rfl
  rw [e5, pnm_e, hL1, hL2]
  let Inv : Nat → Mem → Prop := fun j τ => FrL σ τ ∧ ∀ m, m ≤ 5 → τ.2.1 60 m = zL ((if 5 - j < m then (C m * (100 - o) + prv C m * o) / 100 else C m : Nat) : Int)
  have h := fx2_inv (F := fun k_4 (i_2 : Int32) (σ_3 : Mem) => (if i_2 ≤ 0 then (if (nI 6) ≤ 0 then some σ_3 else ixd 0 6 (dvl 100 (ixd 0 6 (nm (sL σ_3 (59 + 1) (0 : Int32).toNatClampNeg (((σ_3.2.1 (59 + 1) (0 : Int32).toNatClampNeg) * (zL (100 - o : Nat))) / 100)) (fun (σ_5 : Mem) => some σ_5))))) else ixd i_2 6 (ixd (i_2 - 1) 6 (dvl 100 (ixd i_2 6 (nm (sL σ_3 (59 + 1) i_2.toNatClampNeg ((((σ_3.2.1 (59 + 1) i_2.toNatClampNeg) * (zL (100 - o : Nat))) + ((σ_3.2.1 (59 + 1) (i_2 - 1).toNatClampNeg) * (zL (o : Nat)))) / 100)) (fun (σ_6 : Mem) => nm (i_2 + (-1)) (fun (x_7 : Int32) => k_4 x_7 σ_6)))))))) (fun j => zI (5 - (j : Int))) Inv (fun τ => some (sL τ 60 0 (zL ((C 0 * (100 - o) + prv C 0 * o) / 100 : Nat)))) 5 (by omega) ?_ ?_ 0 (by omega) (x := zI 5) rfl σ ⟨FrL.rfl' σ, fun m hm => by rw [if_neg (by omega)]; exact hC m hm⟩
  · obtain ⟨τ, ⟨w1, w2⟩, w3⟩ := h
    refine ⟨_, w3, w1.sL _ _, fun m hm => ?_⟩
    rw [sL_2]
    by_cases q : m = 0
    · rw [if_pos ⟨rfl, q⟩, q]
    · rw [if_neg (fun z => q z.2), w2 m hm, if_pos (by omega)]
  · rintro k τ ⟨w1, w2⟩
    have h0 := w2 0 (by omega)
    rw [if_neg (by omega)] at h0
    have m1 := hm1 0
    rw [if_pos (by decide), if_neg (by decide), show (0 : Int32) = zI 0 from rfl, ixd_in (by omega), show (100 : Int64) = zL ((100 : Nat) : Int) from rfl, dvl_ne (rLn (by omega)) (by omega), ixd_in (by omega), pnm_e, show (zI 0).toNatClampNeg = 0 from rfl, show (59 + 1) = 60 from rfl, h0, zL_mul, show ((C 0 : Int) * ((100 - o : Nat) : Int)) = ((C 0 * (100 - o) : Nat) : Int) from by push_cast; rfl, zL_divN _ _ (by omega) (by omega), show prv C 0 = 0 from rfl, Nat.zero_mul, Nat.add_zero]
  · rintro j hj τ ⟨w1, w2⟩ k
    obtain ⟨i, hi⟩ : ∃ i, 5 - j = i + 1 := ⟨4 - j, by omega⟩
    have h0 := w2 (i + 1) (by omega)
    have h1 := w2 i (by omega)
    rw [if_neg (by omega)] at h0 h1
    have m1 := hm1 (i + 1)
    have m2 := hm2 (i + 1)
    have m2 : C i * o ≤ 1000000000000 := m2
    rw [show (5 : Int) - (j : Int) = ((i + 1 : Nat) : Int) from by omega, if_neg (by rw [show (0 : Int32) = zI 0 from rfl, zI_le (by omega) (by omega)]; omega), show zI (i + 1 : Nat) - 1 = zI i from by rw [show (1 : Int32) = zI 1 from rfl, zI_sub]; congr 1; omega, ixd_in (by omega), ixd_in (by omega), show (100 : Int64) = zL ((100 : Nat) : Int) from rfl, dvl_ne (rLn (by omega)) (by omega), ixd_in (by omega), pnm_e, pnm_e, zI_nat (by omega), zI_nat (by omega), show ((i + 1 : Nat) : Int).toNat = i + 1 from by omega, show ((i : Nat) : Int).toNat = i from by omega, show (59 + 1) = 60 from rfl, h0, h1, zL_mul, zL_mul, zL_add, show ((C (i + 1) : Int) * ((100 - o : Nat) : Int) + (C i : Int) * (o : Int)) = ((C (i + 1) * (100 - o) + C i * o : Nat) : Int) from by push_cast; rfl, zL_divN _ _ (by omega) (by omega), show zI (i + 1 : Nat) + (-1) = zI (5 - ((j + 1 : Nat) : Int)) from by rw [show (-1 : Int32) = zI (-1) from rfl, zI_add]; congr 1; omega]
    refine ⟨_, ⟨w1.sL _ _, fun m hm => ?_⟩, rfl⟩
    rw [sL_2]
    by_cases q : m = i + 1
    · rw [if_pos ⟨rfl, q⟩, q, if_pos (by omega)]; rfl
    · rw [if_neg (fun z => q z.2), w2 m hm]
      by_cases q2 : 5 - j < m
      · rw [if_pos q2, if_pos (by omega)]
      · rw [if_neg q2, if_neg (by omega)]
def pw (k : Nat) : Nat := 100 ^ (5 - k)
theorem pw_s {k : Nat} (h : k < 5) : pw k = pw (k + 1) * 100 := by
  unfold pw
  rw [show 5 - k = (5 - (k + 1)) + 1 from by omega, Nat.pow_succ]
theorem pw_pos (k : Nat) : 0 < pw k := Nat.pow_pos (by omega)
theorem pw_k {k : Nat} (h : k ≤ 5) : 100 ^ k * pw k = 10000000000 := by
  unfold pw
  rw [← Nat.pow_add, show k + (5 - k) = 5 from by omega]
theorem el_b {S : Nat} {o : Nat → Nat} (ho : ∀ q, o q ≤ 100) {j : Nat} (hj : j ≤ 5) (n : Nat) : el S o j n * pw (kS S j) ≤ 10000000000 := by
  have h1 := el_le S o ho j n
  have h2 := pw_k (Nat.le_trans (kS_le S j) hj)
  rw [← h2]
  exact Nat.mul_le_mul_right _ h1
theorem el_step {S : Nat} {o : Nat → Nat} {j n : Nat} (hS : S.testBit j = true) (hj : j < 5) : (el S o j n * pw (kS S j) * (100 - o j) + prv (fun m => el S o j m * pw (kS S j)) n * o j) / 100 = el S o (j + 1) n * pw (kS S (j + 1)) := by
  have hk := kS_le S j
  rw [el_s, if_pos hS, kS_s, if_pos hS, pw_s (show kS S j < 5 by omega)]
  have e : prv (fun m => el S o j m * (pw (kS S j + 1) * 100)) n = prv (el S o j) n * (pw (kS S j + 1) * 100) := by
    cases n with
    | zero => rw [prv, prv, Nat.zero_mul]
    | succ n => rfl
  rw [e]
  have e2 : el S o j n * (pw (kS S j + 1) * 100) * (100 - o j) + prv (el S o j) n * (pw (kS S j + 1) * 100) * o j = (el S o j n * (100 - o j) + prv (el S o j) n * o j) * pw (kS S j + 1) * 100 := by
    have h : ∀ a c x : Nat, a * (c * 100) * x = a * x * c * 100 := fun a c x => by simp only [Nat.mul_comm, Nat.mul_left_comm, Nat.mul_assoc]
    rw [h, h, Nat.add_mul, Nat.add_mul]
  rw [e2, Nat.mul_div_cancel _ (by omega)]
theorem sh_bit {n i : Nat} (hn : n < 1024) (hi : i < 31) : ((zI n >>> (zI i &&& 31)) &&& 1) = if n.testBit i = true then 1 else 0 := by
  have e := eq_of_beq (List.all_eq_true.1 (List.all_eq_true.1 bt_bit n (List.mem_range.2 hn)) i (List.mem_range.2 hi))
  rw [zI_nI, zI_nI] at e
  exact e
/-- how likely most of S tell the truth, times 100 to how many they are: the terms 1 .. i -/
def mst (S : Nat) (o : Nat → Nat) (P : Nat) : Nat → Nat
  | 0 => 0
  | i + 1 => mst S o P i + (if pc S < 2 * (i + 1) then el S o P (i + 1) else 0)
theorem kS_pc {S P : Nat} (hP : P ≤ 5) (hS : S < 2 ^ P) : kS S P = pc S := by
  unfold kS pc
  have e : ∀ k, P ≤ k → cnt (fun i => S.testBit i) k = cnt (fun i => S.testBit i) P := by
    intro k
    induction k with
    | zero => intro h; rw [show P = 0 from by omega]
    | succ k ih =>
      intro h
      rcases Nat.lt_or_ge k P with q | q
      · rw [show k + 1 = P from by omega]
      · rw [cnt, ih q, Nat.testBit_lt_two_pow (Nat.lt_of_lt_of_le hS (Nat.pow_le_pow_right (by omega) q))]; rfl
  exact (e 8 (by omega)).symm
theorem s_32 {S P : Nat} (hP : P ≤ 5) (hS : S < 2 ^ P) : S < 32 := Nat.lt_of_lt_of_le hS (show 2 ^ P ≤ 2 ^ 5 from Nat.pow_le_pow_right (by omega) hP)
theorem pmst_b {S : Nat} {o : Nat → Nat} (ho : ∀ q, o q ≤ 100) {P : Nat} (hP : P ≤ 5) : ∀ i, mst S o P i * pw (kS S P) ≤ i * 10000000000
  | 0 => by rw [mst]; omega
  | i + 1 => by
    have h1 := pmst_b ho hP (S := S) i
    have h2 := el_b ho hP (S := S) (i + 1)
    rw [mst, Nat.add_mul]
    split
    · omega
    · exact Nat.le_trans (by rw [Nat.zero_mul]; exact h1) (Nat.mul_le_mul_right _ (Nat.le_succ i))
theorem c_chance {σ : Mem} {T : Nat} {t : TT} (hT : CT σ T t) (tb : TB t) {p S : Nat} (hp : p < t.P) (hS : S < 2 ^ t.P) (hsub : ∀ q, q < t.P → S.testBit q = true → askB t p q = true) : ∃ τ, f_X2_chanceOfMost σ T (zI p) (zI S) = some (zL (mst S (odn t p) t.P 5 * pw (pc S) : Nat), τ) ∧ FrL σ τ := by
  have hP := tb.P
  have ho := odn_le tb p
  have hS32 := s_32 hP hS
  have a60 : aln (59 + 1) = 6 := rfl
  unfold f_X2_chanceOfMost
  rw [a60, zI_nI]
  let o := odn t p
  let Inv1 : Nat → Mem → Prop := fun i τ => FrL σ τ ∧ ∀ m, m < i → τ.2.1 60 m = zL ((if m = 0 then 10000000000 else 0 : Nat) : Int)
  let Inv2 : Nat → Mem → Prop := fun j τ => FrL σ τ ∧ ∀ m, m ≤ 5 → τ.2.1 60 m = zL (el S o j m * pw (kS S j) : Nat)
  -- the middle loop
  have mid : ∀ τ1, Inv1 6 τ1 → ∃ τ, Inv2 t.P τ ∧ fx2 FU (fun k_6 (i_4 : Int32) (σ_5 : Mem) => bd1 (f_X11_people σ_5 T) (fun (r_7 : Int32) => (if r_7 ≤ i_4 then fx2 FU (fun k_10 (j_8 : Int64) (i_9 : Int32) => (if (zI (6 : Nat)) ≤ i_9 then some (j_8, σ_5) else bd1 (f_J6_bitCount_0f7a4 (zI S)) (fun (r_11 : Int32) => jn1 (fun (j_12 : Int64) => nm (j_8 + j_12) (fun (x_14 : Int64) => nm (i_9 + 1) (fun (x_15 : Int32) => k_10 x_14 x_15))) (fun k_13 => (if (2 * i_9) ≤ r_11 then k_13 0 else ixd i_9 6 (k_13 (σ_5.2.1 (59 + 1) i_9.toNatClampNeg))))))) 0 1 else jn1 (fun (σ_17 : Mem) => nm (i_4 + 1) (fun (x_19 : Int32) => k_6 x_19 σ_17)) (fun k_18 => (if ((zI S >>> (i_4 &&& 31)) &&& 1) = 1 then bd1 (f_X11_oddsOf σ_5 T (zI p) i_4) (fun (r_21 : Int32) => bd1 (f_X2_tellBy σ_5 r_21) (fun (σ_22 : Mem) => k_18 σ_22)) else k_18 σ_5))))) 0 τ1 = some (zL (mst S o t.P 5 * pw (pc S) : Nat), τ) := by
    intro τ1 h1
    refine fx2_inv (fun j => zI j) Inv2 (fun τ => some (zL (mst S o t.P 5 * pw (pc S) : Nat), τ)) t.P (by omega) ?_ ?_ 0 (by omega) (x := 0) rfl τ1 ⟨h1.1, fun m hm => ?_⟩
    · rintro k τ ⟨w1, w2⟩
      rw [ct_people (w1.ct hT), pbd1_s, if_pos (by rw [zI_le (by omega) (by omega)]; omega)]
      have hpc : pc S ≤ 8 := pc_le S
      rw [← kS_pc hP hS]
      refine fx2_run (fun i => zL (mst S o t.P i * pw (kS S t.P) : Nat)) (fun i => zI (i + 1 : Nat)) 5 0 (by omega) (by rw [mst, Nat.zero_mul]; rfl) rfl (fun k2 => ?_) (fun i hi k2 => ?_)
      · rw [if_pos (by rw [zI_le (by omega) (by omega)]; omega)]
      · rw [if_neg (by rw [zI_le (by omega) (by omega)]; omega), c_bc (by omega), pbd1_s]
        simp only [jn1_e, pnm_e, show zI (i + 1 : Nat) + 1 = zI (i + 1 + 1 : Nat) from by rw [show (1 : Int32) = zI 1 from rfl, zI_add]; rfl]
        rw [show (2 : Int32) * zI (i + 1 : Nat) = zI (2 * (i + 1) : Nat) from by rw [show (2 : Int32) = zI 2 from rfl, zI_mul]; congr 1, mst]
        by_cases q : pc S < 2 * (i + 1)
        · rw [if_neg (by rw [zI_le (by omega) (by omega)]; omega), ixd_in (by omega), zI_nat (by omega), show ((i + 1 : Nat) : Int).toNat = i + 1 from by omega, show (59 + 1) = 60 from rfl, w2 (i + 1) (by omega), if_pos q, zL_add, Nat.add_mul]
          rfl
        · rw [if_pos (by rw [zI_le (by omega) (by omega)]; omega), if_neg q, show mst S o t.P i + 0 = mst S o t.P i from rfl, zL_0, zL_add, Int.add_zero]
    · rintro j hj τ ⟨w1, w2⟩ k
      rw [ct_people (w1.ct hT), pbd1_s, if_neg (by rw [zI_le (by omega) (by omega)]; omega), sh_bit (by omega) (by omega)]
      simp only [jn1_e, pnm_e, show zI j + 1 = zI (j + 1 : Nat) from by rw [show (1 : Int32) = zI 1 from rfl, zI_add]; rfl]
      by_cases q : S.testBit j = true
      · obtain ⟨υ, u1, u2, u3⟩ := c_tell (fun m => el S o j m * pw (kS S j)) w2 (fun m => el_b ho (by omega) m) (ho j)
        rw [if_pos q, if_pos rfl, c_odds (w1.ct hT) tb hp hj, oC_od (hsub j hj q), pbd1_s, u1, pbd1_s]
        refine ⟨υ, ⟨w1.trans u2, fun m hm => ?_⟩, rfl⟩
        rw [u3 m hm]
        rw [el_step q (by omega)]
      · rw [if_neg q, if_neg (by decide)]
        refine ⟨τ, ⟨w1, fun m hm => ?_⟩, rfl⟩
        rw [w2 m hm, el_s, if_neg q, kS_s, if_neg q, Nat.add_zero]
    · rw [h1.2 m (by omega), el]
      by_cases q : m = 0
      · rw [if_pos q, if_pos q, Nat.one_mul, show kS S 0 = 0 from rfl, show pw 0 = 10000000000 from rfl]
      · rw [if_neg q, if_neg q, Nat.zero_mul]
  have h := fx2_inv (F := fun k_3 (i_1 : Int32) (σ_2 : Mem) => (if (zI (6 : Nat)) ≤ i_1 then fx2 FU (fun k_6 (i_4 : Int32) (σ_5 : Mem) => bd1 (f_X11_people σ_5 T) (fun (r_7 : Int32) => (if r_7 ≤ i_4 then fx2 FU (fun k_10 (j_8 : Int64) (i_9 : Int32) => (if (zI (6 : Nat)) ≤ i_9 then some (j_8, σ_5) else bd1 (f_J6_bitCount_0f7a4 (zI S)) (fun (r_11 : Int32) => jn1 (fun (j_12 : Int64) => nm (j_8 + j_12) (fun (x_14 : Int64) => nm (i_9 + 1) (fun (x_15 : Int32) => k_10 x_14 x_15))) (fun k_13 => (if (2 * i_9) ≤ r_11 then k_13 0 else ixd i_9 6 (k_13 (σ_5.2.1 (59 + 1) i_9.toNatClampNeg))))))) 0 1 else jn1 (fun (σ_17 : Mem) => nm (i_4 + 1) (fun (x_19 : Int32) => k_6 x_19 σ_17)) (fun k_18 => (if ((zI S >>> (i_4 &&& 31)) &&& 1) = 1 then bd1 (f_X11_oddsOf σ_5 T (zI p) i_4) (fun (r_21 : Int32) => bd1 (f_X2_tellBy σ_5 r_21) (fun (σ_22 : Mem) => k_18 σ_22)) else k_18 σ_5))))) 0 σ_2 else jn1 (fun (j_23 : Int64) => ixd i_1 6 (nm (sL σ_2 (59 + 1) i_1.toNatClampNeg j_23) (fun (σ_25 : Mem) => nm (i_1 + 1) (fun (x_26 : Int32) => k_3 x_26 σ_25)))) (fun k_24 => (if i_1 = 0 then k_24 10000000000 else k_24 0)))) (fun i => zI i) Inv1 (fun σ_2 => fx2 FU (fun k_6 (i_4 : Int32) (σ_5 : Mem) => bd1 (f_X11_people σ_5 T) (fun (r_7 : Int32) => (if r_7 ≤ i_4 then fx2 FU (fun k_10 (j_8 : Int64) (i_9 : Int32) => (if (zI (6 : Nat)) ≤ i_9 then some (j_8, σ_5) else bd1 (f_J6_bitCount_0f7a4 (zI S)) (fun (r_11 : Int32) => jn1 (fun (j_12 : Int64) => nm (j_8 + j_12) (fun (x_14 : Int64) => nm (i_9 + 1) (fun (x_15 : Int32) => k_10 x_14 x_15))) (fun k_13 => (if (2 * i_9) ≤ r_11 then k_13 0 else ixd i_9 6 (k_13 (σ_5.2.1 (59 + 1) i_9.toNatClampNeg))))))) 0 1 else jn1 (fun (σ_17 : Mem) => nm (i_4 + 1) (fun (x_19 : Int32) => k_6 x_19 σ_17)) (fun k_18 => (if ((zI S >>> (i_4 &&& 31)) &&& 1) = 1 then bd1 (f_X11_oddsOf σ_5 T (zI p) i_4) (fun (r_21 : Int32) => bd1 (f_X2_tellBy σ_5 r_21) (fun (σ_22 : Mem) => k_18 σ_22)) else k_18 σ_5))))) 0 σ_2) 6 (by omega) ?_ ?_ 0 (by omega) (x := 0) rfl σ ⟨FrL.rfl' σ, fun m hm => absurd hm (by omega)⟩
  · obtain ⟨τ1, h1, h2⟩ := h
    obtain ⟨τ, h3, h4⟩ := mid τ1 h1
    exact ⟨τ, h2.trans h4, h3.1⟩
  · rintro k τ w
    rw [if_pos (by decide)]
  · rintro i hi τ ⟨w1, w2⟩ k
    rw [if_neg (by rw [zI_le (by omega) (by omega)]; omega)]
    simp only [jn1_e, pnm_e, show zI i + 1 = zI (i + 1 : Nat) from by rw [show (1 : Int32) = zI 1 from rfl, zI_add]; rfl]
    rw [ixd_in (by omega), ixd_in (by omega), zI_nat (by omega), show (i : Int).toNat = i from by omega]
    refine ⟨sL τ 60 i (zL ((if i = 0 then 10000000000 else 0 : Nat) : Int)), ⟨w1.sL _ _, fun m hm => ?_⟩, ?_⟩
    · rw [sL_2]
      by_cases q : m = i
      · rw [if_pos ⟨rfl, q⟩, q]
      · rw [if_neg (fun z => q z.2)]; exact w2 m (by omega)
    · by_cases q : i = 0
      · subst q; rfl
      · rw [if_neg (by rw [show (0 : Int32) = zI 0 from rfl, zI_eq (by omega) (by omega)]; omega), if_neg q]; rfl
theorem sm_congr {f h : Nat → Nat} : ∀ n, (∀ i, i < n → f i = h i) → sm f n = sm h n
  | 0, _ => rfl
  | n + 1, e => by rw [sm, sm, sm_congr n (fun i hi => e i (by omega)), e n (by omega)]
theorem sm_split (f : Nat → Nat) (a : Nat) : ∀ b, sm f (a + b) = sm f a + sm (fun i => f (a + i)) b
  | 0 => by rw [sm]; rfl
  | b + 1 => by rw [← Nat.add_assoc, sm, sm, sm_split f a b, Nat.add_assoc]
theorem sm_mul (f : Nat → Nat) (c : Nat) : ∀ n, sm (fun i => f i * c) n = sm f n * c
  | 0 => by rw [sm, sm, Nat.zero_mul]
  | n + 1 => by rw [sm, sm, sm_mul f c n, Nat.add_mul]
theorem sm_plus (f h : Nat → Nat) : ∀ n, sm (fun i => f i + h i) n = sm f n + sm h n
  | 0 => rfl
  | n + 1 => by rw [sm, sm, sm, sm_plus f h n]; omega
theorem sm_zero {f : Nat → Nat} : ∀ n, (∀ i, i < n → f i = 0) → sm f n = 0
  | 0, _ => rfl
  | n + 1, e => by rw [sm, sm_zero n (fun i hi => e i (by omega)), e n (by omega)]
/-- the product of one way of telling, of those below j -/
def wt (S : Nat) (o : Nat → Nat) (x : Nat) : Nat → Nat
  | 0 => 1
  | j + 1 => if S.testBit j = true then wt S o x j * (if x.testBit j = true then o j else 100 - o j) else wt S o x j
noncomputable def sbj (S x j : Nat) : Bool := !exF (fun q => x.testBit q && !S.testBit q) 0 j
noncomputable def trm (S : Nat) (o : Nat → Nat) (g : Nat → Nat) (j x : Nat) : Nat := if sbj S x j = true then g (kS x j) * wt S o x j else 0
theorem wt_congr {S : Nat} {o : Nat → Nat} {x y : Nat} : ∀ j, (∀ q, q < j → x.testBit q = y.testBit q) → wt S o x j = wt S o y j
  | 0, _ => rfl
  | j + 1, e => by rw [wt, wt, wt_congr j (fun q hq => e q (by omega)), e j (by omega)]
theorem wt_le {S : Nat} {o : Nat → Nat} (ho : ∀ q, o q ≤ 100) (x : Nat) : ∀ j, wt S o x j ≤ 100 ^ j
  | 0 => Nat.le_refl 1
  | j + 1 => by
    have h1 := wt_le ho x (S := S) j
    rw [wt, Nat.pow_succ]
    split
    · refine Nat.mul_le_mul h1 ?_
      have := ho j
      split <;> omega
    · omega
theorem kS_congr {x y : Nat} (j : Nat) (e : ∀ q, q < j → x.testBit q = y.testBit q) : kS x j = kS y j := cnt_congr j e
theorem sbj_congr {S x y : Nat} (j : Nat) (e : ∀ q, q < j → x.testBit q = y.testBit q) : sbj S x j = sbj S y j := by
  unfold sbj
  rw [exF_congr (fun q _ hq => by rw [e q hq])]
theorem sbj_s (S x j : Nat) : sbj S x (j + 1) = (sbj S x j && !(x.testBit j && !S.testBit j)) := by
  unfold sbj
  rw [exF_s, Bool.not_or]
theorem trm_lo {S : Nat} {o g : Nat → Nat} {j x : Nat} (hx : x < 2 ^ j) : trm S o g (j + 1) x = trm S o g j x * (if S.testBit j = true then 100 - o j else 1) := by
  have hb : x.testBit j = false := Nat.testBit_lt_two_pow hx
  unfold trm
  rw [sbj_s, hb, Bool.false_and, Bool.not_false, Bool.and_true, kS_s, hb, if_neg (show ¬ false = true by decide), Nat.add_zero, wt, hb, if_neg (show ¬ false = true by decide)]
  by_cases q : sbj S x j = true
  · rw [if_pos q, if_pos q]
    by_cases q2 : S.testBit j = true
    · rw [if_pos q2, if_pos q2, Nat.mul_assoc]
    · rw [if_neg q2, if_neg q2, Nat.mul_one]
  · rw [if_neg q, if_neg q, Nat.zero_mul]
theorem trm_hi {S : Nat} {o g : Nat → Nat} {j x : Nat} (hx : x < 2 ^ j) : trm S o g (j + 1) (2 ^ j + x) = trm S o (fun n => g (n + 1)) j x * (if S.testBit j = true then o j else 0) := by
  have hb : (2 ^ j + x).testBit j = true := by rw [Nat.testBit_two_pow_add_eq, Nat.testBit_lt_two_pow hx]; rfl
  have hl : ∀ q, q < j → (2 ^ j + x).testBit q = x.testBit q := fun q hq => Nat.testBit_two_pow_add_gt hq x
  unfold trm
  rw [sbj_s, hb, Bool.true_and, Bool.not_not, sbj_congr j hl, kS_s, hb, if_pos rfl, kS_congr j hl, wt, hb, if_pos rfl, wt_congr j hl]
  by_cases q2 : S.testBit j = true
  · rw [q2, Bool.and_true, if_pos rfl, if_pos rfl]
    by_cases q : sbj S x j = true
    · rw [if_pos q, if_pos q, Nat.mul_assoc]
    · rw [if_neg q, if_neg q, Nat.zero_mul]
  · rw [show S.testBit j = false from by simpa using q2, Bool.and_false, if_neg (show ¬ false = true by decide), if_neg (show ¬ false = true by decide), Nat.mul_zero]
theorem prv_sm (g e : Nat → Nat) (h : e 5 = 0) : sm (fun n => g n * prv e n) 6 = sm (fun n => g (n + 1) * e n) 6 := by
  simp [sm, prv, h]
theorem FG (S : Nat) (o : Nat → Nat) : ∀ j, j ≤ 5 → ∀ g : Nat → Nat, sm (trm S o g j) (2 ^ j) = sm (fun n => g n * el S o j n) 6
  | 0, _, g => by
    have e : trm S o g 0 0 = g 0 := by
      unfold trm sbj
      rw [exF_end, if_pos (by rfl)]
      show g 0 * 1 = g 0
      omega
    show sm (trm S o g 0) 1 = _
    simp [sm, e, el]
  | j + 1, hj, g => by
    have ih := FG S o j (by omega)
    rw [Nat.pow_succ, Nat.mul_two, sm_split, sm_congr _ (fun i hi => trm_lo hi), sm_congr (f := fun i => trm S o g (j + 1) (2 ^ j + i)) _ (fun i hi => trm_hi hi), sm_mul, sm_mul, ih, ih]
    by_cases q : S.testBit j = true
    · rw [if_pos q, if_pos q, ← prv_sm g (el S o j) (el_z S o j 5 (by omega)), ← sm_mul, ← sm_mul, ← sm_plus]
      refine sm_congr 6 (fun n _ => ?_)
      rw [el_s, if_pos q, Nat.mul_add, Nat.mul_assoc, Nat.mul_assoc]
    · rw [if_neg q, if_neg q, Nat.mul_one, Nat.mul_zero, Nat.add_zero]
      refine sm_congr 6 (fun n _ => ?_)
      rw [el_s, if_neg q]
theorem mst_sm (S : Nat) (o : Nat → Nat) (P : Nat) : sm (fun n => (if pc S < 2 * n then 1 else 0) * el S o P n) 6 = mst S o P 5 := by
  simp only [mst, sm, Nat.zero_add, Nat.mul_zero, Nat.not_lt_zero, if_false, Nat.zero_mul]
  have e : ∀ n, (if pc S < 2 * n then 1 else 0) * el S o P n = if pc S < 2 * n then el S o P n else 0 := fun n => by
    by_cases q : pc S < 2 * n
    · rw [if_pos q, if_pos q, Nat.one_mul]
    · rw [if_neg q, if_neg q, Nat.zero_mul]
  simp only [e]
theorem bt_sub : ((List.range 32).all fun x => (List.range 32).all fun S => ((nI x &&& (nI S ^^^ (-1))) == 0) == decide (x &&& S = x)) = true := by decide +kernel
theorem sub_e {x S P : Nat} (hP : P ≤ 5) (hx : x < 2 ^ P) (hS : S < 2 ^ P) : (zI x &&& (zI S ^^^ (-1)) = 0) ↔ sbj S x P = true := by
  have hx5 := s_32 hP hx
  have hS5 := s_32 hP hS
  have e := eq_of_beq (List.all_eq_true.1 (List.all_eq_true.1 bt_sub x (List.mem_range.2 hx5)) S (List.mem_range.2 hS5))
  rw [zI_nI, zI_nI] at e
  have e1 : (zI x &&& (zI S ^^^ (-1)) = 0) ↔ x &&& S = x := by
    constructor
    · intro h
      rw [h] at e
      exact of_decide_eq_true e.symm
    · intro h
      rw [decide_eq_true h] at e
      exact eq_of_beq e
  rw [e1]
  unfold sbj
  constructor
  · intro h
    rw [exF_f (fun q _ hq => ?_)]; rfl
    have : (x &&& S).testBit q = x.testBit q := by rw [h]
    rw [Nat.testBit_and] at this
    cases h1 : x.testBit q with
    | false => rfl
    | true => rw [h1, Bool.true_and] at this; rw [this]; rfl
  · intro h
    apply Nat.eq_of_testBit_eq
    intro q
    rw [Nat.testBit_and]
    cases h1 : x.testBit q with
    | false => rfl
    | true =>
      rw [Bool.true_and]
      cases h2 : S.testBit q with
      | true => rfl
      | false =>
        have hq : q < P := by
          rcases Nat.lt_or_ge q P with w | w
          · exact w
          · rw [Nat.testBit_lt_two_pow (Nat.lt_of_lt_of_le hx (Nat.pow_le_pow_right (by omega) w))] at h1; cases h1
        rw [exF_t q (by omega) hq (by rw [h1, h2]; rfl)] at h; cases h
theorem sm_b {f : Nat → Nat} {b : Nat} (h : ∀ i, f i ≤ b) (n : Nat) (hn : n ≤ 32) : sm f n ≤ 32 * b := Nat.le_trans (sm_le h n) (Nat.mul_le_mul_right _ hn)
theorem m_truth {σ : Mem} {t : TT} (hR : MR (σ.1 67) t) (tb : TB t) {p S : Nat} (hp : p < t.P) (hS : S < 2 ^ t.P) (hsub : ∀ q, q < t.P → S.testBit q = true → askB t p q = true) : f_X13_truthOf σ (zI p) (zI S) = some (zL (mst S (odn t p) t.P 5 : Nat)) := by
  have hP := tb.P
  have ho := odn_le tb p
  have hS5 := s_32 hP hS
  have a67 : aln 67 = 175 := rfl
  have i4 : ∀ β (k : Option β), ixd 4 (aln 67) k = k := fun β k => by rw [show (4 : Int32) = zI 4 from rfl, ixd_in (by omega)]
  have p4 : σ.1 67 (4 : Int32).toNatClampNeg = zI t.P := hR.P
  have hZ5 : 2 ^ t.P ≤ 32 := (Nat.pow_le_pow_right (by omega) hP : 2 ^ t.P ≤ 2 ^ 5)
  have hpow : (1 : Int32) <<< (zI t.P &&& 31) = zI (2 ^ t.P : Nat) := one_shl (by omega)
  let g : Nat → Nat := fun n => if pc S < 2 * n then 1 else 0
  have hwt : ∀ x j, j ≤ 5 → wt S (odn t p) x j ≤ 10000000000 := fun x j hj => Nat.le_trans (wt_le ho x j) (show 100 ^ j ≤ 100 ^ 5 from Nat.pow_le_pow_right (by omega) hj)
  have htr : ∀ x, trm S (odn t p) g t.P x ≤ 10000000000 := fun x => by
    have := hwt x t.P hP
    unfold trm
    split
    · show (if pc S < 2 * kS x t.P then 1 else 0) * _ ≤ _
      split <;> omega
    · omega
  rw [← mst_sm, ← FG S (odn t p) t.P hP g]
  unfold f_X13_truthOf
  simp only [i4, p4, hpow]
  obtain ⟨Z, hZ⟩ : ∃ Z : Nat, 2 ^ t.P = Z := ⟨_, rfl⟩
  rw [hZ] at hZ5 hS ⊢
  refine fx2_run (fun x => zL (sm (trm S (odn t p) g t.P) x : Nat)) (fun x => zI x) Z 0 (by omega) rfl rfl (fun k => ?_) (fun x hx k => ?_)
  · rw [if_pos (by rw [zI_le (by omega) (by omega)]; omega)]
  · have hsm := sm_b htr x (by omega)
    have hx5 : x < 32 := by omega
    rw [if_neg (by rw [zI_le (by omega) (by omega)]; omega)]
    simp only [jn1_e, pnm_e, show zI x + 1 = zI (x + 1 : Nat) from by rw [show (1 : Int32) = zI 1 from rfl, zI_add]; rfl]
    have hse := sub_e hP (by rw [hZ]; exact hx) (by rw [hZ]; exact hS)
    rw [sm]
    by_cases q : sbj S x t.P = true
    · have px := pc_le x
      have pS := pc_le S
      rw [if_pos (hse.2 q), show f_X13_ones (zI x) = some (zI (pc x)) from m_ones (by omega), pbd1_s, show f_X13_ones (zI S) = some (zI (pc S)) from m_ones (by omega), pbd1_s, show (2 : Int32) * zI (pc x) = zI (2 * pc x : Nat) from by rw [show (2 : Int32) = zI 2 from rfl, zI_mul]; congr 1]
      by_cases q2 : pc S < 2 * pc x
      · rw [if_pos (by rw [zI_lt (by omega) (by omega)]; omega)]
        have e : trm S (odn t p) g t.P x = wt S (odn t p) x t.P := by
          unfold trm
          rw [if_pos q]
          show (if pc S < 2 * kS x t.P then 1 else 0) * _ = _
          rw [kS_pc hP (by rw [hZ]; exact hx), if_pos q2, Nat.one_mul]
        rw [e]
        refine fx2_run (fun j => zL (wt S (odn t p) x j : Nat)) (fun j => zI j) t.P 0 (by omega) rfl rfl (fun k2 => ?_) (fun j hj k2 => ?_)
        · rw [if_pos (by rw [zI_le (by omega) (by omega)]; omega), zL_add]; rfl
        · have hod := ho j
          rw [if_neg (by rw [zI_le (by omega) (by omega)]; omega), m_hasBit (by omega) (by omega), pbd1_s, wt]
          cases hb : S.testBit j with
          | false => rw [if_pos (by rfl), if_neg (by decide), show zI j + 1 = zI (j + 1 : Nat) from by rw [show (1 : Int32) = zI 1 from rfl, zI_add]; rfl]
          | true =>
            rw [if_neg (by decide), if_pos rfl, m_hasBit (by omega) (by omega), pbd1_s, m_odds hR tb hp hj (hsub j hj hb), pbd1_s, pbd1_s, show zI j + 1 = zI (j + 1 : Nat) from by rw [show (1 : Int32) = zI 1 from rfl, zI_add]; rfl]
            cases hb2 : x.testBit j with
            | false => rw [if_pos (by rfl), if_neg (by decide), show (100 : Int32) = zI 100 from rfl, zI_sub, zI_L _ (by omega), zL_mul, show ((wt S (odn t p) x j : Nat) : Int) * ((100 : Int) - (odn t p j : Nat)) = ((wt S (odn t p) x j * (100 - odn t p j) : Nat) : Int) from by rw [Int.natCast_mul]; congr 1; omega]
            | true => rw [if_neg (by decide), if_pos rfl, zI_L _ (by omega), zL_mul]; rfl
      · have e : trm S (odn t p) g t.P x = 0 := by
          unfold trm
          rw [if_pos q]
          show (if pc S < 2 * kS x t.P then 1 else 0) * _ = _
          rw [kS_pc hP (by rw [hZ]; exact hx), if_neg q2, Nat.zero_mul]
        rw [if_neg (by rw [zI_lt (by omega) (by omega)]; omega), e]
        rfl
    · rw [if_neg (fun w => q (hse.1 w)), show trm S (odn t p) g t.P x = 0 from if_neg q]
      rfl
theorem sm_prv (e : Nat → Nat) : sm (prv e) 6 ≤ sm e 6 := by
  simp only [sm, prv]; omega
theorem el_sum {S : Nat} {o : Nat → Nat} (ho : ∀ q, o q ≤ 100) : ∀ j, sm (el S o j) 6 ≤ 100 ^ kS S j
  | 0 => by simp [sm, el, kS, cnt]
  | j + 1 => by
    have ih := el_sum ho (S := S) j
    have h2 := ho j
    rw [kS_s]
    by_cases q : S.testBit j = true
    · rw [if_pos q, Nat.pow_succ, sm_congr (h := fun n => el S o j n * (100 - o j) + prv (el S o j) n * o j) 6 (fun n _ => by rw [el_s, if_pos q]), sm_plus, sm_mul, sm_mul]
      have h3 := Nat.mul_le_mul_right (100 - o j) ih
      have h4 := Nat.mul_le_mul_right (o j) (Nat.le_trans (sm_prv (el S o j)) ih)
      have h5 : 100 ^ kS S j * (100 - o j) + 100 ^ kS S j * o j = 100 ^ kS S j * 100 := by
        rw [← Nat.mul_add]; congr 1; omega
      omega
    · rw [if_neg q, Nat.add_zero, sm_congr (h := el S o j) 6 (fun n _ => by rw [el_s, if_neg q])]; exact ih
theorem mst_sum (S : Nat) (o : Nat → Nat) (P : Nat) : ∀ i, mst S o P i ≤ sm (el S o P) (i + 1)
  | 0 => Nat.zero_le _
  | i + 1 => by
    have := mst_sum S o P i
    rw [mst, sm]
    split <;> omega
/-- how likely most of S tell the truth, as so many of 100 to the power of five -/
def vS (t : TT) (p S : Nat) : Nat := mst S (odn t p) t.P 5 * pw (pc S)
theorem pc_5 {S P : Nat} (hP : P ≤ 5) (hS : S < 2 ^ P) : pc S ≤ 5 := by rw [← kS_pc hP hS]; exact Nat.le_trans (kS_le _ _) hP
theorem mst_k {t : TT} (tb : TB t) {p S : Nat} (hS : S < 2 ^ t.P) : mst S (odn t p) t.P 5 ≤ 100 ^ pc S := by
  rw [← kS_pc tb.P hS]
  exact Nat.le_trans (mst_sum _ _ _ 5) (el_sum (odn_le tb p) _)
theorem vS_b {t : TT} (tb : TB t) {p S : Nat} (hS : S < 2 ^ t.P) : vS t p S ≤ 10000000000 := by
  rw [← pw_k (pc_5 tb.P hS)]
  exact Nat.mul_le_mul_right _ (mst_k tb hS)
noncomputable def okS (t : TT) (p S : Nat) : Bool := sbj (bits (askB t p) t.P) S t.P && decide (pc S % 2 = 1)
noncomputable def bk (t : TT) (p : Nat) : Nat → Nat × Int
  | 0 => (0, -1)
  | n + 1 => if okS t p (n + 1) = true ∧ ((bk t p n).2 < vS t p (n + 1) ∨ ((bk t p n).2 = vS t p (n + 1) ∧ pc (n + 1) < pc (bk t p n).1)) then (n + 1, (vS t p (n + 1) : Int)) else bk t p n
theorem sbj_0 (A P : Nat) : sbj A 0 P = true := by
  unfold sbj
  rw [exF_f (fun q _ _ => by rw [Nat.zero_testBit]; rfl)]; rfl
theorem bk_b {t : TT} (tb : TB t) (p : Nat) : ∀ n, n < 2 ^ t.P → (bk t p n).1 ≤ n ∧ -1 ≤ (bk t p n).2 ∧ (bk t p n).2 ≤ 10000000000 ∧ sbj (bits (askB t p) t.P) (bk t p n).1 t.P = true
  | 0, _ => by rw [bk]; exact ⟨Nat.le_refl 0, by dsimp only; omega, by dsimp only; omega, sbj_0 _ _⟩
  | n + 1, hn => by
    have ih := bk_b tb p n (by omega)
    have hv := vS_b tb (p := p) hn
    rw [bk]
    split
    · rename_i h
      have h2 := h.1
      unfold okS at h2
      rw [Bool.and_eq_true] at h2
      exact ⟨Nat.le_refl _, by dsimp only; omega, by dsimp only; omega, h2.1⟩
    · exact ⟨by omega, ih.2.1, ih.2.2.1, ih.2.2.2⟩
theorem sbj_sub {A S P : Nat} (h : sbj A S P = true) (q : Nat) (hq : q < P) (hb : S.testBit q = true) : A.testBit q = true := by
  unfold sbj at h
  cases h2 : A.testBit q with
  | true => rfl
  | false => rw [exF_t q (by omega) hq (by rw [hb, h2]; rfl)] at h; cases h
theorem ok_sub {t : TT} {p S : Nat} (h : sbj (bits (askB t p) t.P) S t.P = true) : ∀ q, q < t.P → S.testBit q = true → askB t p q = true := by
  intro q hq hb
  have := sbj_sub h q hq hb
  rw [bits_at, decide_eq_true hq, Bool.true_and] at this
  exact this
theorem sbj_le {A S P : Nat} (hS : S < 2 ^ P) (h : sbj A S P = true) : S ≤ A := by
  have e : S &&& A = S := by
    apply Nat.eq_of_testBit_eq
    intro q
    rw [Nat.testBit_and]
    cases h1 : S.testBit q with
    | false => rfl
    | true =>
      have hq : q < P := by
        rcases Nat.lt_or_ge q P with w | w
        · exact w
        · rw [Nat.testBit_lt_two_pow (Nat.lt_of_lt_of_le hS (Nat.pow_le_pow_right (by omega) w))] at h1; cases h1
      rw [sbj_sub h q hq h1]; rfl
  rw [← e]; exact Nat.and_le_right
theorem bk_up {t : TT} {p : Nat} : ∀ k, bits (askB t p) t.P + k < 2 ^ t.P → bk t p (bits (askB t p) t.P + k) = bk t p (bits (askB t p) t.P)
  | 0, _ => rfl
  | k + 1, h => by
    rw [← Nat.add_assoc, bk, if_neg, bk_up k (by omega)]
    rintro ⟨h1, -⟩
    unfold okS at h1
    rw [Bool.and_eq_true] at h1
    have := sbj_le (by omega) h1.1
    omega
theorem odd_e {n : Nat} (h : n ≤ 8) : zI n - zI n / 2 * 2 = zI (n % 2 : Nat) := by
  rw [show (2 : Int32) = zI (2 : Nat) from rfl]; exact zI_rem (by omega)
theorem c_best {σ : Mem} {T : Nat} {t : TT} (hT : CT σ T t) (tb : TB t) {p : Nat} (hp : p < t.P) : ∃ τ, f_X2_bestToAsk σ T (zI p) = some (zI (bk t p (bits (askB t p) t.P)).1, τ) ∧ FrL σ τ := by
  have hP := tb.P
  obtain ⟨A, hA⟩ : ∃ A, bits (askB t p) t.P = A := ⟨_, rfl⟩
  have hAb : A < 2 ^ t.P := by rw [← hA]; exact bits_lt _ _
  have hA5 := s_32 hP hAb
  unfold f_X2_bestToAsk
  rw [c_asked hT tb hp, pbd1_s, pnm_e, hA]
  let Inv : Nat → Mem → Prop := fun _ τ => FrL σ τ
  have hh := fx4_inv (F := fun k_7 (i_3 : Int32) (j_4 : Int64) (i_5 : Int32) (σ_6 : Mem) => (if zI A < i_5 then some (i_3, σ_6) else jn3 (fun (i_8 : Int32) (j_9 : Int64) (σ_10 : Mem) => nm (i_5 + 1) (fun (x_12 : Int32) => k_7 i_8 j_9 x_12 σ_10)) (fun k_11 => (if (i_5 &&& (zI A ^^^ (-1))) = 0 then bd1 (f_J6_bitCount_0f7a4 i_5) (fun (r_14 : Int32) => dvd 2 ((if (r_14 - r_14 / 2 * 2) = 1 then bd2 (f_X2_chanceOfMost σ_6 T (zI p) i_5) (fun (r_15 : Int64) (σ_16 : Mem) => bd1 (f_J6_bitCount_0f7a4 i_5) (fun (r_17 : Int32) => bd1 (f_J6_bitCount_0f7a4 i_3) (fun (r_18 : Int32) => jn1 (fun (i_19 : Int32) => jn0 (k_11 i_5 r_15 σ_16) (fun k_21 => (if 0 < (lg_cmp r_15 j_4) then k_21 else (if (lg_cmp r_15 j_4) = 0 then (if i_19 = 0 then k_11 i_3 j_4 σ_16 else k_21) else k_11 i_3 j_4 σ_16)))) (fun k_20 => (if r_18 ≤ r_17 then k_20 0 else k_20 1))))) else k_11 i_3 j_4 σ_6))) else k_11 i_3 j_4 σ_6)))) (fun n => zI (bk t p n).1) (fun n => zL (bk t p n).2) (fun n => zI (n + 1 : Nat)) Inv (fun τ => some (zI (bk t p A).1, τ)) A (by omega) ?_ ?_ 0 (by omega) (x := 0) (y := -1) (z := 1) rfl rfl rfl σ (FrL.rfl' σ)
  · obtain ⟨τ, h1, h2⟩ := hh
    exact ⟨τ, h2, h1⟩
  · rintro k τ w
    rw [if_pos (by rw [zI_lt (by omega) (by omega)]; omega)]
  · rintro n hn τ w k
    have hb := bk_b tb p n (by omega)
    have hS : n + 1 < 2 ^ t.P := by omega
    have hS5 := s_32 hP hS
    have hv := vS_b tb (p := p) hS
    have pS := pc_le (n + 1)
    have pB := pc_le (bk t p n).1
    have hse := sub_e hP hS hAb
    have w : FrL σ τ := w
    rw [if_neg (by rw [zI_lt (by omega) (by omega)]; omega), bk]
    unfold jn3
    simp only [pnm_e, jn1_e, jn0_e, show zI (n + 1 : Nat) + 1 = zI (n + 1 + 1 : Nat) from by rw [show (1 : Int32) = zI 1 from rfl, zI_add]; rfl]
    unfold okS
    rw [hA]
    rw [hA] at hb
    by_cases q : sbj A (n + 1) t.P = true
    · rw [if_pos (hse.2 q), c_bc (by omega), pbd1_s, show (2 : Int32) = zI 2 from rfl, dvd_ne (by omega), show zI 2 = (2 : Int32) from rfl, odd_e pS]
      by_cases q2 : pc (n + 1) % 2 = 1
      · obtain ⟨υ, u1, u2⟩ := c_chance (w.ct hT) tb hp hS (ok_sub (by rw [hA]; exact q))
        rw [if_pos (by rw [q2]; rfl), u1, pbd2_s, pbd1_s, c_bc (show (bk t p n).1 < 256 by omega), pbd1_s, show ((mst (n + 1) (odn t p) t.P 5 * pw (pc (n + 1)) : Nat)) = vS t p (n + 1) from rfl, show (0 : Int32) = zI 0 from rfl, cmp_e (rLn (by omega)) (by unfold rL; omega), decide_eq_true q2, q]
        refine ⟨υ, w.trans u2, ?_⟩
        by_cases c1 : (bk t p n).2 < vS t p (n + 1)
        · have e : (true && true) = true ∧ ((bk t p n).2 < vS t p (n + 1) ∨ ((bk t p n).2 = vS t p (n + 1) ∧ pc (n + 1) < pc (bk t p n).1)) := ⟨rfl, Or.inl c1⟩
          rw [if_pos e, if_pos c1]
          split <;> rfl
        · rw [if_neg c1]
          by_cases c2 : (vS t p (n + 1) : Int) = (bk t p n).2
          · rw [if_pos c2]
            by_cases c3 : pc (n + 1) < pc (bk t p n).1
            · have e : (true && true) = true ∧ ((bk t p n).2 < vS t p (n + 1) ∨ ((bk t p n).2 = vS t p (n + 1) ∧ pc (n + 1) < pc (bk t p n).1)) := ⟨rfl, Or.inr ⟨c2.symm, c3⟩⟩
              rw [if_pos e, if_neg (show ¬ zI 0 < 0 by decide), if_pos (show (0 : Int32) = zI 0 from rfl), if_neg (by rw [zI_le (by omega) (by omega)]; omega)]
              rfl
            · have e : ¬ ((true && true) = true ∧ ((bk t p n).2 < vS t p (n + 1) ∨ ((bk t p n).2 = vS t p (n + 1) ∧ pc (n + 1) < pc (bk t p n).1))) := fun z => z.2.elim c1 (fun y => c3 y.2)
              rw [if_neg e, if_neg (show ¬ zI 0 < 0 by decide), if_pos (show (0 : Int32) = zI 0 from rfl), if_pos (by rw [zI_le (by omega) (by omega)]; omega)]
              rfl
          · have e : ¬ ((true && true) = true ∧ ((bk t p n).2 < vS t p (n + 1) ∨ ((bk t p n).2 = vS t p (n + 1) ∧ pc (n + 1) < pc (bk t p n).1))) := fun z => z.2.elim c1 (fun y => c2 y.1.symm)
            rw [if_neg c2, if_neg e]
            split <;> rfl
      · have e : ¬ ((sbj A (n + 1) t.P && decide (pc (n + 1) % 2 = 1)) = true ∧ ((bk t p n).2 < vS t p (n + 1) ∨ ((bk t p n).2 = vS t p (n + 1) ∧ pc (n + 1) < pc (bk t p n).1))) := fun z => by
          have := z.1
          rw [decide_eq_false q2, Bool.and_false] at this; cases this
        rw [if_neg e, if_neg (by rw [show (1 : Int32) = zI 1 from rfl, zI_eq (by omega) (by omega)]; omega)]
        exact ⟨τ, w, rfl⟩
    · have e : ¬ ((sbj A (n + 1) t.P && decide (pc (n + 1) % 2 = 1)) = true ∧ ((bk t p n).2 < vS t p (n + 1) ∨ ((bk t p n).2 = vS t p (n + 1) ∧ pc (n + 1) < pc (bk t p n).1))) := fun z => by
        have := z.1
        rw [show sbj A (n + 1) t.P = false from by simpa using q, Bool.false_and] at this; cases this
      rw [if_neg e, if_neg (fun z => q (hse.1 z))]
      exact ⟨τ, w, rfl⟩
theorem m_hundreds {n : Nat} (hn : n ≤ 5) : f_X13_hundreds (zI n) = some (zL (100 ^ n : Nat)) := by
  unfold f_X13_hundreds
  refine fx2_run (fun i => zL (100 ^ i : Nat)) (fun i => zI i) n 0 (by omega) rfl rfl (fun k => ?_) (fun i hi k => ?_)
  · rw [if_pos (by rw [zI_le (by omega) (by omega)]; omega)]
  · rw [if_neg (by rw [zI_le (by omega) (by omega)]; omega), pnm_e, pnm_e, show (100 : Int64) = zL ((100 : Nat) : Int) from rfl, zL_mul, show zI i + 1 = zI (i + 1 : Nat) from by rw [show (1 : Int32) = zI 1 from rfl, zI_add]; rfl, Nat.pow_succ, Int.natCast_mul]
theorem m_askOf {σ : Mem} {t : TT} (hR : MR (σ.1 67) t) (tb : TB t) {p : Nat} (hp : p < t.P) : f_X13_askOf σ (zI p) = some (zI (bk t p (bits (askB t p) t.P)).1) := by
  have hP := tb.P
  have a67 : aln 67 = 175 := rfl
  have i4 : ∀ β (k : Option β), ixd 4 (aln 67) k = k := fun β k => by rw [show (4 : Int32) = zI 4 from rfl, ixd_in (by omega)]
  have p4 : σ.1 67 (4 : Int32).toNatClampNeg = zI t.P := hR.P
  have hZ5 : 2 ^ t.P ≤ 32 := (Nat.pow_le_pow_right (by omega) hP : 2 ^ t.P ≤ 2 ^ 5)
  have hZ0 : 0 < 2 ^ t.P := Nat.two_pow_pos _
  have hpow : (1 : Int32) <<< (zI t.P &&& 31) = zI (2 ^ t.P : Nat) := one_shl (by omega)
  have hA := bits_lt (askB t p) t.P
  have hup := bk_up (t := t) (p := p) (2 ^ t.P - 1 - bits (askB t p) t.P) (by omega)
  rw [show bits (askB t p) t.P + (2 ^ t.P - 1 - bits (askB t p) t.P) = 2 ^ t.P - 1 from by omega] at hup
  rw [← hup]
  obtain ⟨A, hA2⟩ : ∃ A, bits (askB t p) t.P = A := ⟨_, rfl⟩
  unfold f_X13_askOf
  simp only [i4, p4, hpow]
  obtain ⟨Z, hZ⟩ : ∃ Z : Nat, 2 ^ t.P = Z := ⟨_, rfl⟩
  rw [hZ] at hZ5 hZ0 hA ⊢
  rw [hA2] at hA
  rw [pnm_e]
  refine fx3_run (fun n => zI (bk t p n).1) (fun n => zL (bk t p n).2) (fun n => zI (n + 1 : Nat)) (Z - 1) 0 (by omega) rfl rfl rfl (fun k => ?_) (fun n hn k => ?_)
  · rw [if_pos (by rw [zI_le (by omega) (by omega)]; omega)]
  · have hS : n + 1 < 2 ^ t.P := by omega
    have hb := bk_b tb p n (by omega)
    have hS5 := s_32 hP hS
    have hv := vS_b tb (p := p) hS
    have pS := pc_le (n + 1)
    have pS5 := pc_5 hP hS
    have pB := pc_le (bk t p n).1
    have hse := sub_e (S := A) hP hS (by omega)
    rw [if_neg (by rw [zI_le (by omega) (by omega)]; omega), m_asked hR tb hp, pbd1_s, hA2, bk]
    unfold jn2
    simp only [pnm_e, jn0_e, show zI (n + 1 : Nat) + 1 = zI (n + 1 + 1 : Nat) from by rw [show (1 : Int32) = zI 1 from rfl, zI_add]; rfl]
    have hones : ∀ m : Nat, m < 32 → f_X13_ones (zI m) = some (zI (pc m)) := fun m hm => m_ones (by omega)
    unfold okS
    rw [hA2]
    rw [hA2] at hb
    by_cases q : sbj A (n + 1) t.P = true
    · rw [if_pos (hse.2 q), hones _ hS5, pbd1_s, show (2 : Int32) = zI 2 from rfl, dvd_ne (by omega), show zI 2 = (2 : Int32) from rfl, odd_e pS]
      by_cases q2 : pc (n + 1) % 2 = 1
      · rw [if_neg (by rw [q2]; decide), m_truth hR tb hp hS (ok_sub (by rw [hA2]; exact q)), pbd1_s, pbd1_s, show (5 : Int32) - zI (pc (n + 1)) = zI (5 - pc (n + 1) : Nat) from by rw [show (5 : Int32) = zI 5 from rfl, zI_sub]; congr 1; omega, m_hundreds (by omega), pbd1_s, zL_mul, show ((mst (n + 1) (odn t p) t.P 5 : Nat) : Int) * ((100 ^ (5 - pc (n + 1)) : Nat) : Int) = (vS t p (n + 1) : Nat) from (Int.natCast_mul _ _).symm, cmp_e (rLn (by omega)) (by unfold rL; omega), decide_eq_true q2, q, hones _ (show (bk t p n).1 < 32 by omega), pbd1_s, pbd1_s]
        by_cases c1 : (bk t p n).2 < vS t p (n + 1)
        · have e : (true && true) = true ∧ ((bk t p n).2 < vS t p (n + 1) ∨ ((bk t p n).2 = vS t p (n + 1) ∧ pc (n + 1) < pc (bk t p n).1)) := ⟨rfl, Or.inl c1⟩
          rw [if_pos e, if_pos c1]
          rfl
        · rw [if_neg c1]
          by_cases c2 : (vS t p (n + 1) : Int) = (bk t p n).2
          · rw [if_pos c2]
            by_cases c3 : pc (n + 1) < pc (bk t p n).1
            · have e : (true && true) = true ∧ ((bk t p n).2 < vS t p (n + 1) ∨ ((bk t p n).2 = vS t p (n + 1) ∧ pc (n + 1) < pc (bk t p n).1)) := ⟨rfl, Or.inr ⟨c2.symm, c3⟩⟩
              rw [if_pos e, if_neg (show ¬ (0 : Int32) < 0 by decide), if_pos (show (0 : Int32) = 0 from rfl), if_pos (by rw [zI_lt (by omega) (by omega)]; omega)]
            · have e : ¬ ((true && true) = true ∧ ((bk t p n).2 < vS t p (n + 1) ∨ ((bk t p n).2 = vS t p (n + 1) ∧ pc (n + 1) < pc (bk t p n).1))) := fun z => z.2.elim c1 (fun y => c3 y.2)
              rw [if_neg e, if_neg (show ¬ (0 : Int32) < 0 by decide), if_pos (show (0 : Int32) = 0 from rfl), if_neg (by rw [zI_lt (by omega) (by omega)]; omega)]
          · have e : ¬ ((true && true) = true ∧ ((bk t p n).2 < vS t p (n + 1) ∨ ((bk t p n).2 = vS t p (n + 1) ∧ pc (n + 1) < pc (bk t p n).1))) := fun z => z.2.elim c1 (fun y => c2 y.1.symm)
            rw [if_neg c2, if_neg e]
            rfl
      · have e : ¬ ((sbj A (n + 1) t.P && decide (pc (n + 1) % 2 = 1)) = true ∧ ((bk t p n).2 < vS t p (n + 1) ∨ ((bk t p n).2 = vS t p (n + 1) ∧ pc (n + 1) < pc (bk t p n).1))) := fun z => by
          have := z.1
          rw [decide_eq_false q2, Bool.and_false] at this; cases this
        rw [if_neg e, if_pos (by rw [show pc (n + 1) % 2 = 0 from by omega]; rfl)]
    · have e : ¬ ((sbj A (n + 1) t.P && decide (pc (n + 1) % 2 = 1)) = true ∧ ((bk t p n).2 < vS t p (n + 1) ∨ ((bk t p n).2 = vS t p (n + 1) ∧ pc (n + 1) < pc (bk t p n).1))) := fun z => by
        have := z.1
        rw [show sbj A (n + 1) t.P = false from by simpa using q, Bool.false_and] at this; cases this
      rw [if_neg e, if_neg (fun z => q (hse.1 z))]
theorem rel_ask (σ : Mem) (h : RLq σ) (x : Int32) : ∃ r σ1 σ2, f_X12_ask σ x = some (r, σ1) ∧ f_X13_ask σ1 x = some (r, σ2) ∧ RLq σ2 := by
  unfold f_X12_ask f_X13_ask
  refine rel_pE (no := (-1 : Int32)) (cv := fun r => r) (fun t s p => zI (bk t p (bits (askB t p) t.P)).1) rfl (fun σ T t s hc p ex hp => ⟨?_, ?_⟩) h
  · subst ex
    obtain ⟨τ, e1, e2⟩ := c_best hc.ct hc.tb hp
    exact ⟨τ, by rw [hc.town, prfc_s, e1, pbd2_s], e2.ev⟩
  · subst ex
    exact ⟨σ, by rw [m_askOf hc.mr hc.tb hp, pbd1_s], Ev.rfl' σ⟩
theorem mst_0 (o : Nat → Nat) (P : Nat) : ∀ i, mst 0 o P i = 0
  | 0 => rfl
  | i + 1 => by
    have e : ∀ j n, el 0 o j (n + 1) = 0 := by
      intro j
      induction j with
      | zero => intro n; rfl
      | succ j ih => intro n; rw [el_s, Nat.zero_testBit, if_neg (by decide)]; exact ih n
    rw [mst, mst_0 o P i, e]
    split <;> rfl
theorem rel_truth (σ : Mem) (h : RLq σ) (x y : Int32) : ∃ r σ1 σ2, f_X12_truth σ x y = some (r, σ1) ∧ f_X13_truth σ1 x y = some (r, σ2) ∧ RLq σ2 := by
  unfold f_X12_truth f_X13_truth
  refine rel_pE (no := (-1 : Int64)) (cv := fun r => r.toInt64) (fun t s p => zL ((if y = 0 then mst (bk t p (bits (askB t p) t.P)).1 (odn t p) t.P 5 else 100 ^ pc (bk t p (bits (askB t p) t.P)).1) / Nat.gcd (mst (bk t p (bits (askB t p) t.P)).1 (odn t p) t.P 5) (100 ^ pc (bk t p (bits (askB t p) t.P)).1) : Nat)) rfl (fun σ T t s hc p ex hp => ⟨?_, ?_⟩) h
  · subst ex
    have hP := hc.tb.P
    have hA := bits_lt (askB t p) t.P
    have hb := bk_b hc.tb p _ hA
    have hS : (bk t p (bits (askB t p) t.P)).1 < 2 ^ t.P := by omega
    obtain ⟨τ, e1, e2⟩ := c_best hc.ct hc.tb hp
    obtain ⟨υ, u1, u2⟩ := c_chance (e2.ct hc.ct) hc.tb hp hS (ok_sub hb.2.2.2)
    have hv := vS_b hc.tb (p := p) hS
    unfold vS at hv
    refine ⟨υ, ?_, (e2.trans u2).ev⟩
    rw [hc.town, prfc_s, prfc_s, e1, pbd2_s, u1, pbd2_s, c_low hv, pbd1_s, low_e (pw_pos _) (pw_k (pc_5 hP hS))]
  · subst ex
    have hP := hc.tb.P
    have hA := bits_lt (askB t p) t.P
    have hb := bk_b hc.tb p _ hA
    have hS : (bk t p (bits (askB t p) t.P)).1 < 2 ^ t.P := by omega
    have hS5 := s_32 hP hS
    have hpc := pc_5 hP hS
    have hk := mst_k hc.tb (p := p) hS
    have hd : 100 ^ pc (bk t p (bits (askB t p) t.P)).1 ≤ 10000000000 := by
      have := pw_k hpc
      have h1 := pw_pos (pc (bk t p (bits (askB t p) t.P)).1)
      rw [← this]; exact Nat.le_mul_of_pos_right _ h1
    refine ⟨σ, ?_, Ev.rfl' σ⟩
    rw [m_askOf hc.mr hc.tb hp, pbd1_s, jn1_e]
    generalize (bk t p (bits (askB t p) t.P)).1 = S at *
    rw [show f_X13_ones (zI S) = some (zI (pc S)) from m_ones (by omega)]
    simp only [pbd1_s]
    rw [m_hundreds hpc]
    simp only [pbd1_s]
    have hfin : ∀ j, j = mst S (odn t p) t.P 5 → bd1 (f_X13_lowest (zL (j : Nat)) (zL (100 ^ pc S : Nat)) y) (fun r_8 => some (r_8, σ)) = some (zL ((if y = 0 then mst S (odn t p) t.P 5 else 100 ^ pc S) / Nat.gcd (mst S (odn t p) t.P 5) (100 ^ pc S) : Nat), σ) := by
      intro j hj
      subst hj
      rw [m_low (by omega) hd (Nat.pow_pos (by omega)), pbd1_s]
    by_cases q : S = 0
    · rw [if_pos (by rw [q]; rfl)]
      exact hfin 0 (by rw [q, mst_0])
    · rw [if_neg (by rw [show (0 : Int32) = zI 0 from rfl, zI_eq (by omega) (by omega)]; omega), m_truth hc.mr hc.tb hp hS (ok_sub hb.2.2.2), pbd1_s]
      exact hfin _ rfl
/-- how likely all whom one asks tell the truth -/
def pal (t : TT) (p : Nat) : Nat → Nat
  | 0 => 1
  | j + 1 => if askB t p j = true then pal t p j * odn t p j else pal t p j
theorem pal_le {t : TT} (tb : TB t) (p : Nat) : ∀ j, pal t p j ≤ 100 ^ cnt (askB t p) j
  | 0 => Nat.le_refl 1
  | j + 1 => by
    have h1 := pal_le tb p j
    rw [pal, cnt]
    split
    · rw [Nat.pow_succ]; exact Nat.mul_le_mul h1 (odn_le tb p j)
    · exact h1
theorem pal_b {t : TT} (tb : TB t) (p : Nat) {j : Nat} (hj : j ≤ 5) : pal t p j * pw (cnt (askB t p) j) ≤ 10000000000 := by
  rw [← pw_k (Nat.le_trans (cnt_le _ j) hj)]; exact Nat.mul_le_mul_right _ (pal_le tb p j)
theorem c_all {σ : Mem} {T : Nat} {t : TT} (hT : CT σ T t) (tb : TB t) {p : Nat} (hp : p < t.P) : f_X2_chanceOfAll σ T (zI p) = some (zL (pal t p t.P * pw (cnt (askB t p) t.P) : Nat)) := by
  have hP := tb.P
  unfold f_X2_chanceOfAll
  refine fx2_run (fun j => zL (pal t p j * pw (cnt (askB t p) j) : Nat)) (fun j => zI j) t.P 0 (by omega) (by show (10000000000 : Int64) = zL ((1 * pw 0 : Nat) : Int); rw [Nat.one_mul, show pw 0 = 10000000000 from rfl]; rfl) rfl (fun k => ?_) (fun j hj k => ?_)
  · rw [ct_people hT, pbd1_s, if_pos (by rw [zI_le (by omega) (by omega)]; omega)]
  · have hod := odn_le tb p j
    have h1 := pal_b tb p (show j ≤ 5 by omega)
    have h2 : pal t p j * pw (cnt (askB t p) j) * odn t p j ≤ 10000000000 * 100 := Nat.mul_le_mul h1 hod
    rw [ct_people hT, pbd1_s, if_neg (by rw [zI_le (by omega) (by omega)]; omega), c_asks hT tb hp hj, pbd1_s]
    simp only [jn1_e, pnm_e, show zI j + 1 = zI (j + 1 : Nat) from by rw [show (1 : Int32) = zI 1 from rfl, zI_add]; rfl]
    rw [pal, cnt]
    cases hx : askB t p j with
    | false => rw [if_pos (by rfl), if_neg (by decide), if_neg (by decide), show cnt (askB t p) j + 0 = cnt (askB t p) j from rfl]
    | true =>
      have hk2 := cnt_le (askB t p) j
      rw [if_neg (by decide), if_pos rfl, if_pos rfl, c_odds hT tb hp hj, oC_od hx, pbd1_s, show (100 : Int64) = zL ((100 : Nat) : Int) from rfl, dvl_ne (rLn (by omega)) (by omega), zI_L _ (by omega), zL_mul, ← Int.natCast_mul, zL_divN _ _ (by omega) (by omega), pw_s (show cnt (askB t p) j < 5 by omega)]
      have e : pal t p j * (pw (cnt (askB t p) j + 1) * 100) * odn t p j = pal t p j * odn t p j * pw (cnt (askB t p) j + 1) * 100 := by simp only [Nat.mul_comm, Nat.mul_left_comm, Nat.mul_assoc]
      rw [e, Nat.mul_div_cancel _ (by omega)]
theorem rel_allTell (σ : Mem) (h : RLq σ) (x y : Int32) : ∃ r σ1 σ2, f_X12_allTell σ x y = some (r, σ1) ∧ f_X13_allTell σ1 x y = some (r, σ2) ∧ RLq σ2 := by
  unfold f_X12_allTell f_X13_allTell
  refine rel_pE (no := (-1 : Int64)) (cv := fun r => r.toInt64) (fun t s p => zL ((if y = 0 then pal t p t.P else 100 ^ cnt (askB t p) t.P) / Nat.gcd (pal t p t.P) (100 ^ cnt (askB t p) t.P) : Nat)) rfl (fun σ T t s hc p ex hp => ⟨⟨σ, ?_, Ev.rfl' σ⟩, ⟨σ, ?_, Ev.rfl' σ⟩⟩) h
  · subst ex
    have hP := hc.tb.P
    rw [hc.town, prfc_s, c_all hc.ct hc.tb hp, pbd1_s, c_low (pal_b hc.tb p hP), pbd1_s, low_e (pw_pos _) (pw_k (Nat.le_trans (cnt_le _ _) hP))]
  · subst ex
    have hP := hc.tb.P
    have a67 : aln 67 = 175 := rfl
    have i4 : ∀ β (k : Option β), ixd 4 (aln 67) k = k := fun β k => by rw [show (4 : Int32) = zI 4 from rfl, ixd_in (by omega)]
    have p4 : σ.1 67 (4 : Int32).toNatClampNeg = zI t.P := hc.mr.P
    have hk : cnt (askB t p) t.P ≤ 5 := Nat.le_trans (cnt_le _ _) hP
    have hd : 100 ^ cnt (askB t p) t.P ≤ 10000000000 := by
      have := pw_k hk
      have h1 := pw_pos (cnt (askB t p) t.P)
      rw [← this]; exact Nat.le_mul_of_pos_right _ h1
    have hpl := pal_le hc.tb p t.P
    simp only [i4, p4]
    rw [m_asked hc.mr hc.tb hp]
    refine fx2_run (fun j => zL (pal t p j : Nat)) (fun j => zI j) t.P 0 (by omega) rfl rfl (fun k => ?_) (fun j hj k => ?_)
    · rw [if_pos (by rw [zI_le (by omega) (by omega)]; omega), pbd1_s, m_onesB _ (by omega), pbd1_s, m_hundreds hk, pbd1_s, m_low (by omega) hd (Nat.pow_pos (by omega)), pbd1_s]
    · have hod := odn_le hc.tb p j
      rw [if_neg (by rw [zI_le (by omega) (by omega)]; omega), pbd1_s, m_hasBits _ (by omega) hj, pbd1_s]
      simp only [jn1_e, pnm_e, show zI j + 1 = zI (j + 1 : Nat) from by rw [show (1 : Int32) = zI 1 from rfl, zI_add]; rfl]
      rw [pal]
      cases hx : askB t p j with
      | false => rw [if_pos (by rfl), if_neg (by decide)]
      | true => rw [if_neg (by decide), if_pos rfl, m_odds hc.mr hc.tb hp hj hx, pbd1_s, zI_L _ (by omega), zL_mul, ← Int.natCast_mul]
