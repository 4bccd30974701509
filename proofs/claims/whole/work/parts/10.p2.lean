/-- some number from i on, below N, is so -/
noncomputable def exF (f : Nat → Bool) (i N : Nat) : Bool := @decide (∃ j, i ≤ j ∧ j < N ∧ f j = true) (Classical.propDecidable _)
theorem exF_t {f : Nat → Bool} {i N : Nat} (j : Nat) (h1 : i ≤ j) (h2 : j < N) (h3 : f j = true) : exF f i N = true := by
  unfold exF; exact @decide_eq_true _ (Classical.propDecidable _) ⟨j, h1, h2, h3⟩
theorem exF_f {f : Nat → Bool} {i N : Nat} (h : ∀ j, i ≤ j → j < N → f j = false) : exF f i N = false := by
  unfold exF; exact @decide_eq_false _ (Classical.propDecidable _) (fun ⟨j, h1, h2, h3⟩ => by rw [h j h1 h2] at h3; cases h3)
theorem exF_iff {f : Nat → Bool} {i N : Nat} : exF f i N = true ↔ ∃ j, i ≤ j ∧ j < N ∧ f j = true := by
  constructor
  · intro h; unfold exF at h; exact @of_decide_eq_true _ (Classical.propDecidable _) h
  · rintro ⟨j, h1, h2, h3⟩; exact exF_t j h1 h2 h3
theorem exF_end (f : Nat → Bool) (i : Nat) : exF f i i = false := exF_f (fun j h1 h2 => by omega)
theorem exF_skip {f : Nat → Bool} {i N : Nat} (h : f i = false) : exF f (i + 1) N = exF f i N := by
  apply Bool.eq_iff_iff.2
  rw [exF_iff, exF_iff]
  constructor
  · rintro ⟨j, h1, h2, h3⟩; exact ⟨j, by omega, h2, h3⟩
  · rintro ⟨j, h1, h2, h3⟩
    refine ⟨j, ?_, h2, h3⟩
    rcases Nat.lt_or_ge i j with q | q
    · exact q
    · rw [show j = i from by omega, h] at h3; cases h3
theorem exF_congr {f h : Nat → Bool} {i N : Nat} (e : ∀ j, i ≤ j → j < N → f j = h j) : exF f i N = exF h i N := by
  apply Bool.eq_iff_iff.2
  rw [exF_iff, exF_iff]
  constructor
  · rintro ⟨j, h1, h2, h3⟩; exact ⟨j, h1, h2, by rw [← e j h1 h2]; exact h3⟩
  · rintro ⟨j, h1, h2, h3⟩; exact ⟨j, h1, h2, by rw [e j h1 h2]; exact h3⟩
/-- a loop that ends early where f is so -/
theorem fx1_ex {β : Type} {F : (Int32 → Option β) → Int32 → Option β} {x1 : Int32} (f : Nat → Bool) (N i : Nat) (a b : Option β) (hN : i ≤ N ∧ N < 100000) (e1 : x1 = zI i) (he : ∀ k, F k (zI N) = b) (hs : ∀ i : Nat, i < N → ∀ k, F k (zI i) = if f i = true then a else k (zI (i + 1 : Nat))) : fx1 FU F x1 = if exF f i N = true then a else b := by
  refine fx1_go (fun i => zI i) (fun i => if exF f i N = true then a else b) N i hN e1 (fun k => ?_) (fun i hi k => ?_)
  · rw [exF_end, if_neg (by decide)]; exact he k
  · rw [hs i hi k]
    by_cases h : f i = true
    · left; rw [if_pos h, if_pos (exF_t i (Nat.le_refl i) hi h)]
    · right; rw [if_neg h]; exact ⟨rfl, by rw [exF_skip (by simpa using h)]⟩
def alk (t : TT) (E : List (Nat × Nat × Nat × Nat)) (d p q : Nat) : Bool := decide (e4 (lk t E p d) = e4 (lk t E q d))
theorem alk_e5 {t : TT} {E : List (Nat × Nat × Nat × Nat)} {d p q : Nat} : (e5 (lk t E p d) = e5 (lk t E q d)) ↔ alk t E d p q = true := by
  unfold alk
  rw [decide_eq_true_iff]
  constructor
  · intro h
    exact e4_congr (fun m hm => e5_inj (lk_lt _ _ _ _) (lk_lt _ _ _ _) h m hm)
  · intro h
    exact e5_congr (fun m hm => e4_inj (lk_lt _ _ _ _) (lk_lt _ _ _ _) h m hm)
theorem alk_c (t : TT) (E : List (Nat × Nat × Nat × Nat)) (d p q : Nat) : alk t E d p q = alk t E d q p := by
  unfold alk
  apply Bool.eq_iff_iff.2
  rw [decide_eq_true_iff, decide_eq_true_iff]
  exact eq_comm
noncomputable def twC (t : TT) (E : List (Nat × Nat × Nat × Nat)) (d : Nat) : Bool := exF (fun p => exF (fun q => alk t E d p q) (p + 1) t.P) 0 t.P
noncomputable def twM (t : TT) (E : List (Nat × Nat × Nat × Nat)) (d : Nat) : Bool := exF (fun p => exF (fun q => alk t E d p q) 0 p) 0 t.P
theorem tw_e (t : TT) (E : List (Nat × Nat × Nat × Nat)) (d : Nat) : twC t E d = twM t E d := by
  apply Bool.eq_iff_iff.2
  unfold twC twM
  simp only [exF_iff]
  constructor
  · rintro ⟨p, -, h1, q, h2, h3, h4⟩
    exact ⟨q, Nat.zero_le _, h3, p, Nat.zero_le _, by omega, by rw [alk_c]; exact h4⟩
  · rintro ⟨p, -, h1, q, -, h3, h4⟩
    exact ⟨q, Nat.zero_le _, by omega, p, by omega, h1, by rw [alk_c]; exact h4⟩
theorem c_twins {σ : Mem} {k T : Nat} {t : TT} {E : List (Nat × Nat × Nat × Nat)} {s : SS} (h : CS σ k T t E s) (hT : CT σ T t) (tb : TB t) {d : Nat} (hd : d < 30) : f_X9_hasTwins σ k (zI d) = some (bI (twC t E d)) := by
  have hP := tb.P
  unfold f_X9_hasTwins
  rw [h.town]
  simp only [prfc_s, ct_people hT, pbd1_s]
  refine (fx1_ex (fun p => exF (fun q => alk t E d p q) (p + 1) t.P) t.P 0 (some 1) (some 0) (by omega) rfl (fun k2 => ?_) (fun i hi k2 => ?_)).trans ?_
  · rw [if_pos (by rw [zI_le (by omega) (by omega)]; omega)]
  · rw [if_neg (by rw [zI_le (by omega) (by omega)]; omega), pnm_e, show zI i + 1 = zI (i + 1 : Nat) from by rw [show (1 : Int32) = zI 1 from rfl, zI_add]; rfl]
    refine fx1_ex (fun q => alk t E d i q) t.P (i + 1) (some 1) (k2 (zI (i + 1 : Nat))) (by omega) rfl (fun k3 => ?_) (fun j hj k3 => ?_)
    · rw [if_pos (by rw [zI_le (by omega) (by omega)]; omega), pnm_e]
    · rw [if_neg (by rw [zI_le (by omega) (by omega)]; omega), c_at h hP hi hd, pbd1_s, c_at h hP hj hd, pbd1_s]
      have e1 := e5_lt (lk_lt t E i d)
      have e2 := e5_lt (lk_lt t E j d)
      simp (disch := omega) only [jn0_e, jn1_e, jn2_e, pnm_e, pbd1_s, pbd2_s, prfc_s, onm_sm, onm_nn, zI_lit, zI_nI, zI_add, zI_sub, zI_mul, zI_neg, zI_lt, zI_le, zI_eq, zI_nat, zI_div, zI_mod, ixd_in, dvd_ne]
      have e3 := alk_e5 (t := t) (E := E) (d := d) (p := i) (q := j)
      by_cases q : alk t E d i j = true
      · rw [if_pos (by have := e3.2 q; omega), if_pos q]
      · rw [if_neg (fun x => q (e3.1 (by omega))), if_neg q]; rfl
  · unfold twC
    cases exF (fun p => exF (fun q => alk t E d p q) (p + 1) t.P) 0 t.P <;> rfl
theorem fst_go {β : Type} {F : (Int32 → Option β) → Int32 → Option β} {x1 : Int32} (f : Nat → Bool) (a : Int32 → Option β) (e1 : x1 = zI 0) (he : ∀ k, F k (zI (30 : Nat)) = a (zI (-2))) (hs : ∀ i : Nat, i < 30 → ∀ k, F k (zI i) = if f i = false then a (zI i) else k (zI (i + 1 : Nat))) : fx1 FU F x1 = a (zI (fstN f 30 30)) := by
  refine fx1_go (fun i => zI i) (fun i => a (zI (fstN f 30 (30 - i)))) 30 0 (by omega) e1 he (fun i hi k => ?_)
  obtain ⟨j, hj⟩ : ∃ j, 30 - i = j + 1 := ⟨29 - i, by omega⟩
  rw [hs i hi k, hj, fstN, show 30 - (j + 1) = i from by omega, show 30 - (i + 1) = j from by omega]
  by_cases h : f i = false
  · left; rw [if_pos h, if_pos h]
  · right; rw [if_neg h, if_neg h]; exact ⟨rfl, rfl⟩
theorem rel_twins (σ : Mem) (h : RLq σ) : ∃ r σ1 σ2, f_X12_twins σ = some (r, σ1) ∧ f_X13_twins σ1 = some (r, σ2) ∧ RLq σ2 := by
  unfold f_X12_twins f_X13_twins
  refine rel_t (fun t s => zI (fstN (fun d => !twC t (t.ch ++ s.sk) d) 30 30)) (fun σ T t s hc hp => ⟨?_, ?_⟩) h
  · refine fst_go (fun d => !twC t (t.ch ++ s.sk) d) (fun x => some (x, σ)) rfl (fun k => rfl) (fun i hi k => ?_)
    rw [if_neg (by rw [show (30 : Int32) = zI 30 from rfl, zI_le (by omega) (by omega)]; omega), c_twins hc.cs hc.ct hc.tb hi, pbd1_s]
    cases twC t (t.ch ++ s.sk) i
    · rw [if_pos (by rfl), pnm_e, show zI i + 1 = zI (i + 1 : Nat) from by rw [show (1 : Int32) = zI 1 from rfl, zI_add]; rfl]; rfl
    · rw [if_neg (by decide)]; rfl
  · have hP := hc.tb.P
    have a67 : aln 67 = 175 := rfl
    refine fst_go (fun d => !twC t (t.ch ++ s.sk) d) (fun x => some (x, σ)) rfl (fun k => rfl) (fun i hi k => ?_)
    rw [if_neg (by rw [show (30 : Int32) = zI 30 from rfl, zI_le (by omega) (by omega)]; omega)]
    refine (fx1_ex (fun p => exF (fun q => alk t (t.ch ++ s.sk) i p q) 0 p) t.P 0 (some (zI i, σ)) (k (zI (i + 1 : Nat))) (by omega) rfl (fun k2 => ?_) (fun p hp k2 => ?_)).trans ?_
    · simp (disch := omega) only [jn0_e, jn1_e, jn2_e, pnm_e, pbd1_s, pbd2_s, prfc_s, onm_sm, onm_nn, zI_lit, zI_nI, zI_add, zI_sub, zI_mul, zI_neg, zI_lt, zI_le, zI_eq, zI_nat, zI_div, zI_mod, ixd_in, dvd_ne]
      rw [show (4 : Int).toNat = 4 from rfl, hc.mr.P]
      simp (disch := omega) only [jn0_e, jn1_e, jn2_e, pnm_e, pbd1_s, pbd2_s, prfc_s, onm_sm, onm_nn, zI_lit, zI_nI, zI_add, zI_sub, zI_mul, zI_neg, zI_lt, zI_le, zI_eq, zI_nat, zI_div, zI_mod, ixd_in, dvd_ne]
      rw [if_pos (by omega)]; rfl
    · simp (disch := omega) only [jn0_e, jn1_e, jn2_e, pnm_e, pbd1_s, pbd2_s, prfc_s, onm_sm, onm_nn, zI_lit, zI_nI, zI_add, zI_sub, zI_mul, zI_neg, zI_lt, zI_le, zI_eq, zI_nat, zI_div, zI_mod, ixd_in, dvd_ne]
      rw [show (4 : Int).toNat = 4 from rfl, hc.mr.P]
      simp (disch := omega) only [jn0_e, jn1_e, jn2_e, pnm_e, pbd1_s, pbd2_s, prfc_s, onm_sm, onm_nn, zI_lit, zI_nI, zI_add, zI_sub, zI_mul, zI_neg, zI_lt, zI_le, zI_eq, zI_nat, zI_div, zI_mod, ixd_in, dvd_ne]
      rw [if_neg (by omega)]
      refine fx1_ex (fun q => alk t (t.ch ++ s.sk) i p q) p 0 (some (zI i, σ)) (k2 (zI (p + 1 : Nat))) (by omega) rfl (fun k3 => ?_) (fun q hq k3 => ?_)
      · simp (disch := omega) only [jn0_e, jn1_e, jn2_e, pnm_e, pbd1_s, pbd2_s, prfc_s, onm_sm, onm_nn, zI_lit, zI_nI, zI_add, zI_sub, zI_mul, zI_neg, zI_lt, zI_le, zI_eq, zI_nat, zI_div, zI_mod, ixd_in, dvd_ne]
        rw [if_pos (by omega)]; rfl
      · rw [hc.mlook hp hi, pbd1_s, hc.mlook (p := q) (by omega) hi, pbd1_s]
        have e1 := e4_lt (lk_lt t (t.ch ++ s.sk) p i)
        have e2 := e4_lt (lk_lt t (t.ch ++ s.sk) q i)
        simp (disch := omega) only [jn0_e, jn1_e, jn2_e, pnm_e, pbd1_s, pbd2_s, prfc_s, onm_sm, onm_nn, zI_lit, zI_nI, zI_add, zI_sub, zI_mul, zI_neg, zI_lt, zI_le, zI_eq, zI_nat, zI_div, zI_mod, ixd_in, dvd_ne]
        rw [if_neg (by omega)]
        by_cases q1 : e4 (lk t (t.ch ++ s.sk) p i) = e4 (lk t (t.ch ++ s.sk) q i)
        · rw [if_pos (by omega), if_pos (show alk t (t.ch ++ s.sk) i p q = true from decide_eq_true q1)]
        · rw [if_neg (by omega), if_neg (show ¬ alk t (t.ch ++ s.sk) i p q = true from fun x => q1 (of_decide_eq_true x))]; rfl
    · have := tw_e t (t.ch ++ s.sk) i
      rw [show exF (fun p => exF (fun q => alk t (t.ch ++ s.sk) i p q) 0 p) 0 t.P = twC t (t.ch ++ s.sk) i from this.symm]
      cases twC t (t.ch ++ s.sk) i <;> rfl
theorem CT.of {σ τ : Mem} {T : Nat} {t : TT} (h : CT σ T t) (e : ∀ a, T ≤ a → a ≤ T + 11 → τ.1 a = σ.1 a) : CT τ T t := by
  refine ⟨?_, ?_, ?_, ?_, ?_, ?_, ?_, ?_, ?_, ?_, ?_, ?_, ?_, ?_, ?_, ?_, ?_, ?_⟩
  · exact h.at_
  all_goals first
    | (rw [e _ (by omega) (by omega)]; first | exact h.ms | exact h.wi | exact h.la | exact h.sh | exact h.P | exact h.C | exact h.V | exact h.W | exact h.A | exact h.S)
    | (intro p hp; rw [e _ (by omega) (by omega)]; first | exact h.kind p hp | exact h.told p hp | exact h.vis p hp | exact h.wp p hp | exact h.wd p hp | exact h.st p hp)
    | (intro p r hp hr; rw [e _ (by omega) (by omega)]; exact h.odds p r hp hr)
theorem CS.of {σ τ : Mem} {k T : Nat} {t : TT} {E : List (Nat × Nat × Nat × Nat)} {s : SS} (h : CS σ k T t E s) (e : ∀ a, k ≤ a → a ≤ k + 3 → τ.1 a = σ.1 a) (e2 : τ.2.2 k = σ.2.2 k) : CS τ k T t E s :=
  ⟨h.at_, by rw [e2]; exact h.town, by rw [e k (by omega) (by omega)]; exact h.day, by rw [e k (by omega) (by omega)]; exact h.n, fun d hd => by rw [e (k + 1) (by omega) (by omega)]; exact h.vis d hd, fun p d hp hd => by rw [e (k + 3) (by omega) (by omega)]; exact h.look p d hp hd⟩
theorem HS.of {σ τ : Mem} {n : Nat} {t : TT} {H : Nat → SS} (h : HS σ t n H) (e1 : τ.1 49 1 = σ.1 49 1) (e2 : τ.1 64 20 = σ.1 64 20) (e3 : τ.1 50 = σ.1 50) (e4 : τ.1 70 = σ.1 70) : HS τ t n H :=
  ⟨h.n16, by rw [e1]; exact h.cnt, by rw [e2]; exact h.cnm, fun i hi => by rw [e3]; exact h.back i hi, fun i hi => by rw [e4]; exact h.row i hi, h.ok⟩
theorem IS.of {σ τ : Mem} {T n : Nat} {t : TT} {I : Nat → SS} (h : IS σ T t n I) (e1 : τ.1 0 12 = σ.1 0 12) (e2 : τ.1 64 21 = σ.1 64 21) (e3 : ∀ a, 37 ≤ a → a ≤ 48 → τ.1 a = σ.1 a) (e4 : τ.1 71 = σ.1 71) (e5 : ∀ a, 36 ≤ a → a ≤ 48 → τ.2.2 a = σ.2.2 a) : IS τ T t n I := by
  have hn := h.n3
  exact ⟨h.n3, by rw [e1]; exact h.cnt, by rw [e2]; exact h.cnm, fun i hi => by rw [e5 36 (by omega) (by omega)]; exact h.ref i hi, fun i hi => (h.cls i hi).of (fun a h1 h2 => e3 a (by unfold imp at h1; omega) (by unfold imp at h2; omega)) (e5 _ (by unfold imp; omega) (by unfold imp; omega)), fun i hi => by rw [e4]; exact h.row i hi, h.ok⟩
theorem TS.of {σ τ : Mem} {n : Nat} {b : Nat → Nat} (h : TS σ n b) (e1 : τ.1 1 1 = σ.1 1 1) (e2 : τ.1 64 2 = σ.1 64 2) (e3 : τ.1 2 = σ.1 2) (e4 : τ.1 65 = σ.1 65) : TS τ n b :=
  ⟨h.n800, h.byte, by rw [e1]; exact h.cnt, by rw [e2]; exact h.cnm, fun i hi => by rw [e3]; exact h.cls i hi, fun i hi => by rw [e4]; exact h.mod i hi⟩
theorem RL_mk {τ : Mem} {T : Nat} {t : TT} {s : SS} (h : RC τ T t s) (v : Int32) (h1 : τ.1 0 13 = v) (h2 : τ.1 64 11 = v) (h4 : v ≠ zI 4) : RLq τ := ⟨T, t, s, h, by rw [h1, h2], fun q => absurd (h1.symm.trans q) h4⟩
theorem sI_o (σ : Mem) (a j : Nat) (v : Int32) {b : Nat} (h : b ≠ a) : (sI σ a j v).1 b = σ.1 b := by show (if b = a then _ else _) = _; rw [if_neg h]
theorem sI_at (σ : Mem) (a j : Nat) (v : Int32) : (sI σ a j v).1 a = upd (σ.1 a) j v := by show (if a = a then _ else _) = _; rw [if_pos rfl]
theorem sA_o (σ : Mem) (a : Nat) (f : Nat → Int32) {b : Nat} (h : b ≠ a) : (sA σ a f).1 b = σ.1 b := if_neg h
theorem sA_at (σ : Mem) (a : Nat) (f : Nat → Int32) : (sA σ a f).1 a = f := if_pos rfl
theorem sR_o (σ : Mem) (a j : Nat) (v : Option Nat) {b : Nat} (h : b ≠ a) : (sR σ a j v).2.2 b = σ.2.2 b := by show (if b = a then _ else _) = _; rw [if_neg h]
theorem sI_sA (σ : Mem) (b j : Nat) (f : Nat → Int32) (v : Int32) : sI (sA σ b f) b j v = sA σ b (upd f j v) := by
  unfold sI sA
  refine Prod.ext (funext fun c => ?_) rfl
  by_cases h : c = b
  · subst h; simp
  · simp [h]
theorem sA_self (σ : Mem) (b : Nat) : sA σ b (σ.1 b) = σ := by
  unfold sA
  refine Prod.ext (funext fun c => ?_) rfl
  by_cases h : c = b
  · subst h; simp
  · simp [h]
theorem zI_min (n : Nat) (h : n ≤ 2000000) : (if (nI n) < (nI n) then (nI n) else (nI n)) = zI n := by rw [ite_self, zI_nI]
theorem c_row {σ : Mem} {a b n : Nat} (ha : aln a = n) (hb : aln b = n) (hn : n ≤ 2000000) : f_X12_copyRow σ a b = some (sA σ b (va_cpy (σ.1 a) (σ.1 b) 0 0 n)) := by
  unfold f_X12_copyRow
  rw [ha, hb, zI_min n hn, pnm_e, pnm_e, cpd, if_pos, show (zI (n : Int)).toNatClampNeg = n from by rw [zI_nat (by omega)]; omega]
  · rfl
  · refine ⟨by decide, by decide, by rw [show (0 : Int32) = zI 0 from rfl, zI_lt (by omega) (by omega)]; omega, ?_, ?_⟩ <;> rw [zI_nat (by omega), show (0 : Int32).toNatClampNeg = 0 from rfl] <;> omega
theorem va_in {f g : Nat → Int32} {x y n j : Nat} (h : j < n) : va_cpy f g x y n (y + j) = f (x + j) := by
  unfold va_cpy
  rw [if_pos (by omega)]; congr 1; omega
theorem va_out {f g : Nat → Int32} {x y n j : Nat} (h : ¬ (y ≤ j ∧ j < y + n)) : va_cpy f g x y n j = g j := by
  unfold va_cpy
  rw [if_neg h]
theorem va_0 {f g : Nat → Int32} {n j : Nat} (h : j < n) : va_cpy f g 0 0 n j = f j := by
  have := va_in (f := f) (g := g) (x := 0) (y := 0) h
  rwa [Nat.zero_add] at this
def stp (k : Nat) : Prop := k = 28 ∨ k = 32 ∨ k = 37 ∨ k = 41 ∨ k = 45
/-- a copy of a state of the class -/
theorem c_copy {σ : Mem} {k j T : Nat} {t : TT} {E : List (Nat × Nat × Nat × Nat)} {s : SS} (h : CS σ k T t E s) (hj : stp j) (hne : j ≠ k) (hP : t.P ≤ 5) : ∃ τ, f_X9_copy σ j k = some τ ∧ CS τ j T t E s ∧ (∀ a, a ≠ j → a ≠ j + 1 → a ≠ j + 3 → τ.1 a = σ.1 a) ∧ (∀ a, a ≠ j → τ.2.2 a = σ.2.2 a) ∧ τ.2.1 = σ.2.1 := by
  have hk := h.at_
  have hj' := hj
  unfold stp at hj'
  obtain ⟨a1, a3⟩ := cs_aln hk
  obtain ⟨b1, b3⟩ := cs_aln hj'
  unfold f_X9_copy f_X5_copy
  rw [h.town, prfc_s]
  simp only [pnm_e, c_row a1 b1 (by omega), pbd1_s, show k + 2 + 1 = k + 3 from rfl, show j + 2 + 1 = j + 3 from rfl, c_row a3 b3 (by omega)]
  refine ⟨_, rfl, ⟨hj', ?_, ?_, ?_, ?_, ?_⟩, ?_, ?_, rfl⟩
  · show (sR σ j 0 (some T)).2.2 j 0 = some T
    rw [sR_2, if_pos ⟨rfl, rfl⟩]
  · rw [sA_o _ _ _ (by omega), sA_o _ _ _ (by omega), sI_1, if_neg (by omega), sI_1, if_pos ⟨rfl, rfl⟩]
    exact h.day
  · rw [sA_o _ _ _ (by omega), sA_o _ _ _ (by omega), sI_1, if_pos ⟨rfl, rfl⟩, sI_1, if_neg (by omega)]
    exact h.n
  · intro d hd
    rw [sA_o _ _ _ (by omega), sA_at, va_0 hd, sI_o _ _ _ _ (by omega), sI_o _ _ _ _ (by omega)]
    exact h.vis d hd
  · intro p d hp hd
    rw [sA_at, va_0 (by omega), sA_o _ _ _ (by omega), sI_o _ _ _ _ (by omega), sI_o _ _ _ _ (by omega)]
    exact h.look p d hp hd
  · intro a h0 h1 h3
    rw [sA_o _ _ _ h3, sA_o _ _ _ h1, sI_o _ _ _ _ h0, sI_o _ _ _ _ h0]; rfl
  · intro a h0
    show (sR σ j 0 (some T)).2.2 a = _
    rw [sR_o _ _ _ _ h0]
theorem m_copy {σ : Mem} {a b x y n : Nat} (hab : a ≠ b) (h1 : x + n ≤ aln a) (h2 : y + n ≤ aln b) (ha : aln a ≤ 5000) (hb : aln b ≤ 5000) : f_X13_copy σ a (zI x) b (zI y) (zI n) = some (sA σ b (va_cpy (σ.1 a) (σ.1 b) x y n)) := by
  unfold f_X13_copy
  refine fx2_run (fun i => zI i) (fun i => sA σ b (va_cpy (σ.1 a) (σ.1 b) x y i)) n 0 (by omega) rfl ?_ (fun k => ?_) (fun i hi k => ?_)
  · rw [show va_cpy (σ.1 a) (σ.1 b) x y 0 = σ.1 b from funext fun j => va_out (by omega), sA_self]
  · simp (disch := omega) only [jn0_e, jn1_e, jn2_e, pnm_e, pbd1_s, pbd2_s, prfc_s, onm_sm, onm_nn, zI_lit, zI_nI, zI_add, zI_sub, zI_mul, zI_neg, zI_lt, zI_le, zI_eq, zI_nat, zI_div, zI_mod, ixd_in, dvd_ne]
    rw [if_pos (by omega)]
  · simp (disch := omega) only [jn0_e, jn1_e, jn2_e, pnm_e, pbd1_s, pbd2_s, prfc_s, onm_sm, onm_nn, zI_lit, zI_nI, zI_add, zI_sub, zI_mul, zI_neg, zI_lt, zI_le, zI_eq, zI_nat, zI_div, zI_mod, ixd_in, dvd_ne]
    rw [if_neg (by omega), sI_sA, sA_o _ _ _ hab]
    refine congr (congrArg k (by congr 1)) (congrArg _ (funext fun j => ?_))
    rw [show ((x : Int) + i).toNat = x + i from by omega, show ((y : Int) + i).toNat = y + i from by omega]
    unfold upd
    by_cases q : j = y + i
    · rw [if_pos q, q, va_in (by omega)]
    · rw [if_neg q]
      by_cases q2 : y ≤ j ∧ j < y + i
      · rw [show j = y + (j - y) from by omega, va_in (by omega), va_in (by omega)]
      · rw [va_out q2, va_out (by omega)]
theorem MV.cpy {f g : Nat → Int32} {x y : Nat} {s : SS} (h : MV f x s) (hn : s.sk.length ≤ 12) : MV (va_cpy f g x y 80) y s :=
  ⟨fun d hd => by rw [va_in (by omega)]; exact h.vis d hd, fun k c hc => by
    have hk : k < s.sk.length := by
      rcases Nat.lt_or_ge k s.sk.length with q | q
      · exact q
      · rw [List.getElem?_eq_none q] at hc; cases hc
    rw [va_in (by omega), va_in (by omega), va_in (by omega), va_in (by omega)]; exact h.sk k c hc, by rw [va_in (by omega)]; exact h.n, by rw [va_in (by omega)]; exact h.day⟩
theorem MV.far {f g : Nat → Int32} {x y z : Nat} {s : SS} (h : MV g z s) (hn : s.sk.length ≤ 12) (hz : z + 80 ≤ y ∨ y + 80 ≤ z) : MV (va_cpy f g x y 80) z s :=
  ⟨fun d hd => by rw [va_out (by omega)]; exact h.vis d hd, fun k c hc => by
    have hk : k < s.sk.length := by
      rcases Nat.lt_or_ge k s.sk.length with q | q
      · exact q
      · rw [List.getElem?_eq_none q] at hc; cases hc
    rw [va_out (by omega), va_out (by omega), va_out (by omega), va_out (by omega)]; exact h.sk k c hc, by rw [va_out (by omega)]; exact h.n, by rw [va_out (by omega)]; exact h.day⟩
theorem c_pic {σ : Mem} {n : Nat} (h1 : σ.1 0 12 = zI n) (h3 : n ≤ 3) (hr : ∀ i, i < 3 → σ.2.2 36 i = some (imp i)) {x : Int} (hx : -2147483648 ≤ x ∧ x < 2147483648) : f_X12_pictureOf σ (zI x) = some (if 0 ≤ x ∧ x < n then some (imp x.toNat) else none) := by
  have a36 : aln 36 = 3 := rfl
  unfold f_X12_pictureOf
  rw [h1, f_inside _ _ hx (by omega), pbd1_s]
  by_cases q : 0 ≤ x ∧ x < (n : Int)
  · rw [decide_eq_true q, if_pos q, jn0_e, if_neg (by decide), a36, zI_nI, f_inside _ _ hx (by omega), decide_eq_true (by omega), pbd1_s, if_neg (by decide), ixd_in (by omega), zI_nat hx, hr _ (by omega), prfc_s]
  · rw [decide_eq_false q, if_neg q, jn0_e, if_pos (by decide)]
theorem stp_imp {i : Nat} (h : i < 3) : stp (imp i) := by unfold stp imp; omega
theorem rel_back (σ : Mem) (h : RLq σ) (x : Int32) : ∃ r σ1 σ2, f_X12_back σ x = some (r, σ1) ∧ f_X13_back σ1 x = some (r, σ2) ∧ RLq σ2 := by
  obtain ⟨T, t, s, hc, ht, hp⟩ := h
  obtain ⟨n, I, hI, hI0⟩ := hc.imgs
  obtain ⟨n', H, hH, hH0⟩ := hc.hist
  obtain ⟨tn, tb, hT⟩ := hc.tape
  have hn := hI.n3
  have hx := zI_rng x
  have hP := hc.tb.P
  have hTa := hc.ct.at_
  rw [zI_all x]
  generalize x.toInt = x at hx
  unfold f_X12_back f_X13_back
  rw [c_pic hI.cnt hn hI.ref hx, pbd1_s]
  by_cases q : 0 ≤ x ∧ x < (n : Int)
  · obtain ⟨i, rfl⟩ : ∃ i : Nat, x = i := ⟨x.toNat, by omega⟩
    obtain ⟨τ, e1, e2, e3, e4, e5⟩ := c_copy (hI.cls i (by omega)) (j := 28) (Or.inl rfl) (by unfold imp; omega) hP
    rw [if_pos q, onm_sm, show ((i : Int)).toNat = i from by omega, e1, pbd1_s, show f_X1_forget τ = some (sI τ 49 1 0) from rfl, pbd1_s, refu_0, pbd2_s, if_pos rfl]
    refine ⟨1, _, sI (sA (gd (sI (sI τ 49 1 0) 0 13 0)) 69 (va_cpy (τ.1 71) (τ.1 69) (80 * i) 0 80)) 64 20 0, rfl, ?_, ?_⟩
    · rw [m_good, pbd1_s]
      have c1 : (gd (sI (sI τ 49 1 0) 0 13 0)).1 64 21 = zI n := by
        unfold gd
        rw [sI_1, if_neg (by omega), sI_1, if_neg (by omega), sI_o _ _ _ _ (by omega), sI_o _ _ _ _ (by omega), e3 64 (by omega) (by omega) (by omega)]; exact hI.cnm
      have c2 : ∀ a, a = 71 ∨ a = 69 → (gd (sI (sI τ 49 1 0) 0 13 0)).1 a = τ.1 a := by
        intro a ha
        unfold gd
        rw [sI_o _ _ _ _ (by omega), sI_o _ _ _ _ (by omega), sI_o _ _ _ _ (by omega), sI_o _ _ _ _ (by omega)]
      generalize gd (sI (sI τ 49 1 0) 0 13 0) = υ at c1 c2
      rw [c1]
      simp (disch := omega) only [jn0_e, jn1_e, jn2_e, pnm_e, pbd1_s, pbd2_s, prfc_s, onm_sm, onm_nn, zI_lit, zI_nI, zI_add, zI_sub, zI_mul, zI_neg, zI_lt, zI_le, zI_eq, zI_nat, zI_div, zI_mod, ixd_in, dvd_ne]
      rw [f_in _ _ _ (by omega) (by omega) (by omega), pbd1_s, decide_eq_true (by omega), if_neg (by decide), show (80 * (i : Int)) = ((80 * i : Nat) : Int) from by omega]
      have := m_copy (σ := υ) (a := 71) (b := 69) (x := 80 * i) (y := 0) (n := 80) (by omega) (by show 80 * i + 80 ≤ 240; omega) (by decide) (by decide) (by decide)
      rw [c2 71 (Or.inl rfl), c2 69 (Or.inr rfl)] at this
      rw [show zI 0 = zI ((0 : Nat) : Int) from rfl, show zI 80 = zI ((80 : Nat) : Int) from rfl, this, pbd1_s]
    · have f1 : ∀ a, a ≠ 0 → a ≠ 28 → a ≠ 29 → a ≠ 31 → a ≠ 49 → a ≠ 64 → a ≠ 69 → (sI (sA (gd (sI (sI τ 49 1 0) 0 13 0)) 69 (va_cpy (τ.1 71) (τ.1 69) (80 * i) 0 80)) 64 20 0).1 a = σ.1 a := by
        intro a h1 h2 h3 h4 h5 h6 h7
        unfold gd
        rw [sI_o _ _ _ _ h6, sA_o _ _ _ h7, sI_o _ _ _ _ h6, sI_o _ _ _ _ h6, sI_o _ _ _ _ h1, sI_o _ _ _ _ h5, e3 a h2 h3 h4]
      have f2 : ∀ a, a ≠ 28 → (sI (sA (gd (sI (sI τ 49 1 0) 0 13 0)) 69 (va_cpy (τ.1 71) (τ.1 69) (80 * i) 0 80)) 64 20 0).2.2 a = σ.2.2 a := fun a h0 => e4 a h0
      have f3 : ∀ j, j ≠ 0 → j ≠ 11 → j ≠ 20 → (sI (sA (gd (sI (sI τ 49 1 0) 0 13 0)) 69 (va_cpy (τ.1 71) (τ.1 69) (80 * i) 0 80)) 64 20 0).1 64 j = σ.1 64 j := by
        intro j h1 h2 h3
        unfold gd
        rw [sI_1, if_neg (by omega), sA_o _ _ _ (by omega), sI_1, if_neg (by omega), sI_1, if_neg (by omega), sI_o _ _ _ _ (by omega), sI_o _ _ _ _ (by omega), e3 64 (by omega) (by omega) (by omega)]
      have f4 : ∀ j, j ≠ 13 → (sI (sA (gd (sI (sI τ 49 1 0) 0 13 0)) 69 (va_cpy (τ.1 71) (τ.1 69) (80 * i) 0 80)) 64 20 0).1 0 j = σ.1 0 j := by
        intro j h1
        unfold gd
        rw [sI_o _ _ _ _ (by omega), sA_o _ _ _ (by omega), sI_o _ _ _ _ (by omega), sI_o _ _ _ _ (by omega), sI_1, if_neg (by omega), sI_o _ _ _ _ (by omega), e3 0 (by omega) (by omega) (by omega)]
      refine RL_mk (T := T) (t := t) (s := I i) ⟨hc.tb, hI.ok i (by omega), ?_, ?_, hc.ct.of (fun a h1 h2 => f1 a (by omega) (by omega) (by omega) (by omega) (by omega) (by omega) (by omega)), e2.of (fun a h1 h2 => ?_) rfl, ?_, ?_, ?_, ?_, ⟨0, fun _ => I i, ⟨by omega, ?_, ?_, fun j hj => absurd hj (by omega), fun j hj => absurd hj (by omega), fun j _ => hI.ok i (by omega)⟩, rfl, fun _ => rfl⟩, ⟨n, I, hI.of (f4 12 (by omega)) (f3 21 (by omega) (by omega) (by omega)) (fun a h1 h2 => f1 a (by omega) (by omega) (by omega) (by omega) (by omega) (by omega) (by omega)) (f1 71 (by omega) (by omega) (by omega) (by omega) (by omega) (by omega) (by omega)) (fun a h1 h2 => f2 a (by omega)), hI0⟩, ⟨tn, tb, hT.of ?_ (f3 2 (by omega) (by omega) (by omega)) ?_ ?_⟩, ?_, ?_, fun q0 => absurd (hI0 q0) (by omega)⟩ 0 ?_ ?_ (by decide)
      · rw [f2 0 (by omega)]; exact hc.town
      · rw [f2 0 (by omega)]; exact hc.spare
      · unfold gd
        rw [sI_o _ _ _ _ (by omega), sA_o _ _ _ (by omega), sI_o _ _ _ _ (by omega), sI_o _ _ _ _ (by omega), sI_o _ _ _ _ (by omega), sI_o _ _ _ _ (by omega)]
      · rw [f1 67 (by omega) (by omega) (by omega) (by omega) (by omega) (by omega) (by omega)]; exact hc.mr
      · rw [sI_o _ _ _ _ (by omega), sA_at, e3 71 (by omega) (by omega) (by omega)]
        exact (hI.row i (by omega)).cpy (hI.ok i (by omega)).n
      · rw [f3 14 (by omega) (by omega) (by omega)]; exact hc.has
      · rw [f3 24 (by omega) (by omega) (by omega)]; exact hc.nod
      · unfold gd
        rw [sI_o _ _ _ _ (by omega), sA_o _ _ _ (by omega), sI_o _ _ _ _ (by omega), sI_o _ _ _ _ (by omega), sI_o _ _ _ _ (by omega), sI_1, if_pos ⟨rfl, rfl⟩]; rfl
      · rw [sI_1, if_pos ⟨rfl, rfl⟩]; rfl
      · rw [f1 1 (by omega) (by omega) (by omega) (by omega) (by omega) (by omega) (by omega)]
      · rw [f1 2 (by omega) (by omega) (by omega) (by omega) (by omega) (by omega) (by omega)]
      · rw [f1 65 (by omega) (by omega) (by omega) (by omega) (by omega) (by omega) (by omega)]
      · rw [f4 14 (by omega), f3 9 (by omega) (by omega) (by omega)]; exact hc.flt
      · rw [f2 27 (by omega)]; exact hc.rd
      · unfold gd
        rw [sI_o _ _ _ _ (by omega), sA_o _ _ _ (by omega), sI_o _ _ _ _ (by omega), sI_o _ _ _ _ (by omega), sI_1, if_pos ⟨rfl, rfl⟩]
      · unfold gd
        rw [sI_1, if_neg (by omega), sA_o _ _ _ (by omega), sI_1, if_pos ⟨rfl, rfl⟩]
  · rw [if_neg q, onm_nn, refu_1, pbd2_s, if_neg (by decide)]
    have hc2 := RC_m hc 1
    refine ⟨0, _, _, rfl, ?_, RL_no hc 1 (by decide)⟩
    have c1 : (gd (sI σ 0 13 1)).1 64 21 = zI n := by
      unfold gd
      rw [sI_1, if_neg (by omega), sI_1, if_neg (by omega), sI_o _ _ _ _ (by omega)]; exact hI.cnm
    rw [m_good, pbd1_s, c1]
    simp (disch := omega) only [jn0_e, jn1_e, jn2_e, pnm_e, pbd1_s, pbd2_s, prfc_s, onm_sm, onm_nn, zI_lit, zI_nI, zI_add, zI_sub, zI_mul, zI_neg, zI_lt, zI_le, zI_eq, zI_nat, zI_div, zI_mod, ixd_in, dvd_ne]
    rw [f_in _ _ _ hx (by omega) (by omega), pbd1_s, decide_eq_false (by omega), if_pos (by decide)]
    rfl
/-- how many acts are kept behind one more, and how many went out -/
def nn (n : Nat) : Nat := if n = 16 then 16 else n + 1
def off (n : Nat) : Nat := if n = 16 then 1 else 0
theorem nn_off {n : Nat} (h : n ≤ 16) : 1 ≤ nn n ∧ nn n ≤ 16 ∧ nn n - 1 + off n = n := by unfold nn off; split <;> omega
theorem f_setN {σ : Mem} {a i : Nat} {v : Int32} (h : i < aln a) (hn : aln a ≤ 2000000) : f_X12_set σ a (zI i) v = some (sI σ a i v) := by
  rw [f_set σ a i v (by omega) hn, if_pos (by omega), show (i : Int).toNat = i from by omega]
theorem c_note {σ : Mem} {n : Nat} (h : σ.1 49 1 = zI n) (hn : n ≤ 16) (a b c d : Int32) : ∃ τ, f_X1_note σ a b c d = some τ ∧ (∀ x, x ≠ 49 → x ≠ 50 → τ.1 x = σ.1 x) ∧ τ.2 = σ.2 ∧ τ.1 49 1 = zI (nn n) ∧ (∀ i, i < nn n - 1 → actOf (τ.1 50) i = actOf (σ.1 50) (i + off n)) ∧ actOf (τ.1 50) (nn n - 1) = (a, b, c, d) := by
  have a50 : aln (49 + 1) = 64 := rfl
  have key : ∀ τ : Mem, ∀ m : Nat, m < 16 → τ.1 49 1 = zI m → ∃ υ, nm ((τ.1 49 1) * 4) (fun (x_3 : Int32) => bd1 (f_X12_set τ (49 + 1) x_3 a) (fun (σ_4 : Mem) => bd1 (f_X12_set σ_4 (49 + 1) (x_3 + 1) b) (fun (σ_5 : Mem) => bd1 (f_X12_set σ_5 (49 + 1) (x_3 + 2) c) (fun (σ_6 : Mem) => bd1 (f_X12_set σ_6 (49 + 1) (x_3 + 3) d) (fun (σ_7 : Mem) => nm (sI σ_7 49 1 ((σ_7.1 49 1) + 1)) (fun (σ_8 : Mem) => some σ_8)))))) = some υ ∧ (∀ x, x ≠ 49 → x ≠ 50 → υ.1 x = τ.1 x) ∧ υ.2 = τ.2 ∧ υ.1 49 1 = zI (m + 1 : Nat) ∧ (∀ i, i < m → actOf (υ.1 50) i = actOf (τ.1 50) i) ∧ actOf (υ.1 50) m = (a, b, c, d) := by
    intro τ m hm h49
    refine ⟨sI (sI (sI (sI (sI τ 50 (4 * m) a) 50 (4 * m + 1) b) 50 (4 * m + 2) c) 50 (4 * m + 3) d) 49 1 (zI (m + 1 : Nat)), ?_, ?_, rfl, ?_, ?_, ?_⟩
    · rw [pnm_e, h49, show zI m * 4 = zI (4 * m : Nat) from by rw [show (4 : Int32) = zI 4 from rfl, zI_mul]; congr 1; omega, f_setN (by omega) (by omega), pbd1_s, show zI (4 * m : Nat) + 1 = zI (4 * m + 1 : Nat) from by rw [show (1 : Int32) = zI 1 from rfl, zI_add]; congr 1, f_setN (by omega) (by omega), pbd1_s, show zI (4 * m : Nat) + 2 = zI (4 * m + 2 : Nat) from by rw [show (2 : Int32) = zI 2 from rfl, zI_add]; congr 1, f_setN (by omega) (by omega), pbd1_s, show zI (4 * m : Nat) + 3 = zI (4 * m + 3 : Nat) from by rw [show (3 : Int32) = zI 3 from rfl, zI_add]; congr 1, f_setN (by omega) (by omega), pbd1_s, pnm_e, show ∀ υ : Mem, υ = sI (sI (sI (sI τ 50 (4 * m) a) 50 (4 * m + 1) b) 50 (4 * m + 2) c) 50 (4 * m + 3) d → υ.1 49 1 = zI m from fun υ e => by rw [e, sI_o _ _ _ _ (by omega), sI_o _ _ _ _ (by omega), sI_o _ _ _ _ (by omega), sI_o _ _ _ _ (by omega), h49]]
      · rw [show (1 : Int32) = zI 1 from rfl, zI_add]; rfl
      · rfl
    · intro x h1 h2
      rw [sI_o _ _ _ _ h1, sI_o _ _ _ _ h2, sI_o _ _ _ _ h2, sI_o _ _ _ _ h2, sI_o _ _ _ _ h2]
    · rw [sI_1, if_pos ⟨rfl, rfl⟩]
    · intro i hi
      unfold actOf
      simp only [sI_1]
      simp (disch := omega) only [if_neg]
    · unfold actOf
      simp only [sI_1]
      refine Prod.ext ?_ (Prod.ext ?_ (Prod.ext ?_ ?_)) <;> dsimp only <;> simp only [true_and] <;> (simp (disch := omega) only [if_neg, if_pos, if_true])
  unfold f_X1_note
  rw [jn1_e, h]
  by_cases q : n = 16
  · subst q
    obtain ⟨υ, e1, e2, e3, e4, e5, e6⟩ := key (sI (sA σ 50 (va_cpy (σ.1 50) (σ.1 50) 4 0 60)) 49 1 15) 15 (by omega) (by rw [sI_1, if_pos ⟨rfl, rfl⟩]; rfl)
    refine ⟨υ, ?_, fun x h1 h2 => by rw [e2 x h1 h2, sI_o _ _ _ _ h1, sA_o _ _ _ h2], e3, e4, ?_, e6⟩
    · rw [if_neg (by decide)]
      exact e1
    · intro i hi
      replace hi : i < 15 := hi
      rw [e5 i hi, sI_o _ _ _ _ (by omega), sA_at]
      unfold actOf
      rw [show off 16 = 1 from rfl, va_cpy, va_cpy, va_cpy, va_cpy, if_pos (by omega), if_pos (by omega), if_pos (by omega), if_pos (by omega)]
      rw [show 4 + (4 * i - 0) = 4 * (i + 1) from by omega, show 4 + (4 * i + 1 - 0) = 4 * (i + 1) + 1 from by omega, show 4 + (4 * i + 2 - 0) = 4 * (i + 1) + 2 from by omega, show 4 + (4 * i + 3 - 0) = 4 * (i + 1) + 3 from by omega]
  · obtain ⟨υ, e1, e2, e3, e4, e5, e6⟩ := key σ n (by omega) h
    refine ⟨υ, ?_, e2, e3, ?_, ?_, ?_⟩
    · rw [if_pos (by rw [show (16 : Int32) = zI 16 from rfl, zI_lt (by omega) (by omega)]; omega)]
      rw [h] at e1
      simpa only [h] using e1
    · rw [e4, nn, if_neg q]
    · intro i hi
      rw [nn, if_neg q] at hi
      rw [off, if_neg q]
      exact e5 i (by omega)
    · rw [nn, if_neg q]; exact e6
/-- the model's part of the states before the latest acts -/
abbrev HM (σ : Mem) (t : TT) (n : Nat) (H : Nat → SS) : Prop :=
  (n ≤ 16) ∧ (σ.1 64 20 = zI n) ∧ (∀ i, i < n → MV (σ.1 70) (80 * i) (H i)) ∧ (∀ i, i ≤ n → SB t (H i))
theorem HM.n16 {σ : Mem}{t : TT}{n : Nat}{H : Nat → SS} (h : HM σ t n H) : n ≤ 16 := h.1
theorem HM.cnm {σ : Mem}{t : TT}{n : Nat}{H : Nat → SS} (h : HM σ t n H) : σ.1 64 20 = zI n := h.2.1
theorem HM.row {σ : Mem}{t : TT}{n : Nat}{H : Nat → SS} (h : HM σ t n H) : ∀ i, i < n → MV (σ.1 70) (80 * i) (H i) := h.2.2.1
theorem HM.ok {σ : Mem}{t : TT}{n : Nat}{H : Nat → SS} (h : HM σ t n H) : ∀ i, i ≤ n → SB t (H i) := h.2.2.2
theorem HS.hm {σ : Mem} {t : TT} {n : Nat} {H : Nat → SS} (h : HS σ t n H) : HM σ t n H := ⟨h.n16, h.cnm, h.row, h.ok⟩
theorem HM.of {σ τ : Mem} {t : TT} {n : Nat} {H : Nat → SS} (h : HM σ t n H) (e1 : τ.1 64 20 = σ.1 64 20) (e2 : τ.1 70 = σ.1 70) : HM τ t n H := ⟨h.n16, by rw [e1]; exact h.cnm, fun i hi => by rw [e2]; exact h.row i hi, h.ok⟩
theorem m_note {σ : Mem} {t : TT} {n : Nat} {H : Nat → SS} (hH : HM σ t n H) (hV : MV (σ.1 69) 0 (H n)) : ∃ τ, f_X13_note σ = some τ ∧ (∀ x, x ≠ 64 → x ≠ 70 → τ.1 x = σ.1 x) ∧ (∀ j, j ≠ 20 → τ.1 64 j = σ.1 64 j) ∧ τ.2 = σ.2 ∧ τ.1 64 20 = zI (nn n) ∧ (∀ i, i < nn n → MV (τ.1 70) (80 * i) (H (i + off n))) := by
  have a69 : aln 69 = 80 := rfl
  have a70 : aln 70 = 1280 := rfl
  have hn := hH.n16
  have key : ∀ τ : Mem, ∀ m : Nat, m < 16 → τ.1 64 20 = zI m → MV (τ.1 69) 0 (H n) → ∃ υ, bd1 (f_X13_copy τ 69 0 70 (80 * (τ.1 64 20)) 80) (fun (σ_3 : Mem) => nm (sI σ_3 64 20 ((σ_3.1 64 20) + 1)) (fun (σ_4 : Mem) => some σ_4)) = some υ ∧ (∀ x, x ≠ 64 → x ≠ 70 → υ.1 x = τ.1 x) ∧ (∀ j, j ≠ 20 → υ.1 64 j = τ.1 64 j) ∧ υ.2 = τ.2 ∧ υ.1 64 20 = zI (m + 1 : Nat) ∧ MV (υ.1 70) (80 * m) (H n) ∧ ∀ i, i < m → ∀ s, s.sk.length ≤ 12 → MV (τ.1 70) (80 * i) s → MV (υ.1 70) (80 * i) s := by
    intro τ m hm h64 hV
    have e := m_copy (σ := τ) (a := 69) (b := 70) (x := 0) (y := 80 * m) (n := 80) (by decide) (by decide) (by omega) (by decide) (by decide)
    refine ⟨sI (sA τ 70 (va_cpy (τ.1 69) (τ.1 70) 0 (80 * m) 80)) 64 20 (zI (m + 1 : Nat)), ?_, ?_, ?_, rfl, ?_, ?_, ?_⟩
    · rw [h64, show (80 : Int32) * zI m = zI (80 * m : Nat) from by rw [show (80 : Int32) = zI 80 from rfl, zI_mul]; congr 1, show (0 : Int32) = zI ((0 : Nat) : Int) from rfl, show (80 : Int32) = zI ((80 : Nat) : Int) from rfl, e, pbd1_s, pnm_e, sA_o _ _ _ (by decide), h64, show (1 : Int32) = zI 1 from rfl, zI_add]
      rfl
    · intro x h1 h2
      rw [sI_o _ _ _ _ h1, sA_o _ _ _ h2]
    · intro j hj
      rw [sI_1, if_neg (by omega), sA_o _ _ _ (by decide)]
    · rw [sI_1, if_pos ⟨rfl, rfl⟩]
    · rw [sI_o _ _ _ _ (by decide), sA_at]
      exact hV.cpy (hH.ok n (Nat.le_refl n)).n
    · intro i hi s hs hM
      rw [sI_o _ _ _ _ (by decide), sA_at]
      exact hM.far hs (by omega)
  unfold f_X13_note
  rw [jn1_e]
  by_cases q : n = 16
  · subst q
    rw [hH.cnm, if_pos (by decide)]
    refine (?_ : ∃ τ, fx2 FU _ _ _ = some τ ∧ _)
    let sh : Nat → Nat → Int32 := fun i k => if k < i then σ.1 70 (k + 80) else σ.1 70 k
    obtain ⟨υ, e1, e2, e3, e4, e5, e6, e7⟩ := key (sI (sA σ 70 (sh 1200)) 64 20 (zI 15)) 15 (by omega) (by rw [sI_1, if_pos ⟨rfl, rfl⟩]; rfl) (by rw [sI_o _ _ _ _ (by decide), sA_o _ _ _ (by decide)]; exact hV)
    refine ⟨υ, ?_, fun x h1 h2 => by rw [e2 x h1 h2, sI_o _ _ _ _ h1, sA_o _ _ _ h2], fun j hj => by rw [e3 j hj, sI_1, if_neg (by omega), sA_o _ _ _ (by decide)], e4, e5, ?_⟩
    · refine fx2_run (fun i => zI i) (fun i => sA σ 70 (sh i)) 1200 0 (by omega) rfl ?_ (fun k => ?_) (fun i hi k => ?_)
      · rw [show sh 0 = σ.1 70 from funext fun k => if_neg (by omega), sA_self]
      · rw [if_pos (by decide), pnm_e, sA_o _ _ _ (by decide), hH.cnm]
        exact e1
      · simp (disch := omega) only [jn0_e, jn1_e, jn2_e, pnm_e, pbd1_s, pbd2_s, prfc_s, onm_sm, onm_nn, zI_lit, zI_nI, zI_add, zI_sub, zI_mul, zI_neg, zI_lt, zI_le, zI_eq, zI_nat, zI_div, zI_mod, ixd_in, dvd_ne]
        rw [if_neg (by omega), sI_sA, sA_at]
        refine congr (congrArg k (by congr 1)) (congrArg _ (funext fun j => ?_))
        rw [show ((i : Int) + 80).toNat = i + 80 from by omega, show ((i : Int)).toNat = i from by omega]
        unfold upd
        by_cases q : j = i
        · subst q; rw [if_pos rfl]; show (if j + 80 < j then _ else _) = (if j < j + 1 then _ else _); rw [if_neg (by omega), if_pos (by omega)]
        · rw [if_neg q]; show (if j < i then _ else _) = (if j < i + 1 then _ else _)
          by_cases q2 : j < i
          · rw [if_pos q2, if_pos (by omega)]
          · rw [if_neg q2, if_neg (by omega)]
    · intro i hi
      replace hi : i < 16 := hi
      show MV (υ.1 70) (80 * i) (H (i + 1))
      rcases Nat.lt_or_ge i 15 with q | q
      · have ok := (hH.ok (i + 1) (by omega)).n
        refine e7 i q _ ok ?_
        rw [sI_o _ _ _ _ (by decide), sA_at]
        have hr := hH.row (i + 1) (by omega)
        have g : ∀ j, j < 80 → sh 1200 (80 * i + j) = σ.1 70 (80 * (i + 1) + j) := by
          intro j hj
          show (if 80 * i + j < 1200 then _ else _) = _
          rw [if_pos (by omega)]; rw [show 80 * i + j + 80 = 80 * (i + 1) + j from by omega]
        refine ⟨fun d hd => by rw [g _ (by omega)]; exact hr.vis d hd, fun k c hc => ?_, by rw [g _ (by omega)]; exact hr.n, by rw [g _ (by omega)]; exact hr.day⟩
        have hk : k < (H (i + 1)).sk.length := by
          rcases Nat.lt_or_ge k (H (i + 1)).sk.length with q | q
          · exact q
          · rw [List.getElem?_eq_none q] at hc; cases hc
        rw [g _ (by omega), g _ (by omega), g _ (by omega), g _ (by omega)]; exact hr.sk k c hc
      · have : i = 15 := by omega
        subst this; exact e6
  · obtain ⟨υ, e1, e2, e3, e4, e5, e6, e7⟩ := key σ n (by omega) hH.cnm hV
    refine ⟨υ, ?_, e2, e3, e4, by rw [e5, nn, if_neg q], ?_⟩
    · rw [if_neg (by rw [hH.cnm, show (16 : Int32) = zI 16 from rfl, zI_eq (by omega) (by omega)]; omega)]
      exact e1
    · intro i hi
      rw [nn, if_neg q] at hi
      rw [off, if_neg q, Nat.add_zero]
      rcases Nat.lt_or_ge i n with p | p
      · exact e7 i p _ (hH.ok i (by omega)).n (hH.row i p)
      · have : i = n := by omega
        subst this; exact e6
theorem HS_act {σ υ : Mem} {t : TT} {n : Nat} {H : Nat → SS} {s s' : SS} {act : Int32 × Int32 × Int32 × Int32} (h : HS σ t n H) (hs : H n = s) (ok : SB t s') (ua : UA act s' s) (c1 : υ.1 49 1 = zI (nn n)) (c2 : υ.1 64 20 = zI (nn n)) (c3 : ∀ i, i < nn n - 1 → actOf (υ.1 50) i = actOf (σ.1 50) (i + off n)) (c4 : actOf (υ.1 50) (nn n - 1) = act) (c5 : ∀ i, i < nn n → MV (υ.1 70) (80 * i) (H (i + off n))) : ∃ n' H', HS υ t n' H' ∧ H' n' = s' := by
  obtain ⟨q1, q2, q3⟩ := nn_off h.n16
  refine ⟨nn n, fun i => if i < nn n then H (i + off n) else s', ⟨q2, c1, c2, fun i hi => ?_, fun i hi => ?_, fun i hi => ?_⟩, if_neg (by omega)⟩
  · show UA _ (if i + 1 < nn n then _ else _) (if i < nn n then _ else _)
    rw [if_pos hi]
    by_cases q : i + 1 < nn n
    · rw [if_pos q, c3 i (by omega), show i + 1 + off n = i + off n + 1 from by omega]
      exact h.back _ (by omega)
    · rw [if_neg q, show i = nn n - 1 from by omega, c4, q3, hs]
      exact ua
  · show MV _ _ (if i < nn n then _ else _)
    rw [if_pos hi]
    exact c5 i hi
  · show SB t (if i < nn n then _ else _)
    by_cases q : i < nn n
    · rw [if_pos q]; exact h.ok _ (by omega)
    · rw [if_neg q]; exact ok
/-- the relation behind an act -/
theorem RC_act {σ υ : Mem} {T : Nat} {t : TT} {s s' : SS} (hc : RC σ T t s) (hP : 0 < t.P) (ok : SB t s') (f1 : ∀ a, a ≠ 0 → a ≠ 28 → a ≠ 29 → a ≠ 31 → a ≠ 49 → a ≠ 50 → a ≠ 64 → a ≠ 69 → a ≠ 70 → υ.1 a = σ.1 a) (f2 : υ.2 = σ.2) (f3 : ∀ j, j ≠ 0 → j ≠ 11 → j ≠ 20 → υ.1 64 j = σ.1 64 j) (f4 : ∀ j, j ≠ 13 → υ.1 0 j = σ.1 0 j) (cs : CS υ 28 T t (t.ch ++ s'.sk) s') (mv : MV (υ.1 69) 0 s') (hist : ∃ n H, HS υ t n H ∧ H n = s') : RC υ T t s' := by
  obtain ⟨n, I, hI, hI0⟩ := hc.imgs
  obtain ⟨tn, tb, hT⟩ := hc.tape
  obtain ⟨n', H, hH, hH1⟩ := hist
  have hTa := hc.ct.at_
  have g : ∀ a, a = 1 ∨ a = 2 ∨ a = 65 ∨ a = 67 ∨ a = 71 ∨ (T ≤ a ∧ a ≤ T + 11) ∨ (37 ≤ a ∧ a ≤ 48) → υ.1 a = σ.1 a := fun a ha => f1 a (by omega) (by omega) (by omega) (by omega) (by omega) (by omega) (by omega) (by omega) (by omega)
  exact ⟨hc.tb, ok, by rw [f2]; exact hc.town, by rw [f2]; exact hc.spare, hc.ct.of (fun a h1 h2 => g a (by omega)), cs, by rw [g 67 (by omega)]; exact hc.mr, mv, by rw [f3 14 (by omega) (by omega) (by omega)]; exact hc.has, by rw [f3 24 (by omega) (by omega) (by omega)]; exact hc.nod, ⟨n', H, hH, hH1, fun q => absurd q (by omega)⟩, ⟨n, I, hI.of (f4 12 (by omega)) (f3 21 (by omega) (by omega) (by omega)) (fun a h1 h2 => g a (by omega)) (g 71 (by omega)) (fun a h1 h2 => by rw [f2]), hI0⟩, ⟨tn, tb, hT.of (by rw [g 1 (by omega)]) (f3 2 (by omega) (by omega) (by omega)) (g 2 (by omega)) (g 65 (by omega))⟩, by rw [f4 14 (by omega), f3 9 (by omega) (by omega) (by omega)]; exact hc.flt, by rw [f2]; exact hc.rd, fun q => absurd q (by omega)⟩
def opn (t : TT) (s : SS) (d : Nat) : Bool := decide (s.day ≤ d ∧ d % 7 ≠ t.sh ∧ s.vis d = none)
def awa (s : SS) (d : Nat) : Bool := decide (s.day ≤ d ∧ s.vis d ≠ none)
theorem oC_none {o : Option Nat} : (oC o = -2) ↔ o = none := by
  cases o with
  | none => exact ⟨fun _ => rfl, fun _ => rfl⟩
  | some q => simp only [oC]; constructor
              · intro h; omega
              · intro h; cases h
theorem oC_neg {o : Option Nat} : (oC o < 0) ↔ o = none := by
  cases o with
  | none => exact ⟨fun _ => rfl, fun _ => by decide⟩
  | some q => simp only [oC]; constructor
              · intro h; omega
              · intro h; cases h
theorem oM_zero {o : Option Nat} : (oM o = 0) ↔ o = none := by
  cases o with
  | none => exact ⟨fun _ => rfl, fun _ => rfl⟩
  | some q => simp only [oM]; constructor
              · intro h; omega
              · intro h; cases h
theorem oM_le {o : Option Nat} : (oM o ≤ 0) ↔ o = none := by
  cases o with
  | none => exact ⟨fun _ => rfl, fun _ => by decide⟩
  | some q => simp only [oM]; constructor
              · intro h; omega
              · intro h; cases h
theorem c_free {σ : Mem} {k T : Nat} {t : TT} {E : List (Nat × Nat × Nat × Nat)} {s : SS} (h : CS σ k T t E s) (hT : CT σ T t) (tb : TB t) (sb : SB t s) {d : Nat} (hd : d < 30) : f_X9_isFree σ k (zI d) = some (bI (opn t s d)) := by
  have h1 := sb.day
  have hb := oC_b (sb_5 tb sb d)
  unfold f_X9_isFree
  rw [jn0_e, h.day, h.town, prfc_s, c_shut hT tb hd, pbd1_s, c_visitor h hd, pbd1_s, opn]
  simp (disch := omega) only [jn0_e, jn1_e, jn2_e, pnm_e, pbd1_s, pbd2_s, prfc_s, onm_sm, onm_nn, zI_lit, zI_nI, zI_add, zI_sub, zI_mul, zI_neg, zI_lt, zI_le, zI_eq, zI_nat, zI_div, zI_mod, ixd_in, dvd_ne]
  by_cases q1 : (d : Int) < s.day
  · rw [if_pos q1, decide_eq_false (by omega)]; rfl
  rw [if_neg q1]
  by_cases q2 : d % 7 = t.sh
  · rw [if_neg (by rw [decide_eq_true q2]; decide), decide_eq_false (fun x => x.2.1 q2)]; rfl
  rw [if_pos (by rw [decide_eq_false q2]; rfl)]
  by_cases q3 : s.vis d = none
  · rw [if_pos (oC_none.2 q3), decide_eq_true ⟨by omega, q2, q3⟩]; rfl
  · rw [if_neg (fun x => q3 (oC_none.1 x)), decide_eq_false (fun x => q3 x.2.2)]; rfl
theorem c_await {σ : Mem} {k T : Nat} {t : TT} {E : List (Nat × Nat × Nat × Nat)} {s : SS} (h : CS σ k T t E s) (tb : TB t) (sb : SB t s) {d : Nat} (hd : d < 30) : f_X9_isAwaited σ k (zI d) = some (bI (awa s d)) := by
  have h1 := sb.day
  have hb := oC_b (sb_5 tb sb d)
  unfold f_X9_isAwaited
  rw [jn0_e, h.day, c_visitor h hd, pbd1_s, awa]
  simp (disch := omega) only [jn0_e, jn1_e, jn2_e, pnm_e, pbd1_s, pbd2_s, prfc_s, onm_sm, onm_nn, zI_lit, zI_nI, zI_add, zI_sub, zI_mul, zI_neg, zI_lt, zI_le, zI_eq, zI_nat, zI_div, zI_mod, ixd_in, dvd_ne]
  by_cases q1 : (d : Int) < s.day
  · rw [if_pos q1, decide_eq_false (by omega)]; rfl
  rw [if_neg q1]
  by_cases q3 : s.vis d = none
  · rw [if_pos (oC_neg.2 q3), decide_eq_false (fun x => x.2 q3)]; rfl
  · rw [if_neg (fun x => q3 (oC_neg.1 x)), decide_eq_true ⟨by omega, q3⟩]; rfl
theorem m_open {σ : Mem} {t : TT} {s : SS} (hR : MR (σ.1 67) t) (hV : MV (σ.1 69) 0 s) (tb : TB t) (sb : SB t s) {d : Nat} (hd : d < 30) : f_X13_isOpen σ (zI d) = some (bI (opn t s d)) := by
  have h1 := sb.day
  have a69 : aln 69 = 80 := rfl
  have hb := oM_b (sb_5 tb sb d)
  have hv := hV.vis d hd
  have hy := hV.day
  rw [Nat.zero_add] at hv hy
  unfold f_X13_isOpen
  rw [m_shut hR tb hd, opn]
  simp (disch := omega) only [jn0_e, jn1_e, jn2_e, pnm_e, pbd1_s, pbd2_s, prfc_s, onm_sm, onm_nn, zI_lit, zI_nI, zI_add, zI_sub, zI_mul, zI_neg, zI_lt, zI_le, zI_eq, zI_nat, zI_div, zI_mod, ixd_in, dvd_ne]
  rw [show (79 : Int).toNat = 79 from rfl, hy, show (d : Int).toNat = d from by omega, hv]
  simp (disch := omega) only [jn0_e, jn1_e, jn2_e, pnm_e, pbd1_s, pbd2_s, prfc_s, onm_sm, onm_nn, zI_lit, zI_nI, zI_add, zI_sub, zI_mul, zI_neg, zI_lt, zI_le, zI_eq, zI_nat, zI_div, zI_mod, ixd_in, dvd_ne]
  by_cases q1 : (d : Int) < s.day
  · rw [if_pos q1, decide_eq_false (by omega)]; rfl
  rw [if_neg q1]
  by_cases q2 : d % 7 = t.sh
  · rw [if_neg (by rw [decide_eq_true q2]; decide), decide_eq_false (fun x => x.2.1 q2)]; rfl
  rw [if_pos (by rw [decide_eq_false q2]; rfl)]
  by_cases q3 : s.vis d = none
  · rw [if_pos (oM_zero.2 q3), decide_eq_true ⟨by omega, q2, q3⟩]; rfl
  · rw [if_neg (fun x => q3 (oM_zero.1 x)), decide_eq_false (fun x => q3 x.2.2)]; rfl
theorem m_visit {σ : Mem} {t : TT} {s : SS} (hV : MV (σ.1 69) 0 s) (tb : TB t) (sb : SB t s) {d : Nat} (hd : d < 30) : f_X13_isVisit σ (zI d) = some (bI (awa s d)) := by
  have h1 := sb.day
  have a69 : aln 69 = 80 := rfl
  have hb := oM_b (sb_5 tb sb d)
  have hv := hV.vis d hd
  have hy := hV.day
  rw [Nat.zero_add] at hv hy
  unfold f_X13_isVisit
  rw [awa]
  simp (disch := omega) only [jn0_e, jn1_e, jn2_e, pnm_e, pbd1_s, pbd2_s, prfc_s, onm_sm, onm_nn, zI_lit, zI_nI, zI_add, zI_sub, zI_mul, zI_neg, zI_lt, zI_le, zI_eq, zI_nat, zI_div, zI_mod, ixd_in, dvd_ne]
  rw [show (79 : Int).toNat = 79 from rfl, hy, show (d : Int).toNat = d from by omega, hv, f_in _ _ _ (by omega) (by omega) (by omega), pbd1_s]
  simp (disch := omega) only [jn0_e, jn1_e, jn2_e, pnm_e, pbd1_s, pbd2_s, prfc_s, onm_sm, onm_nn, zI_lit, zI_nI, zI_add, zI_sub, zI_mul, zI_neg, zI_lt, zI_le, zI_eq, zI_nat, zI_div, zI_mod, ixd_in, dvd_ne]
  by_cases q1 : (d : Int) < s.day
  · rw [if_pos (by rw [decide_eq_false (by omega)]; rfl), decide_eq_false (by omega)]; rfl
  rw [if_neg (by rw [decide_eq_true (by omega)]; decide)]
  by_cases q3 : s.vis d = none
  · rw [if_pos (oM_le.2 q3), decide_eq_false (fun x => x.2 q3)]; rfl
  · rw [if_neg (fun x => q3 (oM_le.1 x)), decide_eq_true ⟨by omega, q3⟩]; rfl
/-- another visitor on a day -/
def setV (s : SS) (d : Nat) (v : Option Nat) : SS := SS.mk (fun x => if x = d then v else s.vis x) s.day s.sk
theorem setV_vis (s : SS) (d : Nat) (v : Option Nat) (x : Nat) : (setV s d v).vis x = if x = d then v else s.vis x := rfl
theorem setV_day (s : SS) (d : Nat) (v : Option Nat) : (setV s d v).day = s.day := rfl
theorem setV_sk (s : SS) (d : Nat) (v : Option Nat) : (setV s d v).sk = s.sk := rfl
theorem SB.setV {t : TT} {s : SS} (h : SB t s) {d : Nat} {v : Option Nat} (hv : ∀ p, v = some p → p < t.P) : SB t (setV s d v) :=
  ⟨fun x p hp => by
    rw [setV_vis] at hp
    split at hp
    · exact hv p hp
    · exact h.vis x p hp, h.day, h.n, h.skb⟩
theorem CS.setV {σ : Mem} {k T : Nat} {t : TT} {E : List (Nat × Nat × Nat × Nat)} {s : SS} (h : CS σ k T t E s) (d : Nat) (v : Option Nat) : CS (sI σ (k + 1) d (zI (oC v))) k T t E (setV s d v) :=
  ⟨h.at_, h.town, by rw [sI_o _ _ _ _ (by omega)]; exact h.day, by rw [sI_o _ _ _ _ (by omega)]; exact h.n, fun x hx => by
    rw [setV_vis, sI_1]
    by_cases q : x = d
    · rw [if_pos ⟨rfl, q⟩, if_pos q]
    · rw [if_neg (fun y => q y.2), if_neg q]; exact h.vis x hx, fun p x hp hx => by rw [sI_o _ _ _ _ (by omega)]; exact h.look p x hp hx⟩
theorem MV.setV {f : Nat → Int32} {s : SS} (h : MV f 0 s) {d : Nat} (hd : d < 30) (v : Option Nat) : MV (upd f d (zI (oM v))) 0 (setV s d v) :=
  ⟨fun x hx => by
    rw [setV_vis, Nat.zero_add]
    by_cases q : x = d
    · rw [if_pos q, q, upd_self]
    · rw [if_neg q, upd_ne _ _ q]; have := h.vis x hx; rwa [Nat.zero_add] at this, fun k c hc => by rw [upd_ne _ _ (by omega), upd_ne _ _ (by omega), upd_ne _ _ (by omega), upd_ne _ _ (by omega)]; exact h.sk k c hc, by rw [upd_ne _ _ (by omega)]; exact h.n, by rw [upd_ne _ _ (by omega)]; exact h.day⟩
theorem c_set {σ : Mem} {k d : Nat} (hk : stp k) (hd : d < 30) (v : Int32) : f_X9_setVisitor σ k (zI d) v = some (sI σ (k + 1) d v) := by
  have a := (cs_aln hk).1
  unfold f_X9_setVisitor
  rw [f_setN (by omega) (by omega)]; rfl
theorem m_isNot (σ : Mem) (v : Int32) : bd2 (f_X13_isNot σ v) (fun (r : Int32) (τ : Mem) => zrm r τ) = some (0, sI σ 64 11 v) := rfl
/-- what the model alone holds -/
abbrev MC (σ : Mem) (t : TT) (s : SS) : Prop :=
  (TB t) ∧ (SB t s) ∧ (MR (σ.1 67) t) ∧ (MV (σ.1 69) 0 s) ∧ (σ.1 64 14 = bI (decide (0 < t.P))) ∧ (σ.1 64 24 = zI 0)
theorem MC.tb {σ : Mem}{t : TT}{s : SS} (h : MC σ t s) : TB t := h.1
theorem MC.sb {σ : Mem}{t : TT}{s : SS} (h : MC σ t s) : SB t s := h.2.1
theorem MC.mr {σ : Mem}{t : TT}{s : SS} (h : MC σ t s) : MR (σ.1 67) t := h.2.2.1
theorem MC.mv {σ : Mem}{t : TT}{s : SS} (h : MC σ t s) : MV (σ.1 69) 0 s := h.2.2.2.1
theorem MC.has {σ : Mem}{t : TT}{s : SS} (h : MC σ t s) : σ.1 64 14 = bI (decide (0 < t.P)) := h.2.2.2.2.1
theorem MC.nod {σ : Mem}{t : TT}{s : SS} (h : MC σ t s) : σ.1 64 24 = zI 0 := h.2.2.2.2.2
theorem RC.mc {σ : Mem} {T : Nat} {t : TT} {s : SS} (h : RC σ T t s) : MC σ t s := ⟨h.tb, h.sb, h.mr, h.mv, h.has, h.nod⟩
theorem MC.of {σ τ : Mem} {t : TT} {s : SS} (h : MC σ t s) (e1 : τ.1 67 = σ.1 67) (e2 : τ.1 69 = σ.1 69) (e3 : τ.1 64 14 = σ.1 64 14) (e4 : τ.1 64 24 = σ.1 64 24) : MC τ t s :=
  ⟨h.tb, h.sb, by rw [e1]; exact h.mr, by rw [e2]; exact h.mv, by rw [e3]; exact h.has, by rw [e4]; exact h.nod⟩
theorem MC.isPerson {σ : Mem} {t : TT} {s : SS} (h : MC σ t s) (a : Int) (ha : -2147483648 ≤ a ∧ a < 2147483648) : f_X13_isPerson σ (zI a) = some (bI (decide (0 ≤ a ∧ a < t.P))) := by
  have hP := h.tb.P
  have a67 : aln 67 = 175 := rfl
  unfold f_X13_isPerson
  rw [h.has, jn0_e]
  by_cases p0 : 0 < t.P
  · rw [decide_eq_true p0, if_neg (by decide)]
    simp (disch := omega) only [jn0_e, jn1_e, jn2_e, pnm_e, pbd1_s, pbd2_s, prfc_s, onm_sm, onm_nn, zI_lit, zI_nI, zI_add, zI_sub, zI_mul, zI_neg, zI_lt, zI_le, zI_eq, zI_nat, zI_div, zI_mod, ixd_in, dvd_ne]
    rw [show (4 : Int).toNat = 4 from rfl, h.mr.P]
    simp (disch := omega) only [jn0_e, jn1_e, jn2_e, pnm_e, pbd1_s, pbd2_s, prfc_s, onm_sm, onm_nn, zI_lit, zI_nI, zI_add, zI_sub, zI_mul, zI_neg, zI_lt, zI_le, zI_eq, zI_nat, zI_div, zI_mod, ixd_in, dvd_ne]
    rw [f_in _ _ _ ha (by omega) (by omega), pbd1_s]
    by_cases q : 0 ≤ a ∧ a ≤ (t.P : Int) - 1
    · rw [decide_eq_true q, if_neg (by decide), decide_eq_true (by omega)]; rfl
    · rw [decide_eq_false q, if_pos (by decide), decide_eq_false (by omega)]; rfl
  · rw [decide_eq_false p0, if_pos (by decide), decide_eq_false (by omega)]; rfl
theorem MC.isMark {σ : Mem} {t : TT} {s : SS} (h : MC σ t s) (a : Int) (hP : 0 < t.P) (ha : -2147483648 ≤ a ∧ a < 2147483648) : f_X13_isMark σ (zI a) = some (bI (decide (0 ≤ a ∧ a < t.ms))) := by
  have hms := h.tb.ms
  have a67 : aln 67 = 175 := rfl
  unfold f_X13_isMark
  rw [h.has, jn0_e, decide_eq_true hP, if_neg (by decide)]
  simp (disch := omega) only [jn0_e, jn1_e, jn2_e, pnm_e, pbd1_s, pbd2_s, prfc_s, onm_sm, onm_nn, zI_lit, zI_nI, zI_add, zI_sub, zI_mul, zI_neg, zI_lt, zI_le, zI_eq, zI_nat, zI_div, zI_mod, ixd_in, dvd_ne]
  rw [show (0 : Int).toNat = 0 from rfl, h.mr.ms]
  simp (disch := omega) only [jn0_e, jn1_e, jn2_e, pnm_e, pbd1_s, pbd2_s, prfc_s, onm_sm, onm_nn, zI_lit, zI_nI, zI_add, zI_sub, zI_mul, zI_neg, zI_lt, zI_le, zI_eq, zI_nat, zI_div, zI_mod, ixd_in, dvd_ne]
  rw [f_in _ _ _ ha (by omega) (by omega), pbd1_s]
  by_cases q : 0 ≤ a ∧ a ≤ (t.ms : Int) - 1
  · rw [decide_eq_true q, if_neg (by decide), decide_eq_true (by omega)]; rfl
  · rw [decide_eq_false q, if_pos (by decide), decide_eq_false (by omega)]; rfl
theorem gd_o (σ : Mem) {a : Nat} (h : a ≠ 64) : (gd σ).1 a = σ.1 a := by unfold gd; rw [sI_o _ _ _ _ h, sI_o _ _ _ _ h]
theorem gd_64 (σ : Mem) {j : Nat} (h : j ≠ 0) (h2 : j ≠ 11) : (gd σ).1 64 j = σ.1 64 j := by unfold gd; rw [sI_1, if_neg (by omega), sI_1, if_neg (by omega)]
theorem gd_11 (σ : Mem) : (gd σ).1 64 11 = 0 := by unfold gd; rw [sI_1, if_pos ⟨rfl, rfl⟩]
theorem rel_book (σ : Mem) (h : RLq σ) (x y : Int32) : ∃ r σ1 σ2, f_X12_book σ x y = some (r, σ1) ∧ f_X13_book σ1 x y = some (r, σ2) ∧ RLq σ2 := by
  obtain ⟨T, t, s, hc, ht, hp⟩ := h
  obtain ⟨n, H, hH, hH1, hH0⟩ := hc.hist
  have hP := hc.tb.P
  have ha := zI_rng x
  have hb := zI_rng y
  rw [zI_all x, zI_all y]
  generalize x.toInt = p at ha
  generalize y.toInt = d at hb
  unfold f_X12_book f_X13_book
  rw [c_ofPD hc _ _ ha hb, pbd1_s]
  simp only [m_good, pbd1_s, jn0_e, jn1_e, m_isNot]
  by_cases q : 0 ≤ p ∧ p < t.P
  · by_cases q2 : 0 ≤ d ∧ d < 30
    · rw [tr3_0 q q2, if_pos rfl]
      obtain ⟨p, rfl⟩ : ∃ i : Nat, p = i := ⟨p.toNat, by omega⟩
      obtain ⟨d, rfl⟩ : ∃ i : Nat, d = i := ⟨d.toNat, by omega⟩
      rw [c_free hc.cs hc.ct hc.tb hc.sb (by omega), pbd1_s]
      cases ho : opn t s d with
      | true =>
        rw [if_neg (by decide), refu_0, pbd2_s, if_pos rfl, c_set (Or.inl rfl) (by omega), pbd1_s]
        obtain ⟨τ, e1, e2, e3, e4, e5, e6⟩ := c_note (σ := sI (sI σ 0 13 0) 29 d (zI p)) (n := n) (by rw [sI_o _ _ _ _ (by omega), sI_o _ _ _ _ (by omega)]; exact hH.cnt) hH.n16 0 (zI d) 0 0
        rw [e1, pbd1_s]
        have g1 : ∀ a, a ≠ 0 → a ≠ 29 → a ≠ 49 → a ≠ 50 → τ.1 a = σ.1 a := fun a h0 h1 h2 h3 => by rw [e2 a h2 h3, sI_o _ _ _ _ h1, sI_o _ _ _ _ h0]
        have hM : MC (gd τ) t s := hc.mc.of (by rw [gd_o _ (by omega), g1 _ (by omega) (by omega) (by omega) (by omega)]) (by rw [gd_o _ (by omega), g1 _ (by omega) (by omega) (by omega) (by omega)]) (by rw [gd_64 _ (by omega) (by omega), g1 _ (by omega) (by omega) (by omega) (by omega)]) (by rw [gd_64 _ (by omega) (by omega), g1 _ (by omega) (by omega) (by omega) (by omega)])
        have hN : HM (gd τ) t n H := hH.hm.of (by rw [gd_64 _ (by omega) (by omega), g1 _ (by omega) (by omega) (by omega) (by omega)]) (by rw [gd_o _ (by omega), g1 _ (by omega) (by omega) (by omega) (by omega)])
        obtain ⟨υ, u1, u2, u3, u4, u5, u6⟩ := m_note hN (by rw [hH1]; exact hM.mv)
        refine ⟨1, τ, sI υ 69 d (zI (oM (some p))), rfl, ?_, ?_⟩
        · rw [hM.isPerson _ ha, decide_eq_true q, pbd1_s, if_neg (by decide), m_isDay _ hb, decide_eq_true q2, pbd1_s, if_neg (by decide), m_open hM.mr hM.mv hM.tb hM.sb (by omega), ho, pbd1_s, if_neg (by decide), u1, pbd1_s, show aln 69 = 80 from rfl, ixd_in (by omega), pnm_e, zI_nat hb, show (d : Int).toNat = d from by omega, show (1 : Int32) = zI 1 from rfl, zI_add]
          rfl
        · have k1 : ∀ a, a ≠ 0 → a ≠ 29 → a ≠ 49 → a ≠ 50 → a ≠ 64 → a ≠ 69 → a ≠ 70 → (sI υ 69 d (zI (oM (some p)))).1 a = σ.1 a := fun a h0 h1 h2 h3 h4 h5 h6 => by rw [sI_o _ _ _ _ h5, u2 a h4 h6, gd_o _ h4, g1 a h0 h1 h2 h3]
          have kc : ∀ a, a ≠ 64 → a ≠ 69 → a ≠ 70 → (sI υ 69 d (zI (oM (some p)))).1 a = τ.1 a := fun a h4 h5 h6 => by rw [sI_o _ _ _ _ h5, u2 a h4 h6, gd_o _ h4]
          have k2 : ∀ j, j ≠ 0 → j ≠ 11 → j ≠ 20 → (sI υ 69 d (zI (oM (some p)))).1 64 j = σ.1 64 j := fun j h0 h1 h2 => by rw [sI_o _ _ _ _ (by omega), u3 j h2, gd_64 _ h0 h1, g1 64 (by omega) (by omega) (by omega) (by omega)]
          have k3 : ∀ j, j ≠ 13 → (sI υ 69 d (zI (oM (some p)))).1 0 j = σ.1 0 j := fun j h0 => by rw [kc 0 (by omega) (by omega) (by omega), e2 0 (by omega) (by omega), sI_o _ _ _ _ (by omega), sI_1, if_neg (by omega)]
          have k4 : (sI υ 69 d (zI (oM (some p)))).2 = σ.2 := by rw [sI_2, u4]; exact e3
          have ok : SB t (setV s d (some p)) := hc.sb.setV (fun r hr => by have := Option.some.inj hr; omega)
          refine RL_mk (T := T) (t := t) (s := setV s d (some p)) (RC_act hc (by omega) ok (fun a h0 _ h2 _ h4 h5 h6 h7 h8 => k1 a h0 h2 h4 h5 h6 h7 h8) k4 k2 k3 ?_ ?_ ?_) 0 ?_ ?_ (by decide)
          · refine (hc.cs.setV d (some p)).of (fun a h1 h2 => ?_) (by rw [k4]; rfl)
            rw [kc a (by omega) (by omega) (by omega), e2 a (by omega) (by omega)]
            show (if a = 29 then _ else (if a = 0 then _ else _)) = (if a = 29 then _ else _)
            by_cases w : a = 29
            · rw [if_pos w, if_pos w]; rfl
            · rw [if_neg w, if_neg w, if_neg (by omega)]
          · rw [sI_at, u2 69 (by omega) (by omega), gd_o _ (by omega), g1 69 (by omega) (by omega) (by omega) (by omega)]
            exact hc.mv.setV (by omega) (some p)
          · have ho := of_decide_eq_true ho
            refine HS_act hH hH1 ok (act := (0, zI d, 0, 0)) (Or.inl ⟨rfl, d, by omega, rfl, ?_⟩) (by rw [kc 49 (by omega) (by omega) (by omega)]; exact e4) (by rw [sI_o _ _ _ _ (by omega)]; exact u5) (fun i hi => ?_) ?_ (fun i hi => ?_)
            · refine Prod.ext (funext fun z => ?_) rfl
              show s.vis z = if z = d then none else (if z = d then some p else s.vis z)
              by_cases w : z = d
              · rw [if_pos w, w]; exact ho.2.2
              · rw [if_neg w, if_neg w]
            · rw [kc 50 (by omega) (by omega) (by omega), e5 i hi, sI_o _ _ _ _ (by omega), sI_o _ _ _ _ (by omega)]
            · rw [kc 50 (by omega) (by omega) (by omega), e6]
            · rw [sI_o _ _ _ _ (by omega)]; exact u6 i hi
          · rw [kc 0 (by omega) (by omega) (by omega), e2 0 (by omega) (by omega), sI_o _ _ _ _ (by omega), sI_1, if_pos ⟨rfl, rfl⟩]
          · rw [sI_o _ _ _ _ (by omega), u3 11 (by omega), gd_11]
      | false =>
        rw [if_pos (by decide), show f_X12_refused σ 5 = some (1, sI σ 0 13 5) from rfl, pbd2_s, if_neg (by decide)]
        have hc2 := RC_m hc 5
        refine ⟨_, _, _, rfl, ?_, RL_no hc 5 (by decide)⟩
        rw [hc2.mc.isPerson _ ha, decide_eq_true q, pbd1_s, if_neg (by decide), m_isDay _ hb, decide_eq_true q2, pbd1_s, if_neg (by decide), m_open hc2.mr hc2.mv hc2.tb hc2.sb (by omega), ho, pbd1_s, if_pos (by decide)]
    · rw [tr3_2 q q2, if_neg (by decide), refu_2, pbd2_s, if_neg (by decide)]
      have hc2 := RC_m hc 2
      refine ⟨_, _, _, rfl, ?_, RL_no hc 2 (by decide)⟩
      rw [hc2.mc.isPerson _ ha, decide_eq_true q, pbd1_s, if_neg (by decide), m_isDay _ hb, decide_eq_false q2, pbd1_s, if_pos (by decide)]
  · rw [tr3_1 q, if_neg (by decide), refu_1, pbd2_s, if_neg (by decide)]
    have hc2 := RC_m hc 1
    refine ⟨_, _, _, rfl, ?_, RL_no hc 1 (by decide)⟩
    rw [hc2.mc.isPerson _ ha, decide_eq_false q, pbd1_s, if_pos (by decide)]
theorem rel_callOff (σ : Mem) (h : RLq σ) (y : Int32) : ∃ r σ1 σ2, f_X12_callOff σ y = some (r, σ1) ∧ f_X13_callOff σ1 y = some (r, σ2) ∧ RLq σ2 := by
  obtain ⟨T, t, s, hc, ht, hp⟩ := h
  obtain ⟨n, H, hH, hH1, hH0⟩ := hc.hist
  have hP := hc.tb.P
  have hb := zI_rng y
  rw [zI_all y]
  generalize y.toInt = d at hb
  unfold f_X12_callOff f_X13_callOff
  rw [c_ofDay hc _ hb, pbd1_s]
  simp only [m_good, pbd1_s, jn0_e, jn1_e, m_isNot]
  by_cases q : 0 < t.P
  · have hz : ∀ τ, MC τ t s → ¬ τ.1 64 14 = 0 := fun τ hm => by rw [hm.has, decide_eq_true q]; decide
    by_cases q2 : 0 ≤ d ∧ d < 30
    · rw [tr3_0 q q2, if_pos rfl]
      obtain ⟨d, rfl⟩ : ∃ i : Nat, d = i := ⟨d.toNat, by omega⟩
      rw [c_await hc.cs hc.tb hc.sb (by omega), pbd1_s]
      cases ho : awa s d with
      | true =>
        have ho2 := of_decide_eq_true ho
        obtain ⟨p, hv⟩ : ∃ p, s.vis d = some p := Option.ne_none_iff_exists'.1 ho2.2
        have hc1 := RC_c hc 0
        rw [if_neg (by decide), refu_0, pbd2_s, if_pos rfl, c_visitor hc1.cs (by omega), pbd1_s]
        obtain ⟨τ, e1, e2, e3, e4, e5, e6⟩ := c_note (σ := sI σ 0 13 0) (n := n) (by rw [sI_o _ _ _ _ (by omega)]; exact hH.cnt) hH.n16 1 (zI d) (zI (oC (s.vis d))) 0
        rw [e1, pbd1_s, c_set (Or.inl rfl) (by omega), pbd1_s]
        have g0 : ∀ a, a ≠ 0 → a ≠ 49 → a ≠ 50 → τ.1 a = σ.1 a := fun a h0 h2 h3 => by rw [e2 a h2 h3, sI_o _ _ _ _ h0]
        obtain ⟨τ', hτ'⟩ : ∃ τ', τ' = sI τ (28 + 1) d (-2) := ⟨_, rfl⟩
        rw [← hτ']
        have g1 : ∀ a, a ≠ 0 → a ≠ 29 → a ≠ 49 → a ≠ 50 → τ'.1 a = σ.1 a := fun a h0 h1 h2 h3 => by rw [hτ', sI_o _ _ _ _ h1, g0 a h0 h2 h3]
        have hM : MC (gd τ') t s := hc.mc.of (by rw [gd_o _ (by omega), g1 _ (by omega) (by omega) (by omega) (by omega)]) (by rw [gd_o _ (by omega), g1 _ (by omega) (by omega) (by omega) (by omega)]) (by rw [gd_64 _ (by omega) (by omega), g1 _ (by omega) (by omega) (by omega) (by omega)]) (by rw [gd_64 _ (by omega) (by omega), g1 _ (by omega) (by omega) (by omega) (by omega)])
        have hN : HM (gd τ') t n H := hH.hm.of (by rw [gd_64 _ (by omega) (by omega), g1 _ (by omega) (by omega) (by omega) (by omega)]) (by rw [gd_o _ (by omega), g1 _ (by omega) (by omega) (by omega) (by omega)])
        obtain ⟨υ, u1, u2, u3, u4, u5, u6⟩ := m_note hN (by rw [hH1]; exact hM.mv)
        refine ⟨1, τ', sI υ 69 d (zI (oM none)), rfl, ?_, ?_⟩
        · rw [if_neg (hz _ hM), m_isDay _ hb, decide_eq_true q2, pbd1_s, if_neg (by decide), m_visit hM.mv hM.tb hM.sb (by omega), ho, pbd1_s, if_neg (by decide), u1, pbd1_s, show aln 69 = 80 from rfl, ixd_in (by omega), pnm_e, zI_nat hb, show (d : Int).toNat = d from by omega]
          rfl
        · have kc : ∀ a, a ≠ 64 → a ≠ 69 → a ≠ 70 → (sI υ 69 d (zI (oM none))).1 a = τ'.1 a := fun a h4 h5 h6 => by rw [sI_o _ _ _ _ h5, u2 a h4 h6, gd_o _ h4]
          have k1 : ∀ a, a ≠ 0 → a ≠ 29 → a ≠ 49 → a ≠ 50 → a ≠ 64 → a ≠ 69 → a ≠ 70 → (sI υ 69 d (zI (oM none))).1 a = σ.1 a := fun a h0 h1 h2 h3 h4 h5 h6 => by rw [kc a h4 h5 h6, g1 a h0 h1 h2 h3]
          have k2 : ∀ j, j ≠ 0 → j ≠ 11 → j ≠ 20 → (sI υ 69 d (zI (oM none))).1 64 j = σ.1 64 j := fun j h0 h1 h2 => by rw [sI_o _ _ _ _ (by omega), u3 j h2, gd_64 _ h0 h1, g1 64 (by omega) (by omega) (by omega) (by omega)]
          have k3 : ∀ j, j ≠ 13 → (sI υ 69 d (zI (oM none))).1 0 j = σ.1 0 j := fun j h0 => by rw [kc 0 (by omega) (by omega) (by omega), hτ', sI_o _ _ _ _ (by omega), e2 0 (by omega) (by omega), sI_1, if_neg (by omega)]
          have k4 : (sI υ 69 d (zI (oM none))).2 = σ.2 := by rw [sI_2, u4]; show τ'.2 = σ.2; rw [hτ', sI_2]; exact e3
          have ok : SB t (setV s d none) := hc.sb.setV (fun r hr => by cases hr)
          have k50 : (sI υ 69 d (zI (oM none))).1 50 = τ.1 50 := by rw [kc 50 (by omega) (by omega) (by omega), hτ', sI_o _ _ _ _ (by omega)]
          have k49 : (sI υ 69 d (zI (oM none))).1 49 = τ.1 49 := by rw [kc 49 (by omega) (by omega) (by omega), hτ', sI_o _ _ _ _ (by omega)]
          refine RL_mk (T := T) (t := t) (s := setV s d none) (RC_act hc (by omega) ok (fun a h0 _ h2 _ h4 h5 h6 h7 h8 => k1 a h0 h2 h4 h5 h6 h7 h8) k4 k2 k3 ?_ ?_ ?_) 0 ?_ ?_ (by decide)
          · refine (hc.cs.setV d none).of (fun a h1 h2 => ?_) (by rw [k4]; rfl)
            rw [kc a (by omega) (by omega) (by omega), hτ']
            by_cases w : a = 29
            · subst w
              rw [sI_at, sI_at, g0 29 (by omega) (by omega) (by omega)]; rfl
            · rw [sI_o _ _ _ _ w, sI_o _ _ _ _ w, g0 a (by omega) (by omega) (by omega)]
          · rw [sI_at, u2 69 (by omega) (by omega), gd_o _ (by omega), g1 69 (by omega) (by omega) (by omega) (by omega)]
            exact hc.mv.setV (by omega) none
          · refine HS_act hH hH1 ok (act := (1, zI d, zI p, 0)) (Or.inr (Or.inl ⟨rfl, d, p, by omega, rfl, rfl, ?_⟩)) (by rw [k49]; exact e4) (by rw [sI_o _ _ _ _ (by omega)]; exact u5) (fun i hi => ?_) ?_ (fun i hi => ?_)
            · refine Prod.ext (funext fun z => ?_) rfl
              show s.vis z = if z = d then some p else (if z = d then none else s.vis z)
              by_cases w : z = d
              · rw [if_pos w, w]; exact hv
              · rw [if_neg w, if_neg w]
            · rw [k50, e5 i hi, sI_o _ _ _ _ (by omega)]
            · rw [k50, e6, hv]; rfl
            · rw [sI_o _ _ _ _ (by omega)]; exact u6 i hi
          · rw [kc 0 (by omega) (by omega) (by omega), hτ', sI_o _ _ _ _ (by omega), e2 0 (by omega) (by omega), sI_1, if_pos ⟨rfl, rfl⟩]
          · rw [sI_o _ _ _ _ (by omega), u3 11 (by omega), gd_11]
      | false =>
        rw [if_pos (by decide), show f_X12_refused σ 5 = some (1, sI σ 0 13 5) from rfl, pbd2_s, if_neg (by decide)]
        have hc2 := RC_m hc 5
        refine ⟨_, _, _, rfl, ?_, RL_no hc 5 (by decide)⟩
        rw [if_neg (hz _ hc2.mc), m_isDay _ hb, decide_eq_true q2, pbd1_s, if_neg (by decide), m_visit hc2.mv hc2.tb hc2.sb (by omega), ho, pbd1_s, if_pos (by decide)]
    · rw [tr3_2 q q2, if_neg (by decide), refu_2, pbd2_s, if_neg (by decide)]
      have hc2 := RC_m hc 2
      refine ⟨_, _, _, rfl, ?_, RL_no hc 2 (by decide)⟩
      rw [if_neg (hz _ hc2.mc), m_isDay _ hb, decide_eq_false q2, pbd1_s, if_pos (by decide)]
  · rw [tr3_1 q, if_neg (by decide), refu_1, pbd2_s, if_neg (by decide)]
    have hc2 := RC_m hc 1
    refine ⟨_, _, _, rfl, ?_, RL_no hc 1 (by decide)⟩
    rw [if_pos (by rw [hc2.has, decide_eq_false q]; rfl)]
theorem add_day {σ : Mem} {s : SS} {d : Int} (h : s.day < 30) (hd : 0 ≤ d ∧ d < 30) : ((zI s.day + zI d) < 30) ↔ (s.day : Int) + d < 30 := by
  rw [zI_add, show (30 : Int32) = zI 30 from rfl, zI_lt (by omega) (by omega)]
theorem rel_days (σ : Mem) (h : RLq σ) (y : Int32) : ∃ r σ1 σ2, f_X12_days σ y = some (r, σ1) ∧ f_X13_days σ1 y = some (r, σ2) ∧ RLq σ2 := by
  obtain ⟨T, t, s, hc, ht, hp⟩ := h
  obtain ⟨n, H, hH, hH1, hH0⟩ := hc.hist
  have hP := hc.tb.P
  have hb := zI_rng y
  have hday := hc.sb.day
  have a69 : aln 69 = 80 := rfl
  rw [zI_all y]
  generalize y.toInt = d at hb
  unfold f_X12_days f_X13_days f_X12_ofGoingBy
  rw [c_ofTown hc, pbd1_s, hc.cs.day]
  simp only [m_good, pbd1_s]
  by_cases q : 0 < t.P
  · have hz : ∀ τ, MC τ t s → ¬ τ.1 64 14 = 0 := fun τ hm => by rw [hm.has, decide_eq_true q]; decide
    rw [decide_eq_false (by omega), if_pos (by rfl)]
    by_cases q2 : 1 ≤ d ∧ d < 30
    · rw [if_neg (by rw [show (1 : Int32) = zI 1 from rfl, zI_lt (by omega) (by omega)]; omega), if_pos (by rw [show (30 : Int32) = zI 30 from rfl, zI_lt (by omega) (by omega)]; omega)]
      obtain ⟨d, rfl⟩ : ∃ i : Nat, d = i := ⟨d.toNat, by omega⟩
      have eq79 : ∀ τ, MC τ t s → τ.1 69 (79 : Int32).toNatClampNeg = zI s.day := fun τ hm => by
        have := hm.mv.day
        rwa [Nat.zero_add] at this
      by_cases q3 : s.day + d < 30
      · rw [if_pos ((add_day (σ := σ) hday (by omega)).2 (by omega)), pbd1_s, refu_0, pbd2_s, if_pos rfl, pnm_e, sI_o _ _ _ _ (by omega), hc.cs.day, zI_add]
        obtain ⟨τ, e1, e2, e3, e4, e5, e6⟩ := c_note (σ := sI (sI σ 0 13 0) 28 1 (zI ((s.day : Int) + d))) (n := n) (by rw [sI_o _ _ _ _ (by omega), sI_o _ _ _ _ (by omega)]; exact hH.cnt) hH.n16 3 (zI d) 0 0
        rw [e1, pbd1_s]
        have g1 : ∀ a, a ≠ 0 → a ≠ 28 → a ≠ 49 → a ≠ 50 → τ.1 a = σ.1 a := fun a h0 h1 h2 h3 => by rw [e2 a h2 h3, sI_o _ _ _ _ h1, sI_o _ _ _ _ h0]
        have hM : MC (gd τ) t s := hc.mc.of (by rw [gd_o _ (by omega), g1 _ (by omega) (by omega) (by omega) (by omega)]) (by rw [gd_o _ (by omega), g1 _ (by omega) (by omega) (by omega) (by omega)]) (by rw [gd_64 _ (by omega) (by omega), g1 _ (by omega) (by omega) (by omega) (by omega)]) (by rw [gd_64 _ (by omega) (by omega), g1 _ (by omega) (by omega) (by omega) (by omega)])
        have hN : HM (gd τ) t n H := hH.hm.of (by rw [gd_64 _ (by omega) (by omega), g1 _ (by omega) (by omega) (by omega) (by omega)]) (by rw [gd_o _ (by omega), g1 _ (by omega) (by omega) (by omega) (by omega)])
        obtain ⟨υ, u1, u2, u3, u4, u5, u6⟩ := m_note hN (by rw [hH1]; exact hM.mv)
        have hu : υ.1 69 = (gd τ).1 69 := u2 69 (by omega) (by omega)
        have e28 : τ.1 28 1 = zI ((s.day : Int) + d) := by rw [e2 28 (by omega) (by omega), sI_1, if_pos ⟨rfl, rfl⟩]
        rw [e28]
        refine ⟨zI ((s.day : Int) + d), τ, sI υ 69 79 (zI ((s.day : Int) + d)), rfl, ?_, ?_⟩
        · rw [if_neg (hz _ hM), show (1 : Int32) = zI 1 from rfl, show (29 : Int32) = zI 29 from rfl, f_in _ _ _ hb (by omega) (by omega), decide_eq_true (by omega), pbd1_s, if_neg (by decide), show (79 : Int32) = zI 79 from rfl, ixd_in (by omega), show (zI 79) = (79 : Int32) from rfl, eq79 _ hM, if_pos ((add_day (σ := σ) hday (by omega)).2 (by omega)), u1, pbd1_s, hu, eq79 _ hM, show (79 : Int32) = zI 79 from rfl, ixd_in (by omega), ixd_in (by omega), pnm_e, ixd_in (by omega), zI_add, sI_1, if_pos ⟨rfl, rfl⟩]
          rfl
        · have kc : ∀ a, a ≠ 64 → a ≠ 69 → a ≠ 70 → (sI υ 69 79 (zI ((s.day : Int) + d))).1 a = τ.1 a := fun a h4 h5 h6 => by rw [sI_o _ _ _ _ h5, u2 a h4 h6, gd_o _ h4]
          have k1 : ∀ a, a ≠ 0 → a ≠ 28 → a ≠ 49 → a ≠ 50 → a ≠ 64 → a ≠ 69 → a ≠ 70 → (sI υ 69 79 (zI ((s.day : Int) + d))).1 a = σ.1 a := fun a h0 h1 h2 h3 h4 h5 h6 => by rw [kc a h4 h5 h6, g1 a h0 h1 h2 h3]
          have k2 : ∀ j, j ≠ 0 → j ≠ 11 → j ≠ 20 → (sI υ 69 79 (zI ((s.day : Int) + d))).1 64 j = σ.1 64 j := fun j h0 h1 h2 => by rw [sI_o _ _ _ _ (by omega), u3 j h2, gd_64 _ h0 h1, g1 64 (by omega) (by omega) (by omega) (by omega)]
          have k3 : ∀ j, j ≠ 13 → (sI υ 69 79 (zI ((s.day : Int) + d))).1 0 j = σ.1 0 j := fun j h0 => by rw [kc 0 (by omega) (by omega) (by omega), e2 0 (by omega) (by omega), sI_o _ _ _ _ (by omega), sI_1, if_neg (by omega)]
          have k4 : (sI υ 69 79 (zI ((s.day : Int) + d))).2 = σ.2 := by rw [sI_2, u4]; exact e3
          have ok : SB t (SS.mk s.vis (s.day + d) s.sk) := ⟨hc.sb.vis, q3, hc.sb.n, fun c hcm => by
            have := hc.sb.skb c hcm
            exact ⟨this.1, Nat.le_trans this.2.1 (Nat.le_add_right _ _), this.2.2⟩⟩
          have kx : ∀ a, 29 ≤ a → a ≤ 31 → (sI υ 69 79 (zI ((s.day : Int) + d))).1 a = σ.1 a := fun a h1 h2 => k1 a (by omega) (by omega) (by omega) (by omega) (by omega) (by omega) (by omega)
          refine RL_mk (T := T) (t := t) (s := SS.mk s.vis (s.day + d) s.sk) (RC_act hc (by omega) ok (fun a h0 h2 _ _ h4 h5 h6 h7 h8 => k1 a h0 h2 h4 h5 h6 h7 h8) k4 k2 k3 ?_ ?_ ?_) 0 ?_ ?_ (by decide)
          · refine ⟨hc.cs.at_, by rw [k4]; exact hc.cs.town, ?_, ?_, fun z hz => ?_, fun p z hp hz => ?_⟩
            · rw [kc 28 (by omega) (by omega) (by omega), e28]; rfl
            · rw [kc 28 (by omega) (by omega) (by omega), e2 28 (by omega) (by omega), sI_1, if_neg (by omega), sI_o _ _ _ _ (by omega)]; exact hc.cs.n
            · rw [kx _ (by omega) (by omega)]; exact hc.cs.vis z hz
            · rw [kx _ (by omega) (by omega)]; exact hc.cs.look p z hp hz
          · rw [sI_at, hu, gd_o _ (by omega), g1 69 (by omega) (by omega) (by omega) (by omega)]
            have hm := hc.mv
            exact ⟨fun z hz => by rw [upd_ne _ _ (by omega)]; exact hm.vis z hz, fun k c hcm => by
              have hk : k < s.sk.length := by
                rcases Nat.lt_or_ge k s.sk.length with q | q
                · exact q
                · have hcm : s.sk[k]? = some c := hcm
                  rw [List.getElem?_eq_none q] at hcm; cases hcm
              have := hc.sb.n
              rw [upd_ne _ _ (by omega), upd_ne _ _ (by omega), upd_ne _ _ (by omega), upd_ne _ _ (by omega)]; exact hm.sk k c hcm, by rw [upd_ne _ _ (by omega)]; exact hm.n, by rw [upd_self]; rfl⟩
          · refine HS_act hH hH1 ok (act := (3, zI d, 0, 0)) (Or.inr (Or.inr (Or.inr ⟨rfl, d, rfl, rfl, rfl, rfl⟩))) (by rw [kc 49 (by omega) (by omega) (by omega)]; exact e4) (by rw [sI_o _ _ _ _ (by omega)]; exact u5) (fun i hi => ?_) ?_ (fun i hi => ?_)
            · rw [kc 50 (by omega) (by omega) (by omega), e5 i hi, sI_o _ _ _ _ (by omega), sI_o _ _ _ _ (by omega)]
            · rw [kc 50 (by omega) (by omega) (by omega), e6]
            · rw [sI_o _ _ _ _ (by omega)]; exact u6 i hi
          · rw [kc 0 (by omega) (by omega) (by omega), e2 0 (by omega) (by omega), sI_o _ _ _ _ (by omega), sI_1, if_pos ⟨rfl, rfl⟩]
          · rw [sI_o _ _ _ _ (by omega), u3 11 (by omega), gd_11]
      · rw [if_neg (fun x => q3 (by have := (add_day (σ := σ) hday (by omega)).1 x; omega)), pbd1_s, show f_X12_refused σ 3 = some (1, sI σ 0 13 3) from rfl, pbd2_s, if_neg (by decide)]
        have hc2 := RC_m hc 3
        refine ⟨_, _, _, rfl, ?_, RL_no hc 3 (by decide)⟩
        rw [if_neg (hz _ hc2.mc), show (1 : Int32) = zI 1 from rfl, show (29 : Int32) = zI 29 from rfl, f_in _ _ _ hb (by omega) (by omega), decide_eq_true (by omega), pbd1_s, if_neg (by decide), show (79 : Int32) = zI 79 from rfl, ixd_in (by omega), show (zI 79) = (79 : Int32) from rfl, eq79 _ hc2.mc, if_neg (fun x => q3 (by have := (add_day (σ := σ) hday (by omega)).1 x; omega)), m_no]
        rfl
    · have e : (if zI d < 1 then some (2 : Int32) else if zI d < 30 then (if zI s.day + zI d < 30 then some 0 else some 3) else some 2) = some 2 := by
        by_cases w : d < 1
        · rw [if_pos (by rw [show (1 : Int32) = zI 1 from rfl, zI_lt (by omega) (by omega)]; omega)]
        · rw [if_neg (by rw [show (1 : Int32) = zI 1 from rfl, zI_lt (by omega) (by omega)]; omega), if_neg (by rw [show (30 : Int32) = zI 30 from rfl, zI_lt (by omega) (by omega)]; omega)]
      rw [e, pbd1_s, refu_2, pbd2_s, if_neg (by decide)]
      have hc2 := RC_m hc 2
      refine ⟨_, _, _, rfl, ?_, RL_no hc 2 (by decide)⟩
      rw [if_neg (hz _ hc2.mc), show (1 : Int32) = zI 1 from rfl, show (29 : Int32) = zI 29 from rfl, f_in _ _ _ hb (by omega) (by omega), decide_eq_false (by omega), pbd1_s, if_pos (by decide), m_no]
      rfl
  · rw [decide_eq_true (by omega), if_neg (by decide), pbd1_s, refu_1, pbd2_s, if_neg (by decide)]
    have hc2 := RC_m hc 1
    refine ⟨_, _, _, rfl, ?_, RL_no hc 1 (by decide)⟩
    rw [if_pos (by rw [hc2.has, decide_eq_false q]; rfl), m_no]
    rfl
theorem lk_add (t : TT) (E : List (Nat × Nat × Nat × Nat)) (c : Nat × Nat × Nat × Nat) (q d : Nat) : lk t (E ++ [c]) q d = if q = c.1 ∧ c.2.1 ≤ d then fu (lk t E q d) c.2.2.1 ((lk t E q d c.2.2.1 + c.2.2.2) % 4) else lk t E q d := by
  by_cases w : q = c.1 ∧ c.2.1 ≤ d
  · rw [if_pos w]
    funext m
    simp only [fu, lk, adds_app, adds]
    by_cases e : m = c.2.2.1
    · subst e
      rw [if_pos rfl, if_pos ⟨w.1.symm, w.2, rfl⟩]; omega
    · rw [if_neg e, if_neg (fun x => e x.2.2.symm)]; rfl
  · rw [if_neg w]
    funext m
    simp only [lk, adds_app, adds]
    rw [if_neg (fun x => w ⟨x.1.symm, x.2.1⟩)]; rfl
theorem lk_sub (t : TT) (E : List (Nat × Nat × Nat × Nat)) (c : Nat × Nat × Nat × Nat) (hc : c.2.2.2 ≤ 4) (q d : Nat) : lk t E q d = if q = c.1 ∧ c.2.1 ≤ d then fu (lk t (E ++ [c]) q d) c.2.2.1 ((lk t (E ++ [c]) q d c.2.2.1 + (4 - c.2.2.2)) % 4) else lk t (E ++ [c]) q d := by
  rw [lk_add]
  by_cases w : q = c.1 ∧ c.2.1 ≤ d
  · rw [if_pos w, if_pos w]
    funext m
    have := lk_lt t E q d m
    unfold fu
    by_cases e : m = c.2.2.1
    · subst e
      rw [if_pos rfl, if_pos rfl]; omega
    · rw [if_neg e, if_neg e]
  · rw [if_neg w, if_neg w]
theorem c_goOn {σ : Mem} {k T : Nat} {t : TT} {E : List (Nat × Nat × Nat × Nat)} {s : SS} (h : CS σ k T t E s) (tb : TB t) {p m fr by_ : Nat} (hp : p < t.P) (hm : m < 6) (hfr : fr ≤ 30) : ∃ τ, f_X5_goOn σ (k + 2) (zI p) (zI m) (zI fr) (zI by_) = some τ ∧ τ.2 = σ.2 ∧ (∀ a, a ≠ k + 3 → τ.1 a = σ.1 a) ∧ ∀ q d, q < t.P → d < 30 → τ.1 (k + 3) (q * 30 + d) = zI (e5 (if q = p ∧ fr ≤ d then fu (lk t E q d) m ((lk t E q d m + by_) % 4) else lk t E q d)) := by
  have hP := tb.P
  have ha := (cs_aln h.at_).2
  let g : Nat → Nat → Int32 := fun i j => if p * 30 + fr ≤ j ∧ j < p * 30 + i then zI (e5 (fu (lk t E p (j - p * 30)) m ((lk t E p (j - p * 30) m + by_) % 4))) else σ.1 (k + 3) j
  refine ⟨sA σ (k + 3) (g 30), ?_, rfl, fun a ha => sA_o _ _ _ ha, fun q d hq hd => ?_⟩
  · unfold f_X5_goOn
    rw [pnm_e, if_neg (by rw [show (0 : Int32) = zI 0 from rfl, zI_lt (by omega) (by omega)]; omega)]
    refine fx2_run (fun i => zI (fr + i : Nat)) (fun i => sA σ (k + 3) (g (fr + i))) (30 - fr) 0 (by omega) rfl ?_ (fun k2 => ?_) (fun i hi k2 => ?_)
    · rw [show g (fr + 0) = σ.1 (k + 3) from funext fun j => if_neg (by omega), sA_self]
    · rw [show fr + (30 - fr) = 30 from by omega, if_pos (by decide)]
    · obtain ⟨d, hd⟩ : ∃ d, d = fr + i := ⟨_, rfl⟩
      rw [← hd, show fr + (i + 1) = d + 1 from by omega]
      have hat : (sA σ (k + 3) (g d)).1 (k + 3) (p * 30 + d) = zI (e5 (lk t E p d)) := by
        rw [sA_at]
        show (if p * 30 + fr ≤ p * 30 + d ∧ p * 30 + d < p * 30 + d then _ else _) = _
        rw [if_neg (by omega)]; exact h.look p d hp (by omega)
      rw [show (30 : Int32) = zI 30 from rfl, if_neg (by rw [zI_le (by omega) (by omega)]; omega), show (5 : Int32) = zI 5 from rfl, f_inside _ _ (by omega) (by omega), decide_eq_true (by omega), pbd1_s, if_neg (by decide)]
      have e1 : f_X5_at (sA σ (k + 3) (g d)) (k + 2) (zI p) (zI d) = some (zI (e5 (lk t E p d))) := by
        unfold f_X5_at
        rw [show k + 2 + 1 = k + 3 from rfl]
        simp (disch := omega) only [jn0_e, jn1_e, jn2_e, pnm_e, pbd1_s, pbd2_s, prfc_s, onm_sm, onm_nn, zI_lit, zI_nI, zI_add, zI_sub, zI_mul, zI_neg, zI_lt, zI_le, zI_eq, zI_nat, zI_div, zI_mod, ixd_in, dvd_ne]
        rw [if_neg (by omega), if_neg (by omega), if_neg (by omega), if_neg (by omega), show ((p : Int) * 30 + d).toNat = p * 30 + d from by omega, hat]
      rw [e1, pbd1_s, c_gone (lk_lt _ _ _ _) hm, pbd1_s, show zI p * zI 30 + zI d = zI (p * 30 + d : Nat) from by rw [zI_mul, zI_add]; congr 1, show k + 2 + 1 = k + 3 from rfl, f_setN (by omega) (by omega), pbd1_s, pnm_e, sI_sA, show zI d + 1 = zI (d + 1 : Nat) from by rw [show (1 : Int32) = zI 1 from rfl, zI_add]; rfl]
      refine congrArg (k2 (zI (d + 1 : Nat))) (congrArg _ (funext fun j => ?_))
      unfold upd
      show (if j = p * 30 + d then _ else (if p * 30 + fr ≤ j ∧ j < p * 30 + d then _ else _)) = (if p * 30 + fr ≤ j ∧ j < p * 30 + (d + 1) then _ else _)
      by_cases q : j = p * 30 + d
      · subst q; rw [if_pos rfl, if_pos (by omega), show p * 30 + d - p * 30 = d from by omega]
      · rw [if_neg q]
        by_cases q2 : p * 30 + fr ≤ j ∧ j < p * 30 + d
        · rw [if_pos q2, if_pos (by omega)]
        · rw [if_neg q2, if_neg (by omega)]
  · rw [sA_at]
    show (if p * 30 + fr ≤ q * 30 + d ∧ q * 30 + d < p * 30 + 30 then _ else _) = _
    by_cases w : q = p ∧ fr ≤ d
    · obtain ⟨rfl, w⟩ := w
      rw [if_pos (by omega), if_pos ⟨rfl, w⟩, show q * 30 + d - q * 30 = d from by omega]
    · rw [if_neg (by omega), if_neg w]; exact h.look q d hq hd
theorem c_ofShock {σ : Mem} {T : Nat} {t : TT} {s : SS} (h : RC σ T t s) (p m b : Int) (hp : -2147483648 ≤ p ∧ p < 2147483648) (hm : -2147483648 ≤ m ∧ m < 2147483648) (hb : -2147483648 ≤ b ∧ b < 2147483648) : f_X12_ofShock σ (zI p) (zI m) (zI b) = some (if (0 ≤ p ∧ p < t.P) ∧ 0 ≤ m ∧ m < t.ms then (if 1 ≤ b ∧ b ≤ 3 then (if s.sk.length = 12 then 3 else 0) else 2) else 1) := by
  have hms := h.tb.ms
  have hn := h.sb.n
  unfold f_X12_ofShock
  rw [c_ofPerson h _ hp, pbd1_s, h.town, prfc_s, h.ct.ms, f_inside _ _ hm (by omega), pbd1_s, h.cs.n]
  simp (disch := omega) only [jn0_e, jn1_e, jn2_e, pnm_e, pbd1_s, pbd2_s, prfc_s, onm_sm, onm_nn, zI_lit, zI_nI, zI_add, zI_sub, zI_mul, zI_neg, zI_lt, zI_le, zI_eq, zI_nat, zI_div, zI_mod, ixd_in, dvd_ne]
  by_cases q : 0 ≤ p ∧ p < (t.P : Int)
  · rw [decide_eq_true q, if_pos (by rfl)]
    by_cases q2 : 0 ≤ m ∧ m < (t.ms : Int)
    · have qq : (0 ≤ p ∧ p < (t.P : Int)) ∧ 0 ≤ m ∧ m < (t.ms : Int) := ⟨q, q2⟩
      rw [decide_eq_true q2, if_neg (by decide), if_pos qq]
      by_cases q3 : 1 ≤ b ∧ b ≤ 3
      · rw [if_neg (by omega), if_pos (by omega), if_pos q3]
        by_cases q4 : s.sk.length = 12
        · rw [if_neg (by omega), if_pos q4]
        · rw [if_pos (by omega), if_neg q4]
      · rw [if_neg q3]
        by_cases q4 : b < 1
        · rw [if_pos q4]
        · rw [if_neg q4, if_neg (by omega)]
    · rw [decide_eq_false q2, if_pos (by decide), if_neg (fun x => q2 x.2)]
  · rw [decide_eq_false q, if_neg (by decide), if_neg (fun x => q x.1)]
theorem sk_get {α : Type} {L : List α} {x c : α} {k : Nat} (h : (L ++ [x])[k]? = some c) : (k < L.length ∧ L[k]? = some c) ∨ (k = L.length ∧ c = x) := by
  rcases Nat.lt_or_ge k L.length with q | q
  · left
    rw [List.getElem?_append_left q] at h; exact ⟨q, h⟩
  · right
    rw [List.getElem?_append_right q] at h
    have : k - L.length = 0 := by
      rcases Nat.eq_zero_or_pos (k - L.length) with w | w
      · exact w
      · rw [List.getElem?_eq_none (by simp; omega)] at h; cases h
    rw [this] at h
    exact ⟨by omega, (Option.some.inj h).symm⟩
theorem rel_shock (σ : Mem) (h : RLq σ) (x y z : Int32) : ∃ r σ1 σ2, f_X12_shock σ x y z = some (r, σ1) ∧ f_X13_shock σ1 x y z = some (r, σ2) ∧ RLq σ2 := by
  obtain ⟨T, t, s, hc, ht, hp⟩ := h
  obtain ⟨n, H, hH, hH1, hH0⟩ := hc.hist
  have hP := hc.tb.P
  have hms := hc.tb.ms
  have hn := hc.sb.n
  have hday := hc.sb.day
  have ha := zI_rng x
  have hb := zI_rng y
  have hd := zI_rng z
  have a69 : aln 69 = 80 := rfl
  rw [zI_all x, zI_all y, zI_all z]
  generalize x.toInt = p at ha
  generalize y.toInt = m at hb
  generalize z.toInt = b at hd
  unfold f_X12_shock f_X13_shock
  rw [c_ofShock hc _ _ _ ha hb hd, pbd1_s]
  simp only [m_good, pbd1_s, jn0_e, m_isNot]
  by_cases q : (0 ≤ p ∧ p < t.P) ∧ 0 ≤ m ∧ m < t.ms
  · have hm1 : ∀ τ, MC τ t s → ∀ β (k1 k2 : Option β), bd1 (f_X13_isPerson τ (zI p)) (fun (r_2 : Int32) => if r_2 = 0 then k1 else bd1 (f_X13_isMark τ (zI m)) (fun (r_6 : Int32) => if r_6 = 0 then k1 else k2)) = k2 := fun τ hτ β k1 k2 => by
      rw [hτ.isPerson _ ha, decide_eq_true q.1, pbd1_s, if_neg (by decide), hτ.isMark _ (by omega) hb, decide_eq_true q.2, pbd1_s, if_neg (by decide)]
    rw [if_pos q]
    by_cases q2 : 1 ≤ b ∧ b ≤ 3
    · rw [if_pos q2]
      have hm2 : f_X13_in (zI b) 1 3 = some (bI true) := by
        rw [show (1 : Int32) = zI 1 from rfl, show (3 : Int32) = zI 3 from rfl, f_in _ _ _ hd (by omega) (by omega), decide_eq_true q2]
      have eq78 : ∀ τ, MC τ t s → τ.1 69 (78 : Int32).toNatClampNeg = zI s.sk.length := fun τ hm => by
        have := hm.mv.n
        rwa [Nat.zero_add] at this
      by_cases q3 : s.sk.length = 12
      · rw [if_pos q3, show f_X12_refused σ 3 = some (1, sI σ 0 13 3) from rfl, pbd2_s, if_neg (by decide)]
        have hc2 := RC_m hc 3
        refine ⟨_, _, _, rfl, ?_, RL_no hc 3 (by decide)⟩
        rw [hm1 _ hc2.mc, hm2, pbd1_s, if_neg (by decide), show (78 : Int32) = zI 78 from rfl, ixd_in (by omega), show (zI 78) = (78 : Int32) from rfl, eq78 _ hc2.mc, q3, if_pos (by rfl)]
      · rw [if_neg q3, refu_0, pbd2_s, if_pos rfl]
        obtain ⟨p, rfl⟩ : ∃ i : Nat, p = i := ⟨p.toNat, by omega⟩
        obtain ⟨m, rfl⟩ : ∃ i : Nat, m = i := ⟨m.toNat, by omega⟩
        obtain ⟨b, rfl⟩ : ∃ i : Nat, b = i := ⟨b.toNat, by omega⟩
        have hc1 := RC_c hc 0
        obtain ⟨τ0, w1, w2, w3, w4⟩ := c_goOn hc1.cs hc.tb (p := p) (m := m) (fr := s.day) (by_ := b) (by omega) (by omega) (by omega)
        have e28 : (sI σ 0 13 0).1 28 1 = zI s.day := by rw [sI_o _ _ _ _ (by omega)]; exact hc.cs.day
        rw [e28, w1, pbd1_s, pnm_e, w3 28 (by omega), hc1.cs.n, show zI s.sk.length + 1 = zI ((s.sk.length : Int) + 1) from by rw [show (1 : Int32) = zI 1 from rfl, zI_add]]
        obtain ⟨τ, e1, e2, e3, e4, e5, e6⟩ := c_note (σ := sI τ0 28 2 (zI ((s.sk.length : Int) + 1))) (n := n) (by rw [sI_o _ _ _ _ (by omega), w3 49 (by omega), sI_o _ _ _ _ (by omega)]; exact hH.cnt) hH.n16 2 (zI p) (zI m) (zI b)
        rw [e1, pbd1_s]
        have g1 : ∀ a, a ≠ 0 → a ≠ 28 → a ≠ 31 → a ≠ 49 → a ≠ 50 → τ.1 a = σ.1 a := fun a h0 h1 h2 h3 h4 => by rw [e2 a h3 h4, sI_o _ _ _ _ h1, w3 a h2, sI_o _ _ _ _ h0]
        have hM : MC (gd τ) t s := hc.mc.of (by rw [gd_o _ (by omega), g1 _ (by omega) (by omega) (by omega) (by omega) (by omega)]) (by rw [gd_o _ (by omega), g1 _ (by omega) (by omega) (by omega) (by omega) (by omega)]) (by rw [gd_64 _ (by omega) (by omega), g1 _ (by omega) (by omega) (by omega) (by omega) (by omega)]) (by rw [gd_64 _ (by omega) (by omega), g1 _ (by omega) (by omega) (by omega) (by omega) (by omega)])
        have hN : HM (gd τ) t n H := hH.hm.of (by rw [gd_64 _ (by omega) (by omega), g1 _ (by omega) (by omega) (by omega) (by omega) (by omega)]) (by rw [gd_o _ (by omega), g1 _ (by omega) (by omega) (by omega) (by omega) (by omega)])
        obtain ⟨υ, u1, u2, u3, u4, u5, u6⟩ := m_note hN (by rw [hH1]; exact hM.mv)
        have hu : υ.1 69 = (gd τ).1 69 := u2 69 (by omega) (by omega)
        obtain ⟨ω, hω⟩ : ∃ ω, ω = sI (sI (sI (sI (sI υ 69 (30 + 4 * s.sk.length) (zI p)) 69 (30 + 4 * s.sk.length + 1) (zI s.day)) 69 (30 + 4 * s.sk.length + 2) (zI m)) 69 (30 + 4 * s.sk.length + 3) (zI b)) 69 78 (zI ((s.sk.length : Int) + 1)) := ⟨_, rfl⟩
        have ho : ∀ a, a ≠ 69 → ω.1 a = υ.1 a := fun a h => by rw [hω, sI_o _ _ _ _ h, sI_o _ _ _ _ h, sI_o _ _ _ _ h, sI_o _ _ _ _ h, sI_o _ _ _ _ h]
        refine ⟨1, τ, ω, rfl, ?_, ?_⟩
        · have d79 := hM.mv.day
          rw [Nat.zero_add] at d79
          have d78 := hM.mv.n
          rw [Nat.zero_add] at d78
          rw [hm1 _ hM, hm2, pbd1_s, if_neg (by decide)]
          have i78 : ∀ β (k : Option β), ixd 78 (aln 69) k = k := fun β k => by rw [show (78 : Int32) = zI 78 from rfl, ixd_in (by omega)]
          have i79 : ∀ β (k : Option β), ixd 79 (aln 69) k = k := fun β k => by rw [show (79 : Int32) = zI 79 from rfl, ixd_in (by omega)]
          simp only [i78, i79]
          rw [eq78 _ hM, if_neg (by rw [show (12 : Int32) = zI 12 from rfl, zI_eq (by omega) (by omega)]; omega), u1, pbd1_s, show (78 : Int32).toNatClampNeg = 78 from rfl, show (79 : Int32).toNatClampNeg = 79 from rfl, hu, d78, pnm_e, show (30 : Int32) + 4 * zI s.sk.length = zI (30 + 4 * s.sk.length : Nat) from by rw [show (4 : Int32) = zI 4 from rfl, show (30 : Int32) = zI 30 from rfl, zI_mul, zI_add]; congr 1]
          have ex : ∀ (j : Nat), j < 4 → zI (30 + 4 * s.sk.length : Nat) + zI j = zI (30 + 4 * s.sk.length + j : Nat) := fun j hj => by rw [zI_add]; congr 1
          have ex1 := ex 1 (by omega)
          have ex2 := ex 2 (by omega)
          have ex3 := ex 3 (by omega)
          have ex1 : zI (30 + 4 * s.sk.length : Nat) + 1 = _ := ex1
          have ex2 : zI (30 + 4 * s.sk.length : Nat) + 2 = _ := ex2
          have ex3 : zI (30 + 4 * s.sk.length : Nat) + 3 = _ := ex3
          simp only [pnm_e]
          rw [ex1, ex2, ex3]
          have nt : ∀ j : Nat, j < 80 → (zI j).toNatClampNeg = j := fun j hj => by rw [zI_nat (by omega)]; omega
          rw [ixd_in (by omega), ixd_in (by omega), ixd_in (by omega), ixd_in (by omega), nt _ (by omega), nt _ (by omega), nt _ (by omega), nt _ (by omega), sI_1, if_neg (by omega), hu, d79, sI_1, if_neg (by omega), sI_1, if_neg (by omega), sI_1, if_neg (by omega), sI_1, if_neg (by omega), hu, d78, show zI s.sk.length + 1 = zI ((s.sk.length : Int) + 1) from by rw [show (1 : Int32) = zI 1 from rfl, zI_add], hω]
        · have kc : ∀ a, a ≠ 64 → a ≠ 69 → a ≠ 70 → ω.1 a = τ.1 a := fun a h4 h5 h6 => by rw [ho _ h5, u2 a h4 h6, gd_o _ h4]
          have k1 : ∀ a, a ≠ 0 → a ≠ 28 → a ≠ 31 → a ≠ 49 → a ≠ 50 → a ≠ 64 → a ≠ 69 → a ≠ 70 → ω.1 a = σ.1 a := fun a h0 h1 h2 h3 h4 h5 h6 h7 => by rw [kc a h5 h6 h7, g1 a h0 h1 h2 h3 h4]
          have k2 : ∀ j, j ≠ 0 → j ≠ 11 → j ≠ 20 → ω.1 64 j = σ.1 64 j := fun j h0 h1 h2 => by rw [ho _ (by omega), u3 j h2, gd_64 _ h0 h1, g1 64 (by omega) (by omega) (by omega) (by omega) (by omega)]
          have k3 : ∀ j, j ≠ 13 → ω.1 0 j = σ.1 0 j := fun j h0 => by rw [kc 0 (by omega) (by omega) (by omega), e2 0 (by omega) (by omega), sI_o _ _ _ _ (by omega), w3 0 (by omega), sI_1, if_neg (by omega)]
          have k4 : ω.2 = σ.2 := by rw [hω]; show υ.2 = _; rw [u4]; show τ.2 = _; rw [e3, sI_2, w2]; rfl
          have ok : SB t (SS.mk s.vis s.day (s.sk ++ [(p, s.day, m, b)])) := ⟨hc.sb.vis, hday, by show (s.sk ++ [(p, s.day, m, b)]).length ≤ 12; rw [List.length_append]; show s.sk.length + 1 ≤ 12; omega, fun c hcm => by
            have hcm : c ∈ s.sk ++ [(p, s.day, m, b)] := hcm
            rcases List.mem_append.1 hcm with hcm | hcm
            · exact hc.sb.skb c hcm
            · rw [List.mem_singleton.1 hcm]; exact ⟨by show p < t.P; omega, Nat.le_refl _, by show m < t.ms; omega, by show 1 ≤ b; omega, by show b ≤ 3; omega⟩⟩
          refine RL_mk (T := T) (t := t) (s := SS.mk s.vis s.day (s.sk ++ [(p, s.day, m, b)])) (RC_act hc (by omega) ok (fun a h0 h1 _ h3 h4 h5 h6 h7 h8 => k1 a h0 h1 h3 h4 h5 h6 h7 h8) k4 k2 k3 ?_ ?_ ?_) 0 ?_ ?_ (by decide)
          · refine ⟨hc.cs.at_, by rw [k4]; exact hc.cs.town, ?_, ?_, fun z hz => ?_, fun i z hi hz => ?_⟩
            · rw [kc 28 (by omega) (by omega) (by omega), e2 28 (by omega) (by omega), sI_1, if_neg (by omega), w3 28 (by omega), sI_o _ _ _ _ (by omega)]; exact hc.cs.day
            · rw [kc 28 (by omega) (by omega) (by omega), e2 28 (by omega) (by omega), sI_1, if_pos ⟨rfl, rfl⟩]
              show _ = zI ((s.sk ++ [(p, s.day, m, b)]).length : Nat)
              rw [List.length_append]; rfl
            · rw [k1 _ (by omega) (by omega) (by omega) (by omega) (by omega) (by omega) (by omega) (by omega)]; exact hc.cs.vis z hz
            · rw [kc 31 (by omega) (by omega) (by omega), e2 31 (by omega) (by omega), sI_o _ _ _ _ (by omega)]
              refine (w4 i z hi hz).trans ?_
              rw [show t.ch ++ (SS.mk s.vis s.day (s.sk ++ [(p, s.day, m, b)])).sk = (t.ch ++ s.sk) ++ [(p, s.day, m, b)] from (List.append_assoc _ _ _).symm, lk_add]
          · have nf : ∀ j, (j < 30 + 4 * s.sk.length ∨ j = 79) → ω.1 69 j = σ.1 69 j := fun j hj => by
              rw [hω, sI_1, if_neg (by omega), sI_1, if_neg (by omega), sI_1, if_neg (by omega), sI_1, if_neg (by omega), sI_1, if_neg (by omega), hu, gd_o _ (by omega), g1 69 (by omega) (by omega) (by omega) (by omega) (by omega)]
            have hmv := hc.mv
            refine ⟨fun d hd => ?_, fun k c hk => ?_, ?_, ?_⟩
            · rw [nf _ (by omega)]; exact hmv.vis d hd
            · rcases sk_get hk with ⟨q1, q2⟩ | ⟨q1, q2⟩
              · have := hmv.sk k c q2
                rw [nf _ (by omega), nf _ (by omega), nf _ (by omega), nf _ (by omega)]; exact this
              · subst q1; subst q2
                rw [hω]
                refine ⟨?_, ?_, ?_, ?_⟩
                · simp only [sI_1]; simp (disch := omega) only [if_neg, true_and, Nat.zero_add, if_true]
                · simp only [sI_1]; simp (disch := omega) only [if_neg, true_and, Nat.zero_add, if_true]
                · simp only [sI_1]; simp (disch := omega) only [if_neg, true_and, Nat.zero_add, if_true]
                · simp only [sI_1]; simp (disch := omega) only [if_neg, true_and, Nat.zero_add, if_true]
            · rw [hω, sI_1, if_pos ⟨rfl, by omega⟩]
              show _ = zI ((s.sk ++ [(p, s.day, m, b)]).length : Nat)
              rw [List.length_append]; rfl
            · rw [nf _ (by omega)]; exact hmv.day
          · refine HS_act hH hH1 ok (act := (2, zI p, zI m, zI b)) (Or.inr (Or.inr (Or.inl ⟨rfl, p, m, b, rfl, rfl, rfl, rfl, rfl, rfl⟩))) (by rw [kc 49 (by omega) (by omega) (by omega)]; exact e4) (by rw [ho _ (by omega)]; exact u5) (fun i hi => ?_) ?_ (fun i hi => ?_)
            · rw [kc 50 (by omega) (by omega) (by omega), e5 i hi, sI_o _ _ _ _ (by omega), w3 50 (by omega), sI_o _ _ _ _ (by omega)]
            · rw [kc 50 (by omega) (by omega) (by omega), e6]
            · rw [ho _ (by omega)]; exact u6 i hi
          · rw [kc 0 (by omega) (by omega) (by omega), e2 0 (by omega) (by omega), sI_o _ _ _ _ (by omega), w3 0 (by omega), sI_1, if_pos ⟨rfl, rfl⟩]
          · rw [ho _ (by omega), u3 11 (by omega), gd_11]
    · rw [if_neg q2, refu_2, pbd2_s, if_neg (by decide)]
      have hc2 := RC_m hc 2
      refine ⟨_, _, _, rfl, ?_, RL_no hc 2 (by decide)⟩
      rw [hm1 _ hc2.mc, show (1 : Int32) = zI 1 from rfl, show (3 : Int32) = zI 3 from rfl, f_in _ _ _ hd (by omega) (by omega), decide_eq_false q2, pbd1_s, if_pos (by decide)]
  · rw [if_neg q, refu_1, pbd2_s, if_neg (by decide)]
    have hc2 := RC_m hc 1
    refine ⟨_, _, _, rfl, ?_, RL_no hc 1 (by decide)⟩
    rw [hc2.mc.isPerson _ ha, pbd1_s]
    by_cases q1 : 0 ≤ p ∧ p < (t.P : Int)
    · rw [decide_eq_true q1, if_neg (by decide), hc2.mc.isMark _ (by omega) hb, pbd1_s, decide_eq_false (fun x => q ⟨q1, x⟩), if_pos (by decide)]
    · rw [decide_eq_false q1, if_pos (by decide)]
theorem c_takeBack {σ : Mem} {T : Nat} {t : TT} {s b : SS} {n : Nat} (cs : CS σ 28 T t (t.ch ++ s.sk) s) (tb : TB t) (sb : SB t s) (hn : n < 16) (h49 : σ.1 49 1 = zI (n + 1 : Nat)) (ua : UA (actOf (σ.1 50) n) s b) : ∃ τ, f_X1_takeBack σ 28 = some τ ∧ (∀ a, a ≠ 28 → a ≠ 29 → a ≠ 31 → a ≠ 49 → τ.1 a = σ.1 a) ∧ τ.2 = σ.2 ∧ τ.1 49 1 = zI n ∧ CS τ 28 T t (t.ch ++ b.sk) b := by
  have a50 : aln (49 + 1) = 64 := rfl
  have hms := tb.ms
  obtain ⟨σ1, hσ1⟩ : ∃ σ1, σ1 = sI σ 49 1 (zI n) := ⟨_, rfl⟩
  have g : ∀ j, j < 4 → f_X12_get σ1 (49 + 1) (zI (4 * n + j : Nat)) = some (σ.1 50 (4 * n + j)) := fun j hj => g_get (by rw [hσ1, sI_o _ _ _ _ (by omega)]) (by omega) (by omega)
  have g0 : f_X12_get σ1 (49 + 1) (zI (4 * n : Nat)) = some (σ.1 50 (4 * n)) := g 0 (by omega)
  have g1 : f_X12_get σ1 (49 + 1) (zI (4 * n : Nat) + 1) = some (σ.1 50 (4 * n + 1)) := by rw [show zI (4 * n : Nat) + 1 = zI (4 * n + 1 : Nat) from by rw [show (1 : Int32) = zI 1 from rfl, zI_add]; rfl]; exact g 1 (by omega)
  have g2 : f_X12_get σ1 (49 + 1) (zI (4 * n : Nat) + 2) = some (σ.1 50 (4 * n + 2)) := by rw [show zI (4 * n : Nat) + 2 = zI (4 * n + 2 : Nat) from by rw [show (2 : Int32) = zI 2 from rfl, zI_add]; rfl]; exact g 2 (by omega)
  have g3 : f_X12_get σ1 (49 + 1) (zI (4 * n : Nat) + 3) = some (σ.1 50 (4 * n + 3)) := by rw [show zI (4 * n : Nat) + 3 = zI (4 * n + 3 : Nat) from by rw [show (3 : Int32) = zI 3 from rfl, zI_add]; rfl]; exact g 3 (by omega)
  have cs1 : CS σ1 28 T t (t.ch ++ s.sk) s := cs.of (fun a h1 h2 => by rw [hσ1, sI_o _ _ _ _ (by omega)]) (by rw [hσ1]; rfl)
  have f1 : ∀ a, a ≠ 49 → σ1.1 a = σ.1 a := fun a h => by rw [hσ1, sI_o _ _ _ _ h]
  have f2 : σ1.2 = σ.2 := by rw [hσ1]; rfl
  have f3 : σ1.1 49 1 = zI n := by rw [hσ1, sI_1, if_pos ⟨rfl, rfl⟩]
  unfold f_X1_takeBack
  rw [h49, show zI (n + 1 : Nat) - 1 = zI n from by rw [show (1 : Int32) = zI 1 from rfl, zI_sub]; congr 1; omega, ← hσ1, pnm_e, pnm_e, f3, show zI n * 4 = zI (4 * n : Nat) from by rw [show (4 : Int32) = zI 4 from rfl, zI_mul]; congr 1; omega, g1, pbd1_s, g2, pbd1_s, g0, pbd1_s, g3]
  unfold UA actOf at ua
  dsimp only at ua
  rcases ua with ⟨q0, d, hd, q1, rfl⟩ | ⟨q0, d, p, hd, q1, q2, rfl⟩ | ⟨q0, p, m, v, q1, q2, q3, b1, b2, b3⟩ | ⟨q0, d, q1, b1, b2, b3⟩
  · rw [q0, if_pos (by decide), q1, c_set (Or.inl rfl) hd]
    exact ⟨_, rfl, fun a h1 h2 h3 h4 => by rw [sI_o _ _ _ _ h2, f1 a h4], f2, by rw [sI_o _ _ _ _ (by omega)]; exact f3, cs1.setV d none⟩
  · rw [q0, if_neg (by decide), if_pos (by decide), q1, q2, c_set (Or.inl rfl) hd]
    exact ⟨_, rfl, fun a h1 h2 h3 h4 => by rw [sI_o _ _ _ _ h2, f1 a h4], f2, by rw [sI_o _ _ _ _ (by omega)]; exact f3, cs1.setV d (some p)⟩
  · have hm := sb.skb (p, s.day, m, v) (by rw [b3]; simp)
    obtain ⟨m1, m2, m3, m4, m5⟩ := hm
    dsimp only at m1 m2 m3 m4 m5
    obtain ⟨τ0, w1, w2, w3, w4⟩ := c_goOn cs1 tb (p := p) (m := m) (fr := s.day) (by_ := 4 - v) m1 (by omega) (by have := sb.day; omega)
    rw [q0, if_neg (by decide), if_neg (by decide), if_pos (by decide), q1, q2, q3, pbd1_s, cs1.day, show (4 : Int32) - zI v = zI (4 - v : Nat) from by rw [show (4 : Int32) = zI 4 from rfl, zI_sub]; congr 1; omega, w1, pbd1_s, pnm_e, w3 28 (by omega), cs1.n]
    have hl : s.sk.length = b.sk.length + 1 := by rw [b3, List.length_append]; rfl
    refine ⟨_, rfl, fun a h1 h2 h3 h4 => by rw [sI_o _ _ _ _ h1, w3 a h3, f1 a h4], by rw [sI_2, w2, f2], by rw [sI_o _ _ _ _ (by omega), w3 49 (by omega)]; exact f3, ⟨cs.at_, ?_, ?_, ?_, fun z hz => ?_, fun q z hq hz => ?_⟩⟩
    · rw [sI_2, w2, f2]; exact cs.town
    · rw [sI_1, if_neg (by omega), w3 28 (by omega), cs1.day, b2]
    · rw [sI_1, if_pos ⟨rfl, rfl⟩, show (1 : Int32) = zI 1 from rfl, zI_sub]; congr 1; omega
    · rw [sI_o _ _ _ _ (by omega), w3 29 (by omega), b1]; exact cs1.vis z hz
    · rw [sI_o _ _ _ _ (by omega)]
      refine (w4 q z hq hz).trans ?_
      rw [b3, ← List.append_assoc]
      have := lk_sub t (t.ch ++ b.sk) (p, s.day, m, v) (by dsimp only; omega) q z
      dsimp only at this
      rw [← this]
  · rw [q0, if_neg (by decide), if_neg (by decide), if_neg (by decide), q1, pnm_e, cs1.day]
    refine ⟨_, rfl, fun a h1 h2 h3 h4 => by rw [sI_o _ _ _ _ h1, f1 a h4], f2, by rw [sI_o _ _ _ _ (by omega)]; exact f3, ⟨cs.at_, ?_, ?_, ?_, fun z hz => ?_, fun q z hq hz => ?_⟩⟩
    · rw [sI_2, f2]; exact cs.town
    · rw [sI_1, if_pos ⟨rfl, rfl⟩, zI_sub]; congr 1; omega
    · rw [sI_1, if_neg (by omega), b2]; exact cs1.n
    · rw [sI_o _ _ _ _ (by omega), b1]; exact cs1.vis z hz
    · rw [sI_o _ _ _ _ (by omega), b2]; exact cs1.look q z hq hz
theorem rel_undo (σ : Mem) (h : RLq σ) : ∃ r σ1 σ2, f_X12_undo σ = some (r, σ1) ∧ f_X13_undo σ1 = some (r, σ2) ∧ RLq σ2 := by
  obtain ⟨T, t, s, hc, ht, hp⟩ := h
  obtain ⟨n, H, hH, hH1, hH0⟩ := hc.hist
  have hn := hH.n16
  unfold f_X12_undo f_X13_undo
  rw [hH.cnt]
  simp only [m_good, pbd1_s, jn0_e, jn1_e, m_isNot]
  by_cases q : n = 0
  · rw [if_pos (by rw [q]; rfl), show f_X12_refused σ 6 = some (1, sI σ 0 13 6) from rfl, pbd2_s, if_neg (by decide)]
    refine ⟨_, _, _, rfl, ?_, RL_no hc 6 (by decide)⟩
    rw [if_pos (by rw [gd_64 _ (by omega) (by omega), sI_o _ _ _ _ (by omega), hH.cnm, q]; rfl)]
  · obtain ⟨m, rfl⟩ : ∃ m, n = m + 1 := ⟨n - 1, by omega⟩
    have hP : 0 < t.P := by
      rcases Nat.eq_zero_or_pos t.P with w | w
      · exact absurd (hH0 w) q
      · exact w
    rw [if_neg (by rw [show (0 : Int32) = zI 0 from rfl, zI_eq (by omega) (by omega)]; omega), refu_0, pbd2_s, if_pos rfl]
    have hc1 := RC_c hc 0
    obtain ⟨τ, e1, e2, e3, e4, e5⟩ := c_takeBack hc1.cs hc.tb hc.sb (n := m) (b := H m) (by omega) (by rw [sI_o _ _ _ _ (by omega)]; exact hH.cnt) (by rw [sI_o _ _ _ _ (by omega), ← hH1]; exact hH.back m (by omega))
    rw [e1, pbd1_s]
    have g1 : ∀ a, a ≠ 0 → a ≠ 28 → a ≠ 29 → a ≠ 31 → a ≠ 49 → τ.1 a = σ.1 a := fun a h0 h1 h2 h3 h4 => by rw [e2 a h1 h2 h3 h4, sI_o _ _ _ _ h0]
    have c20 : (gd τ).1 64 20 = zI (m + 1 : Nat) := by rw [gd_64 _ (by omega) (by omega), g1 64 (by omega) (by omega) (by omega) (by omega) (by omega)]; exact hH.cnm
    obtain ⟨υ, hυ⟩ : ∃ υ, υ = sI (gd τ) 64 20 (zI m) := ⟨_, rfl⟩
    have hu : ∀ a, a ≠ 64 → υ.1 a = τ.1 a := fun a h => by rw [hυ, sI_o _ _ _ _ h, gd_o _ h]
    have hcp := m_copy (σ := υ) (a := 70) (b := 69) (x := 80 * m) (y := 0) (n := 80) (by omega) (by show 80 * m + 80 ≤ 1280; omega) (by decide) (by decide) (by decide)
    refine ⟨1, τ, sA υ 69 (va_cpy (υ.1 70) (υ.1 69) (80 * m) 0 80), rfl, ?_, ?_⟩
    · rw [if_neg (by rw [c20, show (0 : Int32) = zI 0 from rfl, zI_eq (by omega) (by omega)]; omega), c20, pnm_e, show zI (m + 1 : Nat) - 1 = zI m from by rw [show (1 : Int32) = zI 1 from rfl, zI_sub]; congr 1; omega, ← hυ, show υ.1 64 20 = zI m from by rw [hυ, sI_1, if_pos ⟨rfl, rfl⟩], show (80 : Int32) * zI m = zI (80 * m : Nat) from by rw [show (80 : Int32) = zI 80 from rfl, zI_mul]; congr 1, show (0 : Int32) = zI ((0 : Nat) : Int) from rfl, show (80 : Int32) = zI ((80 : Nat) : Int) from rfl, hcp, pbd1_s]
    · have k0 : ∀ a, a ≠ 64 → a ≠ 69 → (sA υ 69 (va_cpy (υ.1 70) (υ.1 69) (80 * m) 0 80)).1 a = τ.1 a := fun a h1 h2 => by rw [sA_o _ _ _ h2, hu a h1]
      have k1 : ∀ j, j ≠ 0 → j ≠ 11 → j ≠ 20 → (sA υ 69 (va_cpy (υ.1 70) (υ.1 69) (80 * m) 0 80)).1 64 j = σ.1 64 j := fun j h0 h1 h2 => by rw [sA_o _ _ _ (by omega), hυ, sI_1, if_neg (by omega), gd_64 _ h0 h1, g1 64 (by omega) (by omega) (by omega) (by omega) (by omega)]
      have k2 : ∀ j, j ≠ 13 → (sA υ 69 (va_cpy (υ.1 70) (υ.1 69) (80 * m) 0 80)).1 0 j = σ.1 0 j := fun j h0 => by rw [k0 0 (by omega) (by omega), e2 0 (by omega) (by omega) (by omega) (by omega), sI_1, if_neg (by omega)]
      have k4 : (sA υ 69 (va_cpy (υ.1 70) (υ.1 69) (80 * m) 0 80)).2 = σ.2 := by rw [sA_2, hυ]; exact e3
      refine RL_mk (T := T) (t := t) (s := H m) (RC_act hc hP (hH.ok m (by omega)) (fun a h0 h1 h2 h3 h4 h5 h6 h7 h8 => by rw [k0 a h6 h7, g1 a h0 h1 h2 h3 h4]) k4 k1 k2 ?_ ?_ ⟨m, H, ⟨by omega, ?_, ?_, fun i hi => ?_, fun i hi => ?_, fun i hi => hH.ok i (by omega)⟩, rfl⟩) 0 ?_ ?_ (by decide)
      · exact e5.of (fun a h1 h2 => k0 a (by omega) (by omega)) (by rw [k4, e3]; rfl)
      · rw [sA_at]
        have hr := hH.row m (by omega)
        rw [hu 70 (by omega), g1 70 (by omega) (by omega) (by omega) (by omega) (by omega)]
        exact hr.cpy (hH.ok m (by omega)).n
      · rw [k0 49 (by omega) (by omega)]; exact e4
      · rw [sA_o _ _ _ (by omega), hυ, sI_1, if_pos ⟨rfl, rfl⟩]
      · rw [k0 50 (by omega) (by omega), g1 50 (by omega) (by omega) (by omega) (by omega) (by omega)]; exact hH.back i (by omega)
      · rw [k0 70 (by omega) (by omega), g1 70 (by omega) (by omega) (by omega) (by omega) (by omega)]; exact hH.row i (by omega)
      · rw [k0 0 (by omega) (by omega), e2 0 (by omega) (by omega) (by omega) (by omega), sI_1, if_pos ⟨rfl, rfl⟩]
      · rw [sA_o _ _ _ (by omega), hυ, sI_1, if_neg (by omega), gd_11]
theorem rel_image (σ : Mem) (h : RLq σ) : ∃ r σ1 σ2, f_X12_image σ = some (r, σ1) ∧ f_X13_image σ1 = some (r, σ2) ∧ RLq σ2 := by
  obtain ⟨T, t, s, hc, ht, hp⟩ := h
  obtain ⟨n, I, hI, hI0⟩ := hc.imgs
  obtain ⟨n', H, hH, hH1, hH0⟩ := hc.hist
  obtain ⟨tn, tb, hT⟩ := hc.tape
  have hn := hI.n3
  have hP := hc.tb.P
  have hTa := hc.ct.at_
  unfold f_X12_image f_X13_image
  rw [c_ofTown hc, pbd1_s]
  simp only [m_good, pbd1_s, jn0_e, jn1_e]
  by_cases q : 0 < t.P
  · have hz : ∀ τ : Mem, τ.1 64 14 = σ.1 64 14 → ¬ τ.1 64 14 = 0 := fun τ hm => by rw [hm, hc.has, decide_eq_true q]; decide
    rw [decide_eq_false (by omega), if_pos (by rfl), hI.cnt]
    by_cases q2 : n = 3
    · subst q2
      rw [if_neg (by decide), show f_X12_refused σ 3 = some (1, sI σ 0 13 3) from rfl, pbd2_s, if_neg (by decide)]
      have hc2 := RC_m hc 3
      refine ⟨_, _, _, rfl, ?_, RL_no hc 3 (by decide)⟩
      rw [if_neg (by rw [hc2.has, decide_eq_true q]; decide), if_pos (by rw [gd_64 _ (by omega) (by omega), sI_o _ _ _ _ (by omega), hI.cnm]; rfl), m_no]
      rfl
    · rw [if_pos (by rw [show (3 : Int32) = zI 3 from rfl, zI_lt (by omega) (by omega)]; omega), refu_0, pbd2_s, if_pos rfl, show (sI σ 0 13 0).1 0 12 = zI n from by rw [sI_1, if_neg (by omega)]; exact hI.cnt, pnm_e, pnm_e, show zI n + 1 = zI (n + 1 : Nat) from by rw [show (1 : Int32) = zI 1 from rfl, zI_add]; rfl]
      obtain ⟨σ1, hσ1⟩ : ∃ σ1, σ1 = sI (sI σ 0 13 0) 0 12 (zI (n + 1 : Nat)) := ⟨_, rfl⟩
      rw [← hσ1]
      have f1 : ∀ a, a ≠ 0 → σ1.1 a = σ.1 a := fun a h => by rw [hσ1, sI_o _ _ _ _ h, sI_o _ _ _ _ h]
      have f2 : σ1.2 = σ.2 := by rw [hσ1]; rfl
      have cs1 : CS σ1 28 T t (t.ch ++ s.sk) s := hc.cs.of (fun a h1 h2 => f1 a (by omega)) (by rw [f2])
      obtain ⟨τ, e1, e2, e3, e4, e5⟩ := c_copy cs1 (stp_imp (i := n) (by omega)) (by unfold imp; omega) hP
      rw [c_pic (n := n + 1) (by rw [hσ1, sI_1, if_pos ⟨rfl, rfl⟩]) (by omega) (by rw [f2]; exact hI.ref) (by omega), if_pos (by omega), pbd1_s, onm_sm, show ((n : Int)).toNat = n from by omega, e1, pbd1_s]
      have g1 : ∀ a, a ≠ 0 → a ≠ imp n → a ≠ imp n + 1 → a ≠ imp n + 3 → τ.1 a = σ.1 a := fun a h0 h1 h2 h3 => by rw [e3 a h1 h2 h3, f1 a h0]
      have g2 : ∀ j, j ≠ 12 → j ≠ 13 → τ.1 0 j = σ.1 0 j := fun j h1 h2 => by rw [e3 0 (by unfold imp; omega) (by unfold imp; omega) (by unfold imp; omega), hσ1, sI_1, if_neg (by omega), sI_1, if_neg (by omega)]
      have g3 : ∀ a, a ≠ imp n → τ.2.2 a = σ.2.2 a := fun a h => by rw [e4 a h, f2]
      have hi : imp n = 37 + 4 * n := rfl
      have g64 : τ.1 64 = σ.1 64 := g1 64 (by omega) (by omega) (by omega) (by omega)
      have c21 : (gd τ).1 64 21 = zI n := by rw [gd_64 _ (by omega) (by omega), g64]; exact hI.cnm
      have hcp := m_copy (σ := gd τ) (a := 69) (b := 71) (x := 0) (y := 80 * n) (n := 80) (by omega) (by decide) (by show 80 * n + 80 ≤ 240; omega) (by decide) (by decide)
      obtain ⟨υ, hυ⟩ : ∃ υ, υ = sI (sA (gd τ) 71 (va_cpy ((gd τ).1 69) ((gd τ).1 71) 0 (80 * n) 80)) 64 21 (zI (n + 1 : Nat)) := ⟨_, rfl⟩
      refine ⟨zI n, τ, υ, rfl, ?_, ?_⟩
      · rw [if_neg (hz _ (by rw [gd_64 _ (by omega) (by omega), g64])), c21, if_neg (by rw [show (3 : Int32) = zI 3 from rfl, zI_eq (by omega) (by omega)]; omega), show (80 : Int32) * zI n = zI (80 * n : Nat) from by rw [show (80 : Int32) = zI 80 from rfl, zI_mul]; congr 1, show f_X13_copy (gd τ) 69 0 71 (zI (80 * n : Nat)) 80 = _ from hcp, pbd1_s, sA_o _ _ _ (by omega), c21, pnm_e, show zI n + 1 = zI (n + 1 : Nat) from by rw [show (1 : Int32) = zI 1 from rfl, zI_add]; rfl, ← hυ, show υ.1 64 21 = zI (n + 1 : Nat) from by rw [hυ, sI_1, if_pos ⟨rfl, rfl⟩], show zI (n + 1 : Nat) - 1 = zI n from by rw [show (1 : Int32) = zI 1 from rfl, zI_sub]; congr 1; omega]
      · have k0 : ∀ a, a ≠ 64 → a ≠ 71 → υ.1 a = τ.1 a := fun a h1 h2 => by rw [hυ, sI_o _ _ _ _ h1, sA_o _ _ _ h2, gd_o _ h1]
        have k1 : ∀ j, j ≠ 0 → j ≠ 11 → j ≠ 21 → υ.1 64 j = σ.1 64 j := fun j h0 h1 h2 => by rw [hυ, sI_1, if_neg (by omega), sA_o _ _ _ (by omega), gd_64 _ h0 h1, g64]
        have k2 : υ.2 = τ.2 := by rw [hυ]; rfl
        have k3 : ∀ a, a ≠ 0 → a ≠ 64 → a ≠ 71 → a ≠ imp n → a ≠ imp n + 1 → a ≠ imp n + 3 → υ.1 a = σ.1 a := fun a h0 h1 h2 h3 h4 h5 => by rw [k0 a h1 h2, g1 a h0 h3 h4 h5]
        have k4 : ∀ a, a ≠ imp n → υ.2.2 a = σ.2.2 a := fun a h => by rw [k2]; exact g3 a h
        have k5 : ∀ j, j ≠ 12 → j ≠ 13 → υ.1 0 j = σ.1 0 j := fun j h1 h2 => by rw [k0 0 (by omega) (by omega), g2 j h1 h2]
        refine RL_mk (T := T) (t := t) (s := s) ⟨hc.tb, hc.sb, ?_, ?_, hc.ct.of (fun a h1 h2 => k3 a (by omega) (by omega) (by omega) (by omega) (by omega) (by omega)), hc.cs.of (fun a h1 h2 => k3 a (by omega) (by omega) (by omega) (by omega) (by omega) (by omega)) (k4 28 (by omega)), ?_, ?_, ?_, ?_, ⟨n', H, hH.of ?_ ?_ ?_ ?_, hH1, hH0⟩, ⟨n + 1, fun i => if i = n then s else I i, ⟨by omega, ?_, ?_, fun i hi => ?_, fun i hi => ?_, fun i hi => ?_, fun i hi => ?_⟩, fun w => absurd w (by omega)⟩, ⟨tn, tb, hT.of ?_ ?_ ?_ ?_⟩, ?_, ?_, fun w => absurd w (by omega)⟩ 0 ?_ ?_ (by decide)
        · rw [k4 0 (by omega)]; exact hc.town
        · rw [k4 0 (by omega)]; exact hc.spare
        · rw [k3 67 (by omega) (by omega) (by omega) (by omega) (by omega) (by omega)]; exact hc.mr
        · rw [k3 69 (by omega) (by omega) (by omega) (by omega) (by omega) (by omega)]; exact hc.mv
        · rw [k1 14 (by omega) (by omega) (by omega)]; exact hc.has
        · rw [k1 24 (by omega) (by omega) (by omega)]; exact hc.nod
        · rw [k3 49 (by omega) (by omega) (by omega) (by omega) (by omega) (by omega)]
        · rw [k1 20 (by omega) (by omega) (by omega)]
        · rw [k3 50 (by omega) (by omega) (by omega) (by omega) (by omega) (by omega)]
        · rw [k3 70 (by omega) (by omega) (by omega) (by omega) (by omega) (by omega)]
        · rw [k0 0 (by omega) (by omega), e3 0 (by omega) (by omega) (by omega), hσ1, sI_1, if_pos ⟨rfl, rfl⟩]
        · rw [hυ, sI_1, if_pos ⟨rfl, rfl⟩]
        · rw [k4 36 (by omega)]; exact hI.ref i hi
        · show CS υ (imp i) T t (t.ch ++ (if i = n then s else I i).sk) (if i = n then s else I i)
          by_cases w : i = n
          · rw [if_pos w, w]
            exact e2.of (fun a h1 h2 => k0 a (by omega) (by omega)) (by rw [k2])
          · rw [if_neg w]
            have hi2 : imp i = 37 + 4 * i := rfl
            exact (hI.cls i (by omega)).of (fun a h1 h2 => k3 a (by omega) (by omega) (by omega) (by omega) (by omega) (by omega)) (k4 _ (by omega))
        · show MV _ _ (if i = n then s else I i)
          rw [hυ, sI_o _ _ _ _ (by omega), sA_at, gd_o _ (by omega), gd_o _ (by omega), g1 69 (by omega) (by omega) (by omega) (by omega), g1 71 (by omega) (by omega) (by omega) (by omega)]
          by_cases w : i = n
          · rw [if_pos w, w]
            exact hc.mv.cpy hc.sb.n
          · rw [if_neg w]
            exact (hI.row i (by omega)).far (hI.ok i (by omega)).n (by omega)
        · show SB t (if i = n then s else I i)
          by_cases w : i = n
          · rw [if_pos w]; exact hc.sb
          · rw [if_neg w]; exact hI.ok i (by omega)
        · rw [k3 1 (by omega) (by omega) (by omega) (by omega) (by omega) (by omega)]
        · rw [k1 2 (by omega) (by omega) (by omega)]
        · rw [k3 2 (by omega) (by omega) (by omega) (by omega) (by omega) (by omega)]
        · rw [k3 65 (by omega) (by omega) (by omega) (by omega) (by omega) (by omega)]
        · rw [k5 14 (by omega) (by omega), k1 9 (by omega) (by omega) (by omega)]; exact hc.flt
        · rw [k4 27 (by omega)]; exact hc.rd
        · rw [k0 0 (by omega) (by omega), e3 0 (by omega) (by omega) (by omega), hσ1, sI_1, if_neg (by omega), sI_1, if_pos ⟨rfl, rfl⟩]
        · rw [hυ, sI_1, if_neg (by omega), sA_o _ _ _ (by omega), gd_11]
  · rw [decide_eq_true (by omega), if_neg (by decide), refu_1, pbd2_s, if_neg (by decide)]
    have hc2 := RC_m hc 1
    refine ⟨_, _, _, rfl, ?_, RL_no hc 1 (by decide)⟩
    rw [if_pos (by rw [hc2.has, decide_eq_false q]; rfl), m_no]
    rfl
def byt (w : Int32) (s : Nat) : Nat := w.toBitVec.toNat / 2 ^ s % 256
theorem byt_lt (w : Int32) (s : Nat) : byt w s < 256 := Nat.mod_lt _ (by omega)
theorem shr_s (w : Int32) (s : Nat) (hs : s = 0 ∨ s = 8 ∨ s = 16 ∨ s = 24) : (w >>> (zI s &&& 31)) &&& 255 = zI (byt w s) := by
  have e : (w >>> (zI s &&& 31)).toBitVec = w.toBitVec.sshiftRight s := by
    rcases hs with rfl | rfl | rfl | rfl <;> rfl
  apply Int32.toBitVec_inj.1
  rw [Int32.toBitVec_and, e, zI_bv]
  apply BitVec.eq_of_getLsbD_eq
  intro i hi
  rw [BitVec.getLsbD_and, show Int32.toBitVec 255 = BitVec.ofNat 32 255 from rfl, BitVec.getLsbD_ofNat, BitVec.getLsbD_ofNat, BitVec.getLsbD_sshiftRight, byt, show 255 = 2 ^ 8 - 1 from rfl, Nat.testBit_two_pow_sub_one, show 256 = 2 ^ 8 from rfl, Nat.testBit_mod_two_pow, Nat.testBit_div_two_pow]
  by_cases h : i < 8
  · have h1 : s + i < 32 := by omega
    have h2 : ¬ 32 ≤ i := by omega
    simp only [h, hi, h1, h2, decide_true, decide_false, Bool.not_false, Bool.true_and, Bool.and_true, if_true]
    rw [Nat.add_comm s i]; rfl
  · simp [h]
theorem shr_u (w : Int32) (s : Nat) (hs : s = 0 ∨ s = 8 ∨ s = 16 ∨ s = 24) : (((w.toUInt32 >>> ((zI s).toUInt32 &&& Int32.toUInt32 31)).toInt32).toInt8.toInt32).toInt8.toInt32 = zI (if byt w s < 128 then (byt w s : Int) else (byt w s : Int) - 256) := by
  have e : (w.toUInt32 >>> ((zI s).toUInt32 &&& Int32.toUInt32 31)).toInt32.toBitVec = w.toBitVec >>> s := by
    rcases hs with rfl | rfl | rfl | rfl <;> rfl
  have hb := byt_lt w s
  have e2 : ∀ x : Int32, x.toInt8.toInt32.toInt = x.toInt.bmod 256 := fun x => by rw [Int8.toInt_toInt32, Int32.toInt_toInt8]
  rw [← Int32.toInt_inj, zI_int (by split <;> omega), e2, e2, Int.bmod_bmod]
  have e3 : ((w.toUInt32 >>> ((zI s).toUInt32 &&& Int32.toUInt32 31)).toInt32).toInt = ((w.toBitVec.toNat / 2 ^ s : Nat) : Int).bmod (2 ^ 32) := by
    rw [← Int32.toInt_toBitVec, e, BitVec.toInt_eq_toNat_bmod, BitVec.toNat_ushiftRight, Nat.shiftRight_eq_div_pow]
  rw [e3, byt]
  generalize w.toBitVec.toNat / 2 ^ s = n
  rw [show (2 ^ 32 : Nat) = 256 * 16777216 from rfl, Int.bmod_def, Int.bmod_def]
  split <;> split <;> split <;> omega
theorem st_step (σ : Mem) {p q : Nat} (hpq : p ≠ q) (c j : Nat) (x y v : Int32) (f : Nat → Int32) : sI (sI (sI (sA σ q f) p c x) q j v) p c y = sI (sA σ q (upd f j v)) p c y := by
  refine Prod.ext (funext fun a => ?_) rfl
  by_cases h1 : a = p
  · subst h1
    rw [sI_at, sI_at, sI_o _ _ _ _ hpq, sI_at, sA_o _ _ _ hpq, sA_o _ _ _ hpq]
    funext k
    unfold upd
    by_cases w : k = c
    · rw [if_pos w, if_pos w]
    · rw [if_neg w, if_neg w, if_neg w]
  · rw [sI_o _ _ _ _ h1, sI_o _ _ _ _ h1]
    by_cases h2 : a = q
    · subst h2
      rw [sI_at, sI_o _ _ _ _ h1, sA_at, sA_at]
    · rw [sI_o _ _ _ _ h2, sI_o _ _ _ _ h1, sA_o _ _ _ h2, sA_o _ _ _ h2]
theorem sI_self (σ : Mem) (a j : Nat) (v : Int32) (h : σ.1 a j = v) : sI σ a j v = σ := by
  refine Prod.ext (funext fun b => ?_) rfl
  by_cases w : b = a
  · subst w; rw [sI_at]; funext k; unfold upd
    by_cases w : k = j
    · rw [if_pos w, w, h]
    · rw [if_neg w]
  · rw [sI_o _ _ _ _ w]
def sby (b : Nat) : Int := if b < 128 then (b : Int) else (b : Int) - 256
theorem c_add {σ : Mem} {n : Nat} (h : σ.1 1 1 = zI n) (hn : n + 4 ≤ 800) (w : Int32) : ∃ τ, f_X10_add σ w = some τ ∧ (∀ a, a ≠ 1 → a ≠ 2 → τ.1 a = σ.1 a) ∧ (∀ j, j ≠ 1 → τ.1 1 j = σ.1 1 j) ∧ τ.2 = σ.2 ∧ τ.1 1 1 = zI (n + 4 : Nat) ∧ (∀ i, i < n → τ.1 2 i = σ.1 2 i) ∧ ∀ j, j < 4 → τ.1 2 (n + j) = zI (sby (byt w (24 - 8 * j))) := by
  have a2 : aln (1 + 1) = 800 := rfl
  let f : Nat → Nat → Int32 := fun i k => if n ≤ k ∧ k < n + i then zI (sby (byt w (24 - 8 * (k - n)))) else σ.1 2 k
  refine ⟨sI (sA σ 2 (f 4)) 1 1 (zI (n + 4 : Nat)), ?_, fun a h1 h2 => by rw [sI_o _ _ _ _ h1, sA_o _ _ _ h2], fun j hj => by rw [sI_1, if_neg (by omega), sA_o _ _ _ (by omega)], rfl, by rw [sI_1, if_pos ⟨rfl, rfl⟩], fun i hi => ?_, fun j hj => ?_⟩
  · unfold f_X10_add
    refine fx2_run (fun i => zI (24 - 8 * (i : Int))) (fun i => sI (sA σ 2 (f i)) 1 1 (zI (n + i : Nat))) 4 0 (by omega) rfl ?_ (fun k => ?_) (fun i hi k => ?_)
    · rw [show f 0 = σ.1 2 from funext fun k => if_neg (by omega), sA_self]
      exact (sI_self _ _ _ _ h).symm
    · rw [if_pos (by decide)]
    · have e1 : (sI (sA σ 2 (f i)) 1 1 (zI (n + i : Nat))).1 1 1 = zI (n + i : Nat) := by rw [sI_1, if_pos ⟨rfl, rfl⟩]
      rw [if_neg (by rw [show (0 : Int32) = zI 0 from rfl, zI_lt (by omega) (by omega)]; omega), e1, a2, zI_nI, f_inside _ _ (by omega) (by omega), decide_eq_true (by omega), pbd1_s, jn1_e, if_neg (by decide), ixd_in (by omega), pnm_e, pnm_e]
      simp only [pnm_e]
      have e2 := shr_u w (24 - 8 * i) (by omega)
      rw [show ((24 - 8 * i : Nat) : Int) = 24 - 8 * (i : Int) from by omega] at e2
      rw [e2, sI_o _ _ _ _ (by decide), e1, zI_nat (by omega), show ((n + i : Nat) : Int).toNat = n + i from by omega, show (1 : Int32) = zI 1 from rfl, zI_add, show (1 + 1) = 2 from rfl, st_step _ (by decide), show (-8 : Int32) = zI (-8) from rfl, zI_add]
      refine congr (congrArg k (congrArg zI (by omega))) ?_
      rw [show f (i + 1) = upd (f i) (n + i) (zI (if byt w (24 - 8 * i) < 128 then (byt w (24 - 8 * i) : Int) else (byt w (24 - 8 * i) : Int) - 256)) from funext fun j => ?_]
      · rfl
      · show (if n ≤ j ∧ j < n + (i + 1) then _ else _) = (if j = n + i then _ else (if n ≤ j ∧ j < n + i then _ else _))
        by_cases w1 : j = n + i
        · subst w1
          rw [if_pos (by omega), if_pos rfl, show n + i - n = i from by omega]; rfl
        · rw [if_neg w1]
          by_cases w2 : n ≤ j ∧ j < n + i
          · rw [if_pos w2, if_pos (by omega)]
          · rw [if_neg w2, if_neg (by omega)]
  · rw [sI_o _ _ _ _ (by decide), sA_at]
    exact if_neg (by omega)
  · rw [sI_o _ _ _ _ (by decide), sA_at]
    show (if n ≤ n + j ∧ n + j < n + 4 then _ else _) = _
    rw [if_pos (by omega), show n + j - n = j from by omega]
def nw (a b c d e : Int32) (k : Nat) : Int32 := if k < 4 then a else if k < 8 then b else if k < 12 then c else if k < 16 then d else e
theorem m_feed {σ : Mem} {n : Nat} (h : σ.1 64 2 = zI n) (hn : n + 20 ≤ 800) (a b c d e : Int32) : f_X13_feed σ a b c d e = some (zI (n + 20 : Nat), sI (sA (sI σ 64 0 0) 65 (fun k => if n ≤ k ∧ k < n + 20 then zI (byt (nw a b c d e (k - n)) (24 - 8 * ((k - n) % 4))) else σ.1 65 k)) 64 2 (zI (n + 20 : Nat))) := by
  have a65 : aln 65 = 800 := rfl
  let f : Nat → Nat → Int32 := fun i k => if n ≤ k ∧ k < n + i then zI (byt (nw a b c d e (k - n)) (24 - 8 * ((k - n) % 4))) else σ.1 65 k
  unfold f_X13_feed
  rw [pnm_e, show (sI σ 64 0 0).1 64 2 = zI n from by rw [sI_1, if_neg (by omega), h], if_pos (by rw [show (20 : Int32) = zI 20 from rfl, show (800 : Int32) = zI 800 from rfl, zI_add, zI_le (by omega) (by omega)]; omega)]
  refine fx2_run (fun i => zI i) (fun i => sI (sA (sI σ 64 0 0) 65 (f i)) 64 2 (zI (n + i : Nat))) 20 0 (by omega) rfl ?_ (fun k => ?_) (fun i hi k => ?_)
  · rw [show f 0 = (sI σ 64 0 0).1 65 from funext fun k => by rw [sI_o _ _ _ _ (by decide)]; exact if_neg (by omega), sA_self]
    exact (sI_self _ _ _ _ (by rw [sI_1, if_neg (by omega), h]; rfl)).symm
  · rw [if_pos (by decide)]
    rw [show (sI (sA (sI σ 64 0 0) 65 (f 20)) 64 2 (zI (n + 20 : Nat))).1 64 2 = zI (n + 20 : Nat) from by rw [sI_1, if_pos ⟨rfl, rfl⟩]]
  · have e1 : (sI (sA (sI σ 64 0 0) 65 (f i)) 64 2 (zI (n + i : Nat))).1 64 2 = zI (n + i : Nat) := by rw [sI_1, if_pos ⟨rfl, rfl⟩]
    have hw : ∀ (K : Int32 → Option (Int32 × Mem)), jn1 K (fun k_6 => if (4 : Int32) ≤ zI i then (if (8 : Int32) ≤ zI i then (if (12 : Int32) ≤ zI i then (if (16 : Int32) ≤ zI i then k_6 e else k_6 d) else k_6 c) else k_6 b) else k_6 a) = K (nw a b c d e i) := by
      intro K
      rw [jn1_e]
      rw [show (4 : Int32) = zI 4 from rfl, show (8 : Int32) = zI 8 from rfl, show (12 : Int32) = zI 12 from rfl, show (16 : Int32) = zI 16 from rfl]
      simp (disch := omega) only [zI_le]
      unfold nw
      by_cases q1 : i < 4
      · rw [if_neg (by omega), if_pos q1]
      rw [if_pos (by omega), if_neg q1]
      by_cases q2 : i < 8
      · rw [if_neg (by omega), if_pos q2]
      rw [if_pos (by omega), if_neg q2]
      by_cases q3 : i < 12
      · rw [if_neg (by omega), if_pos q3]
      rw [if_pos (by omega), if_neg q3]
      by_cases q4 : i < 16
      · rw [if_neg (by omega), if_pos q4]
      rw [if_pos (by omega), if_neg q4]
    rw [if_neg (by rw [show (20 : Int32) = zI 20 from rfl, zI_le (by omega) (by omega)]; omega), hw, e1, a65, show (4 : Int32) = zI 4 from rfl, dvd_ne (by omega), ixd_in (by omega), pnm_e, pnm_e, pnm_e, zI_nat (by omega), show ((n + i : Nat) : Int).toNat = n + i from by omega]
    rw [sI_o _ _ _ _ (by decide), e1, show (24 : Int32) - 8 * (zI i - zI i / zI 4 * zI 4) = zI (24 - 8 * (i % 4) : Nat) from by
      rw [show zI i / zI 4 = zI ((i / 4 : Nat)) from zI_div_nat i 4 (by omega), show (24 : Int32) = zI 24 from rfl, show (8 : Int32) = zI 8 from rfl, zI_mul, zI_sub, zI_mul, zI_sub]; congr 1; omega]
    rw [shr_s _ _ (by omega), show (1 : Int32) = zI 1 from rfl, zI_add, zI_add]
    refine congr (congrArg k (congrArg zI (by omega))) ?_
    rw [show ((n + i : Nat) : Int) + 1 = ((n + (i + 1) : Nat) : Int) from by omega, st_step _ (by decide)]
    rw [show f (i + 1) = upd (f i) (n + i) (zI (byt (nw a b c d e i) (24 - 8 * (i % 4)))) from funext fun j => ?_]
    show (if n ≤ j ∧ j < n + (i + 1) then _ else _) = (if j = n + i then _ else (if n ≤ j ∧ j < n + i then _ else _))
    by_cases w1 : j = n + i
    · subst w1
      rw [if_pos (by omega), if_pos rfl, show n + i - n = i from by omega]
    · rw [if_neg w1]
      by_cases w2 : n ≤ j ∧ j < n + i
      · rw [if_pos w2, if_pos (by omega)]
      · rw [if_neg w2, if_neg (by omega)]
theorem rel_feed (σ : Mem) (h : RLq σ) (a b c d e : Int32) : ∃ r σ1 σ2, f_X12_feed σ a b c d e = some (r, σ1) ∧ f_X13_feed σ1 a b c d e = some (r, σ2) ∧ RLq σ2 := by
  obtain ⟨T, t, s, hc, ht, hp⟩ := id h
  obtain ⟨n, I, hI, hI0⟩ := hc.imgs
  obtain ⟨n', H, hH, hH1, hH0⟩ := hc.hist
  obtain ⟨tn, tb, hT⟩ := hc.tape
  have hTa := hc.ct.at_
  have hn := hT.n800
  unfold f_X12_feed f_X10_hasRoom
  rw [hT.cnt]
  by_cases q : tn + 20 ≤ 800
  · rw [if_neg (by rw [show (20 : Int32) = zI 20 from rfl, show (800 : Int32) = zI 800 from rfl, zI_add, zI_lt (by omega) (by omega)]; omega), pbd1_s, if_neg (by decide)]
    obtain ⟨τ1, a1, a2, a3, a4, a5, a6, a7⟩ := c_add hT.cnt (by omega) a
    obtain ⟨τ2, b1, b2, b3, b4, b5, b6, b7⟩ := c_add a5 (by omega) b
    obtain ⟨τ3, c1, c2, c3, c4, c5, c6, c7⟩ := c_add b5 (by omega) c
    obtain ⟨τ4, d1, d2, d3, d4, d5, d6, d7⟩ := c_add c5 (by omega) d
    obtain ⟨τ5, e1, e2, e3, e4, e5, e6, e7⟩ := c_add d5 (by omega) e
    rw [a1, pbd1_s, b1, pbd1_s, c1, pbd1_s, d1, pbd1_s, e1, pbd1_s]
    have g1 : ∀ x, x ≠ 1 → x ≠ 2 → τ5.1 x = σ.1 x := fun x h1 h2 => by rw [e2 x h1 h2, d2 x h1 h2, c2 x h1 h2, b2 x h1 h2, a2 x h1 h2]
    have g3 : τ5.2 = σ.2 := by rw [e4, d4, c4, b4, a4]
    have gb : ∀ i, i < tn + 20 → τ5.1 2 i = zI (sby (if i < tn then tb i else byt (nw a b c d e (i - tn)) (24 - 8 * ((i - tn) % 4)))) := by
      intro i hi
      by_cases q0 : i < tn
      · rw [if_pos q0, e6 i (by omega), d6 i (by omega), c6 i (by omega), b6 i (by omega), a6 i (by omega)]
        exact hT.cls i q0
      rw [if_neg q0]
      obtain ⟨j, rfl⟩ : ∃ j, i = tn + j := ⟨i - tn, by omega⟩
      rw [show tn + j - tn = j from by omega, nw]
      by_cases q1 : j < 4
      · rw [if_pos q1, e6 _ (by omega), d6 _ (by omega), c6 _ (by omega), b6 _ (by omega), a7 j q1, show j % 4 = j from by omega]
      rw [if_neg q1]
      by_cases q2 : j < 8
      · have := b7 (j - 4) (by omega)
        rw [if_pos q2, e6 _ (by omega), d6 _ (by omega), c6 _ (by omega), show tn + j = tn + 4 + (j - 4) from by omega, this, show j % 4 = j - 4 from by omega]
      rw [if_neg q2]
      by_cases q3 : j < 12
      · have := c7 (j - 8) (by omega)
        rw [if_pos q3, e6 _ (by omega), d6 _ (by omega), show tn + j = tn + 4 + 4 + (j - 8) from by omega, this, show j % 4 = j - 8 from by omega]
      rw [if_neg q3]
      by_cases q4 : j < 16
      · have := d7 (j - 12) (by omega)
        rw [if_pos q4, e6 _ (by omega), show tn + j = tn + 4 + 4 + 4 + (j - 12) from by omega, this, show j % 4 = j - 12 from by omega]
      · have := e7 (j - 16) (by omega)
        rw [if_neg q4, show tn + j = tn + 4 + 4 + 4 + 4 + (j - 16) from by omega, this, show j % 4 = j - 16 from by omega]
    have hm := m_feed (σ := τ5) (n := tn) (by rw [g1 64 (by omega) (by omega)]; exact hT.cnm) q a b c d e
    refine ⟨_, _, _, rfl, by rw [hm, e5], ?_⟩
    obtain ⟨υ, hυ⟩ : ∃ υ, υ = sI (sA (sI τ5 64 0 0) 65 (fun k => if tn ≤ k ∧ k < tn + 20 then zI (byt (nw a b c d e (k - tn)) (24 - 8 * ((k - tn) % 4))) else τ5.1 65 k)) 64 2 (zI (tn + 20 : Nat)) := ⟨_, rfl⟩
    rw [← hυ]
    have k0 : ∀ x, x ≠ 64 → x ≠ 65 → υ.1 x = τ5.1 x := fun x h1 h2 => by rw [hυ, sI_o _ _ _ _ h1, sA_o _ _ _ h2, sI_o _ _ _ _ h1]
    have k1 : ∀ x, x ≠ 1 → x ≠ 2 → x ≠ 64 → x ≠ 65 → υ.1 x = σ.1 x := fun x h1 h2 h3 h4 => by rw [k0 x h3 h4, g1 x h1 h2]
    have k2 : ∀ j, j ≠ 0 → j ≠ 2 → υ.1 64 j = σ.1 64 j := fun j h1 h2 => by rw [hυ, sI_1, if_neg (by omega), sA_o _ _ _ (by decide), sI_1, if_neg (by omega), g1 64 (by omega) (by omega)]
    have k3 : υ.2 = σ.2 := by rw [hυ]; show τ5.2 = _; rw [g3]
    have k4 : υ.1 0 = σ.1 0 := k1 0 (by omega) (by omega) (by omega) (by omega)
    refine ⟨T, t, s, ⟨hc.tb, hc.sb, by rw [k3]; exact hc.town, by rw [k3]; exact hc.spare, hc.ct.of (fun x h1 h2 => k1 x (by omega) (by omega) (by omega) (by omega)), hc.cs.of (fun x h1 h2 => k1 x (by omega) (by omega) (by omega) (by omega)) (by rw [k3]), by rw [k1 67 (by omega) (by omega) (by omega) (by omega)]; exact hc.mr, by rw [k1 69 (by omega) (by omega) (by omega) (by omega)]; exact hc.mv, by rw [k2 14 (by omega) (by omega)]; exact hc.has, by rw [k2 24 (by omega) (by omega)]; exact hc.nod, ⟨n', H, hH.of (by rw [k1 49 (by omega) (by omega) (by omega) (by omega)]) (k2 20 (by omega) (by omega)) (k1 50 (by omega) (by omega) (by omega) (by omega)) (k1 70 (by omega) (by omega) (by omega) (by omega)), hH1, hH0⟩, ⟨n, I, hI.of (by rw [k4]) (k2 21 (by omega) (by omega)) (fun x h1 h2 => k1 x (by omega) (by omega) (by omega) (by omega)) (k1 71 (by omega) (by omega) (by omega) (by omega)) (fun x h1 h2 => by rw [k3]), hI0⟩, ⟨tn + 20, fun i => if i < tn then tb i else byt (nw a b c d e (i - tn)) (24 - 8 * ((i - tn) % 4)), ⟨q, fun i => ?_, ?_, ?_, fun i hi => ?_, fun i hi => ?_⟩⟩, by rw [k4, k2 9 (by omega) (by omega)]; exact hc.flt, by rw [k3]; exact hc.rd, hc.msz⟩, by rw [k4, k2 11 (by omega) (by omega)]; exact ht, by rw [k4, k2 10 (by omega) (by omega)]; exact hp⟩
    · show (if i < tn then _ else _) < 256
      split
      · exact hT.byte i
      · exact byt_lt _ _
    · rw [k0 1 (by omega) (by omega)]; exact e5
    · rw [hυ, sI_1, if_pos ⟨rfl, rfl⟩]
    · rw [k0 2 (by omega) (by omega)]; exact gb i hi
    · rw [hυ, sI_o _ _ _ _ (by decide), sA_at]
      show (if tn ≤ i ∧ i < tn + 20 then _ else _) = zI ((if i < tn then tb i else byt (nw a b c d e (i - tn)) (24 - 8 * ((i - tn) % 4)) : Nat) : Int)
      by_cases w : i < tn
      · rw [if_neg (by omega), if_pos w, g1 65 (by omega) (by omega)]; exact hT.mod i w
      · rw [if_pos (by omega), if_neg w]
  · rw [if_pos (by rw [show (20 : Int32) = zI 20 from rfl, show (800 : Int32) = zI 800 from rfl, zI_add, zI_lt (by omega) (by omega)]; omega), pbd1_s, if_pos rfl]
    refine ⟨_, _, sI σ 64 0 0, rfl, ?_, RL_th h 0⟩
    unfold f_X13_feed
    rw [pnm_e, show (sI σ 64 0 0).1 64 2 = zI tn from by rw [sI_1, if_neg (by omega)]; exact hT.cnm, if_neg (by rw [show (20 : Int32) = zI 20 from rfl, show (800 : Int32) = zI 800 from rfl, zI_add, zI_le (by omega) (by omega)]; omega)]
