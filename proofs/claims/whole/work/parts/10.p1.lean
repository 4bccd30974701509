/-- cells that the relation speaks of (troubles apart) -/
def core (a j : Nat) : Bool := (a == 0 && (j == 12 || j == 14)) || (a == 1 && j == 1) || a == 2 || (3 ≤ a && a ≤ 26) || (28 ≤ a && a ≤ 31) || (37 ≤ a && a ≤ 48) || (a == 49 && j == 1) || a == 50 || (a == 64 && (j == 2 || j == 9 || j == 14 || j == 20 || j == 21 || j == 24)) || a == 65 || a == 67 || (69 ≤ a && a ≤ 71)
def coreR (a : Nat) : Bool := a == 0 || a == 27 || a == 28 || (36 ≤ a && a ≤ 48)
/-- nothing that the relation speaks of has changed -/
def Eqv (σ τ : Mem) : Prop := (∀ a j, core a j = true → τ.1 a j = σ.1 a j) ∧ (∀ a, coreR a = true → τ.2.2 a = σ.2.2 a) ∧ ∀ a, 3 ≤ a → a ≤ 26 → τ.2.1 a = σ.2.1 a
theorem Eqv.rfl' (σ : Mem) : Eqv σ σ := ⟨fun _ _ _ => rfl, fun _ _ => rfl, fun _ _ _ => rfl⟩
theorem Eqv.trans {σ τ υ : Mem} (h1 : Eqv σ τ) (h2 : Eqv τ υ) : Eqv σ υ := ⟨fun a j h => (h2.1 a j h).trans (h1.1 a j h), fun a h => (h2.2.1 a h).trans (h1.2.1 a h), fun a h k => (h2.2.2 a h k).trans (h1.2.2 a h k)⟩
theorem Eqv.sI {σ τ : Mem} (h : Eqv σ τ) (a j : Nat) (v : Int32) (hc : core a j = false) : Eqv σ (sI τ a j v) := by
  refine ⟨fun b i hb => ?_, fun b hb => h.2.1 b hb, fun b p q => h.2.2 b p q⟩
  rw [sI_1, if_neg (fun e => by rw [e.1, e.2, hc] at hb; cases hb)]
  exact h.1 b i hb
/-- an undone act: sort, a, b, c as the class keeps it -/
def actOf (f : Nat → Int32) (i : Nat) : Int32 × Int32 × Int32 × Int32 := (f (4 * i), f (4 * i + 1), f (4 * i + 2), f (4 * i + 3))
/-- taking an act back leads from the state s to the state b -/
def UA (a : Int32 × Int32 × Int32 × Int32) (s b : SS) : Prop :=
  (a.1 = zI 0 ∧ ∃ d : Nat, d < 30 ∧ a.2.1 = zI d ∧ b = SS.mk (fun x => if x = d then none else s.vis x) s.day s.sk) ∨
  (a.1 = zI 1 ∧ ∃ d p : Nat, d < 30 ∧ a.2.1 = zI d ∧ a.2.2.1 = zI p ∧ b = SS.mk (fun x => if x = d then some p else s.vis x) s.day s.sk) ∨
  (a.1 = zI 2 ∧ ∃ p m v : Nat, a.2.1 = zI p ∧ a.2.2.1 = zI m ∧ a.2.2.2 = zI v ∧ b.vis = s.vis ∧ b.day = s.day ∧ s.sk = b.sk ++ [(p, s.day, m, v)]) ∨
  (a.1 = zI 3 ∧ ∃ n : Nat, a.2.1 = zI n ∧ b.vis = s.vis ∧ b.sk = s.sk ∧ s.day = b.day + n)
/-- the states before the latest acts: H i is that before act i; the state now stands behind the last -/
abbrev HS (σ : Mem) (t : TT) (n : Nat) (H : Nat → SS) : Prop :=
  (n ≤ 16) ∧ (σ.1 49 1 = zI n) ∧ (σ.1 64 20 = zI n) ∧ (∀ i, i < n → UA (actOf (σ.1 50) i) (H (i + 1)) (H i)) ∧ (∀ i, i < n → MV (σ.1 70) (80 * i) (H i)) ∧ (∀ i, i ≤ n → SB t (H i))
theorem HS.n16 {σ : Mem}{t : TT}{n : Nat}{H : Nat → SS} (h : HS σ t n H) : n ≤ 16 := h.1
theorem HS.cnt {σ : Mem}{t : TT}{n : Nat}{H : Nat → SS} (h : HS σ t n H) : σ.1 49 1 = zI n := h.2.1
theorem HS.cnm {σ : Mem}{t : TT}{n : Nat}{H : Nat → SS} (h : HS σ t n H) : σ.1 64 20 = zI n := h.2.2.1
theorem HS.back {σ : Mem}{t : TT}{n : Nat}{H : Nat → SS} (h : HS σ t n H) : ∀ i, i < n → UA (actOf (σ.1 50) i) (H (i + 1)) (H i) := h.2.2.2.1
theorem HS.row {σ : Mem}{t : TT}{n : Nat}{H : Nat → SS} (h : HS σ t n H) : ∀ i, i < n → MV (σ.1 70) (80 * i) (H i) := h.2.2.2.2.1
theorem HS.ok {σ : Mem}{t : TT}{n : Nat}{H : Nat → SS} (h : HS σ t n H) : ∀ i, i ≤ n → SB t (H i) := h.2.2.2.2.2
def imp (i : Nat) : Nat := 37 + 4 * i
/-- the images -/
abbrev IS (σ : Mem) (T : Nat) (t : TT) (n : Nat) (I : Nat → SS) : Prop :=
  (n ≤ 3) ∧ (σ.1 0 12 = zI n) ∧ (σ.1 64 21 = zI n) ∧ (∀ i, i < 3 → σ.2.2 36 i = some (imp i)) ∧ (∀ i, i < n → CS σ (imp i) T t (t.ch ++ (I i).sk) (I i)) ∧ (∀ i, i < n → MV (σ.1 71) (80 * i) (I i)) ∧ (∀ i, i < n → SB t (I i))
theorem IS.n3 {σ : Mem}{T : Nat}{t : TT}{n : Nat}{I : Nat → SS} (h : IS σ T t n I) : n ≤ 3 := h.1
theorem IS.cnt {σ : Mem}{T : Nat}{t : TT}{n : Nat}{I : Nat → SS} (h : IS σ T t n I) : σ.1 0 12 = zI n := h.2.1
theorem IS.cnm {σ : Mem}{T : Nat}{t : TT}{n : Nat}{I : Nat → SS} (h : IS σ T t n I) : σ.1 64 21 = zI n := h.2.2.1
theorem IS.ref {σ : Mem}{T : Nat}{t : TT}{n : Nat}{I : Nat → SS} (h : IS σ T t n I) : ∀ i, i < 3 → σ.2.2 36 i = some (imp i) := h.2.2.2.1
theorem IS.cls {σ : Mem}{T : Nat}{t : TT}{n : Nat}{I : Nat → SS} (h : IS σ T t n I) : ∀ i, i < n → CS σ (imp i) T t (t.ch ++ (I i).sk) (I i) := h.2.2.2.2.1
theorem IS.row {σ : Mem}{T : Nat}{t : TT}{n : Nat}{I : Nat → SS} (h : IS σ T t n I) : ∀ i, i < n → MV (σ.1 71) (80 * i) (I i) := h.2.2.2.2.2.1
theorem IS.ok {σ : Mem}{T : Nat}{t : TT}{n : Nat}{I : Nat → SS} (h : IS σ T t n I) : ∀ i, i < n → SB t (I i) := h.2.2.2.2.2.2
/-- the tapes -/
abbrev TS (σ : Mem) (n : Nat) (b : Nat → Nat) : Prop :=
  (n ≤ 800) ∧ (∀ i, b i < 256) ∧ (σ.1 1 1 = zI n) ∧ (σ.1 64 2 = zI n) ∧ (∀ i, i < n → σ.1 2 i = zI (if b i < 128 then (b i : Int) else (b i : Int) - 256)) ∧ (∀ i, i < n → σ.1 65 i = zI (b i))
theorem TS.n800 {σ : Mem}{n : Nat}{b : Nat → Nat} (h : TS σ n b) : n ≤ 800 := h.1
theorem TS.byte {σ : Mem}{n : Nat}{b : Nat → Nat} (h : TS σ n b) : ∀ i, b i < 256 := h.2.1
theorem TS.cnt {σ : Mem}{n : Nat}{b : Nat → Nat} (h : TS σ n b) : σ.1 1 1 = zI n := h.2.2.1
theorem TS.cnm {σ : Mem}{n : Nat}{b : Nat → Nat} (h : TS σ n b) : σ.1 64 2 = zI n := h.2.2.2.1
theorem TS.cls {σ : Mem}{n : Nat}{b : Nat → Nat} (h : TS σ n b) : ∀ i, i < n → σ.1 2 i = zI (if b i < 128 then (b i : Int) else (b i : Int) - 256) := h.2.2.2.2.1
theorem TS.mod {σ : Mem}{n : Nat}{b : Nat → Nat} (h : TS σ n b) : ∀ i, i < n → σ.1 65 i = zI (b i) := h.2.2.2.2.2
/-- all that both sides keep -/
abbrev RC (σ : Mem) (T : Nat) (t : TT) (s : SS) : Prop :=
  (TB t) ∧ (SB t s) ∧ (σ.2.2 0 10 = some T) ∧ (σ.2.2 0 11 = some (18 - T)) ∧ (CT σ T t) ∧ (CS σ 28 T t (t.ch ++ s.sk) s) ∧ (MR (σ.1 67) t) ∧ (MV (σ.1 69) 0 s) ∧ (σ.1 64 14 = bI (decide (0 < t.P))) ∧ (σ.1 64 24 = zI 0) ∧ (∃ n H, HS σ t n H ∧ H n = s ∧ (t.P = 0 → n = 0)) ∧ (∃ n I, IS σ T t n I ∧ (t.P = 0 → n = 0)) ∧ (∃ n b, TS σ n b) ∧ (σ.1 0 14 = σ.1 64 9) ∧ (∃ R, σ.2.2 27 1 = some R) ∧ (t.P = 0 → t.ms = 0 ∧ t.wi = 0 ∧ t.la = 0 ∧ t.sh = 0 ∧ t.V = 0 ∧ t.W = 0 ∧ t.A = 0 ∧ t.S = 0 ∧ t.ch = [] ∧ s.day = 0 ∧ s.sk = [] ∧ ∀ d, s.vis d = none)
theorem RC.tb {σ : Mem}{T : Nat}{t : TT}{s : SS} (h : RC σ T t s) : TB t := h.1
theorem RC.sb {σ : Mem}{T : Nat}{t : TT}{s : SS} (h : RC σ T t s) : SB t s := h.2.1
theorem RC.town {σ : Mem}{T : Nat}{t : TT}{s : SS} (h : RC σ T t s) : σ.2.2 0 10 = some T := h.2.2.1
theorem RC.spare {σ : Mem}{T : Nat}{t : TT}{s : SS} (h : RC σ T t s) : σ.2.2 0 11 = some (18 - T) := h.2.2.2.1
theorem RC.ct {σ : Mem}{T : Nat}{t : TT}{s : SS} (h : RC σ T t s) : CT σ T t := h.2.2.2.2.1
theorem RC.cs {σ : Mem}{T : Nat}{t : TT}{s : SS} (h : RC σ T t s) : CS σ 28 T t (t.ch ++ s.sk) s := h.2.2.2.2.2.1
theorem RC.mr {σ : Mem}{T : Nat}{t : TT}{s : SS} (h : RC σ T t s) : MR (σ.1 67) t := h.2.2.2.2.2.2.1
theorem RC.mv {σ : Mem}{T : Nat}{t : TT}{s : SS} (h : RC σ T t s) : MV (σ.1 69) 0 s := h.2.2.2.2.2.2.2.1
theorem RC.has {σ : Mem}{T : Nat}{t : TT}{s : SS} (h : RC σ T t s) : σ.1 64 14 = bI (decide (0 < t.P)) := h.2.2.2.2.2.2.2.2.1
theorem RC.nod {σ : Mem}{T : Nat}{t : TT}{s : SS} (h : RC σ T t s) : σ.1 64 24 = zI 0 := h.2.2.2.2.2.2.2.2.2.1
theorem RC.hist {σ : Mem}{T : Nat}{t : TT}{s : SS} (h : RC σ T t s) : ∃ n H, HS σ t n H ∧ H n = s ∧ (t.P = 0 → n = 0) := h.2.2.2.2.2.2.2.2.2.2.1
theorem RC.imgs {σ : Mem}{T : Nat}{t : TT}{s : SS} (h : RC σ T t s) : ∃ n I, IS σ T t n I ∧ (t.P = 0 → n = 0) := h.2.2.2.2.2.2.2.2.2.2.2.1
theorem RC.tape {σ : Mem}{T : Nat}{t : TT}{s : SS} (h : RC σ T t s) : ∃ n b, TS σ n b := h.2.2.2.2.2.2.2.2.2.2.2.2.1
theorem RC.flt {σ : Mem}{T : Nat}{t : TT}{s : SS} (h : RC σ T t s) : σ.1 0 14 = σ.1 64 9 := h.2.2.2.2.2.2.2.2.2.2.2.2.2.1
theorem RC.rd {σ : Mem}{T : Nat}{t : TT}{s : SS} (h : RC σ T t s) : ∃ R, σ.2.2 27 1 = some R := h.2.2.2.2.2.2.2.2.2.2.2.2.2.2.1
theorem RC.msz {σ : Mem}{T : Nat}{t : TT}{s : SS} (h : RC σ T t s) : t.P = 0 → t.ms = 0 ∧ t.wi = 0 ∧ t.la = 0 ∧ t.sh = 0 ∧ t.V = 0 ∧ t.W = 0 ∧ t.A = 0 ∧ t.S = 0 ∧ t.ch = [] ∧ s.day = 0 ∧ s.sk = [] ∧ ∀ d, s.vis d = none := h.2.2.2.2.2.2.2.2.2.2.2.2.2.2.2
/-- the relation between calls -/
def RLq (σ : Mem) : Prop := ∃ T t s, RC σ T t s ∧ σ.1 0 13 = σ.1 64 11 ∧ (σ.1 0 13 = zI 4 → σ.1 0 15 = σ.1 64 10)
theorem CT.eqv {σ τ : Mem} {T : Nat} {t : TT} (h : CT σ T t) (e : Eqv σ τ) : CT τ T t := by
  have q : ∀ a j, 3 ≤ a → a ≤ 26 → τ.1 a j = σ.1 a j := fun a j h1 h2 => e.1 a j (by simp [core, h1, h2])
  have hT := h.at_
  refine ⟨?_, ?_, ?_, ?_, ?_, ?_, ?_, ?_, ?_, ?_, ?_, ?_, ?_, ?_, ?_, ?_, ?_, ?_⟩
  · exact h.at_
  all_goals first
    | (rw [q _ _ (by omega) (by omega)]; first | exact h.ms | exact h.wi | exact h.la | exact h.sh | exact h.P | exact h.C | exact h.V | exact h.W | exact h.A | exact h.S)
    | (intro p hp; rw [q _ _ (by omega) (by omega)]; first | exact h.kind p hp | exact h.told p hp | exact h.vis p hp | exact h.wp p hp | exact h.wd p hp | exact h.st p hp)
    | (intro p r hp hr; rw [q _ _ (by omega) (by omega)]; exact h.odds p r hp hr)
theorem CS.eqv {σ τ : Mem} {k T : Nat} {t : TT} {E : List (Nat × Nat × Nat × Nat)} {s : SS} (h : CS σ k T t E s) (hk : k ≠ 32) (e : Eqv σ τ) : CS τ k T t E s := by
  have hT := h.at_
  have q : ∀ a j, ((28 ≤ a ∧ a ≤ 31) ∨ (37 ≤ a ∧ a ≤ 48)) → τ.1 a j = σ.1 a j := fun a j h1 => e.1 a j (by rcases h1 with ⟨h1, h2⟩ | ⟨h1, h2⟩ <;> simp [core, h1, h2])
  have q2 : τ.2.2 k = σ.2.2 k := e.2.1 k (by rcases hT with rfl | rfl | rfl | rfl | rfl <;> first | rfl | exact absurd rfl hk)
  exact ⟨h.at_, by rw [q2]; exact h.town, by rw [q _ _ (by omega)]; exact h.day, by rw [q _ _ (by omega)]; exact h.n, fun d hd => by rw [q _ _ (by omega)]; exact h.vis d hd, fun p d hp hd => by rw [q _ _ (by omega)]; exact h.look p d hp hd⟩
theorem Eqv.row {σ τ : Mem} (e : Eqv σ τ) (a : Nat) (h : ∀ j, core a j = true) : τ.1 a = σ.1 a := funext fun j => e.1 a j (h j)
theorem IS.eqv {σ τ : Mem} {T n : Nat} {t : TT} {I : Nat → SS} (h : IS σ T t n I) (e : Eqv σ τ) : IS τ T t n I :=
  ⟨h.n3, by rw [e.1 0 12 rfl]; exact h.cnt, by rw [e.1 64 21 rfl]; exact h.cnm, fun i hi => by rw [e.2.1 36 rfl]; exact h.ref i hi, fun i hi => (h.cls i hi).eqv (by unfold imp; omega) e, fun i hi => by rw [e.row 71 (fun _ => rfl)]; exact h.row i hi, h.ok⟩
theorem HS.eqv {σ τ : Mem} {n : Nat} {t : TT} {H : Nat → SS} (h : HS σ t n H) (e : Eqv σ τ) : HS τ t n H :=
  ⟨h.n16, by rw [e.1 49 1 rfl]; exact h.cnt, by rw [e.1 64 20 rfl]; exact h.cnm, fun i hi => by rw [e.row 50 (fun _ => rfl)]; exact h.back i hi, fun i hi => by rw [e.row 70 (fun _ => rfl)]; exact h.row i hi, h.ok⟩
theorem TS.eqv {σ τ : Mem} {n : Nat} {b : Nat → Nat} (h : TS σ n b) (e : Eqv σ τ) : TS τ n b :=
  ⟨h.n800, h.byte, by rw [e.1 1 1 rfl]; exact h.cnt, by rw [e.1 64 2 rfl]; exact h.cnm, fun i hi => by rw [e.row 2 (fun _ => rfl)]; exact h.cls i hi, fun i hi => by rw [e.row 65 (fun _ => rfl)]; exact h.mod i hi⟩
theorem RC.eqv {σ τ : Mem} {T : Nat} {t : TT} {s : SS} (h : RC σ T t s) (e : Eqv σ τ) : RC τ T t s := by
  obtain ⟨tb, sb, h1, h2, h3, h4, h5, h6, h7, h8, ⟨n, H, h9, h9'⟩, ⟨m, I, h10, h10'⟩, ⟨k, b, h11⟩, h12, h13, h14⟩ := h
  exact ⟨tb, sb, by rw [e.2.1 0 rfl]; exact h1, by rw [e.2.1 0 rfl]; exact h2, h3.eqv e, h4.eqv (by decide) e, by rw [e.row 67 (fun _ => rfl)]; exact h5, by rw [e.row 69 (fun _ => rfl)]; exact h6, by rw [e.1 64 14 rfl]; exact h7, by rw [e.1 64 24 rfl]; exact h8, ⟨n, H, h9.eqv e, h9'⟩, ⟨m, I, h10.eqv e, h10'⟩, ⟨k, b, h11.eqv e⟩, by rw [e.1 0 14 rfl, e.1 64 9 rfl]; exact h12, by rw [e.2.1 27 rfl]; exact h13, h14⟩
/-- the relation again behind a call that is answered with trouble v, neither 4 -/
theorem RL_of {σ τ : Mem} {T : Nat} {t : TT} {s : SS} (h : RC σ T t s) (e : Eqv σ τ) (v : Int32) (h1 : τ.1 0 13 = v) (h2 : τ.1 64 11 = v) (h4 : v ≠ zI 4) : RLq τ := ⟨T, t, s, h.eqv e, by rw [h1, h2], fun q => absurd (h1.symm.trans q) h4⟩
theorem bI_1 (b : Bool) : (bI b = 0) ↔ b = false := by cases b <;> decide
theorem f_in (a b c : Int) (ha : -2147483648 ≤ a ∧ a < 2147483648) (hb : -2147483648 ≤ b ∧ b < 2147483648) (hc : -2147483648 ≤ c ∧ c < 2147483648) : f_X13_in (zI a) (zI b) (zI c) = some (bI (decide (b ≤ a ∧ a ≤ c))) := by
  unfold f_X13_in
  simp (disch := omega) only [jn0_e, jn1_e, jn2_e, pnm_e, pbd1_s, pbd2_s, prfc_s, onm_sm, onm_nn, zI_lit, zI_nI, zI_add, zI_sub, zI_mul, zI_neg, zI_lt, zI_le, zI_eq, zI_nat, zI_div, zI_mod, ixd_in, dvd_ne]
  by_cases h1 : a < b
  · rw [if_pos h1, decide_eq_false (by omega)]; rfl
  · rw [if_neg h1]
    by_cases h2 : c < a
    · rw [if_pos h2, decide_eq_false (by omega)]; rfl
    · rw [if_neg h2, decide_eq_true (by omega)]; rfl
theorem m_isPerson {σ : Mem} {T : Nat} {t : TT} {s : SS} (h : RC σ T t s) (a : Int) (ha : -2147483648 ≤ a ∧ a < 2147483648) : f_X13_isPerson σ (zI a) = some (bI (decide (0 ≤ a ∧ a < t.P))) := by
  have hP := h.tb.P
  have a67 : aln 67 = 175 := rfl
  unfold f_X13_isPerson
  rw [h.has, jn0_e]
  by_cases p0 : 0 < t.P
  · rw [decide_eq_true p0, if_neg (by decide)]
    simp (disch := omega) only [jn0_e, jn1_e, jn2_e, pnm_e, pbd1_s, pbd2_s, prfc_s, onm_sm, onm_nn, zI_lit, zI_nI, zI_add, zI_sub, zI_mul, zI_neg, zI_lt, zI_le, zI_eq, zI_nat, zI_div, zI_mod, ixd_in, dvd_ne]
    rw [show (4 : Int).toNat = 4 from rfl, h.mr.P]
    simp (disch := omega) only [jn0_e, jn1_e, jn2_e, pnm_e, pbd1_s, pbd2_s, prfc_s, onm_sm, onm_nn, zI_lit, zI_nI, zI_add, zI_sub, zI_mul, zI_neg, zI_lt, zI_le, zI_eq, zI_nat, zI_div, zI_mod, ixd_in, dvd_ne]
    rw [f_in _ _ _ ha (by omega) (by omega), pbd1_s]
    by_cases q : 0 ≤ a ∧ a ≤ (t.P : Int) - 1
    · rw [decide_eq_true q, if_neg (by decide), decide_eq_true (by omega)]; rfl
    · rw [decide_eq_false q, if_pos (by decide), decide_eq_false (by omega)]; rfl
  · rw [decide_eq_false p0, if_pos (by decide), decide_eq_false (by omega)]; rfl
theorem c_ofTown {σ : Mem} {T : Nat} {t : TT} {s : SS} (h : RC σ T t s) : f_X12_ofTown σ = some (bI (decide (t.P = 0))) := by
  have hP := h.tb.P
  unfold f_X12_ofTown
  rw [h.town, prfc_s, ct_people h.ct]
  simp (disch := omega) only [jn0_e, jn1_e, jn2_e, pnm_e, pbd1_s, pbd2_s, prfc_s, onm_sm, onm_nn, zI_lit, zI_nI, zI_add, zI_sub, zI_mul, zI_neg, zI_lt, zI_le, zI_eq, zI_nat, zI_div, zI_mod, ixd_in, dvd_ne]
  by_cases q : t.P = 0
  · rw [if_pos (by omega), decide_eq_true q]; rfl
  · rw [if_neg (by omega), decide_eq_false q]; rfl
theorem c_ofPerson {σ : Mem} {T : Nat} {t : TT} {s : SS} (h : RC σ T t s) (a : Int) (ha : -2147483648 ≤ a ∧ a < 2147483648) : f_X12_ofPerson σ (zI a) = some (bI (!decide (0 ≤ a ∧ a < t.P))) := by
  have hP := h.tb.P
  unfold f_X12_ofPerson
  rw [h.town, prfc_s, ct_people h.ct, pbd1_s, f_inside _ _ ha (by omega), pbd1_s]
  by_cases q : 0 ≤ a ∧ a < (t.P : Int)
  · rw [decide_eq_true q]; rfl
  · rw [decide_eq_false q]; rfl
theorem c_refused (σ : Mem) (v : Int32) : f_X12_refused σ v = some (bI (decide (v ≠ 0)), sI σ 0 13 v) := by
  unfold f_X12_refused
  rw [pnm_e]
  by_cases h : v = 0
  · rw [if_pos h, decide_eq_false (by simp [h])]; rfl
  · rw [if_neg h, decide_eq_true h]; rfl
def gd (σ : Mem) : Mem := sI (sI σ 64 0 0) 64 11 0
theorem m_good (σ : Mem) : f_X13_good σ = some (gd σ) := rfl
theorem gd_e {σ τ : Mem} (h : Eqv σ τ) : Eqv σ (gd τ) := (h.sI 64 0 0 rfl).sI 64 11 0 rfl
/-- a call of kind -/
theorem rel_kind (σ : Mem) (h : RLq σ) (x : Int32) : ∃ r σ1 σ2, f_X12_kind σ x = some (r, σ1) ∧ f_X13_kind σ1 x = some (r, σ2) ∧ RLq σ2 := by
  obtain ⟨T, t, s, hc, ht, hp⟩ := h
  have hP := hc.tb.P
  have ha := zI_rng x
  have a67 : aln 67 = 175 := rfl
  obtain ⟨c1, c2, c3, -⟩ := ct_aln hc.ct.at_
  rw [zI_all x]
  unfold f_X12_kind f_X13_kind
  rw [c_ofPerson hc _ ha, pbd1_s, c_refused, pbd2_s]
  by_cases q : 0 ≤ x.toInt ∧ x.toInt < t.P
  · rw [decide_eq_true q]
    have e1 : Eqv σ (sI σ 0 13 (bI (!true))) := (Eqv.rfl' σ).sI 0 13 _ rfl
    have hc1 := hc.eqv e1
    have hk := g_get (hc1.ct.kind x.toInt.toNat (by omega)) (by omega) (by omega)
    rw [show ((x.toInt.toNat : Nat) : Int) = x.toInt from by omega] at hk
    refine ⟨zI (t.kind x.toInt.toNat), sI σ 0 13 (bI (!true)), gd (sI σ 0 13 (bI (!true))), ?_, ?_, ?_⟩
    · rw [if_pos (by decide), hc1.town, prfc_s, hk]
      rfl
    · have hc2 := hc.eqv (gd_e e1)
      have hk2 := hc2.mr.kind x.toInt.toNat (by omega)
      rw [m_good, pbd1_s, m_isPerson hc2 _ ha, decide_eq_true q, pbd1_s, if_neg (by decide)]
      simp (disch := omega) only [jn0_e, jn1_e, jn2_e, pnm_e, pbd1_s, pbd2_s, prfc_s, onm_sm, onm_nn, zI_lit, zI_nI, zI_add, zI_sub, zI_mul, zI_neg, zI_lt, zI_le, zI_eq, zI_nat, zI_div, zI_mod, ixd_in, dvd_ne]
      rw [show (10 + 2 * x.toInt).toNat = 10 + 2 * x.toInt.toNat from by omega, hk2]
    · exact RL_of hc (gd_e e1) 0 rfl rfl (by decide)
  · rw [decide_eq_false q]
    have e1 : Eqv σ (sI σ 0 13 (bI (!false))) := (Eqv.rfl' σ).sI 0 13 _ rfl
    have hc2 := hc.eqv (gd_e e1)
    refine ⟨-1, sI σ 0 13 (bI (!false)), sI (gd (sI σ 0 13 (bI (!false)))) 64 11 1, ?_, ?_, ?_⟩
    · rw [if_neg (by decide)]
    · rw [m_good, pbd1_s, m_isPerson hc2 _ ha, decide_eq_false q, pbd1_s, if_pos (by decide)]
      rfl
    · exact RL_of hc ((gd_e e1).sI 64 11 1 rfl) 1 rfl rfl (by decide)
/-- the trouble of a call on something on a day -/
def tr3 (Q D : Prop) [Decidable Q] [Decidable D] : Int32 := if Q then (if D then 0 else 2) else 1
theorem tr3_0 {Q D : Prop} [Decidable Q] [Decidable D] (h1 : Q) (h2 : D) : tr3 Q D = 0 := by rw [tr3, if_pos h1, if_pos h2]
theorem tr3_2 {Q D : Prop} [Decidable Q] [Decidable D] (h1 : Q) (h2 : ¬ D) : tr3 Q D = 2 := by rw [tr3, if_pos h1, if_neg h2]
theorem tr3_1 {Q D : Prop} [Decidable Q] [Decidable D] (h1 : ¬ Q) : tr3 Q D = 1 := by rw [tr3, if_neg h1]
theorem c_ofDay {σ : Mem} {T : Nat} {t : TT} {s : SS} (h : RC σ T t s) (a : Int) (ha : -2147483648 ≤ a ∧ a < 2147483648) : f_X12_ofDay σ (zI a) = some (tr3 (0 < t.P) (0 ≤ a ∧ a < 30)) := by
  unfold f_X12_ofDay
  rw [c_ofTown h, pbd1_s, show (30 : Int32) = zI 30 from rfl, f_inside _ _ ha (by omega), pbd1_s]
  by_cases q : t.P = 0
  · rw [decide_eq_true q, if_neg (by decide), tr3_1 (by omega)]
  · rw [decide_eq_false q, if_pos (by decide)]
    by_cases q2 : 0 ≤ a ∧ a < 30
    · rw [decide_eq_true q2, if_neg (by decide), tr3_0 (by omega) q2]
    · rw [decide_eq_false q2, if_pos (by decide), tr3_2 (by omega) q2]
theorem c_ofPD {σ : Mem} {T : Nat} {t : TT} {s : SS} (h : RC σ T t s) (p a : Int) (hp : -2147483648 ≤ p ∧ p < 2147483648) (ha : -2147483648 ≤ a ∧ a < 2147483648) : f_X12_ofPersonOnDay σ (zI p) (zI a) = some (tr3 (0 ≤ p ∧ p < t.P) (0 ≤ a ∧ a < 30)) := by
  unfold f_X12_ofPersonOnDay
  rw [c_ofPerson h _ hp, pbd1_s, c_ofDay h _ ha, pbd1_s]
  by_cases q : 0 ≤ p ∧ p < (t.P : Int)
  · rw [decide_eq_true q, if_pos (by decide), tr3, tr3, if_pos (by omega), if_pos q]
  · rw [decide_eq_false q, if_neg (by decide), tr3_1 q]
theorem m_isDay (a : Int) (ha : -2147483648 ≤ a ∧ a < 2147483648) : f_X13_isDay (zI a) = some (bI (decide (0 ≤ a ∧ a < 30))) := by
  unfold f_X13_isDay
  rw [show (0 : Int32) = zI 0 from rfl, show (29 : Int32) = zI 29 from rfl, f_in _ _ _ ha (by omega) (by omega), pbd1_s]
  by_cases q : 0 ≤ a ∧ a < 30
  · rw [decide_eq_true q, decide_eq_true (by omega)]; rfl
  · rw [decide_eq_false q, decide_eq_false (by omega)]; rfl
theorem m_why (b : Bool) (a : Int) (ha : -2147483648 ≤ a ∧ a < 2147483648) : f_X13_why (bI b) (zI a) = some (if b = true then (if 0 ≤ a ∧ a < 30 then 0 else 2) else 1) := by
  unfold f_X13_why
  rw [m_isDay a ha, pbd1_s]
  cases b with
  | false => rfl
  | true =>
    rw [if_neg (by decide), if_pos rfl]
    by_cases q : 0 ≤ a ∧ a < 30
    · rw [decide_eq_true q, if_neg (by decide), if_pos q]
    · rw [decide_eq_false q, if_pos (by decide), if_neg q]
theorem m_whyD (Q : Prop) [Decidable Q] (a : Int) (ha : -2147483648 ≤ a ∧ a < 2147483648) : f_X13_why (bI (decide Q)) (zI a) = some (tr3 Q (0 ≤ a ∧ a < 30)) := by
  rw [m_why _ a ha, tr3]
  by_cases q : Q
  · rw [decide_eq_true q, if_pos rfl, if_pos q]
  · rw [decide_eq_false q, if_neg (by decide), if_neg q]
theorem m_no (σ : Mem) (v : Int32) : f_X13_no σ v = some (-1, sI σ 64 11 v) := rfl
/-- a call that both sides refuse with v -/
theorem RL_no {σ : Mem} {T : Nat} {t : TT} {s : SS} (h : RC σ T t s) (v : Int32) (h4 : v ≠ zI 4) : RLq (sI (gd (sI σ 0 13 v)) 64 11 v) :=
  RL_of h ((gd_e ((Eqv.rfl' σ).sI 0 13 v rfl)).sI 64 11 v rfl) v rfl rfl h4
/-- a call that both sides answer -/
theorem RL_yes {σ : Mem} {T : Nat} {t : TT} {s : SS} (h : RC σ T t s) : RLq (gd (sI σ 0 13 0)) :=
  RL_of h (gd_e ((Eqv.rfl' σ).sI 0 13 0 rfl)) 0 rfl rfl (by decide)
theorem RC_c {σ : Mem} {T : Nat} {t : TT} {s : SS} (h : RC σ T t s) (v : Int32) : RC (sI σ 0 13 v) T t s := h.eqv ((Eqv.rfl' σ).sI 0 13 v rfl)
theorem RC_m {σ : Mem} {T : Nat} {t : TT} {s : SS} (h : RC σ T t s) (v : Int32) : RC (gd (sI σ 0 13 v)) T t s := h.eqv (gd_e ((Eqv.rfl' σ).sI 0 13 v rfl))
theorem refu_0 (σ : Mem) : f_X12_refused σ 0 = some (0, sI σ 0 13 0) := rfl
theorem refu_1 (σ : Mem) : f_X12_refused σ 1 = some (1, sI σ 0 13 1) := rfl
theorem refu_2 (σ : Mem) : f_X12_refused σ 2 = some (1, sI σ 0 13 2) := rfl
/-- a call of latest -/
theorem rel_latest (σ : Mem) (h : RLq σ) (x y : Int32) : ∃ r σ1 σ2, f_X12_latest σ x y = some (r, σ1) ∧ f_X13_latest σ1 x y = some (r, σ2) ∧ RLq σ2 := by
  obtain ⟨T, t, s, hc, ht, hp⟩ := h
  have hP := hc.tb.P
  have ha := zI_rng x
  have hb := zI_rng y
  rw [zI_all x, zI_all y]
  unfold f_X12_latest f_X13_latest
  rw [c_ofPD hc _ _ ha hb, pbd1_s]
  simp only [m_good, pbd1_s]
  by_cases q : 0 ≤ x.toInt ∧ x.toInt < t.P
  · by_cases q2 : 0 ≤ y.toInt ∧ y.toInt < 30
    · rw [tr3_0 q q2, refu_0, pbd2_s, if_pos rfl]
      have hc1 := RC_c hc 0
      have hc2 := RC_m hc 0
      obtain ⟨p, ep⟩ : ∃ p : Nat, x.toInt = p := ⟨x.toInt.toNat, by omega⟩
      obtain ⟨d, ed⟩ : ∃ d : Nat, y.toInt = d := ⟨y.toInt.toNat, by omega⟩
      rw [ep, ed, c_lat hc1.cs (sb_5 hc.tb hc.sb) (by omega) (by omega)]
      refine ⟨_, _, gd (sI σ 0 13 0), rfl, ?_, RL_yes hc⟩
      rw [m_isPerson hc2 _ (by omega), pbd1_s, m_whyD _ _ (by omega), pbd1_s, tr3_0 (by omega) (by omega), if_pos rfl, m_lat (fun d hd => by have := hc2.mv.vis d hd; rwa [Nat.zero_add] at this) (sb_5 hc.tb hc.sb) (by omega) (by omega)]
      rfl
    · rw [tr3_2 q q2, refu_2, pbd2_s, if_neg (by decide)]
      have hc2 := RC_m hc 2
      refine ⟨_, _, _, rfl, ?_, RL_no hc 2 (by decide)⟩
      rw [m_isPerson hc2 _ ha, pbd1_s, m_whyD _ _ hb, pbd1_s, tr3_2 q q2, if_neg (by decide), m_no]
      rfl
  · rw [tr3_1 q, refu_1, pbd2_s, if_neg (by decide)]
    have hc2 := RC_m hc 1
    refine ⟨_, _, _, rfl, ?_, RL_no hc 1 (by decide)⟩
    rw [m_isPerson hc2 _ ha, pbd1_s, m_whyD _ _ hb, pbd1_s, tr3_1 q, if_neg (by decide), m_no]
    rfl
/-- calls on a person and a day -/
theorem rel_pd {x y : Int32} {vc vm : Mem → Option (Int32 × Mem)} (val : TT → SS → Nat → Nat → Int32) (hv : ∀ σ T t s, RC σ T t s → ∀ p d : Nat, x = zI p → y = zI d → p < t.P → d < 30 → vc σ = some (val t s p d, σ) ∧ vm σ = some (val t s p d, σ)) {σ : Mem} (h : RLq σ) : ∃ r σ1 σ2, bd1 (f_X12_ofPersonOnDay σ x y) (fun (r_1 : Int32) => bd2 (f_X12_refused σ r_1) (fun (r_2 : Int32) (σ_3 : Mem) => (if r_2 = 0 then vc σ_3 else some ((-1), σ_3)))) = some (r, σ1) ∧ bd1 (f_X13_good σ1) (fun (σ_1 : Mem) => bd1 (f_X13_isPerson σ_1 x) (fun (r_2 : Int32) => bd1 (f_X13_why r_2 y) (fun (r_3 : Int32) => (if r_3 = 0 then vm σ_1 else bd2 (f_X13_no σ_1 r_3) (fun (r_5 : Int32) (σ_6 : Mem) => some (r_5, σ_6)))))) = some (r, σ2) ∧ RLq σ2 := by
  obtain ⟨T, t, s, hc, ht, hp⟩ := h
  have hP := hc.tb.P
  have ha := zI_rng x
  have hb := zI_rng y
  have ex := zI_all x
  have ey := zI_all y
  rw [show f_X12_ofPersonOnDay σ x y = some (tr3 (0 ≤ x.toInt ∧ x.toInt < t.P) (0 ≤ y.toInt ∧ y.toInt < 30)) by rw [← c_ofPD hc _ _ ha hb, ← ex, ← ey], pbd1_s]
  simp only [m_good, pbd1_s]
  by_cases q : 0 ≤ x.toInt ∧ x.toInt < t.P
  · by_cases q2 : 0 ≤ y.toInt ∧ y.toInt < 30
    · rw [tr3_0 q q2, refu_0, pbd2_s, if_pos rfl]
      have hc1 := RC_c hc 0
      have hc2 := RC_m hc 0
      obtain ⟨p, ep⟩ : ∃ p : Nat, x.toInt = p := ⟨x.toInt.toNat, by omega⟩
      obtain ⟨d, ed⟩ : ∃ d : Nat, y.toInt = d := ⟨y.toInt.toNat, by omega⟩
      rw [(hv _ T t s hc1 p d (by rw [← ep]; exact ex) (by rw [← ed]; exact ey) (by omega) (by omega)).1]
      refine ⟨_, _, gd (sI σ 0 13 0), rfl, ?_, RL_yes hc⟩
      rw [ex, ey, m_isPerson hc2 _ ha, pbd1_s, m_whyD _ _ hb, pbd1_s, tr3_0 q q2, if_pos rfl, (hv _ T t s hc2 p d (by rw [← ep]; exact ex) (by rw [← ed]; exact ey) (by omega) (by omega)).2]
    · rw [tr3_2 q q2, refu_2, pbd2_s, if_neg (by decide)]
      have hc2 := RC_m hc 2
      refine ⟨_, _, _, rfl, ?_, RL_no hc 2 (by decide)⟩
      rw [ex, ey, m_isPerson hc2 _ ha, pbd1_s, m_whyD _ _ hb, pbd1_s, tr3_2 q q2, if_neg (by decide), m_no]
      rfl
  · rw [tr3_1 q, refu_1, pbd2_s, if_neg (by decide)]
    have hc2 := RC_m hc 1
    refine ⟨_, _, _, rfl, ?_, RL_no hc 1 (by decide)⟩
    rw [ex, ey, m_isPerson hc2 _ ha, pbd1_s, m_whyD _ _ hb, pbd1_s, tr3_1 q, if_neg (by decide), m_no]
    rfl
/-- calls on a day -/
theorem rel_d {y : Int32} {vc vm : Mem → Option (Int32 × Mem)} (val : TT → SS → Nat → Int32) (hv : ∀ σ T t s, RC σ T t s → ∀ d : Nat, y = zI d → 0 < t.P → d < 30 → vc σ = some (val t s d, σ) ∧ vm σ = some (val t s d, σ)) {σ : Mem} (h : RLq σ) : ∃ r σ1 σ2, bd1 (f_X12_ofDay σ y) (fun (r_1 : Int32) => bd2 (f_X12_refused σ r_1) (fun (r_2 : Int32) (σ_3 : Mem) => (if r_2 = 0 then vc σ_3 else some ((-1), σ_3)))) = some (r, σ1) ∧ bd1 (f_X13_good σ1) (fun (σ_1 : Mem) => bd1 (f_X13_why (σ_1.1 64 14) y) (fun (r_3 : Int32) => (if r_3 = 0 then vm σ_1 else bd2 (f_X13_no σ_1 r_3) (fun (r_5 : Int32) (σ_6 : Mem) => some (r_5, σ_6))))) = some (r, σ2) ∧ RLq σ2 := by
  obtain ⟨T, t, s, hc, ht, hp⟩ := h
  have hP := hc.tb.P
  have hb := zI_rng y
  have ey := zI_all y
  rw [show f_X12_ofDay σ y = some (tr3 (0 < t.P) (0 ≤ y.toInt ∧ y.toInt < 30)) by rw [← c_ofDay hc _ hb, ← ey], pbd1_s]
  simp only [m_good, pbd1_s]
  by_cases q : 0 < t.P
  · by_cases q2 : 0 ≤ y.toInt ∧ y.toInt < 30
    · rw [tr3_0 q q2, refu_0, pbd2_s, if_pos rfl]
      have hc1 := RC_c hc 0
      have hc2 := RC_m hc 0
      obtain ⟨d, ed⟩ : ∃ d : Nat, y.toInt = d := ⟨y.toInt.toNat, by omega⟩
      rw [(hv _ T t s hc1 d (by rw [← ed]; exact ey) (by omega) (by omega)).1]
      refine ⟨_, _, gd (sI σ 0 13 0), rfl, ?_, RL_yes hc⟩
      rw [hc2.has, ey, m_whyD _ _ hb, pbd1_s, tr3_0 q q2, if_pos rfl, (hv _ T t s hc2 d (by rw [← ed]; exact ey) (by omega) (by omega)).2]
    · rw [tr3_2 q q2, refu_2, pbd2_s, if_neg (by decide)]
      have hc2 := RC_m hc 2
      refine ⟨_, _, _, rfl, ?_, RL_no hc 2 (by decide)⟩
      rw [hc2.has, ey, m_whyD _ _ hb, pbd1_s, tr3_2 q q2, if_neg (by decide), m_no]
      rfl
  · rw [tr3_1 q, refu_1, pbd2_s, if_neg (by decide)]
    have hc2 := RC_m hc 1
    refine ⟨_, _, _, rfl, ?_, RL_no hc 1 (by decide)⟩
    rw [hc2.has, ey, m_whyD _ _ hb, pbd1_s, tr3_1 q, if_neg (by decide), m_no]
    rfl
/-- calls on a person -/
theorem rel_p {x : Int32} {vc vm : Mem → Option (Int32 × Mem)} (val : TT → SS → Nat → Int32) (hv : ∀ σ T t s, RC σ T t s → ∀ p : Nat, x = zI p → p < t.P → vc σ = some (val t s p, σ) ∧ vm σ = some (val t s p, σ)) {σ : Mem} (h : RLq σ) : ∃ r σ1 σ2, bd1 (f_X12_ofPerson σ x) (fun (r_1 : Int32) => bd2 (f_X12_refused σ r_1) (fun (r_2 : Int32) (σ_3 : Mem) => (if r_2 = 0 then vc σ_3 else some ((-1), σ_3)))) = some (r, σ1) ∧ bd1 (f_X13_good σ1) (fun (σ_1 : Mem) => bd1 (f_X13_isPerson σ_1 x) (fun (r_2 : Int32) => (if r_2 = 0 then bd2 (f_X13_no σ_1 1) (fun (r_5 : Int32) (σ_6 : Mem) => some (r_5, σ_6)) else vm σ_1))) = some (r, σ2) ∧ RLq σ2 := by
  obtain ⟨T, t, s, hc, ht, hp⟩ := h
  have hP := hc.tb.P
  have ha := zI_rng x
  have ex := zI_all x
  rw [show f_X12_ofPerson σ x = some (bI (!decide (0 ≤ x.toInt ∧ x.toInt < t.P))) by rw [← c_ofPerson hc _ ha, ← ex], pbd1_s]
  simp only [m_good, pbd1_s]
  by_cases q : 0 ≤ x.toInt ∧ x.toInt < t.P
  · rw [decide_eq_true q, show bI (!true) = 0 from rfl, refu_0, pbd2_s, if_pos rfl]
    have hc1 := RC_c hc 0
    have hc2 := RC_m hc 0
    obtain ⟨p, ep⟩ : ∃ p : Nat, x.toInt = p := ⟨x.toInt.toNat, by omega⟩
    rw [(hv _ T t s hc1 p (by rw [← ep]; exact ex) (by omega)).1]
    refine ⟨_, _, gd (sI σ 0 13 0), rfl, ?_, RL_yes hc⟩
    rw [ex, m_isPerson hc2 _ ha, decide_eq_true q, pbd1_s, if_neg (by decide), (hv _ T t s hc2 p (by rw [← ep]; exact ex) (by omega)).2]
  · rw [decide_eq_false q, show bI (!false) = 1 from rfl, refu_1, pbd2_s, if_neg (by decide)]
    have hc2 := RC_m hc 1
    refine ⟨_, _, _, rfl, ?_, RL_no hc 1 (by decide)⟩
    rw [ex, m_isPerson hc2 _ ha, decide_eq_false q, pbd1_s, if_pos (by decide), m_no]
    rfl
theorem app0 (L : List (Nat × Nat × Nat × Nat)) : L ++ DL none 30 = L := List.append_nil L
theorem RC.mlook {σ : Mem} {T : Nat} {t : TT} {s : SS} (h : RC σ T t s) {p d : Nat} (hp : p < t.P) (hd : d < 30) : f_X13_lookOn σ (zI p) (zI d) = some (zI (e4 (lk t (t.ch ++ s.sk) p d))) := by
  have := m_look (dr := none) h.mr h.mv h.tb h.sb h.nod hp hd
  rwa [app0] at this
theorem RC.mbel {σ : Mem} {T : Nat} {t : TT} {s : SS} (h : RC σ T t s) {p d : Nat} (hp : p < t.P) (hd : d < 30) : f_X13_beliefOn σ (zI p) (zI d) = some (zI (e4 (bel t (t.ch ++ s.sk) p (lat s.vis p (d + 1))))) := by
  have := m_bel (dr := none) h.mr h.mv h.tb h.sb h.nod hp hd
  rwa [app0] at this
theorem RC.mpap {σ : Mem} {T : Nat} {t : TT} {s : SS} (h : RC σ T t s) {p d : Nat} (hp : p < t.P) (hd : d < 30) : f_X13_papersOn σ (zI p) (zI d) = some (zI (e4 (pap t (t.ch ++ s.sk) p (lat s.vis p (d + 1))))) := by
  have := m_pap (dr := none) h.mr h.mv h.tb h.sb h.nod hp hd
  rwa [app0] at this
theorem RC.mkn {σ : Mem} {T : Nat} {t : TT} {s : SS} (h : RC σ T t s) {p d : Nat} (hp : p < t.P) (hd : d < 30) : f_X13_doesKnow σ (zI p) (zI d) = some (bI (kn t (t.ch ++ s.sk) s p d)) := by
  have := m_know (dr := none) h.mr h.mv h.tb h.sb h.nod hp hd
  rwa [app0] at this
theorem RC.munl {σ : Mem} {T : Nat} {t : TT} {s : SS} (h : RC σ T t s) {p d q : Nat} (v : Option Nat) (hp : p < t.P) : f_X13_unlike σ (zI (e4 (lk t (t.ch ++ s.sk) p d))) (zI (e4 (bel t (t.ch ++ s.sk) q v))) = some (zI (unl (lk t (t.ch ++ s.sk) p d) (bel t (t.ch ++ s.sk) q v) 6)) :=
  m_unlike h.mr h.tb (lk_lt _ _ _ _) (bel_lt h.tb _ _ _) (fun m hm => lk_z h.tb (by omega) (EB_of h.tb h.sb) hm) (fun m hm => bel_z h.tb (by omega) (EB_of h.tb h.sb) hm)
theorem rel_mistaken (σ : Mem) (h : RLq σ) (x y : Int32) : ∃ r σ1 σ2, f_X12_mistaken σ x y = some (r, σ1) ∧ f_X13_mistaken σ1 x y = some (r, σ2) ∧ RLq σ2 := by
  unfold f_X12_mistaken f_X13_mistaken
  refine rel_pd (fun t s p d => zI (unl (lk t (t.ch ++ s.sk) p d) (bel t (t.ch ++ s.sk) p (lat s.vis p (d + 1))) 6)) (fun σ T t s hc p d ex ey hp hd => ?_) h
  subst ex; subst ey
  refine ⟨?_, ?_⟩
  · rw [c_mist hc.cs hc.ct hc.tb hc.sb hp hd, pbd1_s]
  · rw [hc.mlook hp hd, pbd1_s, hc.mbel hp hd, pbd1_s, hc.munl _ hp, pbd1_s]
theorem rel_knows (σ : Mem) (h : RLq σ) (y : Int32) : ∃ r σ1 σ2, f_X12_knows σ y = some (r, σ1) ∧ f_X13_knows σ1 y = some (r, σ2) ∧ RLq σ2 := by
  unfold f_X12_knows f_X13_knows
  refine rel_d (fun t s d => zI (bits (fun p => kn t (t.ch ++ s.sk) s p d) t.P)) (fun σ T t s hc d ey hp hd => ?_) h
  subst ey
  have hP := hc.tb.P
  have a67 : aln 67 = 175 := rfl
  refine ⟨?_, ?_⟩
  · rw [c_knowing hc.cs hc.ct hc.tb hc.sb hd, pbd1_s]
  · refine fx2_run (fun i => zI (bits (fun p => kn t (t.ch ++ s.sk) s p d) i)) (fun i => zI i) t.P 0 (by omega) rfl rfl (fun k => ?_) (fun i hi k => ?_)
    · simp (disch := omega) only [jn0_e, jn1_e, jn2_e, pnm_e, pbd1_s, pbd2_s, prfc_s, onm_sm, onm_nn, zI_lit, zI_nI, zI_add, zI_sub, zI_mul, zI_neg, zI_lt, zI_le, zI_eq, zI_nat, zI_div, zI_mod, ixd_in, dvd_ne]
      rw [show (4 : Int).toNat = 4 from rfl, hc.mr.P]
      simp (disch := omega) only [jn0_e, jn1_e, jn2_e, pnm_e, pbd1_s, pbd2_s, prfc_s, onm_sm, onm_nn, zI_lit, zI_nI, zI_add, zI_sub, zI_mul, zI_neg, zI_lt, zI_le, zI_eq, zI_nat, zI_div, zI_mod, ixd_in, dvd_ne]
      rw [if_pos (by omega)]
    · rw [hc.mkn hi hd]
      simp (disch := omega) only [jn0_e, jn1_e, jn2_e, pnm_e, pbd1_s, pbd2_s, prfc_s, onm_sm, onm_nn, zI_lit, zI_nI, zI_add, zI_sub, zI_mul, zI_neg, zI_lt, zI_le, zI_eq, zI_nat, zI_div, zI_mod, ixd_in, dvd_ne]
      rw [show (4 : Int).toNat = 4 from rfl, hc.mr.P]
      simp (disch := omega) only [jn0_e, jn1_e, jn2_e, pnm_e, pbd1_s, pbd2_s, prfc_s, onm_sm, onm_nn, zI_lit, zI_nI, zI_add, zI_sub, zI_mul, zI_neg, zI_lt, zI_le, zI_eq, zI_nat, zI_div, zI_mod, ixd_in, dvd_ne]
      rw [if_neg (by omega), one_shl (by omega), ← bits_step _ (show i < 31 by omega)]
      by_cases e : kn t (t.ch ++ s.sk) s i d = true
      · rw [if_neg (by rw [bI_0, e]; simp), e]; rfl
      · have e : kn t (t.ch ++ s.sk) s i d = false := by simpa using e
        rw [if_pos (by rw [bI_0, e]), e]; rfl
/-- the first day from i on, below n, of which it isn't so; -2 without one -/
def fstN (f : Nat → Bool) (n : Nat) : Nat → Int
  | 0 => -2
  | k + 1 => if f (n - (k + 1)) = false then ((n - (k + 1) : Nat) : Int) else fstN f n k
theorem rel_stranger (σ : Mem) (h : RLq σ) (x : Int32) : ∃ r σ1 σ2, f_X12_stranger σ x = some (r, σ1) ∧ f_X13_stranger σ1 x = some (r, σ2) ∧ RLq σ2 := by
  unfold f_X12_stranger f_X13_stranger
  refine rel_p (fun t s p => zI (fstN (fun d => kn t (t.ch ++ s.sk) s p d) 30 30)) (fun σ T t s hc p ex hp => ?_) h
  subst ex
  refine ⟨?_, ?_⟩
  · refine fx1_go (fun i => zI i) (fun i => some (zI (fstN (fun d => kn t (t.ch ++ s.sk) s p d) 30 (30 - i)), σ)) 30 0 (by omega) rfl (fun k => ?_) (fun i hi k => ?_)
    · rfl
    · obtain ⟨j, hj⟩ : ∃ j, 30 - i = j + 1 := ⟨29 - i, by omega⟩
      rw [c_know hc.cs hc.ct hc.tb hc.sb hp hi]
      simp (disch := omega) only [jn0_e, jn1_e, jn2_e, pnm_e, pbd1_s, pbd2_s, prfc_s, onm_sm, onm_nn, zI_lit, zI_nI, zI_add, zI_sub, zI_mul, zI_neg, zI_lt, zI_le, zI_eq, zI_nat, zI_div, zI_mod, ixd_in, dvd_ne]
      rw [if_neg (by omega), hj, fstN, show 30 - (j + 1) = i from by omega, show 30 - (i + 1) = j from by omega]
      by_cases e : kn t (t.ch ++ s.sk) s p i = true
      · right
        rw [if_neg (by rw [bI_0, e]; simp), if_neg (by simp [e])]
        exact ⟨rfl, rfl⟩
      · left
        have e : kn t (t.ch ++ s.sk) s p i = false := by simpa using e
        rw [if_pos (by rw [bI_0, e]), if_pos e]
  · refine fx1_go (fun i => zI i) (fun i => some (zI (fstN (fun d => kn t (t.ch ++ s.sk) s p d) 30 (30 - i)), σ)) 30 0 (by omega) rfl (fun k => ?_) (fun i hi k => ?_)
    · rfl
    · obtain ⟨j, hj⟩ : ∃ j, 30 - i = j + 1 := ⟨29 - i, by omega⟩
      rw [hc.mkn hp hi]
      simp (disch := omega) only [jn0_e, jn1_e, jn2_e, pnm_e, pbd1_s, pbd2_s, prfc_s, onm_sm, onm_nn, zI_lit, zI_nI, zI_add, zI_sub, zI_mul, zI_neg, zI_lt, zI_le, zI_eq, zI_nat, zI_div, zI_mod, ixd_in, dvd_ne]
      rw [if_neg (by omega), hj, fstN, show 30 - (j + 1) = i from by omega, show 30 - (i + 1) = j from by omega]
      by_cases e : kn t (t.ch ++ s.sk) s p i = true
      · right
        rw [if_neg (by rw [bI_0, e]; simp), if_neg (by simp [e])]
        exact ⟨rfl, rfl⟩
      · left
        have e : kn t (t.ch ++ s.sk) s p i = false := by simpa using e
        rw [if_pos (by rw [bI_0, e]), if_pos e]
/-- how many below n -/
def cnt (f : Nat → Bool) : Nat → Nat
  | 0 => 0
  | n + 1 => cnt f n + (if f n then 1 else 0)
theorem cnt_le (f : Nat → Bool) : ∀ n, cnt f n ≤ n
  | 0 => Nat.le_refl 0
  | n + 1 => by have := cnt_le f n; rw [cnt]; split <;> omega
theorem cnt_not (f : Nat → Bool) : ∀ n, cnt f n + cnt (fun i => !f i) n = n
  | 0 => rfl
  | n + 1 => by
    have := cnt_not f n
    rw [cnt, cnt]
    cases f n <;> simp <;> omega
theorem cnt_congr {f h : Nat → Bool} : ∀ n, (∀ i, i < n → f i = h i) → cnt f n = cnt h n
  | 0, _ => rfl
  | n + 1, e => by rw [cnt, cnt, cnt_congr n (fun i hi => e i (by omega)), e n (by omega)]
theorem c_daysLost {σ : Mem} {k T : Nat} {t : TT} {E : List (Nat × Nat × Nat × Nat)} {s : SS} (h : CS σ k T t E s) (hT : CT σ T t) (tb : TB t) (sb : SB t s) {p : Nat} (hp : p < t.P) : f_X9_daysLost σ k (zI p) = some (zI (cnt (fun d => !kn t E s p d) 30)) := by
  unfold f_X9_daysLost
  refine fx2_run (fun i => zI (cnt (fun d => !kn t E s p d) i)) (fun i => zI i) 30 0 (by omega) rfl rfl (fun k => ?_) (fun i hi k => ?_)
  · rfl
  · rw [c_know h hT tb sb hp hi]
    simp (disch := omega) only [jn0_e, jn1_e, jn2_e, pnm_e, pbd1_s, pbd2_s, prfc_s, onm_sm, onm_nn, zI_lit, zI_nI, zI_add, zI_sub, zI_mul, zI_neg, zI_lt, zI_le, zI_eq, zI_nat, zI_div, zI_mod, ixd_in, dvd_ne]
    rw [if_neg (by omega), cnt]
    by_cases e : kn t E s p i = true
    · rw [if_neg (by rw [bI_0, e]; simp), e]; rfl
    · have e : kn t E s p i = false := by simpa using e
      rw [if_pos (by rw [bI_0, e]), e]; rfl
theorem rel_known (σ : Mem) (h : RLq σ) (x : Int32) : ∃ r σ1 σ2, f_X12_known σ x = some (r, σ1) ∧ f_X13_known σ1 x = some (r, σ2) ∧ RLq σ2 := by
  unfold f_X12_known f_X13_known
  refine rel_p (fun t s p => zI (cnt (fun d => kn t (t.ch ++ s.sk) s p d) 30)) (fun σ T t s hc p ex hp => ?_) h
  subst ex
  have hn := cnt_not (fun d => kn t (t.ch ++ s.sk) s p d) 30
  refine ⟨?_, ?_⟩
  · rw [c_daysLost hc.cs hc.ct hc.tb hc.sb hp]
    simp (disch := omega) only [jn0_e, jn1_e, jn2_e, pnm_e, pbd1_s, pbd2_s, prfc_s, onm_sm, onm_nn, zI_lit, zI_nI, zI_add, zI_sub, zI_mul, zI_neg, zI_lt, zI_le, zI_eq, zI_nat, zI_div, zI_mod, ixd_in, dvd_ne]
    congr 3
    omega
  · refine fx2_run (fun i => zI (cnt (fun d => kn t (t.ch ++ s.sk) s p d) i)) (fun i => zI i) 30 0 (by omega) rfl rfl (fun k => ?_) (fun i hi k => ?_)
    · rfl
    · rw [hc.mkn hp hi]
      simp (disch := omega) only [jn0_e, jn1_e, jn2_e, pnm_e, pbd1_s, pbd2_s, prfc_s, onm_sm, onm_nn, zI_lit, zI_nI, zI_add, zI_sub, zI_mul, zI_neg, zI_lt, zI_le, zI_eq, zI_nat, zI_div, zI_mod, ixd_in, dvd_ne]
      rw [if_neg (by omega), cnt]
      by_cases e : kn t (t.ch ++ s.sk) s p i = true
      · rw [if_neg (by rw [bI_0, e]; simp), e]; rfl
      · have e : kn t (t.ch ++ s.sk) s p i = false := by simpa using e
        rw [if_pos (by rw [bI_0, e]), e]; rfl
def hl (t : TT) (E : List (Nat × Nat × Nat × Nat)) (s : SS) (w : Nat) : Bool := kn t E s (t.wp w) (t.wd w)
theorem c_held {σ : Mem} {k T : Nat} {t : TT} {E : List (Nat × Nat × Nat × Nat)} {s : SS} (h : CS σ k T t E s) (hT : CT σ T t) (tb : TB t) (sb : SB t s) : f_X9_wishesHeld σ k = some (zI (bits (hl t E s) t.W)) := by
  have hW := tb.W
  obtain ⟨a1, a2, a3, a4, a5, a6, a7, a8, a9, a10⟩ := ct_aln hT.at_
  unfold f_X9_wishesHeld
  rw [h.town]
  simp only [prfc_s, ct_wishes hT, pbd1_s]
  refine fx2_run (fun i => zI (bits (hl t E s) i)) (fun i => zI i) t.W 0 (by omega) rfl rfl (fun k => ?_) (fun i hi k => ?_)
  · simp (disch := omega) only [jn0_e, jn1_e, jn2_e, pnm_e, pbd1_s, pbd2_s, prfc_s, onm_sm, onm_nn, zI_lit, zI_nI, zI_add, zI_sub, zI_mul, zI_neg, zI_lt, zI_le, zI_eq, zI_nat, zI_div, zI_mod, ixd_in, dvd_ne]
    rw [if_pos (by omega)]
  · have hp := tb.wp i hi
    have hd := tb.wd i hi
    rw [g_get (hT.wp i hi) (by omega) (by omega), pbd1_s, g_get (hT.wd i hi) (by omega) (by omega), pbd1_s, c_know h hT tb sb hp hd]
    simp (disch := omega) only [jn0_e, jn1_e, jn2_e, pnm_e, pbd1_s, pbd2_s, prfc_s, onm_sm, onm_nn, zI_lit, zI_nI, zI_add, zI_sub, zI_mul, zI_neg, zI_lt, zI_le, zI_eq, zI_nat, zI_div, zI_mod, ixd_in, dvd_ne]
    rw [if_neg (by omega), one_shl (by omega), ← bits_step _ (show i < 31 by omega)]
    by_cases e : kn t E s (t.wp i) (t.wd i) = true
    · rw [if_neg (by rw [bI_0, e]; simp), hl, e]; rfl
    · have e : kn t E s (t.wp i) (t.wd i) = false := by simpa using e
      rw [if_pos (by rw [bI_0, e]), hl, e]; rfl
theorem m_hold {σ : Mem} {t : TT} {s : SS} (hR : MR (σ.1 67) t) (hV : MV (σ.1 69) 0 s) (tb : TB t) (sb : SB t s) (hD : σ.1 64 24 = zI 0) {w : Nat} (hw : w < t.W) : f_X13_doesHold σ (zI w) = some (bI (hl t (t.ch ++ s.sk) s w)) := by
  have hW := tb.W
  have a67 : aln 67 = 175 := rfl
  have hp := tb.wp w hw
  have hd := tb.wd w hw
  have hk := m_know (dr := none) hR hV tb sb hD hp hd
  rw [app0] at hk
  unfold f_X13_doesHold
  simp (disch := omega) only [jn0_e, jn1_e, jn2_e, pnm_e, pbd1_s, pbd2_s, prfc_s, onm_sm, onm_nn, zI_lit, zI_nI, zI_add, zI_sub, zI_mul, zI_neg, zI_lt, zI_le, zI_eq, zI_nat, zI_div, zI_mod, ixd_in, dvd_ne]
  rw [show (90 + 2 * (w : Int)).toNat = 90 + 2 * w from by omega, show (90 + 2 * (w : Int) + 1).toNat = 90 + 2 * w + 1 from by omega, hR.wp w hw, hR.wd w hw, hk, pbd1_s, zrt_b]
  rfl
theorem m_held {σ : Mem} {t : TT} {s : SS} (hR : MR (σ.1 67) t) (hV : MV (σ.1 69) 0 s) (tb : TB t) (sb : SB t s) (hD : σ.1 64 24 = zI 0) : f_X13_holdsNow σ = some (zI (bits (hl t (t.ch ++ s.sk) s) t.W)) := by
  have hW := tb.W
  have a67 : aln 67 = 175 := rfl
  unfold f_X13_holdsNow
  refine fx2_run (fun i => zI (bits (hl t (t.ch ++ s.sk) s) i)) (fun i => zI i) t.W 0 (by omega) rfl rfl (fun k => ?_) (fun i hi k => ?_)
  · simp (disch := omega) only [jn0_e, jn1_e, jn2_e, pnm_e, pbd1_s, pbd2_s, prfc_s, onm_sm, onm_nn, zI_lit, zI_nI, zI_add, zI_sub, zI_mul, zI_neg, zI_lt, zI_le, zI_eq, zI_nat, zI_div, zI_mod, ixd_in, dvd_ne]
    rw [show (7 : Int).toNat = 7 from rfl, hR.W]
    simp (disch := omega) only [jn0_e, jn1_e, jn2_e, pnm_e, pbd1_s, pbd2_s, prfc_s, onm_sm, onm_nn, zI_lit, zI_nI, zI_add, zI_sub, zI_mul, zI_neg, zI_lt, zI_le, zI_eq, zI_nat, zI_div, zI_mod, ixd_in, dvd_ne]
    rw [if_pos (by omega)]
  · rw [m_hold hR hV tb sb hD hi]
    simp (disch := omega) only [jn0_e, jn1_e, jn2_e, pnm_e, pbd1_s, pbd2_s, prfc_s, onm_sm, onm_nn, zI_lit, zI_nI, zI_add, zI_sub, zI_mul, zI_neg, zI_lt, zI_le, zI_eq, zI_nat, zI_div, zI_mod, ixd_in, dvd_ne]
    rw [show (7 : Int).toNat = 7 from rfl, hR.W]
    simp (disch := omega) only [jn0_e, jn1_e, jn2_e, pnm_e, pbd1_s, pbd2_s, prfc_s, onm_sm, onm_nn, zI_lit, zI_nI, zI_add, zI_sub, zI_mul, zI_neg, zI_lt, zI_le, zI_eq, zI_nat, zI_div, zI_mod, ixd_in, dvd_ne]
    rw [if_neg (by omega), one_shl (by omega), ← bits_step _ (show i < 31 by omega)]
    by_cases e : hl t (t.ch ++ s.sk) s i = true
    · rw [if_neg (by rw [bI_0, e]; simp), e]; rfl
    · have e : hl t (t.ch ++ s.sk) s i = false := by simpa using e
      rw [if_pos (by rw [bI_0, e]), e]; rfl
/-- calls on the town -/
theorem rel_t {vc vm : Mem → Option (Int32 × Mem)} (val : TT → SS → Int32) (hv : ∀ σ T t s, RC σ T t s → 0 < t.P → vc σ = some (val t s, σ) ∧ vm σ = some (val t s, σ)) {σ : Mem} (h : RLq σ) : ∃ r σ1 σ2, bd1 (f_X12_ofTown σ) (fun (r_1 : Int32) => bd2 (f_X12_refused σ r_1) (fun (r_2 : Int32) (σ_3 : Mem) => (if r_2 = 0 then vc σ_3 else some ((-1), σ_3)))) = some (r, σ1) ∧ bd1 (f_X13_good σ1) (fun (σ_1 : Mem) => (if (σ_1.1 64 14) = 0 then bd2 (f_X13_no σ_1 1) (fun (r_5 : Int32) (σ_6 : Mem) => some (r_5, σ_6)) else vm σ_1)) = some (r, σ2) ∧ RLq σ2 := by
  obtain ⟨T, t, s, hc, ht, hp⟩ := h
  have hP := hc.tb.P
  rw [c_ofTown hc, pbd1_s]
  simp only [m_good, pbd1_s]
  by_cases q : 0 < t.P
  · have hc1 := RC_c hc 0
    have hc2 := RC_m hc 0
    rw [decide_eq_false (by omega), show bI false = 0 from rfl, refu_0, pbd2_s, if_pos rfl, (hv _ T t s hc1 q).1]
    refine ⟨_, _, gd (sI σ 0 13 0), rfl, ?_, RL_yes hc⟩
    rw [if_neg (by rw [hc2.has, decide_eq_true q]; decide), (hv _ T t s hc2 q).2]
  · have hc2 := RC_m hc 1
    rw [decide_eq_true (by omega), show bI true = 1 from rfl, refu_1, pbd2_s, if_neg (by decide)]
    refine ⟨_, _, _, rfl, ?_, RL_no hc 1 (by decide)⟩
    rw [if_pos (by rw [hc2.has, decide_eq_false q]; rfl), m_no]
    rfl
theorem rel_holds (σ : Mem) (h : RLq σ) : ∃ r σ1 σ2, f_X12_holds σ = some (r, σ1) ∧ f_X13_holds σ1 = some (r, σ2) ∧ RLq σ2 := by
  unfold f_X12_holds f_X13_holds
  refine rel_t (fun t s => zI (bits (hl t (t.ch ++ s.sk) s) t.W)) (fun σ T t s hc hp => ⟨?_, ?_⟩) h
  · rw [c_held hc.cs hc.ct hc.tb hc.sb, pbd1_s]
  · rw [m_held hc.mr hc.mv hc.tb hc.sb hc.nod, pbd1_s]
/-- whether p passes for q -/
def ps (t : TT) (E : List (Nat × Nat × Nat × Nat)) (s : SS) (d p q : Nat) : Bool := decide (p ≠ q ∧ unl (lk t E p d) (pap t E q (lat s.vis q (d + 1))) 6 ≤ t.wi)
theorem c_passes {σ : Mem} {k T : Nat} {t : TT} {E : List (Nat × Nat × Nat × Nat)} {s : SS} (h : CS σ k T t E s) (hT : CT σ T t) (tb : TB t) (sb : SB t s) {p q d : Nat} (hp : p < t.P) (hq : q < t.P) (hd : d < 30) : f_X9_passesFor σ k (zI p) (zI q) (zI d) = some (bI (ps t E s d p q)) := by
  have hP := tb.P
  have hwi := tb.wi
  have hu := unl_le (lk t E p d) (pap t E q (lat s.vis q (d + 1))) 6
  unfold f_X9_passesFor
  simp only [jn0_e]
  rw [c_at h hP hp hd, pbd1_s, c_pap h hT tb sb hq hd, pbd1_s, c_unlike (lk_lt _ _ _ _) (pap_lt tb _ _ _), pbd1_s, h.town, prfc_s, hT.wi]
  simp (disch := omega) only [jn0_e, jn1_e, jn2_e, pnm_e, pbd1_s, pbd2_s, prfc_s, onm_sm, onm_nn, zI_lit, zI_nI, zI_add, zI_sub, zI_mul, zI_neg, zI_lt, zI_le, zI_eq, zI_nat, zI_div, zI_mod, ixd_in, dvd_ne]
  unfold ps
  by_cases e : p = q
  · rw [if_pos (by omega), decide_eq_false (fun x => x.1 e)]; rfl
  · rw [if_neg (by omega)]
    by_cases h : unl (lk t E p d) (pap t E q (lat s.vis q (d + 1))) 6 ≤ t.wi
    · rw [if_neg (by omega), decide_eq_true ⟨e, h⟩]; rfl
    · rw [if_pos (by omega), decide_eq_false (fun x => h x.2)]; rfl
theorem m_passesOn {σ : Mem} {T : Nat} {t : TT} {s : SS} (hc : RC σ T t s) {p d : Nat} (hp : p < t.P) (hd : d < 30) : f_X13_passesOn σ (zI p) (zI d) = some (zI (bits (fun q => ps t (t.ch ++ s.sk) s d p q) t.P)) := by
  have hP := hc.tb.P
  have hwi := hc.tb.wi
  have a67 : aln 67 = 175 := rfl
  unfold f_X13_passesOn
  refine fx2_run (fun i => zI (bits (fun q => ps t (t.ch ++ s.sk) s d p q) i)) (fun i => zI i) t.P 0 (by omega) rfl rfl (fun k => ?_) (fun i hi k => ?_)
  · simp (disch := omega) only [jn0_e, jn1_e, jn2_e, pnm_e, pbd1_s, pbd2_s, prfc_s, onm_sm, onm_nn, zI_lit, zI_nI, zI_add, zI_sub, zI_mul, zI_neg, zI_lt, zI_le, zI_eq, zI_nat, zI_div, zI_mod, ixd_in, dvd_ne]
    rw [show (4 : Int).toNat = 4 from rfl, hc.mr.P]
    simp (disch := omega) only [jn0_e, jn1_e, jn2_e, pnm_e, pbd1_s, pbd2_s, prfc_s, onm_sm, onm_nn, zI_lit, zI_nI, zI_add, zI_sub, zI_mul, zI_neg, zI_lt, zI_le, zI_eq, zI_nat, zI_div, zI_mod, ixd_in, dvd_ne]
    rw [if_pos (by omega)]
  · have hu := unl_le (lk t (t.ch ++ s.sk) p d) (pap t (t.ch ++ s.sk) i (lat s.vis i (d + 1))) 6
    simp only [jn0_e, jn1_e]
    rw [hc.mlook hp hd, pbd1_s, hc.mpap hi hd, pbd1_s, m_unlike hc.mr hc.tb (lk_lt _ _ _ _) (pap_lt hc.tb _ _ _) (fun m hm => lk_z hc.tb (by omega) (EB_of hc.tb hc.sb) hm) (fun m hm => pap_z hc.tb (by omega) (EB_of hc.tb hc.sb) hm), pbd1_s]
    simp (disch := omega) only [jn0_e, jn1_e, jn2_e, pnm_e, pbd1_s, pbd2_s, prfc_s, onm_sm, onm_nn, zI_lit, zI_nI, zI_add, zI_sub, zI_mul, zI_neg, zI_lt, zI_le, zI_eq, zI_nat, zI_div, zI_mod, ixd_in, dvd_ne]
    rw [show (4 : Int).toNat = 4 from rfl, hc.mr.P, show (1 : Int).toNat = 1 from rfl, hc.mr.wi]
    simp (disch := omega) only [jn0_e, jn1_e, jn2_e, pnm_e, pbd1_s, pbd2_s, prfc_s, onm_sm, onm_nn, zI_lit, zI_nI, zI_add, zI_sub, zI_mul, zI_neg, zI_lt, zI_le, zI_eq, zI_nat, zI_div, zI_mod, ixd_in, dvd_ne]
    rw [if_neg (by omega), one_shl (by omega), ← bits_step _ (show i < 31 by omega)]
    by_cases e : p = i
    · rw [if_pos (by omega), show ps t (t.ch ++ s.sk) s d p i = false from decide_eq_false (fun x => x.1 e)]; rfl
    · rw [if_neg (by omega)]
      by_cases h : unl (lk t (t.ch ++ s.sk) p d) (pap t (t.ch ++ s.sk) i (lat s.vis i (d + 1))) 6 ≤ t.wi
      · rw [if_neg (by omega), show ps t (t.ch ++ s.sk) s d p i = true from decide_eq_true ⟨e, h⟩]; rfl
      · rw [if_pos (by omega), show ps t (t.ch ++ s.sk) s d p i = false from decide_eq_false (fun x => h x.2)]; rfl
theorem rel_passes (σ : Mem) (h : RLq σ) (x y : Int32) : ∃ r σ1 σ2, f_X12_passes σ x y = some (r, σ1) ∧ f_X13_passes σ1 x y = some (r, σ2) ∧ RLq σ2 := by
  unfold f_X12_passes f_X13_passes
  refine rel_pd (fun t s p d => zI (bits (fun q => ps t (t.ch ++ s.sk) s d p q) t.P)) (fun σ T t s hc p d ex ey hp hd => ?_) h
  subst ex; subst ey
  have hP := hc.tb.P
  refine ⟨?_, ?_⟩
  · rw [hc.town]
    simp only [prfc_s, ct_people hc.ct, pbd1_s]
    refine fx2_run (fun i => zI (bits (fun q => ps t (t.ch ++ s.sk) s d p q) i)) (fun i => zI i) t.P 0 (by omega) rfl rfl (fun k => ?_) (fun i hi k => ?_)
    · simp (disch := omega) only [jn0_e, jn1_e, jn2_e, pnm_e, pbd1_s, pbd2_s, prfc_s, onm_sm, onm_nn, zI_lit, zI_nI, zI_add, zI_sub, zI_mul, zI_neg, zI_lt, zI_le, zI_eq, zI_nat, zI_div, zI_mod, ixd_in, dvd_ne]
      rw [if_pos (by omega)]
    · rw [c_passes hc.cs hc.ct hc.tb hc.sb hp hi hd]
      simp (disch := omega) only [jn0_e, jn1_e, jn2_e, pnm_e, pbd1_s, pbd2_s, prfc_s, onm_sm, onm_nn, zI_lit, zI_nI, zI_add, zI_sub, zI_mul, zI_neg, zI_lt, zI_le, zI_eq, zI_nat, zI_div, zI_mod, ixd_in, dvd_ne]
      rw [if_neg (by omega), one_shl (by omega), ← bits_step _ (show i < 31 by omega)]
      by_cases e : ps t (t.ch ++ s.sk) s d p i = true
      · rw [if_neg (by rw [bI_0, e]; simp), e]; rfl
      · have e : ps t (t.ch ++ s.sk) s d p i = false := by simpa using e
        rw [if_pos (by rw [bI_0, e]), e]; rfl
  · rw [m_passesOn hc hp hd, pbd1_s]
theorem bt_bit : ((List.range 1024).all fun n => (List.range 31).all fun i => ((nI n >>> (nI i &&& 31)) &&& 1) == (if n.testBit i then 1 else 0)) = true := by decide +kernel
theorem m_hasBit {n i : Nat} (hn : n < 1024) (hi : i < 31) : f_X13_hasBit (zI n) (zI i) = some (bI (n.testBit i)) := by
  have e := eq_of_beq (List.all_eq_true.1 (List.all_eq_true.1 bt_bit n (List.mem_range.2 hn)) i (List.mem_range.2 hi))
  rw [zI_nI, zI_nI] at e
  unfold f_X13_hasBit
  rw [e]
  cases n.testBit i <;> rfl
theorem bits_1024 (f : Nat → Bool) {n : Nat} (h : n ≤ 10) : bits f n < 1024 := Nat.lt_of_lt_of_le (bits_lt f n) (show 2 ^ n ≤ 2 ^ 10 from Nat.pow_le_pow_right (by omega) h)
theorem m_hasBits (f : Nat → Bool) {n i : Nat} (hn : n ≤ 10) (hi : i < n) : f_X13_hasBit (zI (bits f n)) (zI i) = some (bI (f i)) := by
  rw [m_hasBit (bits_1024 f hn) (by omega), bits_at, decide_eq_true hi, Bool.true_and]
theorem rel_passedBy (σ : Mem) (h : RLq σ) (x y : Int32) : ∃ r σ1 σ2, f_X12_passedBy σ x y = some (r, σ1) ∧ f_X13_passedBy σ1 x y = some (r, σ2) ∧ RLq σ2 := by
  unfold f_X12_passedBy f_X13_passedBy
  refine rel_pd (fun t s p d => zI (bits (fun q => ps t (t.ch ++ s.sk) s d q p) t.P)) (fun σ T t s hc p d ex ey hp hd => ?_) h
  subst ex; subst ey
  have hP := hc.tb.P
  have a67 : aln 67 = 175 := rfl
  refine ⟨?_, ?_⟩
  · rw [hc.town]
    simp only [prfc_s, ct_people hc.ct, pbd1_s]
    refine fx2_run (fun i => zI (bits (fun q => ps t (t.ch ++ s.sk) s d q p) i)) (fun i => zI i) t.P 0 (by omega) rfl rfl (fun k => ?_) (fun i hi k => ?_)
    · simp (disch := omega) only [jn0_e, jn1_e, jn2_e, pnm_e, pbd1_s, pbd2_s, prfc_s, onm_sm, onm_nn, zI_lit, zI_nI, zI_add, zI_sub, zI_mul, zI_neg, zI_lt, zI_le, zI_eq, zI_nat, zI_div, zI_mod, ixd_in, dvd_ne]
      rw [if_pos (by omega)]
    · rw [c_passes hc.cs hc.ct hc.tb hc.sb hi hp hd]
      simp (disch := omega) only [jn0_e, jn1_e, jn2_e, pnm_e, pbd1_s, pbd2_s, prfc_s, onm_sm, onm_nn, zI_lit, zI_nI, zI_add, zI_sub, zI_mul, zI_neg, zI_lt, zI_le, zI_eq, zI_nat, zI_div, zI_mod, ixd_in, dvd_ne]
      rw [if_neg (by omega), one_shl (by omega), ← bits_step _ (show i < 31 by omega)]
      by_cases e : ps t (t.ch ++ s.sk) s d i p = true
      · rw [if_neg (by rw [bI_0, e]; simp), e]; rfl
      · have e : ps t (t.ch ++ s.sk) s d i p = false := by simpa using e
        rw [if_pos (by rw [bI_0, e]), e]; rfl
  · refine fx2_run (fun i => zI (bits (fun q => ps t (t.ch ++ s.sk) s d q p) i)) (fun i => zI i) t.P 0 (by omega) rfl rfl (fun k => ?_) (fun i hi k => ?_)
    · simp (disch := omega) only [jn0_e, jn1_e, jn2_e, pnm_e, pbd1_s, pbd2_s, prfc_s, onm_sm, onm_nn, zI_lit, zI_nI, zI_add, zI_sub, zI_mul, zI_neg, zI_lt, zI_le, zI_eq, zI_nat, zI_div, zI_mod, ixd_in, dvd_ne]
      rw [show (4 : Int).toNat = 4 from rfl, hc.mr.P]
      simp (disch := omega) only [jn0_e, jn1_e, jn2_e, pnm_e, pbd1_s, pbd2_s, prfc_s, onm_sm, onm_nn, zI_lit, zI_nI, zI_add, zI_sub, zI_mul, zI_neg, zI_lt, zI_le, zI_eq, zI_nat, zI_div, zI_mod, ixd_in, dvd_ne]
      rw [if_pos (by omega)]
    · rw [m_passesOn hc hi hd, pbd1_s, m_hasBits _ (by omega) hp]
      simp (disch := omega) only [jn0_e, jn1_e, jn2_e, pnm_e, pbd1_s, pbd2_s, prfc_s, onm_sm, onm_nn, zI_lit, zI_nI, zI_add, zI_sub, zI_mul, zI_neg, zI_lt, zI_le, zI_eq, zI_nat, zI_div, zI_mod, ixd_in, dvd_ne]
      rw [show (4 : Int).toNat = 4 from rfl, hc.mr.P]
      simp (disch := omega) only [jn0_e, jn1_e, jn2_e, pnm_e, pbd1_s, pbd2_s, prfc_s, onm_sm, onm_nn, zI_lit, zI_nI, zI_add, zI_sub, zI_mul, zI_neg, zI_lt, zI_le, zI_eq, zI_nat, zI_div, zI_mod, ixd_in, dvd_ne]
      rw [if_neg (by omega), one_shl (by omega), ← bits_step _ (show i < 31 by omega)]
      by_cases e : ps t (t.ch ++ s.sk) s d i p = true
      · rw [if_neg (by rw [bI_0, e]; simp), e]; rfl
      · have e : ps t (t.ch ++ s.sk) s d i p = false := by simpa using e
        rw [if_pos (by rw [bI_0, e]), e]; rfl
theorem cnt_bits (f : Nat → Bool) {n : Nat} (h : n ≤ 8) : cnt (fun i => (bits f n).testBit i) 8 = cnt f n := by
  have e : ∀ k, cnt (fun i => (bits f n).testBit i) (n + k) = cnt f n := by
    intro k
    induction k with
    | zero => exact cnt_congr n (fun i hi => by rw [bits_at, decide_eq_true hi, Bool.true_and])
    | succ k ih => rw [← Nat.add_assoc, cnt, ih, bits_at, decide_eq_false (by omega)]; rfl
  have := e (8 - n)
  rwa [show n + (8 - n) = 8 from by omega] at this
theorem m_ones {n : Nat} (hn : n < 1024) : f_X13_ones (zI n) = some (zI (cnt (fun i => n.testBit i) 8)) := by
  unfold f_X13_ones
  refine fx2_run (fun i => zI (cnt (fun i => n.testBit i) i)) (fun i => zI i) 8 0 (by omega) rfl rfl (fun k => rfl) (fun i hi k => ?_)
  have e := eq_of_beq (List.all_eq_true.1 (List.all_eq_true.1 bt_bit n (List.mem_range.2 hn)) i (List.mem_range.2 (by omega)))
  rw [zI_nI, zI_nI] at e
  rw [e, cnt]
  simp (disch := omega) only [jn0_e, jn1_e, jn2_e, pnm_e, pbd1_s, pbd2_s, prfc_s, onm_sm, onm_nn, zI_lit, zI_nI, zI_add, zI_sub, zI_mul, zI_neg, zI_lt, zI_le, zI_eq, zI_nat, zI_div, zI_mod, ixd_in, dvd_ne]
  rw [if_neg (by omega)]
  cases n.testBit i
  · rw [if_neg (by decide), if_neg (by decide), zI_add]; rfl
  · rw [if_pos rfl, if_pos rfl, zI_add]; rfl
theorem m_onesB (f : Nat → Bool) {n : Nat} (h : n ≤ 8) : f_X13_ones (zI (bits f n)) = some (zI (cnt f n)) := by
  rw [m_ones (bits_1024 f (by omega)), cnt_bits f h]
theorem rem7 (d : Nat) (h : d < 30) : zI d - zI d / 7 * 7 = zI ((d % 7 : Nat)) := by
  rw [show (7 : Int32) = zI (7 : Nat) from rfl, zI_div_nat d 7 (by omega), zI_mul, zI_sub]
  congr 1; omega
theorem c_shut {σ : Mem} {T : Nat} {t : TT} (hT : CT σ T t) (tb : TB t) {d : Nat} (hd : d < 30) : f_X11_isShut σ T (zI d) = some (bI (decide (d % 7 = t.sh))) := by
  have := tb.sh
  unfold f_X11_isShut
  rw [rem7 d hd, hT.sh]
  simp (disch := omega) only [jn0_e, jn1_e, jn2_e, pnm_e, pbd1_s, pbd2_s, prfc_s, onm_sm, onm_nn, zI_lit, zI_nI, zI_add, zI_sub, zI_mul, zI_neg, zI_lt, zI_le, zI_eq, zI_nat, zI_div, zI_mod, ixd_in, dvd_ne]
  by_cases e : d % 7 = t.sh
  · rw [if_pos (by omega), decide_eq_true e]; rfl
  · rw [if_neg (by omega), decide_eq_false e]; rfl
theorem m_shut {σ : Mem} {t : TT} (hR : MR (σ.1 67) t) (tb : TB t) {d : Nat} (hd : d < 30) : f_X13_isShut σ (zI d) = some (bI (decide (d % 7 = t.sh))) := by
  have := tb.sh
  have a67 : aln 67 = 175 := rfl
  unfold f_X13_isShut
  rw [rem7 d hd]
  simp (disch := omega) only [jn0_e, jn1_e, jn2_e, pnm_e, pbd1_s, pbd2_s, prfc_s, onm_sm, onm_nn, zI_lit, zI_nI, zI_add, zI_sub, zI_mul, zI_neg, zI_lt, zI_le, zI_eq, zI_nat, zI_div, zI_mod, ixd_in, dvd_ne]
  rw [show (3 : Int).toNat = 3 from rfl, hR.sh]
  simp (disch := omega) only [jn0_e, jn1_e, jn2_e, pnm_e, pbd1_s, pbd2_s, prfc_s, onm_sm, onm_nn, zI_lit, zI_nI, zI_add, zI_sub, zI_mul, zI_neg, zI_lt, zI_le, zI_eq, zI_nat, zI_div, zI_mod, ixd_in, dvd_ne]
  by_cases e : d % 7 = t.sh
  · rw [if_pos (by omega), decide_eq_true e]; rfl
  · rw [if_neg (by omega), decide_eq_false e]; rfl
theorem rel_hall (σ : Mem) (h : RLq σ) (y : Int32) : ∃ r σ1 σ2, f_X12_hall σ y = some (r, σ1) ∧ f_X13_hall σ1 y = some (r, σ2) ∧ RLq σ2 := by
  unfold f_X12_hall f_X13_hall
  refine rel_d (fun t s d => if d % 7 = t.sh then zI (-3) else zI (oC (s.vis d))) (fun σ T t s hc d ey hp hd => ?_) h
  subst ey
  have a69 : aln 69 = 80 := rfl
  refine ⟨?_, ?_⟩
  · rw [hc.town, prfc_s, c_shut hc.ct hc.tb hd, pbd1_s]
    by_cases e : d % 7 = t.sh
    · rw [if_neg (by rw [decide_eq_true e]; decide), if_pos e]; rfl
    · rw [if_pos (by rw [decide_eq_false e]; rfl), if_neg e, c_visitor hc.cs hd, pbd1_s]
  · rw [m_shut hc.mr hc.tb hd, pbd1_s]
    have hv := hc.mv.vis d hd
    rw [Nat.zero_add] at hv
    by_cases e : d % 7 = t.sh
    · rw [if_neg (by rw [decide_eq_true e]; decide), if_pos e]; rfl
    · rw [if_pos (by rw [decide_eq_false e]; rfl), if_neg e]
      have hb := oM_b (sb_5 hc.tb hc.sb d)
      simp (disch := omega) only [jn0_e, jn1_e, jn2_e, pnm_e, pbd1_s, pbd2_s, prfc_s, onm_sm, onm_nn, zI_lit, zI_nI, zI_add, zI_sub, zI_mul, zI_neg, zI_lt, zI_le, zI_eq, zI_nat, zI_div, zI_mod, ixd_in, dvd_ne]
      rw [show (d : Int).toNat = d from by omega, hv]
      simp (disch := omega) only [jn0_e, jn1_e, jn2_e, pnm_e, pbd1_s, pbd2_s, prfc_s, onm_sm, onm_nn, zI_lit, zI_nI, zI_add, zI_sub, zI_mul, zI_neg, zI_lt, zI_le, zI_eq, zI_nat, zI_div, zI_mod, ixd_in, dvd_ne]
      cases ho : s.vis d with
      | none => rw [if_pos (show oM none = 0 from rfl)]; rfl
      | some q =>
        rw [if_neg (by simp only [oM]; omega)]
        show some (zI ((q : Int) + 1 - 1), σ) = some (zI q, σ)
        congr 3; omega
def sm (f : Nat → Nat) : Nat → Nat
  | 0 => 0
  | n + 1 => sm f n + f n
theorem sm_le {f : Nat → Nat} {b : Nat} (h : ∀ i, f i ≤ b) : ∀ n, sm f n ≤ n * b
  | 0 => by simp [sm]
  | n + 1 => by have := sm_le h n; have := h n; rw [sm, Nat.add_mul]; omega
theorem rel_doubles (σ : Mem) (h : RLq σ) (y : Int32) : ∃ r σ1 σ2, f_X12_doubles σ y = some (r, σ1) ∧ f_X13_doubles σ1 y = some (r, σ2) ∧ RLq σ2 := by
  unfold f_X12_doubles f_X13_doubles
  refine rel_d (fun t s d => zI (sm (fun p => cnt (ps t (t.ch ++ s.sk) s d p) t.P) t.P)) (fun σ T t s hc d ey hp hd => ?_) h
  subst ey
  have hP := hc.tb.P
  have a67 : aln 67 = 175 := rfl
  refine ⟨?_, ?_⟩
  · rw [hc.town]
    simp only [prfc_s, ct_people hc.ct, pbd1_s]
    refine fx2_run (fun i => zI (sm (fun p => cnt (ps t (t.ch ++ s.sk) s d p) t.P) i)) (fun i => zI i) t.P 0 (by omega) rfl rfl (fun k => ?_) (fun i hi k => ?_)
    · rw [if_pos (by rw [zI_le (by omega) (by omega)]; omega)]
    · rw [if_neg (by rw [zI_le (by omega) (by omega)]; omega)]
      refine fx2_run (fun j => zI (sm (fun p => cnt (ps t (t.ch ++ s.sk) s d p) t.P) i + cnt (ps t (t.ch ++ s.sk) s d i) j : Nat)) (fun j => zI j) t.P 0 (by omega) rfl rfl (fun k2 => ?_) (fun j hj k2 => ?_)
      · simp (disch := omega) only [jn0_e, jn1_e, jn2_e, pnm_e, pbd1_s, pbd2_s, prfc_s, onm_sm, onm_nn, zI_lit, zI_nI, zI_add, zI_sub, zI_mul, zI_neg, zI_lt, zI_le, zI_eq, zI_nat, zI_div, zI_mod, ixd_in, dvd_ne]
        rw [if_pos (by omega), sm]; rfl
      · rw [c_passes hc.cs hc.ct hc.tb hc.sb hi hj hd]
        simp (disch := omega) only [jn0_e, jn1_e, jn2_e, pnm_e, pbd1_s, pbd2_s, prfc_s, onm_sm, onm_nn, zI_lit, zI_nI, zI_add, zI_sub, zI_mul, zI_neg, zI_lt, zI_le, zI_eq, zI_nat, zI_div, zI_mod, ixd_in, dvd_ne]
        rw [if_neg (by omega), cnt]
        by_cases e : ps t (t.ch ++ s.sk) s d i j = true
        · rw [if_neg (by rw [bI_0, e]; simp), e]; rfl
        · have e : ps t (t.ch ++ s.sk) s d i j = false := by simpa using e
          rw [if_pos (by rw [bI_0, e]), e]
          rfl
  · refine fx2_run (fun i => zI (sm (fun p => cnt (ps t (t.ch ++ s.sk) s d p) t.P) i)) (fun i => zI i) t.P 0 (by omega) rfl rfl (fun k => ?_) (fun i hi k => ?_)
    · simp (disch := omega) only [jn0_e, jn1_e, jn2_e, pnm_e, pbd1_s, pbd2_s, prfc_s, onm_sm, onm_nn, zI_lit, zI_nI, zI_add, zI_sub, zI_mul, zI_neg, zI_lt, zI_le, zI_eq, zI_nat, zI_div, zI_mod, ixd_in, dvd_ne]
      rw [show (4 : Int).toNat = 4 from rfl, hc.mr.P]
      simp (disch := omega) only [jn0_e, jn1_e, jn2_e, pnm_e, pbd1_s, pbd2_s, prfc_s, onm_sm, onm_nn, zI_lit, zI_nI, zI_add, zI_sub, zI_mul, zI_neg, zI_lt, zI_le, zI_eq, zI_nat, zI_div, zI_mod, ixd_in, dvd_ne]
      rw [if_pos (by omega)]
    · rw [m_passesOn hc hi hd, pbd1_s, m_onesB _ (by omega)]
      simp (disch := omega) only [jn0_e, jn1_e, jn2_e, pnm_e, pbd1_s, pbd2_s, prfc_s, onm_sm, onm_nn, zI_lit, zI_nI, zI_add, zI_sub, zI_mul, zI_neg, zI_lt, zI_le, zI_eq, zI_nat, zI_div, zI_mod, ixd_in, dvd_ne]
      rw [show (4 : Int).toNat = 4 from rfl, hc.mr.P]
      simp (disch := omega) only [jn0_e, jn1_e, jn2_e, pnm_e, pbd1_s, pbd2_s, prfc_s, onm_sm, onm_nn, zI_lit, zI_nI, zI_add, zI_sub, zI_mul, zI_neg, zI_lt, zI_le, zI_eq, zI_nat, zI_div, zI_mod, ixd_in, dvd_ne]
      rw [if_neg (by omega), sm]
      rfl
def wb (f : Nat → Nat) : Nat → Nat
  | 0 => 0
  | n + 1 => if f (n + 1) ≤ f (wb f n) then wb f n else n + 1
theorem wb_le (f : Nat → Nat) : ∀ n, wb f n ≤ n
  | 0 => Nat.le_refl 0
  | n + 1 => by have := wb_le f n; rw [wb]; split <;> omega
def mis (t : TT) (E : List (Nat × Nat × Nat × Nat)) (s : SS) (d p : Nat) : Nat := unl (lk t E p d) (bel t E p (lat s.vis p (d + 1))) 6
theorem mis_le (t : TT) (E : List (Nat × Nat × Nat × Nat)) (s : SS) (d p : Nat) : mis t E s d p ≤ 6 := unl_le _ _ 6
theorem rel_worst (σ : Mem) (h : RLq σ) (y : Int32) : ∃ r σ1 σ2, f_X12_worst σ y = some (r, σ1) ∧ f_X13_worst σ1 y = some (r, σ2) ∧ RLq σ2 := by
  unfold f_X12_worst f_X13_worst
  refine rel_d (fun t s d => zI (wb (mis t (t.ch ++ s.sk) s d) (t.P - 1))) (fun σ T t s hc d ey hp hd => ?_) h
  subst ey
  have hP := hc.tb.P
  have a67 : aln 67 = 175 := rfl
  refine ⟨?_, ?_⟩
  · rw [hc.town]
    simp only [prfc_s, ct_people hc.ct, pbd1_s]
    refine fx2_run (fun i => zI (wb (mis t (t.ch ++ s.sk) s d) i)) (fun i => zI (i + 1 : Nat)) (t.P - 1) 0 (by omega) rfl rfl (fun k => ?_) (fun i hi k => ?_)
    · rw [if_pos (by rw [zI_le (by omega) (by omega)]; omega)]
    · have hb := wb_le (mis t (t.ch ++ s.sk) s d) i
      have h1 := mis_le t (t.ch ++ s.sk) s d (i + 1)
      have h2 := mis_le t (t.ch ++ s.sk) s d (wb (mis t (t.ch ++ s.sk) s d) i)
      rw [c_mist hc.cs hc.ct hc.tb hc.sb (p := i + 1) (by omega) hd, pbd1_s, c_mist hc.cs hc.ct hc.tb hc.sb (p := wb (mis t (t.ch ++ s.sk) s d) i) (by omega) hd, pbd1_s]
      change (if zI t.P ≤ zI (i + 1 : Nat) then _ else jn1 _ (fun k_12 => if zI (mis t (t.ch ++ s.sk) s d (i + 1)) ≤ zI (mis t (t.ch ++ s.sk) s d (wb (mis t (t.ch ++ s.sk) s d) i)) then _ else _)) = _
      simp (disch := omega) only [jn0_e, jn1_e, jn2_e, pnm_e, pbd1_s, pbd2_s, prfc_s, onm_sm, onm_nn, zI_lit, zI_nI, zI_add, zI_sub, zI_mul, zI_neg, zI_lt, zI_le, zI_eq, zI_nat, zI_div, zI_mod, ixd_in, dvd_ne]
      rw [if_neg (by omega), wb]
      by_cases e : mis t (t.ch ++ s.sk) s d (i + 1) ≤ mis t (t.ch ++ s.sk) s d (wb (mis t (t.ch ++ s.sk) s d) i)
      · rw [if_pos (by omega), if_pos e]; rfl
      · rw [if_neg (by omega), if_neg e]; rfl
  · refine fx2_run (fun i => zI (wb (mis t (t.ch ++ s.sk) s d) i)) (fun i => zI (i + 1 : Nat)) (t.P - 1) 0 (by omega) rfl rfl (fun k => ?_) (fun i hi k => ?_)
    · simp (disch := omega) only [jn0_e, jn1_e, jn2_e, pnm_e, pbd1_s, pbd2_s, prfc_s, onm_sm, onm_nn, zI_lit, zI_nI, zI_add, zI_sub, zI_mul, zI_neg, zI_lt, zI_le, zI_eq, zI_nat, zI_div, zI_mod, ixd_in, dvd_ne]
      rw [show (4 : Int).toNat = 4 from rfl, hc.mr.P]
      simp (disch := omega) only [jn0_e, jn1_e, jn2_e, pnm_e, pbd1_s, pbd2_s, prfc_s, onm_sm, onm_nn, zI_lit, zI_nI, zI_add, zI_sub, zI_mul, zI_neg, zI_lt, zI_le, zI_eq, zI_nat, zI_div, zI_mod, ixd_in, dvd_ne]
      rw [if_pos (by omega)]
    · have hb := wb_le (mis t (t.ch ++ s.sk) s d) i
      have h1 := mis_le t (t.ch ++ s.sk) s d (i + 1)
      have h2 := mis_le t (t.ch ++ s.sk) s d (wb (mis t (t.ch ++ s.sk) s d) i)
      rw [hc.mlook (p := i + 1) (by omega) hd, pbd1_s, hc.mbel (p := i + 1) (by omega) hd, pbd1_s, hc.munl (p := i + 1) _ (by omega), pbd1_s, hc.mlook (p := wb (mis t (t.ch ++ s.sk) s d) i) (by omega) hd, pbd1_s, hc.mbel (p := wb (mis t (t.ch ++ s.sk) s d) i) (by omega) hd, pbd1_s, hc.munl (p := wb (mis t (t.ch ++ s.sk) s d) i) _ (by omega), pbd1_s]
      change ixd 4 (aln 67) (if σ.1 67 (4 : Int32).toNatClampNeg ≤ zI (i + 1 : Nat) then _ else jn1 _ (fun k_12 => if zI (mis t (t.ch ++ s.sk) s d (i + 1)) ≤ zI (mis t (t.ch ++ s.sk) s d (wb (mis t (t.ch ++ s.sk) s d) i)) then _ else _)) = _
      simp (disch := omega) only [jn0_e, jn1_e, jn2_e, pnm_e, pbd1_s, pbd2_s, prfc_s, onm_sm, onm_nn, zI_lit, zI_nI, zI_add, zI_sub, zI_mul, zI_neg, zI_lt, zI_le, zI_eq, zI_nat, zI_div, zI_mod, ixd_in, dvd_ne]
      rw [show (4 : Int).toNat = 4 from rfl, hc.mr.P]
      simp (disch := omega) only [jn0_e, jn1_e, jn2_e, pnm_e, pbd1_s, pbd2_s, prfc_s, onm_sm, onm_nn, zI_lit, zI_nI, zI_add, zI_sub, zI_mul, zI_neg, zI_lt, zI_le, zI_eq, zI_nat, zI_div, zI_mod, ixd_in, dvd_ne]
      rw [if_neg (by omega), wb]
      by_cases e : mis t (t.ch ++ s.sk) s d (i + 1) ≤ mis t (t.ch ++ s.sk) s d (wb (mis t (t.ch ++ s.sk) s d) i)
      · rw [if_pos (by omega), if_pos e]; rfl
      · rw [if_neg (by omega), if_neg e]; rfl
theorem RL_th {σ : Mem} (h : RLq σ) (v : Int32) : RLq (sI σ 64 0 v) := by
  obtain ⟨T, t, s, hc, ht, hp⟩ := h
  refine ⟨T, t, s, hc.eqv ((Eqv.rfl' σ).sI 64 0 v rfl), ?_, ?_⟩
  · show (sI σ 64 0 v).1 0 13 = (sI σ 64 0 v).1 64 11
    rw [sI_1, sI_1, if_neg (by decide), if_neg (by decide)]; exact ht
  · show (sI σ 64 0 v).1 0 13 = zI 4 → (sI σ 64 0 v).1 0 15 = (sI σ 64 0 v).1 64 10
    rw [sI_1, sI_1, sI_1, if_neg (by decide), if_neg (by decide), if_neg (by decide)]; exact hp
theorem rel_fault (σ : Mem) (h : RLq σ) : ∃ r σ2, f_X12_fault σ = some r ∧ f_X13_fault σ = some (r, σ2) ∧ RLq σ2 := by
  obtain ⟨T, t, s, hc, ht, hp⟩ := id h
  refine ⟨_, _, rfl, ?_, RL_th h 0⟩
  show some ((sI σ 64 0 0).1 64 9, sI σ 64 0 0) = _
  rw [sI_1, if_neg (by decide), hc.flt]
theorem rel_trouble (σ : Mem) (h : RLq σ) : ∃ r σ2, f_X12_trouble σ = some r ∧ f_X13_trouble σ = some (r, σ2) ∧ RLq σ2 := by
  obtain ⟨T, t, s, hc, ht, hp⟩ := id h
  refine ⟨_, _, rfl, ?_, RL_th h 0⟩
  show some ((sI σ 64 0 0).1 64 11, sI σ 64 0 0) = _
  rw [sI_1, if_neg (by decide), ht]
theorem rel_where (σ : Mem) (h : RLq σ) : ∃ r σ2, f_X12_where σ = some r ∧ f_X13_where σ = some (r, σ2) ∧ RLq σ2 := by
  obtain ⟨T, t, s, hc, ht, hp⟩ := id h
  have e : f_X13_where σ = if σ.1 64 11 = 4 then some (σ.1 64 10, sI σ 64 0 0) else some (-1, sI σ 64 0 0) := by
    unfold f_X13_where
    rfl
  rw [e]
  unfold f_X12_where
  rw [ht]
  by_cases q : σ.1 64 11 = 4
  · rw [if_pos q, if_pos q]
    exact ⟨_, _, rfl, by rw [hp (ht.trans q)], RL_th h 0⟩
  · rw [if_neg q, if_neg q]
    exact ⟨_, _, rfl, rfl, RL_th h 0⟩
theorem c_ofMD {σ : Mem} {T : Nat} {t : TT} {s : SS} (h : RC σ T t s) (p a m : Int) (hp : -2147483648 ≤ p ∧ p < 2147483648) (ha : -2147483648 ≤ a ∧ a < 2147483648) (hm : -2147483648 ≤ m ∧ m < 2147483648) : f_X12_ofMarkOnDay σ (zI p) (zI a) (zI m) = some (tr3 ((0 ≤ p ∧ p < t.P) ∧ 0 ≤ m ∧ m < t.ms) (0 ≤ a ∧ a < 30)) := by
  have hms := h.tb.ms
  unfold f_X12_ofMarkOnDay
  rw [h.town, prfc_s, h.ct.ms, f_inside _ _ hm (by omega), pbd1_s]
  by_cases q : 0 ≤ m ∧ m < (t.ms : Int)
  · rw [decide_eq_true q, if_neg (by decide), c_ofPD h _ _ hp ha, pbd1_s]
    unfold tr3
    by_cases q1 : 0 ≤ p ∧ p < (t.P : Int)
    · rw [if_pos q1, if_pos (show (0 ≤ p ∧ p < (t.P : Int)) ∧ 0 ≤ m ∧ m < (t.ms : Int) from ⟨q1, q⟩)]
    · rw [if_neg q1, if_neg (show ¬ ((0 ≤ p ∧ p < (t.P : Int)) ∧ 0 ≤ m ∧ m < (t.ms : Int)) from fun x => q1 x.1)]
  · rw [decide_eq_false q, if_pos (by decide), tr3_1 (fun x => q x.2)]
theorem m_isMark {σ : Mem} {T : Nat} {t : TT} {s : SS} (h : RC σ T t s) (a : Int) (hP : 0 < t.P) (ha : -2147483648 ≤ a ∧ a < 2147483648) : f_X13_isMark σ (zI a) = some (bI (decide (0 ≤ a ∧ a < t.ms))) := by
  have hms := h.tb.ms
  have a67 : aln 67 = 175 := rfl
  unfold f_X13_isMark
  rw [h.has, jn0_e, decide_eq_true hP, if_neg (by decide)]
  simp (disch := omega) only [jn0_e, jn1_e, jn2_e, pnm_e, pbd1_s, pbd2_s, prfc_s, onm_sm, onm_nn, zI_lit, zI_nI, zI_add, zI_sub, zI_mul, zI_neg, zI_lt, zI_le, zI_eq, zI_nat, zI_div, zI_mod, ixd_in, dvd_ne]
  rw [show (0 : Int).toNat = 0 from rfl, h.mr.ms]
  simp (disch := omega) only [jn0_e, jn1_e, jn2_e, pnm_e, pbd1_s, pbd2_s, prfc_s, onm_sm, onm_nn, zI_lit, zI_nI, zI_add, zI_sub, zI_mul, zI_neg, zI_lt, zI_le, zI_eq, zI_nat, zI_div, zI_mod, ixd_in, dvd_ne]
  rw [f_in _ _ _ ha (by omega) (by omega), pbd1_s]
  by_cases q : 0 ≤ a ∧ a ≤ (t.ms : Int) - 1
  · rw [decide_eq_true q, if_neg (by decide), decide_eq_true (by omega)]; rfl
  · rw [decide_eq_false q, if_pos (by decide), decide_eq_false (by omega)]; rfl
/-- calls on a person, a day and a mark -/
theorem rel_m {x y z : Int32} {vc vm : Mem → Option (Int32 × Mem)} (val : TT → SS → Nat → Nat → Nat → Int32) (hv : ∀ σ T t s, RC σ T t s → ∀ p d m : Nat, x = zI p → y = zI d → z = zI m → p < t.P → d < 30 → m < t.ms → vc σ = some (val t s p d m, σ) ∧ vm σ = some (val t s p d m, σ)) {σ : Mem} (h : RLq σ) : ∃ r σ1 σ2, bd1 (f_X12_ofMarkOnDay σ x y z) (fun (r_1 : Int32) => bd2 (f_X12_refused σ r_1) (fun (r_2 : Int32) (σ_3 : Mem) => (if r_2 = 0 then vc σ_3 else some ((-1), σ_3)))) = some (r, σ1) ∧ bd1 (f_X13_good σ1) (fun (σ_1 : Mem) => bd1 (f_X13_isPerson σ_1 x) (fun (r_2 : Int32) => jn1 (fun (i_3 : Int32) => bd1 (f_X13_why i_3 y) (fun (r_5 : Int32) => (if r_5 = 0 then vm σ_1 else bd2 (f_X13_no σ_1 r_5) (fun (r_8 : Int32) (σ_9 : Mem) => some (r_8, σ_9))))) (fun k_4 => jn0 (k_4 0) (fun k_10 => (if r_2 = 0 then k_10 else bd1 (f_X13_isMark σ_1 z) (fun (r_11 : Int32) => (if r_11 = 0 then k_10 else k_4 1))))))) = some (r, σ2) ∧ RLq σ2 := by
  obtain ⟨T, t, s, hc, ht, hp⟩ := h
  have hP := hc.tb.P
  have ha := zI_rng x
  have hb := zI_rng y
  have hz := zI_rng z
  have ex := zI_all x
  have ey := zI_all y
  have ez := zI_all z
  have hm : ∀ τ, RC τ T t s → ∀ K : Int32 → Option (Int32 × Mem), bd1 (f_X13_isPerson τ x) (fun (r_2 : Int32) => jn1 K (fun k_4 => jn0 (k_4 0) (fun k_10 => (if r_2 = 0 then k_10 else bd1 (f_X13_isMark τ z) (fun (r_11 : Int32) => (if r_11 = 0 then k_10 else k_4 1)))))) = K (bI (decide ((0 ≤ x.toInt ∧ x.toInt < t.P) ∧ 0 ≤ z.toInt ∧ z.toInt < t.ms))) := by
    intro τ hτ K
    rw [show f_X13_isPerson τ x = some (bI (decide (0 ≤ x.toInt ∧ x.toInt < t.P))) by rw [← m_isPerson hτ _ ha, ← ex], pbd1_s]
    simp only [jn0_e, jn1_e]
    by_cases q : 0 ≤ x.toInt ∧ x.toInt < (t.P : Int)
    · rw [if_neg (by rw [decide_eq_true q]; decide), show f_X13_isMark τ z = some (bI (decide (0 ≤ z.toInt ∧ z.toInt < t.ms))) by rw [← m_isMark hτ _ (by omega) hz, ← ez], pbd1_s]
      by_cases q2 : 0 ≤ z.toInt ∧ z.toInt < (t.ms : Int)
      · rw [if_neg (by rw [decide_eq_true q2]; decide), decide_eq_true ⟨q, q2⟩]; rfl
      · rw [if_pos (by rw [decide_eq_false q2]; rfl), decide_eq_false (fun x => q2 x.2)]; rfl
    · rw [if_pos (by rw [decide_eq_false q]; rfl), decide_eq_false (fun x => q x.1)]; rfl
  rw [show f_X12_ofMarkOnDay σ x y z = some (tr3 ((0 ≤ x.toInt ∧ x.toInt < t.P) ∧ 0 ≤ z.toInt ∧ z.toInt < t.ms) (0 ≤ y.toInt ∧ y.toInt < 30)) by rw [← c_ofMD hc _ _ _ ha hb hz, ← ex, ← ey, ← ez], pbd1_s]
  simp only [m_good, pbd1_s]
  by_cases q : (0 ≤ x.toInt ∧ x.toInt < t.P) ∧ 0 ≤ z.toInt ∧ z.toInt < t.ms
  · by_cases q2 : 0 ≤ y.toInt ∧ y.toInt < 30
    · rw [tr3_0 q q2, refu_0, pbd2_s, if_pos rfl]
      have hc1 := RC_c hc 0
      have hc2 := RC_m hc 0
      obtain ⟨p, ep⟩ : ∃ p : Nat, x.toInt = p := ⟨x.toInt.toNat, by omega⟩
      obtain ⟨d, ed⟩ : ∃ d : Nat, y.toInt = d := ⟨y.toInt.toNat, by omega⟩
      obtain ⟨m, em⟩ : ∃ m : Nat, z.toInt = m := ⟨z.toInt.toNat, by omega⟩
      have g := fun τ hτ => hv τ T t s hτ p d m (by rw [← ep]; exact ex) (by rw [← ed]; exact ey) (by rw [← em]; exact ez) (by omega) (by omega) (by omega)
      rw [(g _ hc1).1]
      refine ⟨_, _, gd (sI σ 0 13 0), rfl, ?_, RL_yes hc⟩
      rw [hm _ hc2, show f_X13_why (bI (decide ((0 ≤ x.toInt ∧ x.toInt < t.P) ∧ 0 ≤ z.toInt ∧ z.toInt < t.ms))) y = some 0 by rw [ey, m_whyD _ _ hb, tr3_0 q q2], pbd1_s, if_pos rfl, (g _ hc2).2]
    · rw [tr3_2 q q2, refu_2, pbd2_s, if_neg (by decide)]
      have hc2 := RC_m hc 2
      refine ⟨_, _, _, rfl, ?_, RL_no hc 2 (by decide)⟩
      rw [hm _ hc2, show f_X13_why (bI (decide ((0 ≤ x.toInt ∧ x.toInt < t.P) ∧ 0 ≤ z.toInt ∧ z.toInt < t.ms))) y = some 2 by rw [ey, m_whyD _ _ hb, tr3_2 q q2], pbd1_s, if_neg (by decide), m_no]
      rfl
  · rw [tr3_1 q, refu_1, pbd2_s, if_neg (by decide)]
    have hc2 := RC_m hc 1
    refine ⟨_, _, _, rfl, ?_, RL_no hc 1 (by decide)⟩
    rw [hm _ hc2, show f_X13_why (bI (decide ((0 ≤ x.toInt ∧ x.toInt < t.P) ∧ 0 ≤ z.toInt ∧ z.toInt < t.ms))) y = some 1 by rw [ey, m_whyD _ _ hb, tr3_1 q], pbd1_s, if_neg (by decide), m_no]
    rfl
theorem rel_look (σ : Mem) (h : RLq σ) (x y z : Int32) : ∃ r σ1 σ2, f_X12_look σ x y z = some (r, σ1) ∧ f_X13_look σ1 x y z = some (r, σ2) ∧ RLq σ2 := by
  unfold f_X12_look f_X13_look
  refine rel_m (fun t s p d m => zI (lk t (t.ch ++ s.sk) p d m)) (fun σ T t s hc p d m ex ey ez hp hd hm => ?_) h
  subst ex; subst ey; subst ez
  have hms := hc.tb.ms
  refine ⟨?_, ?_⟩
  · rw [c_at hc.cs hc.tb.P hp hd, pbd1_s, c_letter (lk_lt _ _ _ _) (by omega), pbd1_s]
  · rw [hc.mlook hp hd, pbd1_s, m_mark (lk_lt _ _ _ _) (by omega), pbd1_s]
theorem rel_belief (σ : Mem) (h : RLq σ) (x y z : Int32) : ∃ r σ1 σ2, f_X12_belief σ x y z = some (r, σ1) ∧ f_X13_belief σ1 x y z = some (r, σ2) ∧ RLq σ2 := by
  unfold f_X12_belief f_X13_belief
  refine rel_m (fun t s p d m => zI (bel t (t.ch ++ s.sk) p (lat s.vis p (d + 1)) m)) (fun σ T t s hc p d m ex ey ez hp hd hm => ?_) h
  subst ex; subst ey; subst ez
  have hms := hc.tb.ms
  refine ⟨?_, ?_⟩
  · rw [c_belOn hc.cs hc.ct hc.tb hc.sb hp hd, pbd1_s, c_letter (bel_lt hc.tb _ _ _) (by omega), pbd1_s]
  · rw [hc.mbel hp hd, pbd1_s, m_mark (bel_lt hc.tb _ _ _) (by omega), pbd1_s]
theorem rel_papers (σ : Mem) (h : RLq σ) (x y z : Int32) : ∃ r σ1 σ2, f_X12_papers σ x y z = some (r, σ1) ∧ f_X13_papers σ1 x y z = some (r, σ2) ∧ RLq σ2 := by
  unfold f_X12_papers f_X13_papers
  refine rel_m (fun t s p d m => zI (pap t (t.ch ++ s.sk) p (lat s.vis p (d + 1)) m)) (fun σ T t s hc p d m ex ey ez hp hd hm => ?_) h
  subst ex; subst ey; subst ez
  have hms := hc.tb.ms
  refine ⟨?_, ?_⟩
  · rw [c_pap hc.cs hc.ct hc.tb hc.sb hp hd, pbd1_s, c_letter (pap_lt hc.tb _ _ _) (by omega), pbd1_s]
  · rw [hc.mpap hp hd, pbd1_s, m_mark (pap_lt hc.tb _ _ _) (by omega), pbd1_s]
def isV (s : SS) (d : Nat) : Bool := (s.vis d).isSome
theorem c_countV {σ : Mem} {k T : Nat} {t : TT} {E : List (Nat × Nat × Nat × Nat)} {s : SS} (h : CS σ k T t E s) (tb : TB t) (sb : SB t s) : f_X9_countVisits σ k = some (zI (cnt (isV s) 30)) := by
  unfold f_X9_countVisits
  refine fx2_run (fun i => zI (cnt (isV s) i)) (fun i => zI i) 30 0 (by omega) rfl rfl (fun k => rfl) (fun i hi k => ?_)
  have hb := oC_b (sb_5 tb sb i)
  rw [c_visitor h hi]
  simp (disch := omega) only [jn0_e, jn1_e, jn2_e, pnm_e, pbd1_s, pbd2_s, prfc_s, onm_sm, onm_nn, zI_lit, zI_nI, zI_add, zI_sub, zI_mul, zI_neg, zI_lt, zI_le, zI_eq, zI_nat, zI_div, zI_mod, ixd_in, dvd_ne]
  rw [if_neg (by omega), cnt, isV]
  cases ho : s.vis i with
  | none => first | rw [if_neg (by rw [ho] at hb; simp only [oC]; omega)]; rfl | rw [if_pos (by simp only [oC]; omega)]; rfl
  | some q => first | rw [if_pos (by simp only [oC]; omega)]; rfl | rw [if_neg (by simp only [oC]; omega)]; rfl
theorem m_countV {σ : Mem} {t : TT} {s : SS} (hV : MV (σ.1 69) 0 s) (tb : TB t) (sb : SB t s) : f_X13_visitsNow σ = some (zI (cnt (isV s) 30)) := by
  have a69 : aln 69 = 80 := rfl
  unfold f_X13_visitsNow
  refine fx2_run (fun i => zI (cnt (isV s) i)) (fun i => zI i) 30 0 (by omega) rfl rfl (fun k => rfl) (fun i hi k => ?_)
  have hb := oM_b (sb_5 tb sb i)
  have hv := hV.vis i hi
  rw [Nat.zero_add] at hv
  simp (disch := omega) only [jn0_e, jn1_e, jn2_e, pnm_e, pbd1_s, pbd2_s, prfc_s, onm_sm, onm_nn, zI_lit, zI_nI, zI_add, zI_sub, zI_mul, zI_neg, zI_lt, zI_le, zI_eq, zI_nat, zI_div, zI_mod, ixd_in, dvd_ne]
  rw [show (i : Int).toNat = i from by omega, hv]
  simp (disch := omega) only [jn0_e, jn1_e, jn2_e, pnm_e, pbd1_s, pbd2_s, prfc_s, onm_sm, onm_nn, zI_lit, zI_nI, zI_add, zI_sub, zI_mul, zI_neg, zI_lt, zI_le, zI_eq, zI_nat, zI_div, zI_mod, ixd_in, dvd_ne]
  rw [if_neg (by omega), cnt, isV]
  cases ho : s.vis i with
  | none => first | rw [if_pos (by simp only [oM]; omega)]; rfl | rw [if_neg (by simp only [oM]; omega)]; rfl
  | some q => first | rw [if_neg (by simp only [oM]; omega)]; rfl | rw [if_pos (by simp only [oM]; omega)]; rfl
theorem ct_count {σ : Mem} {T : Nat} {t : TT} (hT : CT σ T t) (n : Nat) (hn : n < 7) (v : Int32) (h : σ.1 (T + 1) n = v) (hl : lnNum.getD n 0 = zI n) : f_X11_count σ T n = some v := by
  obtain ⟨a1, a2, a3, a4, a5, a6, a7, a8, a9, a10⟩ := ct_aln hT.at_
  unfold f_X11_count
  rw [hl, g_get h (by omega) (by omega)]
  rfl
theorem c_size {σ : Mem} {T : Nat} {t : TT} {s : SS} (h : RC σ T t s) (x : Int32) : f_X12_size σ x = some (if x = 0 then zI t.ms else if x = 1 then zI t.wi else if x = 2 then zI t.la else if x = 3 then zI t.sh else if x = 4 then zI t.P else if x = 5 then zI t.ch.length else if x = 6 then zI (cnt (isV s) 30) else if x = 7 then zI t.W else if x = 8 then zI t.A else if x = 9 then zI t.S else if x = 10 then zI s.day else if x = 11 then zI s.sk.length else if x = 12 then σ.1 49 1 else if x = 13 then σ.1 0 12 else if x = 14 then σ.1 1 1 else -1) := by
  unfold f_X12_size
  rw [h.town]
  simp only [prfc_s, ct_people h.ct, pbd1_s, ct_count h.ct 2 (by omega) _ h.ct.C rfl, ct_count h.ct 4 (by omega) _ h.ct.W rfl, ct_count h.ct 5 (by omega) _ h.ct.A rfl, ct_count h.ct 6 (by omega) _ h.ct.S rfl, h.ct.ms, h.ct.wi, h.ct.la, h.ct.sh, c_countV h.cs h.tb h.sb, h.cs.day, h.cs.n]
  simp only [apply_ite some]
/-- writing one place of an image or of the trial leaves the others: a copy of the state now -/
theorem RC.cnts {σ : Mem} {T : Nat} {t : TT} {s : SS} (h : RC σ T t s) : σ.1 49 1 = σ.1 64 20 ∧ σ.1 0 12 = σ.1 64 21 ∧ σ.1 1 1 = σ.1 64 2 ∧ (t.P = 0 → σ.1 49 1 = 0 ∧ σ.1 0 12 = 0) := by
  obtain ⟨n, H, h1, h2, h3⟩ := h.hist
  obtain ⟨m, I, h4, h5⟩ := h.imgs
  obtain ⟨k, b, h6⟩ := h.tape
  refine ⟨by rw [h1.cnt, h1.cnm], by rw [h4.cnt, h4.cnm], by rw [h6.cnt, h6.cnm], fun q => ⟨?_, ?_⟩⟩
  · rw [h1.cnt, h3 q]; rfl
  · rw [h4.cnt, h5 q]; rfl
theorem rel_size (σ : Mem) (h : RLq σ) (x : Int32) : ∃ r σ2, f_X12_size σ x = some r ∧ f_X13_size σ x = some (r, σ2) ∧ RLq σ2 := by
  obtain ⟨T, t, s, hc, ht, hp⟩ := id h
  have hc2 := hc.eqv ((Eqv.rfl' σ).sI 64 0 0 rfl)
  have a67 : aln 67 = 175 := rfl
  have a69 : aln 69 = 80 := rfl
  obtain ⟨k1, k2, k3, k4⟩ := hc2.cnts
  refine ⟨_, sI σ 64 0 0, c_size hc x, ?_, RL_th h 0⟩
  have e1 : (sI σ 64 0 0).1 49 1 = σ.1 49 1 := by rw [sI_1, if_neg (by decide)]
  have e2 : (sI σ 64 0 0).1 0 12 = σ.1 0 12 := by rw [sI_1, if_neg (by decide)]
  have e3 : (sI σ 64 0 0).1 1 1 = σ.1 1 1 := by rw [sI_1, if_neg (by decide)]
  rw [← e1, ← e2, ← e3]
  unfold f_X13_size
  rw [pnm_e]
  generalize sI σ 64 0 0 = τ at hc2 k1 k2 k3 k4
  rw [hc2.has, ← k1, ← k2, ← k3]
  have hx := zI_rng x
  have ex := zI_all x
  generalize x.toInt = z at hx ex
  subst ex
  by_cases q14 : z = 14
  · subst q14; rfl
  have n14 : ¬ zI z = 14 := by rw [show (14 : Int32) = zI 14 from rfl, zI_eq hx (by omega)]; exact q14
  rw [if_neg n14]
  by_cases q : 0 < t.P
  · rw [if_neg (by rw [decide_eq_true q]; decide), show (0 : Int32) = zI 0 from rfl, show (9 : Int32) = zI 9 from rfl, f_in _ _ _ hx (by omega) (by omega), pbd1_s]
    by_cases q9 : 0 ≤ z ∧ z ≤ 9
    · rw [decide_eq_true q9, if_neg (by decide), m_countV hc2.mv hc2.tb hc2.sb]
      rcases (show z = 0 ∨ z = 1 ∨ z = 2 ∨ z = 3 ∨ z = 4 ∨ z = 5 ∨ z = 6 ∨ z = 7 ∨ z = 8 ∨ z = 9 by omega) with rfl | rfl | rfl | rfl | rfl | rfl | rfl | rfl | rfl | rfl
      · show some (τ.1 67 0, τ) = _; rw [hc2.mr.ms]; rfl
      · show some (τ.1 67 1, τ) = _; rw [hc2.mr.wi]; rfl
      · show some (τ.1 67 2, τ) = _; rw [hc2.mr.la]; rfl
      · show some (τ.1 67 3, τ) = _; rw [hc2.mr.sh]; rfl
      · show some (τ.1 67 4, τ) = _; rw [hc2.mr.P]; rfl
      · show some (τ.1 67 5, τ) = _; rw [hc2.mr.C]; rfl
      · rfl
      · show some (τ.1 67 7, τ) = _; rw [hc2.mr.W]; rfl
      · show some (τ.1 67 8, τ) = _; rw [hc2.mr.A]; rfl
      · show some (τ.1 67 9, τ) = _; rw [hc2.mr.S]; rfl
    · rw [decide_eq_false q9, if_pos (by decide)]
      by_cases q10 : z = 10
      · subst q10; show some (τ.1 69 79, τ) = _; rw [show (79 : Nat) = 0 + 79 from rfl, hc2.mv.day]; rfl
      by_cases q11 : z = 11
      · subst q11; show some (τ.1 69 78, τ) = _; rw [show (78 : Nat) = 0 + 78 from rfl, hc2.mv.n]; rfl
      by_cases q12 : z = 12
      · subst q12; rfl
      by_cases q13 : z = 13
      · subst q13; rfl
      have hg : ∀ j : Int, (0 ≤ j ∧ j ≤ 14) → (zI z = zI j) = False := fun j hj => eq_false (by rw [zI_eq hx (by omega)]; omega)
      simp only [show (zI z = 0) = False from hg 0 (by omega), show (zI z = 1) = False from hg 1 (by omega), show (zI z = 2) = False from hg 2 (by omega), show (zI z = 3) = False from hg 3 (by omega), show (zI z = 4) = False from hg 4 (by omega), show (zI z = 5) = False from hg 5 (by omega), show (zI z = 6) = False from hg 6 (by omega), show (zI z = 7) = False from hg 7 (by omega), show (zI z = 8) = False from hg 8 (by omega), show (zI z = 9) = False from hg 9 (by omega), show (zI z = 10) = False from hg 10 (by omega), show (zI z = 11) = False from hg 11 (by omega), show (zI z = 12) = False from hg 12 (by omega), show (zI z = 13) = False from hg 13 (by omega), show (zI z = 14) = False from hg 14 (by omega), hg 0 (by omega), hg 9 (by omega), hg 13 (by omega), if_false]
  · have p0 : t.P = 0 := by omega
    obtain ⟨m1, m2, m3, m4, m5, m6, m7, m8, m9, m10, m11, m12⟩ := hc2.msz p0
    obtain ⟨k5, k6⟩ := k4 p0
    have hv : cnt (isV s) 30 = 0 := by
      have : ∀ n, cnt (isV s) n = 0 := by
        intro n
        induction n with
        | zero => rfl
        | succ n ih => rw [cnt, ih, isV, m12 n]; rfl
      exact this 30
    rw [if_pos (by rw [decide_eq_false q]; rfl), show (0 : Int32) = zI 0 from rfl, show (13 : Int32) = zI 13 from rfl, f_in _ _ _ hx (by omega) (by omega), pbd1_s, k5, k6, hv, p0, m1, m2, m3, m4, m6, m7, m8, m9, m10, m11]
    by_cases q13 : 0 ≤ z ∧ z ≤ 13
    · rw [decide_eq_true q13, if_neg (by decide)]
      rcases (show z = 0 ∨ z = 1 ∨ z = 2 ∨ z = 3 ∨ z = 4 ∨ z = 5 ∨ z = 6 ∨ z = 7 ∨ z = 8 ∨ z = 9 ∨ z = 10 ∨ z = 11 ∨ z = 12 ∨ z = 13 by omega) with rfl | rfl | rfl | rfl | rfl | rfl | rfl | rfl | rfl | rfl | rfl | rfl | rfl | rfl <;> rfl
    · rw [decide_eq_false q13, if_pos (by decide)]
      have hg : ∀ j : Int, (0 ≤ j ∧ j ≤ 14) → (zI z = zI j) = False := fun j hj => eq_false (by rw [zI_eq hx (by omega)]; omega)
      simp only [show (zI z = 0) = False from hg 0 (by omega), show (zI z = 1) = False from hg 1 (by omega), show (zI z = 2) = False from hg 2 (by omega), show (zI z = 3) = False from hg 3 (by omega), show (zI z = 4) = False from hg 4 (by omega), show (zI z = 5) = False from hg 5 (by omega), show (zI z = 6) = False from hg 6 (by omega), show (zI z = 7) = False from hg 7 (by omega), show (zI z = 8) = False from hg 8 (by omega), show (zI z = 9) = False from hg 9 (by omega), show (zI z = 10) = False from hg 10 (by omega), show (zI z = 11) = False from hg 11 (by omega), show (zI z = 12) = False from hg 12 (by omega), show (zI z = 13) = False from hg 13 (by omega), show (zI z = 14) = False from hg 14 (by omega), hg 0 (by omega), hg 9 (by omega), hg 13 (by omega), if_false]
