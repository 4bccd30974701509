/-- the first of those in L below n whose key is least -/
def am (k : Nat → Nat) (L : Nat → Bool) : Nat → Option Nat
  | 0 => none
  | n + 1 => match am k L n with
    | none => if L n = true then some n else none
    | some b => if L n = true ∧ k n < k b then some n else some b
theorem am_none {k : Nat → Nat} {L : Nat → Bool} : ∀ {n}, am k L n = none → ∀ q, q < n → L q = false
  | 0, _, q, h => absurd h (by omega)
  | n + 1, h, q, hq => by
    rw [am] at h
    cases e : am k L n with
    | none =>
      rw [e] at h
      dsimp only at h
      rcases Nat.lt_or_ge q n with w | w
      · exact am_none e q w
      · rw [show q = n from by omega]
        cases hl : L n with
        | false => rfl
        | true => rw [hl, if_pos rfl] at h; cases h
    | some b =>
      rw [e] at h
      dsimp only at h
      split at h <;> cases h
theorem am_some {k : Nat → Nat} {L : Nat → Bool} : ∀ {n b}, am k L n = some b → L b = true ∧ b < n ∧ (∀ q, q < n → L q = true → k b ≤ k q) ∧ ∀ q, q < b → L q = true → k b < k q
  | 0, b, h => by cases h
  | n + 1, b, h => by
    rw [am] at h
    cases e : am k L n with
    | none =>
      rw [e] at h
      dsimp only at h
      split at h
      · rename_i hl
        have hb := Option.some.inj h
        subst hb
        refine ⟨hl, by omega, fun q hq hL => ?_, fun q hq hL => ?_⟩
        · rcases Nat.lt_or_ge q n with w | w
          · rw [am_none e q w] at hL; cases hL
          · rw [show q = n from by omega]; exact Nat.le_refl _
        · rw [am_none e q hq] at hL; cases hL
      · cases h
    | some c =>
      rw [e] at h
      dsimp only at h
      obtain ⟨h1, h2, h3, h4⟩ := am_some e
      split at h
      · rename_i hl
        have hb := Option.some.inj h
        subst hb
        refine ⟨hl.1, by omega, fun q hq hL => ?_, fun q hq hL => ?_⟩
        · rcases Nat.lt_or_ge q n with w | w
          · have := h3 q w hL; omega
          · rw [show q = n from by omega]; exact Nat.le_refl _
        · have := h3 q hq hL; omega
      · rename_i hl
        have hb := Option.some.inj h
        subst hb
        refine ⟨h1, by omega, fun q hq hL => ?_, h4⟩
        rcases Nat.lt_or_ge q n with w | w
        · exact h3 q w hL
        · have : q = n := by omega
          subst this
          have : ¬ (k q < k c) := fun z => hl ⟨hL, z⟩
          omega
theorem am_iff {k : Nat → Nat} {L : Nat → Bool} {n b : Nat} (h1 : L b = true) (h2 : b < n) (h3 : ∀ q, q < n → L q = true → k b ≤ k q) (h4 : ∀ q, q < b → L q = true → k b < k q) : am k L n = some b := by
  cases e : am k L n with
  | none => rw [am_none e b h2] at h1; cases h1
  | some c =>
    obtain ⟨g1, g2, g3, g4⟩ := am_some e
    have : c = b := by
      rcases Nat.lt_trichotomy c b with w | w | w
      · have := h4 c w g1; have := g3 b h2 h1; omega
      · exact w
      · have := g4 b w h1; have := h3 c g2 g1; omega
    rw [this]
def fbst (k : Nat → Nat → Nat) (L : Nat → Bool) (p : Nat) : Nat := (am (k p) L 5).getD 0
def L5 (L : Nat → Bool) : Prop := ∀ q, L q = true → q < 5
theorem fbst_in {k : Nat → Nat → Nat} {L : Nat → Bool} (h5 : L5 L) {p0 : Nat} (h : L p0 = true) (p : Nat) : am (k p) L 5 = some (fbst k L p) ∧ L (fbst k L p) = true := by
  unfold fbst
  cases e : am (k p) L 5 with
  | none => rw [am_none e p0 (h5 p0 h)] at h; cases h
  | some b => exact ⟨rfl, (am_some e).1⟩
theorem fbst_sub {k : Nat → Nat → Nat} {L M : Nat → Bool} (h5 : L5 L) (hM : ∀ q, M q = true → L q = true) {p : Nat} (h : M (fbst k L p) = true) : fbst k M p = fbst k L p := by
  obtain ⟨e, h1⟩ := fbst_in h5 (hM _ h) p (k := k)
  obtain ⟨g1, g2, g3, g4⟩ := am_some e
  have : am (k p) M 5 = some (fbst k L p) := am_iff h g2 (fun q hq hL => g3 q hq (hM q hL)) (fun q hq hL => g4 q hq (hM q hL))
  show (am (k p) M 5).getD 0 = _
  rw [this]; rfl
def itr (f : Nat → Nat) : Nat → Nat → Nat
  | 0, p => p
  | n + 1, p => itr f n (f p)
theorem itr_s (f : Nat → Nat) : ∀ n p, itr f (n + 1) p = f (itr f n p)
  | 0, _ => rfl
  | n + 1, p => by rw [itr, itr_s f n (f p)]; rfl
theorem itr_add (f : Nat → Nat) : ∀ m n p, itr f (m + n) p = itr f m (itr f n p)
  | m, 0, _ => rfl
  | m, n + 1, p => by rw [← Nat.add_assoc, itr, itr_add f m n (f p)]; rfl
/-- A is left by rings alone, of those in L -/
abbrev RCl (k : Nat → Nat → Nat) (L A : Nat → Bool) : Prop :=
  (∀ p, A p = true → L p = true) ∧ (∀ p, A p = true → A (fbst k L p) = true) ∧ (∀ p, A p = true → ∃ n, itr (fbst k L) n (fbst k L p) = p)
theorem RCl.sub {k : Nat → Nat → Nat}{L A : Nat → Bool} (h : RCl k L A) : ∀ p, A p = true → L p = true := h.1
theorem RCl.clo {k : Nat → Nat → Nat}{L A : Nat → Bool} (h : RCl k L A) : ∀ p, A p = true → A (fbst k L p) = true := h.2.1
theorem RCl.cyc {k : Nat → Nat → Nat}{L A : Nat → Bool} (h : RCl k L A) : ∀ p, A p = true → ∃ n, itr (fbst k L) n (fbst k L p) = p := h.2.2
def dif (L A : Nat → Bool) : Nat → Bool := fun p => L p && !A p
theorem dif_t {L A : Nat → Bool} {p : Nat} : dif L A p = true ↔ L p = true ∧ A p = false := by
  unfold dif
  rw [Bool.and_eq_true, Bool.not_eq_true']
theorem itr_in {k : Nat → Nat → Nat} {L A : Nat → Bool} (h : RCl k L A) : ∀ n p, A p = true → A (itr (fbst k L) n p) = true
  | 0, _, hp => hp
  | n + 1, p, hp => itr_in h n _ (h.clo p hp)
/-- who isn't in a ring set doesn't point into it, if he is in another -/
theorem RCl.diff {k : Nat → Nat → Nat} {L A B : Nat → Bool} (h5 : L5 L) (hA : RCl k L A) (hB : RCl k L B) : RCl k (dif L A) (dif B A) ∧ ∀ p, dif B A p = true → fbst k (dif L A) p = fbst k L p := by
  have h5' : L5 (dif L A) := fun q hq => h5 q (dif_t.1 hq).1
  have hs : ∀ q, dif L A q = true → L q = true := fun q hq => (dif_t.1 hq).1
  have hcl : ∀ p, dif B A p = true → dif B A (fbst k L p) = true := by
    intro p hp
    obtain ⟨hb, ha⟩ := dif_t.1 hp
    refine dif_t.2 ⟨hB.clo p hb, ?_⟩
    cases e : A (fbst k L p) with
    | false => rfl
    | true =>
      obtain ⟨n, hn⟩ := hB.cyc p hb
      have := itr_in hA n _ e
      rw [hn, ha] at this; cases this
  have heq : ∀ p, dif B A p = true → fbst k (dif L A) p = fbst k L p := by
    intro p hp
    have h1 := hcl p hp
    obtain ⟨hb, ha⟩ := dif_t.1 h1
    exact fbst_sub h5 hs (dif_t.2 ⟨hB.sub _ hb, ha⟩)
  have hit : ∀ n p, dif B A p = true → itr (fbst k (dif L A)) n p = itr (fbst k L) n p := by
    intro n
    induction n with
    | zero => intro p _; rfl
    | succ n ih => intro p hp; rw [itr, itr, heq p hp, ih _ (hcl p hp)]
  refine ⟨⟨fun p hp => ?_, fun p hp => ?_, fun p hp => ?_⟩, heq⟩
  · obtain ⟨hb, ha⟩ := dif_t.1 hp
    exact dif_t.2 ⟨hB.sub p hb, ha⟩
  · rw [heq p hp]; exact hcl p hp
  · obtain ⟨n, hn⟩ := hB.cyc p (dif_t.1 hp).1
    exact ⟨n, by rw [heq p hp, hit n _ (hcl p hp)]; exact hn⟩
/-- rings that go out one after another, till nobody is left; g: to whom each points then -/
def pRun (k : Nat → Nat → Nat) (g : Nat → Nat) : (Nat → Bool) → List (Nat → Bool) → Prop
  | L, [] => ∀ p, L p = false
  | L, A :: r => RCl k L A ∧ (∀ p, A p = true → g p = fbst k L p) ∧ pRun k g (dif L A) r
theorem dif_c (L A B : Nat → Bool) : dif (dif L A) (dif B A) = dif (dif L B) (dif A B) := by
  funext p
  unfold dif
  cases L p <;> cases A p <;> cases B p <;> rfl
theorem run_cut {k : Nat → Nat → Nat} {g : Nat → Nat} : ∀ (r : List (Nat → Bool)) (L B : Nat → Bool), L5 L → pRun k g L r → RCl k L B → (∃ r2, pRun k g (dif L B) r2) ∧ ∀ p, B p = true → g p = fbst k L p
  | [], L, B, h5, hr, hB => by
    have hr : ∀ p, L p = false := hr
    refine ⟨⟨[], fun p => ?_⟩, fun p hp => ?_⟩
    · unfold dif; rw [hr p]; rfl
    · have := hB.sub p hp; rw [hr p] at this; cases this
  | A :: r, L, B, h5, hr, hB => by
    obtain ⟨hA, hg, hr⟩ := hr
    obtain ⟨h1, h2⟩ := hA.diff h5 hB
    obtain ⟨h3, h4⟩ := hB.diff h5 hA
    obtain ⟨⟨r2, e1⟩, e2⟩ := run_cut r (dif L A) (dif B A) (fun q hq => h5 q (dif_t.1 hq).1) hr h1
    refine ⟨⟨dif A B :: r2, h3, fun p hp => ?_, ?_⟩, fun p hp => ?_⟩
    · rw [h4 p hp]; exact hg p (dif_t.1 hp).1
    · rw [dif_c L B A]; exact e1
    · cases ha : A p with
      | true => exact hg p ha
      | false =>
        have hd : dif B A p = true := dif_t.2 ⟨hp, ha⟩
        rw [e2 p hd, h2 p hd]
theorem run_one {k : Nat → Nat → Nat} {g g' : Nat → Nat} : ∀ (r' : List (Nat → Bool)) (L : Nat → Bool) (r : List (Nat → Bool)), L5 L → pRun k g L r → pRun k g' L r' → ∀ p, L p = true → g p = g' p
  | [], L, r, _, _, hr', p, hp => by
    have hr' : ∀ p, L p = false := hr'
    rw [hr' p] at hp; cases hp
  | B :: r', L, r, h5, hr, hr', p, hp => by
    obtain ⟨hB, hg, hr'⟩ := hr'
    obtain ⟨⟨r2, e1⟩, e2⟩ := run_cut r L B h5 hr hB
    cases hb : B p with
    | true => rw [e2 p hb, hg p hb]
    | false => exact run_one r' (dif L B) r2 (fun q hq => h5 q (dif_t.1 hq).1) e1 hr' p (dif_t.2 ⟨hp, hb⟩)
theorem fx2_goQ {A1 A2 β : Type} {F : (A1 → A2 → Option β) → A1 → A2 → Option β} {x1 : A1} {x2 : A2} (a1 : Nat → A1) (a2 : Nat → A2) (Q : Nat → Prop) (out : Option β) (N : Nat) (hN : N < 100000) (he : Q N → ∀ k, F k (a1 N) (a2 N) = out) (hs : ∀ i, i < N → Q i → ∀ k, F k (a1 i) (a2 i) = out ∨ (F k (a1 i) (a2 i) = k (a1 (i + 1)) (a2 (i + 1)) ∧ Q (i + 1))) (i : Nat) (hi : i ≤ N) (e1 : x1 = a1 i) (e2 : x2 = a2 i) (h0 : Q i) : fx2 FU F x1 x2 = out := by
  subst e1; subst e2
  have key : ∀ n, ∀ i, i + n = N → ∀ m, Q i → fx2 (n + 1 + m) F (a1 i) (a2 i) = out := by
    intro n
    induction n with
    | zero =>
      intro i hi m h
      have : i = N := by omega
      subst this
      rw [Nat.zero_add, Nat.add_comm]
      exact he h _
    | succ n ih =>
      intro i hi m h
      rw [show n + 1 + 1 + m = (n + 1 + m) + 1 from by omega]
      rcases hs i (by omega) h (fx2 (n + 1 + m) F) with w | ⟨w, w2⟩
      · exact w
      · exact w.trans (ih (i + 1) (by omega) m w2)
  have h2 := key (N - i) i (by omega) (99999 - (N - i)) h0
  rw [show N - i + 1 + (99999 - (N - i)) = FU from by unfold FU; omega] at h2
  exact h2
/-- a visit of p on day d that is now or behind -/
def vq (s : SS) (p d : Nat) : Bool := decide (s.day ≤ d ∧ s.vis d = some p)
def lastv (s : SS) (p : Nat) : Nat → Option Nat
  | 0 => none
  | n + 1 => if vq s p n = true then some n else lastv s p n
theorem lastv_lt {s : SS} {p : Nat} : ∀ {n d}, lastv s p n = some d → d < n
  | 0, _, h => by cases h
  | n + 1, d, h => by
    rw [lastv] at h
    split at h
    · have := Option.some.inj h; omega
    · have := lastv_lt h; omega
theorem lastv_c {s : SS} {p : Nat} : ∀ {n}, (cnt (vq s p) n = 0 → lastv s p n = none) ∧ (cnt (vq s p) n ≠ 0 → ∃ d, lastv s p n = some d)
  | 0 => ⟨fun _ => rfl, fun h => absurd rfl h⟩
  | n + 1 => by
    have ih := lastv_c (s := s) (p := p) (n := n)
    rw [cnt, lastv]
    cases h : vq s p n with
    | true => rw [if_pos rfl, if_pos rfl]; exact ⟨fun h => by omega, fun _ => ⟨n, rfl⟩⟩
    | false => rw [if_neg (by decide), if_neg (by decide)]; exact ih
theorem cnt_mono (f : Nat → Bool) {i : Nat} : ∀ k, cnt f i ≤ cnt f (i + k)
  | 0 => Nat.le_refl _
  | k + 1 => by have := cnt_mono f (i := i) k; rw [← Nat.add_assoc, cnt]; omega
theorem vq_low {s : SS} {p : Nat} : ∀ n, n ≤ s.day → cnt (vq s p) n = 0 ∧ lastv s p n = none
  | 0, _ => ⟨rfl, rfl⟩
  | n + 1, h => by
    have ih := vq_low (s := s) (p := p) n (by omega)
    have : vq s p n = false := decide_eq_false (by omega)
    rw [cnt, lastv, this, if_neg (by decide), if_neg (by decide)]; exact ih
theorem c_only {σ : Mem} {T : Nat} {t : TT} {E : List (Nat × Nat × Nat × Nat)} {s : SS} (h : CS σ 28 T t E s) (tb : TB t) (sb : SB t s) {p : Nat} (hp : p < 5) : f_X8_onlyVisit σ 28 (zI p) = some (zI (if cnt (vq s p) 30 = 1 then oC (lastv s p 30) else -2)) := by
  have hd := sb.day
  unfold f_X8_onlyVisit
  rw [h.day, pnm_e]
  refine fx2_goQ (fun i => zI (oC (lastv s p (s.day + i)))) (fun i => zI (s.day + i : Nat)) (fun i => cnt (vq s p) (s.day + i) ≤ 1) _ (30 - s.day) (by omega) (fun hQ k => ?_) (fun i hi hQ k => ?_) 0 (by omega) (by rw [Nat.add_zero, (vq_low _ (Nat.le_refl _)).2]; rfl) rfl (by rw [Nat.add_zero, (vq_low _ (Nat.le_refl _)).1]; omega)
  · rw [show s.day + (30 - s.day) = 30 from by omega] at *
    rw [if_pos (by decide)]
    have hl := lastv_c (s := s) (p := p) (n := 30)
    by_cases q : cnt (vq s p) 30 = 1
    · rw [if_pos q]
    · rw [if_neg q, hl.1 (by omega)]; rfl
  · obtain ⟨d, hdd⟩ : ∃ d, d = s.day + i := ⟨_, rfl⟩
    rw [← hdd] at hQ ⊢
    rw [show s.day + (i + 1) = d + 1 from by omega]
    have hb := oC_b (sb_5 tb sb d)
    have hl := lastv_c (s := s) (p := p) (n := d)
    rw [if_neg (by rw [show (30 : Int32) = zI 30 from rfl, zI_le (by omega) (by omega)]; omega), c_visitor h (by omega), pbd1_s]
    simp only [jn1_e, pnm_e, show zI d + 1 = zI (d + 1 : Nat) from by rw [show (1 : Int32) = zI 1 from rfl, zI_add]; rfl]
    have hv : (zI (oC (s.vis d)) = zI p) ↔ vq s p d = true := by
      rw [zI_eq (by omega) (by omega), oC_eq, vq, decide_eq_true_iff]
      exact ⟨fun h => ⟨by omega, h⟩, fun h => h.2⟩
    by_cases q : vq s p d = true
    · rw [if_pos (hv.2 q)]
      by_cases q2 : cnt (vq s p) d = 0
      · right
        rw [hl.1 q2, if_pos (by decide), lastv, if_pos q]
        exact ⟨rfl, by rw [cnt, if_pos q]; omega⟩
      · left
        obtain ⟨e, he⟩ := hl.2 q2
        have := lastv_lt he
        have h2 : ¬ cnt (vq s p) 30 = 1 := by
          have := cnt_mono (vq s p) (i := d + 1) (29 - d)
          rw [show d + 1 + (29 - d) = 30 from by omega, cnt, if_pos q] at this
          omega
        rw [he, if_neg (by rw [show (0 : Int32) = zI 0 from rfl, show oC (some e) = (e : Int) from rfl, zI_lt (by omega) (by omega)]; omega), if_neg h2]; rfl
    · right
      rw [if_neg (fun w => q (hv.1 w)), lastv, if_neg q]
      exact ⟨rfl, by rw [cnt, if_neg q]; omega⟩
/-- one's first wish among the last n -/
def fwU (t : TT) (p : Nat) : Nat → Option Nat
  | 0 => none
  | n + 1 => if t.wp (t.W - (n + 1)) = p then some (t.wd (t.W - (n + 1))) else fwU t p n
theorem fwU_b {t : TT} (tb : TB t) {p : Nat} : ∀ {n d}, n ≤ t.W → fwU t p n = some d → d < 30
  | 0, _, _, h => by cases h
  | n + 1, d, hn, h => by
    rw [fwU] at h
    split at h
    · have := tb.wd (t.W - (n + 1)) (by omega); have := Option.some.inj h; omega
    · exact fwU_b tb (by omega) h
theorem c_first {σ : Mem} {T : Nat} {t : TT} (hT : CT σ T t) (tb : TB t) {p : Nat} (hp : p < 5) : f_X11_firstWish σ T (zI p) = some (zI (oC (fwU t p t.W))) := by
  have hW := tb.W
  have hP := tb.P
  obtain ⟨a1, a2, a3, a4, a5, a6, a7, a8, a9, a10⟩ := ct_aln hT.at_
  unfold f_X11_firstWish
  refine (fx1_go (fun i => zI i) (fun i => some (zI (oC (fwU t p (t.W - i))))) t.W 0 (by omega) rfl (fun k => ?_) (fun i hi k => ?_)).trans (by rw [Nat.sub_zero])
  · rw [ct_wishes hT, pbd1_s, if_pos (by rw [zI_le (by omega) (by omega)]; omega), Nat.sub_self]; rfl
  · have hwp := tb.wp i hi
    rw [ct_wishes hT, pbd1_s, if_neg (by rw [zI_le (by omega) (by omega)]; omega), g_get (hT.wp i hi) (by omega) (by omega), pbd1_s, g_get (hT.wd i hi) (by omega) (by omega), pbd1_s, pnm_e, show zI i + 1 = zI (i + 1 : Nat) from by rw [show (1 : Int32) = zI 1 from rfl, zI_add]; rfl]
    obtain ⟨j, hj⟩ : ∃ j, t.W - i = j + 1 := ⟨t.W - i - 1, by omega⟩
    rw [hj, fwU, show t.W - (j + 1) = i from by omega, show t.W - (i + 1) = j from by omega]
    by_cases q : t.wp i = p
    · left; rw [if_pos (by rw [q]), if_pos q]; rfl
    · right; rw [if_neg (by rw [zI_eq (by omega) (by omega)]; omega), if_neg q]; exact ⟨rfl, rfl⟩
/-- who takes part in rings -/
def inR (t : TT) (s : SS) (p : Nat) : Bool := decide (p < t.P ∧ cnt (vq s p) 30 = 1 ∧ fwU t p t.W ≠ none)
def dR (s : SS) (p : Nat) : Nat := (lastv s p 30).getD 0
def wR (t : TT) (p : Nat) : Nat := (fwU t p t.W).getD 0
theorem dR_lt (s : SS) (p : Nat) : dR s p < 30 := by
  unfold dR
  cases h : lastv s p 30 with
  | none => decide
  | some d => exact lastv_lt h
theorem wR_lt {t : TT} (tb : TB t) (p : Nat) : wR t p < 30 := by
  unfold wR
  cases h : fwU t p t.W with
  | none => decide
  | some d => exact fwU_b tb (Nat.le_refl _) h
def kR (t : TT) (s : SS) (p q : Nat) : Nat := 1000 * ((dR s q - wR t p) + (wR t p - dR s q)) + dR s q
theorem inR_5 {t : TT} (tb : TB t) (s : SS) : L5 (inR t s) := fun q hq => by have := (of_decide_eq_true hq).1; have := tb.P; omega
theorem inR_e {t : TT} {s : SS} {p : Nat} (h : inR t s p = true) : oC (lastv s p 30) = dR s p ∧ oC (fwU t p t.W) = wR t p := by
  obtain ⟨h1, h2, h3⟩ := of_decide_eq_true h
  obtain ⟨d, hd⟩ := (lastv_c (s := s) (p := p) (n := 30)).2 (by omega)
  obtain ⟨w, hw⟩ := Option.ne_none_iff_exists'.1 h3
  unfold dR wR
  rw [hd, hw]; exact ⟨rfl, rfl⟩
theorem c_near {d e w : Nat} (hd : d < 30) (he : e < 30) (hw : w < 30) : f_X8_isNearer (zI d) (zI e) (zI w) = some (bI (decide (1000 * ((d - w) + (w - d)) + d < 1000 * ((e - w) + (w - e)) + e))) := by
  have ha : ∀ x : Nat, x < 30 → (if 0 ≤ zI x - zI w then zI x - zI w else 0 - (zI x - zI w)) = zI ((x - w) + (w - x) : Nat) := by
    intro x hx
    rw [zI_sub, show (0 : Int32) = zI 0 from rfl]
    by_cases q : w ≤ x
    · rw [if_pos (by rw [zI_le (by omega) (by omega)]; omega)]; congr 1; omega
    · rw [if_neg (by rw [zI_le (by omega) (by omega)]; omega), zI_sub]; congr 1; omega
  unfold f_X8_isNearer
  rw [ha d hd, ha e he, pnm_e, pnm_e, jn0_e]
  by_cases q1 : (d - w) + (w - d) < (e - w) + (w - e)
  · rw [if_pos (by rw [zI_lt (by omega) (by omega)]; omega), decide_eq_true (by omega)]; rfl
  · rw [if_neg (by rw [zI_lt (by omega) (by omega)]; omega), jn0_e]
    by_cases q2 : (d - w) + (w - d) = (e - w) + (w - e)
    · rw [if_pos (by rw [q2])]
      by_cases q3 : e ≤ d
      · rw [if_pos (by rw [zI_le (by omega) (by omega)]; omega), decide_eq_false (by omega)]; rfl
      · rw [if_neg (by rw [zI_le (by omega) (by omega)]; omega), decide_eq_true (by omega)]; rfl
    · rw [if_neg (by rw [zI_eq (by omega) (by omega)]; omega), decide_eq_false (by omega)]; rfl
/-- the class's rows while L still wait, the others have what g tells -/
abbrev RSt (σ : Mem) (t : TT) (s : SS) (g : Nat → Nat) (L : Nat → Bool) : Prop :=
  (∀ p, p < 5 → σ.1 56 p = zI (if inR t s p = true then (dR s p : Int) else -2)) ∧ (∀ p, p < 5 → σ.1 57 p = zI (if dif (inR t s) L p = true then (dR s (g p) : Int) else -2)) ∧ (∀ p, L p = true → inR t s p = true)
theorem RSt.has {σ : Mem}{t : TT}{s : SS}{g : Nat → Nat}{L : Nat → Bool} (h : RSt σ t s g L) : ∀ p, p < 5 → σ.1 56 p = zI (if inR t s p = true then (dR s p : Int) else -2) := h.1
theorem RSt.gets {σ : Mem}{t : TT}{s : SS}{g : Nat → Nat}{L : Nat → Bool} (h : RSt σ t s g L) : ∀ p, p < 5 → σ.1 57 p = zI (if dif (inR t s) L p = true then (dR s (g p) : Int) else -2) := h.2.1
theorem RSt.sub {σ : Mem}{t : TT}{s : SS}{g : Nat → Nat}{L : Nat → Bool} (h : RSt σ t s g L) : ∀ p, L p = true → inR t s p = true := h.2.2
theorem c_waits {σ : Mem} {t : TT} {s : SS} {g : Nat → Nat} {L : Nat → Bool} (h : RSt σ t s g L) {p : Nat} (hp : p < 5) : f_X8_waits σ (zI p) = some (bI (L p)) := by
  have h1 := h.has p hp
  have h2 := h.gets p hp
  have d1 := dR_lt s p
  have d2 := dR_lt s (g p)
  have a56 : aln (55 + 1) = 5 := rfl
  have a57 : aln (55 + 2) = 5 := rfl
  unfold f_X8_waits
  rw [g_get (a := 55 + 1) h1 (by omega) (by omega), pbd1_s, jn0_e, g_get (a := 55 + 2) h2 (by omega) (by omega), pbd1_s]
  cases hi : inR t s p with
  | false =>
    have : L p = false := by
      cases hl : L p with
      | false => rfl
      | true => rw [h.sub p hl] at hi; cases hi
    rw [if_neg (show ¬ false = true by decide), if_pos (by decide), this]; rfl
  | true =>
    rw [if_pos rfl, if_neg (by rw [show (0 : Int32) = zI 0 from rfl, zI_lt (by omega) (by omega)]; omega)]
    cases hl : L p with
    | true =>
      have : ¬ dif (inR t s) L p = true := fun w => by have := (dif_t.1 w).2; rw [hl] at this; cases this
      rw [if_neg this, if_neg (by decide)]; rfl
    | false =>
      rw [if_pos (dif_t.2 ⟨hi, hl⟩), if_pos (by rw [show (0 : Int32) = zI 0 from rfl, zI_le (by omega) (by omega)]; omega)]; rfl
theorem am_le {k : Nat → Nat} {L : Nat → Bool} {n b : Nat} (h : am k L n = some b) : b < n := (am_some h).2.1
theorem c_liked {σ : Mem} {t : TT} {s : SS} (tb : TB t) {g : Nat → Nat} {L : Nat → Bool} (h : RSt σ t s g L) {p : Nat} : f_X8_liked σ (zI (wR t p)) = some (zI (oC (am (kR t s p) L 5))) := by
  have hw := wR_lt tb p
  have a56 : aln (55 + 1) = 5 := rfl
  unfold f_X8_liked
  refine fx2_run (fun i => zI (oC (am (kR t s p) L i))) (fun i => zI i) 5 0 (by omega) rfl rfl (fun k => rfl) (fun i hi k => ?_)
  rw [if_neg (by rw [show (5 : Int32) = zI 5 from rfl, zI_le (by omega) (by omega)]; omega), c_waits h hi, pbd1_s]
  simp only [jn1_e, jn0_e, pnm_e, show zI i + 1 = zI (i + 1 : Nat) from by rw [show (1 : Int32) = zI 1 from rfl, zI_add]; rfl]
  rw [am]
  cases hl : L i with
  | false =>
    rw [if_pos (by rfl)]
    cases e : am (kR t s p) L i with
    | none => dsimp only; rw [if_neg (by decide)]
    | some b => dsimp only; rw [if_neg (fun w => by cases w.1)]
  | true =>
    rw [if_neg (by decide)]
    cases e : am (kR t s p) L i with
    | none => dsimp only; rw [if_pos (by decide), if_pos rfl]; rfl
    | some b =>
      have hb := am_le e
      have hlb := (am_some e).1
      have e1 := h.has i hi
      have e2 := h.has b (by omega)
      rw [if_pos (h.sub i hl)] at e1
      rw [if_pos (h.sub b hlb)] at e2
      have en : f_X8_isNearer (zI (dR s i)) (zI (dR s b)) (zI (wR t p)) = some (bI (decide (kR t s p i < kR t s p b))) := c_near (dR_lt s i) (dR_lt s b) hw
      dsimp only
      rw [show zI (oC (some b)) = zI b from rfl, if_neg (by rw [show (0 : Int32) = zI 0 from rfl, zI_lt (by omega) (by omega)]; omega), g_get (a := 55 + 1) e1 (by omega) (by omega), pbd1_s, g_get (a := 55 + 1) e2 (by omega) (by omega), pbd1_s, en, pbd1_s]
      by_cases q : kR t s p i < kR t s p b
      · rw [decide_eq_true q, if_neg (by decide), if_pos ⟨rfl, q⟩]; rfl
      · rw [decide_eq_false q, if_pos (by decide), if_neg (fun w => q w.2)]; rfl
def fR (t : TT) (s : SS) (L : Nat → Bool) : Nat → Nat := fbst (kR t s) L
/-- all who wait point at whom they like best -/
theorem c_point {σ : Mem} {T : Nat} {t : TT} {s : SS} (hc : RC σ T t s) {g : Nat → Nat} {L : Nat → Bool} (h : RSt σ t s g L) : ∃ τ, f_X8_point σ 28 = some τ ∧ (∀ a, a ≠ 58 → τ.1 a = σ.1 a) ∧ τ.2 = σ.2 ∧ ∀ p, L p = true → τ.1 58 p = zI (fR t s L p) := by
  have a58 : aln (55 + 3) = 5 := rfl
  have hP := hc.tb.P
  have h5 : L5 L := fun q hq => inR_5 hc.tb s q (h.sub q hq)
  unfold f_X8_point
  let Inv : Nat → Mem → Prop := fun i τ => (∀ a, a ≠ 58 → τ.1 a = σ.1 a) ∧ τ.2 = σ.2 ∧ ∀ p, p < i → L p = true → τ.1 58 p = zI (fR t s L p)
  have hh := fx2_inv (F := fun k_3 (i_1 : Int32) (σ_2 : Mem) => (if 5 ≤ i_1 then some σ_2 else bd1 (f_X8_waits σ_2 i_1) (fun (r_4 : Int32) => jn1 (fun (σ_5 : Mem) => nm (i_1 + 1) (fun (x_7 : Int32) => k_3 x_7 σ_5)) (fun k_6 => (if r_4 = 0 then k_6 σ_2 else rfc (σ_2.2.2 28 0) (fun (T_9 : Nat) => bd1 (f_X11_firstWish σ_2 T_9 i_1) (fun (r_10 : Int32) => bd1 (f_X8_liked σ_2 r_10) (fun (r_11 : Int32) => bd1 (f_X12_set σ_2 (55 + 3) i_1 r_11) (fun (σ_12 : Mem) => k_6 σ_12))))))))) (fun i => zI i) Inv (fun τ => some τ) 5 (by omega) ?_ ?_ 0 (by omega) (x := 0) rfl σ ⟨fun a _ => rfl, rfl, fun p hp => absurd hp (by omega)⟩
  · obtain ⟨τ, ⟨w1, w2, w3⟩, w4⟩ := hh
    exact ⟨τ, w4, w1, w2, fun p hp => w3 p (h5 p hp) hp⟩
  · rintro k τ w
    rw [if_pos (by decide)]
  · rintro i hi τ ⟨w1, w2, w3⟩ k
    have hR : RSt τ t s g L := ⟨fun p hp => by rw [w1 56 (by omega)]; exact h.has p hp, fun p hp => by rw [w1 57 (by omega)]; exact h.gets p hp, h.sub⟩
    have hT : CT τ T t := hc.ct.of (fun a v1 v2 => w1 a (by have := hc.ct.at_; omega))
    rw [if_neg (by rw [show (5 : Int32) = zI 5 from rfl, zI_le (by omega) (by omega)]; omega), c_waits hR hi, pbd1_s]
    simp only [jn1_e, pnm_e, show zI i + 1 = zI (i + 1 : Nat) from by rw [show (1 : Int32) = zI 1 from rfl, zI_add]; rfl]
    cases hl : L i with
    | false =>
      rw [if_pos (by rfl)]
      refine ⟨τ, ⟨w1, w2, fun p hp hL => ?_⟩, rfl⟩
      rcases Nat.lt_or_ge p i with q | q
      · exact w3 p q hL
      · rw [show p = i from by omega, hl] at hL; cases hL
    | true =>
      have hin := h.sub i hl
      obtain ⟨e1, e2⟩ := fbst_in h5 hl i (k := kR t s)
      rw [if_neg (by decide), show τ.2.2 28 0 = some T from by rw [w2]; exact hc.cs.town, prfc_s, c_first hT hc.tb hi, pbd1_s, (inR_e hin).2, c_liked hc.tb hR, pbd1_s, e1, show zI (oC (some (fbst (kR t s) L i))) = zI (fR t s L i) from rfl, f_setN (by omega) (by omega), pbd1_s]
      refine ⟨sI τ 58 i (zI (fR t s L i)), ⟨fun a v => by rw [sI_o _ _ _ _ v, w1 a v], w2, fun p hp hL => ?_⟩, rfl⟩
      rw [sI_1]
      by_cases q : p = i
      · rw [if_pos ⟨rfl, q⟩, q]
      · rw [if_neg (fun z => q z.2)]; exact w3 p (by omega) hL
/-- the first who waits -/
def fstL (L : Nat → Bool) : Nat → Option Nat
  | 0 => none
  | n + 1 => if L (5 - (n + 1)) = true then some (5 - (n + 1)) else fstL L n
theorem fstL_s {L : Nat → Bool} : ∀ {n p}, fstL L n = some p → L p = true
  | 0, _, h => by cases h
  | n + 1, p, h => by
    rw [fstL] at h
    split at h
    · rename_i q
      rw [← Option.some.inj h]; exact q
    · exact fstL_s h
theorem fstL_n {L : Nat → Bool} : ∀ {n}, n ≤ 5 → fstL L n = none → ∀ p, 5 - n ≤ p → p < 5 → L p = false
  | 0, _, _, p, h1, h2 => absurd h1 (by omega)
  | n + 1, hn, h, p, h1, h2 => by
    rw [fstL] at h
    split at h
    · cases h
    · rename_i q
      rcases Nat.lt_or_ge p (5 - n) with w | w
      · rw [show p = 5 - (n + 1) from by omega]; simpa using q
      · exact fstL_n (by omega) h p w h2
/-- functions on five as numbers -/
def fnN (m i : Nat) : Nat := m / 5 ^ i % 5
theorem bt_cyc : ((List.range 3125).all fun m => (List.range 5).all fun p => (List.range 5).any fun n => itr (fnN m) n (fnN m (itr (fnN m) 5 p)) == itr (fnN m) 5 p) = true := by decide +kernel
def enc (f : Nat → Nat) : Nat := f 0 + 5 * f 1 + 25 * f 2 + 125 * f 3 + 625 * f 4
theorem fnN_enc {f : Nat → Nat} (h : ∀ i, i < 5 → f i < 5) {i : Nat} (hi : i < 5) : fnN (enc f) i = f i := by
  have h0 := h 0 (by omega)
  have h1 := h 1 (by omega)
  have h2 := h 2 (by omega)
  have h3 := h 3 (by omega)
  have h4 := h 4 (by omega)
  unfold fnN enc
  rcases (show i = 0 ∨ i = 1 ∨ i = 2 ∨ i = 3 ∨ i = 4 by omega) with rfl | rfl | rfl | rfl | rfl
  · rw [Nat.pow_zero]; omega
  · rw [Nat.pow_one]; omega
  · rw [show 5 ^ 2 = 25 from rfl]; omega
  · rw [show 5 ^ 3 = 125 from rfl]; omega
  · rw [show 5 ^ 4 = 625 from rfl]; omega
theorem itr_lt {f : Nat → Nat} (h : ∀ i, i < 5 → f i < 5) : ∀ n p, p < 5 → itr f n p < 5
  | 0, _, hp => hp
  | n + 1, p, hp => itr_lt h n _ (h p hp)
theorem itr_congr {f h : Nat → Nat} (hf : ∀ i, i < 5 → f i < 5) (e : ∀ i, i < 5 → h i = f i) : ∀ n p, p < 5 → itr h n p = itr f n p
  | 0, _, _ => rfl
  | n + 1, p, hp => by rw [itr, itr, e p hp]; exact itr_congr hf e n _ (hf p hp)
/-- after five steps one stands in a ring -/
theorem cyc5 {f : Nat → Nat} (h : ∀ i, i < 5 → f i < 5) {p : Nat} (hp : p < 5) : ∃ n, n < 5 ∧ itr f n (f (itr f 5 p)) = itr f 5 p := by
  have hm : enc f < 3125 := by
    have h0 := h 0 (by omega)
    have h1 := h 1 (by omega)
    have h2 := h 2 (by omega)
    have h3 := h 3 (by omega)
    have h4 := h 4 (by omega)
    unfold enc; omega
  have e := List.all_eq_true.1 (List.all_eq_true.1 bt_cyc (enc f) (List.mem_range.2 hm)) p (List.mem_range.2 hp)
  obtain ⟨n, hn, e2⟩ := List.any_eq_true.1 e
  have e2 := eq_of_beq e2
  have hc : ∀ i, i < 5 → fnN (enc f) i = f i := fun i hi => fnN_enc h hi
  have q5 := itr_lt h 5 p hp
  rw [itr_congr h hc 5 p hp, hc _ q5, itr_congr h hc n _ (h _ q5)] at e2
  exact ⟨n, List.mem_range.1 hn, e2⟩
/-- the ring of p -/
def ringOf (f : Nat → Nat) (p : Nat) : Nat → (Nat → Bool)
  | 0 => fun _ => false
  | n + 1 => fun q => ringOf f p n q || decide (q = itr f n p)
theorem ringOf_t {f : Nat → Nat} {p q : Nat} : ∀ {n}, ringOf f p n q = true ↔ ∃ i, i < n ∧ q = itr f i p
  | 0 => ⟨fun h => (by cases h), fun ⟨i, h, _⟩ => absurd h (by omega)⟩
  | n + 1 => by
    show (ringOf f p n q || decide (q = itr f n p)) = true ↔ _
    rw [Bool.or_eq_true, ringOf_t (n := n), decide_eq_true_iff]
    constructor
    · rintro (⟨i, h1, h2⟩ | h)
      · exact ⟨i, by omega, h2⟩
      · exact ⟨n, by omega, h⟩
    · rintro ⟨i, h1, h2⟩
      rcases Nat.lt_or_ge i n with w | w
      · exact Or.inl ⟨i, w, h2⟩
      · right; rw [show n = i from by omega]; exact h2
/-- when one comes back to a place already seen, all of the ring has been seen -/
theorem ringOf_all {f : Nat → Nat} {p n m : Nat} (h : ringOf f p n (itr f n p) = true) (hm : n ≤ m) : ringOf f p m = ringOf f p n := by
  have key : ∀ k, ringOf f p n (itr f (n + k) p) = true := by
    intro k
    induction k with
    | zero => exact h
    | succ k ih =>
      obtain ⟨i, h1, h2⟩ := ringOf_t.1 ih
      rw [← Nat.add_assoc, itr_s, h2, ← itr_s f i p]
      rcases Nat.lt_or_ge (i + 1) n with w | w
      · exact ringOf_t.2 ⟨i + 1, w, rfl⟩
      · rw [show i + 1 = n from by omega]; exact h
  funext q
  apply Bool.eq_iff_iff.2
  constructor
  · intro hq
    obtain ⟨i, h1, h2⟩ := ringOf_t.1 hq
    rcases Nat.lt_or_ge i n with w | w
    · exact ringOf_t.2 ⟨i, w, h2⟩
    · have := key (i - n)
      rw [show n + (i - n) = i from by omega] at this
      rw [h2]; exact this
  · intro hq
    obtain ⟨i, h1, h2⟩ := ringOf_t.1 hq
    exact ringOf_t.2 ⟨i, by omega, h2⟩
theorem fx3_fin {A1 A2 A3 β : Type} {F : (A1 → A2 → A3 → Option β) → A1 → A2 → A3 → Option β} (a : Nat → A1) (b : Nat → A2) (Inv : Nat → A3 → Prop) (Fin : β → Prop) (N : Nat) (hN : N < 100000) (he : ∀ k σ, Inv N σ → ∃ υ, Fin υ ∧ F k (a N) (b N) σ = some υ) (hs : ∀ i, i < N → ∀ σ, Inv i σ → ∀ k, (∃ υ, Fin υ ∧ F k (a i) (b i) σ = some υ) ∨ ∃ σ', Inv (i + 1) σ' ∧ F k (a i) (b i) σ = k (a (i + 1)) (b (i + 1)) σ') (i : Nat) (hi : i ≤ N) {x : A1} {y : A2} (hx : x = a i) (hy : y = b i) (σ : A3) (h0 : Inv i σ) : ∃ υ, Fin υ ∧ fx3 FU F x y σ = some υ := by
  subst hx; subst hy
  have key : ∀ n, ∀ i, i + n = N → ∀ m σ, Inv i σ → ∃ υ, Fin υ ∧ fx3 (n + 1 + m) F (a i) (b i) σ = some υ := by
    intro n
    induction n with
    | zero =>
      intro i hi m σ h
      have : i = N := by omega
      subst this
      rw [Nat.zero_add, Nat.add_comm]
      exact he _ σ h
    | succ n ih =>
      intro i hi m σ h
      rw [show n + 1 + 1 + m = (n + 1 + m) + 1 from by omega]
      rcases hs i (by omega) σ h (fx3 (n + 1 + m) F) with w | ⟨σ', h1, h2⟩
      · exact w
      · obtain ⟨υ, h3, h4⟩ := ih (i + 1) (by omega) m σ' h1
        exact ⟨υ, h3, h2.trans h4⟩
  have h2 := key (N - i) i (by omega) (99999 - (N - i)) σ h0
  rw [show N - i + 1 + (99999 - (N - i)) = FU from by unfold FU; omega] at h2
  exact h2
def upg (A : Nat → Bool) (f g : Nat → Nat) : Nat → Nat := fun p => if A p = true then f p else g p
theorem fR_lt {t : TT} {s : SS} {L : Nat → Bool} (h5 : L5 L) {p0 : Nat} (h : L p0 = true) (p : Nat) : fR t s L p < 5 ∧ L (fR t s L p) = true := by
  obtain ⟨e1, e2⟩ := fbst_in h5 h p (k := kR t s)
  exact ⟨am_le e1, e2⟩
theorem ring_cl0 {t : TT} {s : SS} {L : Nat → Bool} {f : Nat → Nat} (hfe : f = fR t s L) (hin : ∀ n p, L p = true → L (itr f n p) = true) {q0 n : Nat} (hn : n < 5) (hq0 : L q0 = true) (h3 : itr f (n + 1) q0 = q0) : RCl (kR t s) L (ringOf f q0 5) := by
  have hff : fbst (kR t s) L = f := hfe.symm
  refine ⟨fun p hp => ?_, fun p hp => ?_, fun p hp => ?_⟩
  · obtain ⟨i, w1, w2⟩ := ringOf_t.1 hp
    rw [w2]; exact hin i q0 hq0
  · obtain ⟨i, w1, w2⟩ := ringOf_t.1 hp
    rw [hff, w2, ← itr_s f i q0]
    rcases Nat.lt_or_ge (i + 1) 5 with w | w
    · exact ringOf_t.2 ⟨i + 1, w, rfl⟩
    · refine ringOf_t.2 ⟨i + 1 - (n + 1), by omega, ?_⟩
      have := itr_add f (i + 1 - (n + 1)) (n + 1) q0
      rw [h3, show i + 1 - (n + 1) + (n + 1) = i + 1 from by omega] at this
      exact this
  · obtain ⟨i, w1, w2⟩ := ringOf_t.1 hp
    refine ⟨n, ?_⟩
    rw [hff]
    have e1 := itr_add f (n + 1) i q0
    have e2 := itr_add f i (n + 1) q0
    rw [h3, Nat.add_comm i (n + 1), e1, ← w2] at e2
    exact e2
theorem ring_cl {t : TT} {s : SS} {L : Nat → Bool} {f : Nat → Nat} (hfe : f = fR t s L) (h5 : L5 L) {p0 : Nat} (h : L p0 = true) (hf : ∀ i, f i < 5 ∧ L (f i) = true) : RCl (kR t s) L (ringOf f (itr f 5 p0) 5) := by
  have hin : ∀ n p, L p = true → L (itr f n p) = true := by
    intro n
    induction n with
    | zero => intro p hp; exact hp
    | succ n ih => intro p _; exact ih _ (hf p).2
  obtain ⟨n, h1, h2⟩ := cyc5 (fun i _ => (hf i).1) (h5 p0 h)
  exact ring_cl0 hfe hin h1 (hin 5 p0 h) h2
theorem dif_sub {I L : Nat → Bool} (h : ∀ p, L p = true → I p = true) (A : Nat → Bool) : ∀ p, dif L A p = true → I p = true := fun p hp => h p (dif_t.1 hp).1
/-- a ring goes out -/
theorem c_close {σ : Mem} {T : Nat} {t : TT} {s : SS} (hc : RC σ T t s) {g f : Nat → Nat} {L : Nat → Bool} (hfe : f = fR t s L) (h : RSt σ t s g L) (h58 : ∀ p, L p = true → σ.1 58 p = zI (f p)) : ∃ τ A, f_X8_closeRing σ = some τ ∧ (∀ a, a ≠ 57 → τ.1 a = σ.1 a) ∧ τ.2 = σ.2 ∧ RCl (kR t s) L A ∧ RSt τ t s (upg A f g) (dif L A) ∧ (∀ p, L p = true → ∃ q, A q = true) := by
  have a58 : aln (55 + 3) = 5 := rfl
  have a57 : aln (55 + 2) = 5 := rfl
  have a56 : aln (55 + 1) = 5 := rfl
  have h5 : L5 L := fun q hq => inR_5 hc.tb s q (h.sub q hq)
  unfold f_X8_closeRing
  have hfb : ∀ n p, fstL L n = some p → p < 5 := fun n p hp => h5 p (fstL_s hp)
  have hA0 : RSt σ t s (upg (fun _ => false) f g) (dif L (fun _ => false)) := by
    have e : dif L (fun _ => false) = L := funext fun p => by unfold dif; simp
    rw [e]; exact h
  have main : ∀ p0, L p0 = true → ∃ τ, ((∀ a, a ≠ 57 → τ.1 a = σ.1 a) ∧ τ.2 = σ.2 ∧ RSt τ t s (upg (ringOf f (itr f 5 p0) 5) f g) (dif L (ringOf f (itr f 5 p0) 5))) ∧ fx2 FU (fun k_6 (i_4 : Int32) (i_5 : Int32) => (if 5 ≤ i_5 then fx3 FU (fun k_10 (i_7 : Int32) (i_8 : Int32) (σ_9 : Mem) => (if 5 ≤ i_8 then some σ_9 else bd1 (f_X8_waits σ_9 i_7) (fun (r_11 : Int32) => (if r_11 = 0 then some σ_9 else bd1 (f_X12_get σ_9 (55 + 3) i_7) (fun (r_12 : Int32) => bd1 (f_X12_get σ_9 (55 + 1) r_12) (fun (r_13 : Int32) => bd1 (f_X12_set σ_9 (55 + 2) i_7 r_13) (fun (σ_14 : Mem) => bd1 (f_X12_get σ_14 (55 + 3) i_7) (fun (r_15 : Int32) => nm (i_8 + 1) (fun (x_16 : Int32) => k_10 r_15 x_16 σ_14))))))))) i_4 0 σ else bd1 (f_X12_get σ (55 + 3) i_4) (fun (r_18 : Int32) => nm (i_5 + 1) (fun (x_19 : Int32) => k_6 r_18 x_19)))) (zI p0) 0 = some τ := by
    intro p0 hp0
    have hf : ∀ i, f i < 5 ∧ L (f i) = true := fun i => by rw [hfe]; exact fR_lt h5 hp0 i (t := t) (s := s)
    have hin : ∀ n p, L p = true → L (itr f n p) = true := by
      intro n
      induction n with
      | zero => intro p hp; exact hp
      | succ n ih => intro p _; exact ih _ (hf p).2
    obtain ⟨q0, hq0⟩ : ∃ q0, itr f 5 p0 = q0 := ⟨_, rfl⟩
    have hLq : L q0 = true := by rw [← hq0]; exact hin 5 p0 hp0
    rw [hq0]
    have walk : ∃ τ, ((∀ a, a ≠ 57 → τ.1 a = σ.1 a) ∧ τ.2 = σ.2 ∧ RSt τ t s (upg (ringOf f q0 5) f g) (dif L (ringOf f q0 5))) ∧ fx3 FU (fun k_10 (i_7 : Int32) (i_8 : Int32) (σ_9 : Mem) => (if 5 ≤ i_8 then some σ_9 else bd1 (f_X8_waits σ_9 i_7) (fun (r_11 : Int32) => (if r_11 = 0 then some σ_9 else bd1 (f_X12_get σ_9 (55 + 3) i_7) (fun (r_12 : Int32) => bd1 (f_X12_get σ_9 (55 + 1) r_12) (fun (r_13 : Int32) => bd1 (f_X12_set σ_9 (55 + 2) i_7 r_13) (fun (σ_14 : Mem) => bd1 (f_X12_get σ_14 (55 + 3) i_7) (fun (r_15 : Int32) => nm (i_8 + 1) (fun (x_16 : Int32) => k_10 r_15 x_16 σ_14))))))))) (zI q0) 0 σ = some τ := by
      refine fx3_fin (fun i => zI (itr f i q0)) (fun i => zI i) (fun i τ => (∀ a, a ≠ 57 → τ.1 a = σ.1 a) ∧ τ.2 = σ.2 ∧ RSt τ t s (upg (ringOf f q0 i) f g) (dif L (ringOf f q0 i))) _ 5 (by omega) (fun k τ w => ⟨τ, w, ?_⟩) (fun i hi τ w k => ?_) 0 (by omega) rfl rfl σ ⟨fun a _ => rfl, rfl, hA0⟩
      · rw [if_pos (by decide)]
      · obtain ⟨w1, w2, w3⟩ := w
        have hq := hin i q0 hLq
        have hq5 := h5 _ hq
        have hfq := hf (itr f i q0)
        rw [if_neg (by rw [show (5 : Int32) = zI 5 from rfl, zI_le (by omega) (by omega)]; omega), c_waits w3 hq5, pbd1_s]
        cases hd : dif L (ringOf f q0 i) (itr f i q0) with
        | false =>
          left
          refine ⟨τ, ⟨w1, w2, ?_⟩, by rw [if_pos (by rfl)]⟩
          have hr : ringOf f q0 i (itr f i q0) = true := by
            unfold dif at hd
            rw [hq, Bool.true_and] at hd
            simpa using hd
          rw [ringOf_all hr (show i ≤ 5 by omega)]
          exact w3
        | true =>
          right
          have hp58 : τ.1 58 (itr f i q0) = zI (f (itr f i q0)) := by rw [w1 58 (by omega)]; exact h58 _ hq
          have hp56 : τ.1 56 (f (itr f i q0)) = zI (dR s (f (itr f i q0))) := by
            have := w3.has _ hfq.1
            rwa [if_pos (h.sub _ hfq.2)] at this
          rw [if_neg (by decide), g_get (a := 55 + 3) hp58 (by omega) (by omega), pbd1_s, g_get (a := 55 + 1) hp56 (by omega) (by omega), pbd1_s, f_setN (by omega) (by omega), pbd1_s, g_get (a := 55 + 3) (v := zI (f (itr f i q0))) (by rw [sI_o _ _ _ _ (by decide)]; exact hp58) (by omega) (by omega), pbd1_s, pnm_e, show zI i + 1 = zI (i + 1 : Nat) from by rw [show (1 : Int32) = zI 1 from rfl, zI_add]; rfl, ← itr_s f i q0]
          refine ⟨_, ⟨fun a v => by rw [sI_o _ _ _ _ v, w1 a v], by rw [sI_2]; exact w2, ⟨fun p hp => by rw [sI_o _ _ _ _ (by decide)]; exact w3.has p hp, fun p hp => ?_, fun p hp => h.sub p (dif_t.1 hp).1⟩⟩, rfl⟩
          rw [sI_1]
          have hro : ∀ q, ringOf f q0 (i + 1) q = (ringOf f q0 i q || decide (q = itr f i q0)) := fun _ => rfl
          by_cases e : p = itr f i q0
          · rw [if_pos ⟨rfl, e⟩, if_pos (dif_t.2 ⟨by rw [e]; exact h.sub _ hq, by unfold dif; rw [hro, e, decide_eq_true rfl, Bool.or_true]; simp⟩)]
            unfold upg
            rw [if_pos (by rw [hro, e, decide_eq_true rfl, Bool.or_true]), e, itr_s f i q0]
          · rw [if_neg (fun z => e z.2), w3.gets p hp]
            have e2 : ringOf f q0 (i + 1) p = ringOf f q0 i p := by rw [hro, decide_eq_false e, Bool.or_false]
            unfold upg dif
            rw [e2]
    obtain ⟨τ, w1, w2⟩ := walk
    refine ⟨τ, w1, ?_⟩
    refine fx2_run (fun i => zI (itr f i p0)) (fun i => zI i) 5 0 (by omega) rfl rfl (fun k => ?_) (fun i hi k => ?_)
    · rw [if_pos (by decide), hq0]; exact w2
    · have hq := hin i p0 hp0
      have hq5 := h5 _ hq
      rw [if_neg (by rw [show (5 : Int32) = zI 5 from rfl, zI_le (by omega) (by omega)]; omega), g_get (a := 55 + 3) (h58 _ hq) (by omega) (by omega), pbd1_s, pnm_e, show zI i + 1 = zI (i + 1 : Nat) from by rw [show (1 : Int32) = zI 1 from rfl, zI_add]; rfl, ← itr_s f i p0]
  cases hf : fstL L 5 with
  | none =>
    have hn : ∀ p, L p = false := fun p => by
      cases hl : L p with
      | false => rfl
      | true => have := fstL_n (Nat.le_refl 5) hf p (by omega) (h5 p hl); rw [hl] at this; cases this
    refine ⟨σ, fun _ => false, ?_, fun a _ => rfl, rfl, ⟨fun p hp => (by cases hp), fun p hp => (by cases hp), fun p hp => (by cases hp)⟩, hA0, fun p hp => by rw [hn p] at hp; cases hp⟩
    refine fx2_run (fun j => zI (oC (fstL L j))) (fun j => zI (4 - (j : Int))) 5 0 (by omega) rfl rfl (fun k => ?_) (fun j hj k => ?_)
    · rw [hf]; rfl
    · rw [if_neg (by rw [show (0 : Int32) = zI 0 from rfl, zI_lt (by omega) (by omega)]; omega), show (4 - (j : Int)) = ((4 - j : Nat) : Int) from by omega, c_waits h (by omega), hn, pbd1_s, jn1_e, if_pos (show bI false = 0 from rfl)]
      simp only [pnm_e]
      rw [fstL, show 5 - (j + 1) = 4 - j from by omega, hn, if_neg (by decide), show zI (4 - j : Nat) + (-1) = zI (4 - ((j + 1 : Nat) : Int)) from by rw [show (-1 : Int32) = zI (-1) from rfl, zI_add]; congr 1; omega]
  | some p0 =>
    have hp0 := fstL_s hf
    obtain ⟨τ, ⟨w1, w2, w3⟩, w4⟩ := main p0 hp0
    refine ⟨τ, _, ?_, w1, w2, ring_cl hfe h5 hp0 (fun i => by rw [hfe]; exact fR_lt h5 hp0 i), w3, fun p hp => ⟨itr f 5 p0, ringOf_t.2 ⟨0, by omega, rfl⟩⟩⟩
    refine fx2_run (fun j => zI (oC (fstL L j))) (fun j => zI (4 - (j : Int))) 5 0 (by omega) rfl rfl (fun k => ?_) (fun j hj k => ?_)
    · have := hfb 5 p0 hf
      rw [hf, if_pos (by decide), show zI (oC (some p0)) = zI p0 from rfl, if_pos (by rw [show (0 : Int32) = zI 0 from rfl, zI_le (by omega) (by omega)]; omega)]
      exact w4
    · rw [if_neg (by rw [show (0 : Int32) = zI 0 from rfl, zI_lt (by omega) (by omega)]; omega), show (4 - (j : Int)) = ((4 - j : Nat) : Int) from by omega, c_waits h (by omega), pbd1_s]
      simp only [jn1_e, pnm_e]
      rw [fstL, show 5 - (j + 1) = 4 - j from by omega, show zI (4 - j : Nat) + (-1) = zI (4 - ((j + 1 : Nat) : Int)) from by rw [show (-1 : Int32) = zI (-1) from rfl, zI_add]; congr 1; omega]
      cases L (4 - j) with
      | false => rw [if_pos (by rfl), if_neg (by decide)]
      | true => rw [if_neg (by decide), if_pos rfl]; rfl
theorem cnt_dif {L A : Nat → Bool} (hs : ∀ p, A p = true → L p = true) : ∀ n, cnt (dif L A) n + cnt A n = cnt L n
  | 0 => rfl
  | n + 1 => by
    have ih := cnt_dif hs n
    rw [cnt, cnt, cnt]
    unfold dif at ih ⊢
    cases ha : A n with
    | true => rw [hs n ha]; simp; omega
    | false => cases L n <;> simp <;> omega
theorem cnt_pos {A : Nat → Bool} {p : Nat} (hp : A p = true) : ∀ {n}, p < n → 0 < cnt A n
  | 0, h => by omega
  | n + 1, h => by
    rw [cnt]
    rcases Nat.lt_or_ge p n with w | w
    · have := cnt_pos hp w; omega
    · rw [show n = p from by omega, hp]; simp
/-- what went out before L is the beginning of a run -/
def Pre (t : TT) (s : SS) (g : Nat → Nat) (L : Nat → Bool) : Prop := ∀ g2, (∀ p, dif (inR t s) L p = true → g2 p = g p) → ∀ r, pRun (kR t s) g2 L r → ∃ r', pRun (kR t s) g2 (inR t s) r'
theorem Pre.nil (t : TT) (s : SS) (g : Nat → Nat) : Pre t s g (inR t s) := fun _ _ r h => ⟨r, h⟩
theorem Pre.step {t : TT} {s : SS} {g f : Nat → Nat} {L A : Nat → Bool} (h : Pre t s g L) (hL : ∀ p, L p = true → inR t s p = true) (hA : RCl (kR t s) L A) (hf : f = fR t s L) : Pre t s (upg A f g) (dif L A) := by
  intro g2 h2 r hr
  refine h g2 (fun p hp => ?_) (A :: r) ⟨hA, fun p hp => ?_, hr⟩
  · obtain ⟨w1, w2⟩ := dif_t.1 hp
    have hAp : A p = false := by
      cases e : A p with
      | false => rfl
      | true => rw [hA.sub p e] at w2; cases w2
    rw [h2 p (dif_t.2 ⟨w1, by unfold dif; rw [w2]; rfl⟩)]
    unfold upg
    rw [hAp, if_neg (by decide)]
  · rw [h2 p (dif_t.2 ⟨hL p (hA.sub p hp), by unfold dif; rw [hp]; simp⟩)]
    unfold upg
    rw [hp, if_pos rfl, hf]; rfl
theorem c_trade {σ : Mem} {T : Nat} {t : TT} {s : SS} (hc : RC σ T t s) : ∃ τ g r, f_X8_trade σ 28 = some τ ∧ (∀ a, a ≠ 56 → a ≠ 57 → a ≠ 58 → τ.1 a = σ.1 a) ∧ τ.2 = σ.2 ∧ RSt τ t s g (fun _ => false) ∧ pRun (kR t s) g (inR t s) r := by
  have a57 : aln (55 + 2) = 5 := rfl
  have a56 : aln (55 + 1) = 5 := rfl
  have hP := hc.tb.P
  have h5 := inR_5 hc.tb s
  unfold f_X8_trade
  have hT0 : ∀ τ : Mem, (∀ a, a ≠ 56 → a ≠ 57 → a ≠ 58 → τ.1 a = σ.1 a) → τ.2 = σ.2 → RC τ T t s := fun τ h1 h2 => hc.eqv (Ev.of (fun a w => h1 a (by omega) (by omega) (by omega)) (fun a w => by rw [h2]) (by rw [h2]) (h1 0 (by omega) (by omega) (by omega)) (h1 1 (by omega) (by omega) (by omega)) (fun j _ => by rw [h1 64 (by omega) (by omega) (by omega)])).e
  let Inv2 : Nat → Mem → Prop := fun i τ => (∀ a, a ≠ 56 → a ≠ 57 → a ≠ 58 → τ.1 a = σ.1 a) ∧ τ.2 = σ.2 ∧ ∃ g L, RSt τ t s g L ∧ cnt L 5 ≤ 5 - i ∧ Pre t s g L
  have rounds : ∀ τ : Mem, Inv2 0 τ → ∃ υ, Inv2 5 υ ∧ fx2 FU (fun k_6 (i_4 : Int32) (σ_5 : Mem) => (if 5 ≤ i_4 then some σ_5 else bd1 (f_X8_point σ_5 28) (fun (σ_7 : Mem) => bd1 (f_X8_closeRing σ_7) (fun (σ_8 : Mem) => nm (i_4 + 1) (fun (x_9 : Int32) => k_6 x_9 σ_8))))) 0 τ = some υ := by
    intro τ0 h0
    refine fx2_inv (fun i => zI i) Inv2 (fun υ => some υ) 5 (by omega) (fun k τ w => ?_) (fun i hi τ w k => ?_) 0 (by omega) rfl τ0 h0
    · rw [if_pos (by decide)]
    · obtain ⟨w1, w2, g, L, w3, w4, w5⟩ := w
      have hc1 := hT0 τ w1 w2
      obtain ⟨τ1, u1, u2, u3, u4⟩ := c_point hc1 w3
      have hc2 := hT0 τ1 (fun a v1 v2 v3 => by rw [u2 a v3, w1 a v1 v2 v3]) (by rw [u3, w2])
      have w3' : RSt τ1 t s g L := ⟨fun p hp => by rw [u2 56 (by omega)]; exact w3.has p hp, fun p hp => by rw [u2 57 (by omega)]; exact w3.gets p hp, w3.sub⟩
      obtain ⟨τ2, A, v1, v2, v3, v4, v5, v6⟩ := c_close hc2 rfl w3' u4
      refine ⟨τ2, ⟨fun a x1 x2 x3 => by rw [v2 a x2, u2 a x3, w1 a x1 x2 x3], by rw [v3, u3, w2], _, _, v5, ?_, w5.step w3.sub v4 rfl⟩, ?_⟩
      · have hcd := cnt_dif v4.sub 5
        cases hx : exF L 0 5 with
        | true =>
          obtain ⟨p, -, y1, y2⟩ := exF_iff.1 hx
          obtain ⟨q, hq⟩ := v6 p y2
          have := cnt_pos hq (h5 q (w3.sub q (v4.sub q hq)))
          omega
        | false =>
          have := (cnt_any L 5).2 hx
          omega
      · rw [if_neg (by rw [show (5 : Int32) = zI 5 from rfl, zI_le (by omega) (by omega)]; omega), u1, pbd1_s, v1, pbd1_s, pnm_e, show zI i + 1 = zI (i + 1 : Nat) from by rw [show (1 : Int32) = zI 1 from rfl, zI_add]; rfl]
  let Inv : Nat → Mem → Prop := fun i τ => (∀ a, a ≠ 56 → a ≠ 57 → τ.1 a = σ.1 a) ∧ τ.2 = σ.2 ∧ (∀ p, p < i → τ.1 56 p = zI (if inR t s p = true then (dR s p : Int) else -2)) ∧ ∀ p, p < i → τ.1 57 p = -2
  have hh := fx2_inv (F := fun k_3 (i_1 : Int32) (σ_2 : Mem) => (if 5 ≤ i_1 then fx2 FU (fun k_6 (i_4 : Int32) (σ_5 : Mem) => (if 5 ≤ i_4 then some σ_5 else bd1 (f_X8_point σ_5 28) (fun (σ_7 : Mem) => bd1 (f_X8_closeRing σ_7) (fun (σ_8 : Mem) => nm (i_4 + 1) (fun (x_9 : Int32) => k_6 x_9 σ_8))))) 0 σ_2 else rfc (σ_2.2.2 28 0) (fun (T_11 : Nat) => bd1 (f_X11_people σ_2 T_11) (fun (r_12 : Int32) => jn1 (fun (i_13 : Int32) => jn1 (fun (i_15 : Int32) => bd1 (f_X12_set σ_2 (55 + 1) i_1 i_15) (fun (σ_17 : Mem) => bd1 (f_X12_set σ_17 (55 + 2) i_1 (-2)) (fun (σ_18 : Mem) => nm (i_1 + 1) (fun (x_19 : Int32) => k_3 x_19 σ_18)))) (fun k_16 => (if i_13 = 0 then k_16 (-2) else bd1 (f_X8_onlyVisit σ_2 28 i_1) (fun (r_21 : Int32) => k_16 r_21)))) (fun k_14 => jn0 (k_14 0) (fun k_22 => (if r_12 ≤ i_1 then k_22 else rfc (σ_2.2.2 28 0) (fun (T_23 : Nat) => bd1 (f_X11_firstWish σ_2 T_23 i_1) (fun (r_24 : Int32) => (if r_24 < 0 then k_22 else k_14 1)))))))))) (fun i => zI i) Inv (fun σ_2 => fx2 FU (fun k_6 (i_4 : Int32) (σ_5 : Mem) => (if 5 ≤ i_4 then some σ_5 else bd1 (f_X8_point σ_5 28) (fun (σ_7 : Mem) => bd1 (f_X8_closeRing σ_7) (fun (σ_8 : Mem) => nm (i_4 + 1) (fun (x_9 : Int32) => k_6 x_9 σ_8))))) 0 σ_2) 5 (by omega) ?_ ?_ 0 (by omega) (x := 0) rfl σ ⟨fun a _ _ => rfl, rfl, fun p hp => absurd hp (by omega), fun p hp => absurd hp (by omega)⟩
  · obtain ⟨τ, ⟨w1, w2, w3, w4⟩, w5⟩ := hh
    have hdd : ∀ p, dif (inR t s) (inR t s) p = false := fun p => by unfold dif; cases inR t s p <;> rfl
    obtain ⟨υ, ⟨v1, v2, g, L, v3, v4, v5⟩, v6⟩ := rounds τ ⟨fun a x1 x2 _ => w1 a x1 x2, w2, fun p => p, inR t s, ⟨w3, fun p hp => by rw [w4 p hp, hdd p, if_neg (by decide)]; rfl, fun p hp => hp⟩, cnt_le _ _, Pre.nil t s _⟩
    have hL : L = fun _ => false := by
      funext p
      cases e : L p with
      | false => rfl
      | true => have := cnt_pos e (h5 p (v3.sub p e)); omega
    rw [hL] at v3 v5
    obtain ⟨r, hr⟩ := v5 g (fun p _ => rfl) [] (fun p => rfl)
    exact ⟨υ, g, r, w5.trans v6, v1, v2, v3, hr⟩
  · rintro k τ w
    rw [if_pos (by decide)]
  · rintro i hi τ ⟨w1, w2, w3, w4⟩ k
    have hc1 := hT0 τ (fun a x1 x2 _ => w1 a x1 x2) w2
    rw [if_neg (by rw [show (5 : Int32) = zI 5 from rfl, zI_le (by omega) (by omega)]; omega), hc1.cs.town, prfc_s, ct_people hc1.ct, pbd1_s]
    simp only [prfc_s]
    rw [c_first hc1.ct hc.tb hi, c_only hc1.cs hc.tb hc.sb hi]
    simp only [pbd1_s, jn1_e, jn0_e, pnm_e, show zI i + 1 = zI (i + 1 : Nat) from by rw [show (1 : Int32) = zI 1 from rfl, zI_add]; rfl]
    have fin : ∀ v : Int32, v = zI (if inR t s i = true then (dR s i : Int) else -2) → ∃ σ', Inv (i + 1) σ' ∧ bd1 (f_X12_set τ (55 + 1) (zI i) v) (fun (σ_17 : Mem) => bd1 (f_X12_set σ_17 (55 + 2) (zI i) (-2)) (fun (σ_18 : Mem) => k (zI (i + 1 : Nat)) σ_18)) = k (zI (i + 1 : Nat)) σ' := by
      intro v hv
      rw [f_setN (by omega) (by omega), pbd1_s, f_setN (by omega) (by omega), pbd1_s]
      refine ⟨sI (sI τ 56 i v) 57 i (-2), ⟨fun a x1 x2 => by rw [sI_o _ _ _ _ x2, sI_o _ _ _ _ x1, w1 a x1 x2], w2, fun p hp => ?_, fun p hp => ?_⟩, rfl⟩
      · rw [sI_o _ _ _ _ (by decide), sI_1]
        by_cases q : p = i
        · rw [if_pos ⟨rfl, q⟩, q, hv]
        · rw [if_neg (fun z => q z.2)]; exact w3 p (by omega)
      · rw [sI_1]
        by_cases q : p = i
        · rw [if_pos ⟨rfl, q⟩]
        · rw [if_neg (fun z => q z.2), sI_o _ _ _ _ (by decide)]; exact w4 p (by omega)
    have hw : fwU t i t.W = none ∨ ∃ d, fwU t i t.W = some d ∧ d < 30 := by
      cases e : fwU t i t.W with
      | none => exact Or.inl rfl
      | some d => exact Or.inr ⟨d, rfl, fwU_b hc.tb (Nat.le_refl _) e⟩
    by_cases q1 : t.P ≤ i
    · rw [if_pos (by rw [zI_le (by omega) (by omega)]; omega)]
      first | rw [if_pos rfl] | rw [if_pos trivial]
      exact fin (-2) (by rw [show inR t s i = false from decide_eq_false (fun z => by omega), if_neg (by decide)]; rfl)
    · rw [if_neg (by rw [zI_le (by omega) (by omega)]; omega)]
      rcases hw with hw | ⟨d, hw, hd⟩
      · rw [hw, if_pos (by decide)]
        first | rw [if_pos rfl] | rw [if_pos trivial]
        exact fin (-2) (by rw [show inR t s i = false from decide_eq_false (fun z => z.2.2 hw), if_neg (by decide)]; rfl)
      · rw [hw, show zI (oC (some d)) = zI d from rfl, if_neg (by rw [show (0 : Int32) = zI 0 from rfl, zI_lt (by omega) (by omega)]; omega)]
        first | rw [if_neg (show ¬ (1 : Int32) = 0 by decide)] | rw [if_neg (fun z => z)]
        refine fin _ ?_
        by_cases q2 : cnt (vq s i) 30 = 1
        · have hin : inR t s i = true := decide_eq_true ⟨by omega, q2, by rw [hw]; exact fun z => (by cases z)⟩
          rw [if_pos q2, if_pos hin, (inR_e hin).1]
        · rw [if_neg q2, if_neg (fun z => q2 (of_decide_eq_true z).2.1)]
theorem and_not (f h : Nat → Bool) {n : Nat} (hn : n ≤ 5) : zI (bits f n) &&& (zI (bits h n) ^^^ (-1)) = zI (bits (dif f h) n) := by
  apply Int32.toBitVec_inj.1
  rw [Int32.toBitVec_and, Int32.toBitVec_xor, zI_bv, zI_bv, zI_bv]
  apply BitVec.eq_of_getLsbD_eq
  intro i hi
  rw [BitVec.getLsbD_and, BitVec.getLsbD_xor, show Int32.toBitVec (-1) = BitVec.allOnes 32 from rfl, BitVec.getLsbD_allOnes, BitVec.getLsbD_ofNat, BitVec.getLsbD_ofNat, BitVec.getLsbD_ofNat, bits_at, bits_at, bits_at, decide_eq_true hi]
  unfold dif
  by_cases q : i < n
  · rw [decide_eq_true q]; cases f i <;> cases h i <;> rfl
  · rw [decide_eq_false q]; cases f i <;> cases h i <;> rfl
theorem bits_zero {f : Nat → Bool} {n : Nat} : (bits f n = 0) ↔ ∀ q, q < n → f q = false := by
  constructor
  · intro h q hq
    have := bits_at f n q
    rw [h, Nat.zero_testBit, decide_eq_true hq, Bool.true_and] at this
    exact this.symm
  · exact fun h => bits_0 h
theorem am_ext {k : Nat → Nat} {L : Nat → Bool} {P : Nat} (h : ∀ q, P ≤ q → L q = false) : ∀ j, am k L (P + j) = am k L P
  | 0 => rfl
  | j + 1 => by
    rw [← Nat.add_assoc, am, am_ext h j, h (P + j) (by omega)]
    cases am k L P with
    | none => rfl
    | some b => exact if_neg (fun z => by cases z.1)
/-- the model's rows while L still wait -/
abbrev RM (σ : Mem) (t : TT) (s : SS) (g : Nat → Nat) (L : Nat → Bool) : Prop :=
  (∀ p, inR t s p = true → σ.1 76 p = zI (dR s p)) ∧ (∀ p, inR t s p = true → σ.1 77 p = zI (wR t p)) ∧ (∀ p, p < t.P → σ.1 78 p = zI (if dif (inR t s) L p = true then (dR s (g p) : Int) else -2)) ∧ (∀ p, L p = true → inR t s p = true)
theorem RM.own {σ : Mem}{t : TT}{s : SS}{g : Nat → Nat}{L : Nat → Bool} (h : RM σ t s g L) : ∀ p, inR t s p = true → σ.1 76 p = zI (dR s p) := h.1
theorem RM.wish {σ : Mem}{t : TT}{s : SS}{g : Nat → Nat}{L : Nat → Bool} (h : RM σ t s g L) : ∀ p, inR t s p = true → σ.1 77 p = zI (wR t p) := h.2.1
theorem RM.gets {σ : Mem}{t : TT}{s : SS}{g : Nat → Nat}{L : Nat → Bool} (h : RM σ t s g L) : ∀ p, p < t.P → σ.1 78 p = zI (if dif (inR t s) L p = true then (dR s (g p) : Int) else -2) := h.2.2.1
theorem RM.sub {σ : Mem}{t : TT}{s : SS}{g : Nat → Nat}{L : Nat → Bool} (h : RM σ t s g L) : ∀ p, L p = true → inR t s p = true := h.2.2.2
theorem m_off {σ : Mem} {t : TT} {s : SS} {g : Nat → Nat} {L : Nat → Bool} (tb : TB t) (h : RM σ t s g L) {p q : Nat} (hp : inR t s p = true) : f_X13_off σ (zI p) (zI (dR s q)) = some (zI ((dR s q - wR t p) + (wR t p - dR s q) : Nat)) := by
  have h5 := inR_5 tb s p hp
  have a77 : aln 77 = 5 := rfl
  have d1 := dR_lt s q
  have d2 := wR_lt tb p
  unfold f_X13_off
  rw [ixd_in (by omega), ixd_in (by omega), zI_nat (by omega), show (p : Int).toNat = p from by omega, h.wish p hp, ixd_in (by omega)]
  by_cases w : wR t p ≤ dR s q
  · rw [if_pos (by rw [zI_le (by omega) (by omega)]; omega), zI_sub]; refine congrArg some (congrArg zI ?_); omega
  · rw [if_neg (by rw [zI_le (by omega) (by omega)]; omega), zI_sub]; refine congrArg some (congrArg zI ?_); omega
theorem m_points {σ : Mem} {t : TT} {s : SS} {g : Nat → Nat} {L : Nat → Bool} (tb : TB t) (hR : MR (σ.1 67) t) (h : RM σ t s g L) {p : Nat} (hp : L p = true) : f_X13_pointsAt σ (zI p) (zI (bits L t.P)) = some (zI (fR t s L p)) := by
  have hP := tb.P
  have h5 := inR_5 tb s
  have hpi := h.sub p hp
  have a67 : aln 67 = 175 := rfl
  have a76 : aln 76 = 5 := rfl
  have i4 : ∀ β (k : Option β), ixd 4 (aln 67) k = k := fun β k => by rw [show (4 : Int32) = zI 4 from rfl, ixd_in (by omega)]
  have p4 : σ.1 67 (4 : Int32).toNatClampNeg = zI t.P := hR.P
  have hLP : ∀ q, t.P ≤ q → L q = false := fun q hq => by
    cases e : L q with
    | false => rfl
    | true => have := (of_decide_eq_true (h.sub q e)).1; omega
  obtain ⟨e1, e2⟩ := fbst_in (k := kR t s) (fun q hq => h5 q (h.sub q hq)) hp p
  have e3 := am_ext (k := kR t s p) hLP (5 - t.P)
  rw [show t.P + (5 - t.P) = 5 from by omega, e1] at e3
  have hfin : zI (fR t s L p) = zI (match am (kR t s p) L t.P with | none => -1 | some b => (b : Int)) := by rw [← e3]; rfl
  rw [hfin]
  unfold f_X13_pointsAt
  simp only [i4, p4]
  refine fx2_run (fun i => zI (match am (kR t s p) L i with | none => -1 | some b => (b : Int))) (fun i => zI i) t.P 0 (by omega) rfl rfl (fun k => ?_) (fun i hi k => ?_)
  · rw [if_pos (by rw [zI_le (by omega) (by omega)]; omega)]
  · have hbl := bits_256 L (show t.P ≤ 8 by omega)
    rw [if_neg (by rw [zI_le (by omega) (by omega)]; omega), m_hasBits _ (by omega) hi, pbd1_s]
    simp only [jn1_e, jn0_e, pnm_e, show zI i + 1 = zI (i + 1 : Nat) from by rw [show (1 : Int32) = zI 1 from rfl, zI_add]; rfl]
    rw [am]
    cases hl : L i with
    | false =>
      rw [if_pos (by rfl)]
      cases e : am (kR t s p) L i with
      | none => dsimp only; rw [if_neg (by decide)]
      | some b => dsimp only; rw [if_neg (fun w => by cases w.1)]
    | true =>
      rw [if_neg (by decide)]
      cases e : am (kR t s p) L i with
      | none => dsimp only; rw [if_pos (by decide), if_pos rfl]
      | some b =>
        have hb := am_le e
        have hlb := (am_some e).1
        have d1 := dR_lt s i
        have d2 := dR_lt s b
        have d3 := wR_lt tb p
        have o1 := h.own i (h.sub i hl)
        have o2 := h.own b (h.sub b hlb)
        have x1 : ∀ β (k : Option β), ixd (zI i) (aln 76) k = k := fun β k => ixd_in (by omega)
        have x2 : ∀ β (k : Option β), ixd (zI b) (aln 76) k = k := fun β k => ixd_in (by omega)
        have n1 : (zI i).toNatClampNeg = i := by rw [zI_nat (by omega)]; omega
        have n2 : (zI b).toNatClampNeg = b := by rw [zI_nat (by omega)]; omega
        dsimp only
        simp only [x1, x2, n1, n2, o1, o2]
        rw [if_neg (by rw [show (0 : Int32) = zI 0 from rfl, zI_lt (by omega) (by omega)]; omega), m_off tb h hpi (q := i), m_off tb h hpi (q := b)]
        simp only [pbd1_s]
        by_cases q : kR t s p i < kR t s p b
        · have q' := q
          unfold kR at q'
          rw [if_pos (show True ∧ kR t s p i < kR t s p b from ⟨trivial, q⟩)]
          by_cases c1 : (dR s i - wR t p) + (wR t p - dR s i) < (dR s b - wR t p) + (wR t p - dR s b)
          · rw [if_pos (by rw [zI_lt (by omega) (by omega)]; omega)]
          · rw [if_neg (by rw [zI_lt (by omega) (by omega)]; omega), if_pos (by rw [zI_eq (by omega) (by omega)]; omega), if_neg (by rw [zI_le (by omega) (by omega)]; omega)]
        · have q' := q
          unfold kR at q'
          rw [if_neg (show ¬ (True ∧ kR t s p i < kR t s p b) from fun z => q z.2), if_neg (by rw [zI_lt (by omega) (by omega)]; omega)]
          by_cases c1 : (dR s i - wR t p) + (wR t p - dR s i) = (dR s b - wR t p) + (wR t p - dR s b)
          · rw [if_pos (by rw [c1]), if_pos (by rw [zI_le (by omega) (by omega)]; omega)]
          · rw [if_neg (by rw [zI_eq (by omega) (by omega)]; omega)]
/-- who stands in a ring -/
noncomputable def inC (f : Nat → Nat) (L : Nat → Bool) (p : Nat) : Bool := L p && exF (fun n => decide (itr f n (f p) = p)) 0 6
theorem inC_cl {t : TT} {s : SS} {L : Nat → Bool} {f : Nat → Nat} (hfe : f = fR t s L) (hf : ∀ p, L p = true → L (f p) = true) : RCl (kR t s) L (inC f L) := by
  have hff : fbst (kR t s) L = f := hfe.symm
  refine ⟨fun p hp => ?_, fun p hp => ?_, fun p hp => ?_⟩
  · unfold inC at hp; rw [Bool.and_eq_true] at hp; exact hp.1
  · unfold inC at hp; rw [Bool.and_eq_true] at hp
    obtain ⟨n, h1, h2, h3⟩ := exF_iff.1 hp.2
    have h3 := of_decide_eq_true h3
    rw [hff]
    unfold inC
    rw [hf p hp.1, Bool.true_and]
    refine exF_t n h1 h2 (decide_eq_true ?_)
    have e1 : itr f (n + 1) (f p) = f p := by rw [itr_s f n (f p), h3]
    exact e1
  · unfold inC at hp; rw [Bool.and_eq_true] at hp
    obtain ⟨n, h1, h2, h3⟩ := exF_iff.1 hp.2
    rw [hff]
    exact ⟨n, of_decide_eq_true h3⟩
theorem inC_ex {L : Nat → Bool} {f : Nat → Nat} (h5 : L5 L) (hf : ∀ i, f i < 5) (hfL : ∀ p, L p = true → L (f p) = true) {p0 : Nat} (hp : L p0 = true) : ∃ q, inC f L q = true := by
  have hin : ∀ n p, L p = true → L (itr f n p) = true := by
    intro n
    induction n with
    | zero => intro p hp; exact hp
    | succ n ih => intro p hp; exact ih _ (hfL p hp)
  obtain ⟨n, h1, h2⟩ := cyc5 (fun i _ => hf i) (h5 p0 hp)
  refine ⟨itr f 5 p0, ?_⟩
  unfold inC
  rw [hin 5 p0 hp, Bool.true_and]
  exact exF_t n (by omega) (by omega) (decide_eq_true h2)
theorem inC_at {f : Nat → Nat} {L : Nat → Bool} {p : Nat} (hp : L p = true) : inC f L p = exF (fun n => decide (itr f n (f p) = p)) 0 6 := by unfold inC; rw [hp, Bool.true_and]
noncomputable def cutC (f : Nat → Nat) (L : Nat → Bool) (i p : Nat) : Bool := decide (p < i) && inC f L p
theorem cutC_lt {f : Nat → Nat} {L : Nat → Bool} {i p : Nat} (h : p < i) : cutC f L i p = inC f L p := by unfold cutC; rw [decide_eq_true h, Bool.true_and]
theorem cutC_ge {f : Nat → Nat} {L : Nat → Bool} {i p : Nat} (h : i ≤ p) : cutC f L i p = false := by unfold cutC; rw [decide_eq_false (by omega), Bool.false_and]
/-- what a row says of p when A has gone out of L -/
def vC (t : TT) (s : SS) (f g : Nat → Nat) (L A : Nat → Bool) (p : Nat) : Int := if dif (inR t s) (dif L A) p = true then (dR s (upg A f g p) : Int) else -2
theorem vC_congr {t : TT} {s : SS} {f g : Nat → Nat} {L A B : Nat → Bool} {p : Nat} (h : A p = B p) : vC t s f g L A p = vC t s f g L B p := by
  unfold vC upg dif
  rw [h]
/-- the rings of one round go out -/
theorem m_out {σ : Mem} {t : TT} {s : SS} {g f : Nat → Nat} {L : Nat → Bool} (tb : TB t) (hR : MR (σ.1 67) t) (h : RM σ t s g L) (hfe : f = fR t s L) {p0 : Nat} (hp0 : L p0 = true) : ∃ τ, f_X13_ringOut σ (zI (bits L t.P)) = some (zI (bits (dif L (inC f L)) t.P), τ) ∧ (∀ a, a ≠ 78 → τ.1 a = σ.1 a) ∧ τ.2 = σ.2 ∧ RM τ t s (upg (inC f L) f g) (dif L (inC f L)) := by
  have hP := tb.P
  have h5 : L5 L := fun q hq => inR_5 tb s q (h.sub q hq)
  have hf : ∀ i, f i < 5 ∧ L (f i) = true := fun i => by rw [hfe]; exact fR_lt h5 hp0 i (t := t) (s := s)
  have a67 : aln 67 = 175 := rfl
  have a76 : aln 76 = 5 := rfl
  have a78 : aln 78 = 5 := rfl
  have i4 : ∀ β (k : Option β), ixd 4 (aln 67) k = k := fun β k => by rw [show (4 : Int32) = zI 4 from rfl, ixd_in (by omega)]
  have hLP : ∀ q, L q = true → q < t.P := fun q hq => (of_decide_eq_true (h.sub q hq)).1
  unfold f_X13_ringOut
  simp only [i4]
  let Inv : Nat → Mem → Prop := fun i τ => (∀ a, a ≠ 78 → τ.1 a = σ.1 a) ∧ τ.2 = σ.2 ∧ ∀ p, p < t.P → τ.1 78 p = zI (vC t s f g L (cutC f L i) p)
  have hh := fx3_inv (F := fun k_4 (i_1 : Int32) (i_2 : Int32) (σ_3 : Mem) => (if (σ_3.1 67 (4 : Int32).toNatClampNeg) ≤ i_2 then some (zI (bits L t.P) &&& (i_1 ^^^ (-1)), σ_3) else bd1 (f_X13_hasBit (zI (bits L t.P)) i_2) (fun (r_5 : Int32) => jn2 (fun (i_6 : Int32) (σ_7 : Mem) => nm (i_2 + 1) (fun (x_9 : Int32) => k_4 i_6 x_9 σ_7)) (fun k_8 => (if r_5 = 0 then k_8 i_1 σ_3 else bd1 (f_X13_pointsAt σ_3 i_2 (zI (bits L t.P))) (fun (r_11 : Int32) => fx2 FU (fun k_14 (i_12 : Int32) (i_13 : Int32) => jn0 ((if i_12 = i_2 then nm (i_1 ||| (1 <<< (i_2 &&& 31))) (fun (x_16 : Int32) => bd1 (f_X13_pointsAt σ_3 i_2 (zI (bits L t.P))) (fun (r_17 : Int32) => ixd r_17 (aln 76) (ixd i_2 (aln 78) (nm (sI σ_3 78 i_2.toNatClampNeg (σ_3.1 76 r_17.toNatClampNeg)) (fun (σ_18 : Mem) => k_8 x_16 σ_18))))) else k_8 i_1 σ_3)) (fun k_15 => (if 5 ≤ i_13 then k_15 else (if i_12 = i_2 then k_15 else bd1 (f_X13_pointsAt σ_3 i_12 (zI (bits L t.P))) (fun (r_19 : Int32) => nm (i_13 + 1) (fun (x_20 : Int32) => k_14 r_19 x_20)))))) r_11 0)))))) (fun i => zI (bits (inC f L) i)) (fun i => zI i) Inv (fun τ => some (zI (bits (dif L (inC f L)) t.P), τ)) t.P (by omega) ?_ ?_ 0 (by omega) (x := 0) (y := 0) rfl rfl σ ⟨fun a _ => rfl, rfl, fun p hp => ?_⟩
  · obtain ⟨τ, ⟨w1, w2, w3⟩, w4⟩ := hh
    refine ⟨τ, w4, w1, w2, ⟨fun p hp => by rw [w1 76 (by omega)]; exact h.own p hp, fun p hp => by rw [w1 77 (by omega)]; exact h.wish p hp, fun p hp => ?_, fun p hp => h.sub p (dif_t.1 hp).1⟩⟩
    rw [w3 p hp, vC_congr (B := inC f L) (cutC_lt hp)]; rfl
  · rintro k τ ⟨w1, w2, w3⟩
    have p4 : τ.1 67 (4 : Int32).toNatClampNeg = zI t.P := by rw [w1 67 (by omega)]; exact hR.P
    rw [p4, if_pos (by rw [zI_le (by omega) (by omega)]; omega), and_not _ _ hP]
  · rintro i hi τ ⟨w1, w2, w3⟩ k
    have hR1 : MR (τ.1 67) t := by rw [w1 67 (by omega)]; exact hR
    have p4 : τ.1 67 (4 : Int32).toNatClampNeg = zI t.P := hR1.P
    have hM : RM (sI τ 78 0 0) t s g L → True := fun _ => trivial
    -- the rows that pointing reads stand as they were
    have hRM : ∀ p, L p = true → f_X13_pointsAt τ (zI p) (zI (bits L t.P)) = some (zI (f p)) := by
      intro p hp
      have hq : RM (τ.1, σ.2) t s g L → True := fun _ => trivial
      have e : ∀ υ : Mem, υ.1 67 = τ.1 67 → υ.1 76 = τ.1 76 → υ.1 77 = τ.1 77 → f_X13_pointsAt τ (zI p) (zI (bits L t.P)) = f_X13_pointsAt υ (zI p) (zI (bits L t.P)) := by
        intro υ e1 e2 e3
        unfold f_X13_pointsAt f_X13_off
        rw [e1, e2, e3]
      rw [e σ (by rw [w1 67 (by omega)]) (by rw [w1 76 (by omega)]) (by rw [w1 77 (by omega)]), m_points tb hR h hp, hfe]
    rw [p4, if_neg (by rw [zI_le (by omega) (by omega)]; omega), m_hasBits _ (by omega) hi, pbd1_s]
    unfold jn2
    simp only [pnm_e, show zI i + 1 = zI (i + 1 : Nat) from by rw [show (1 : Int32) = zI 1 from rfl, zI_add]; rfl]
    have keep : ∀ υ : Mem, (∀ a, a ≠ 78 → υ.1 a = σ.1 a) → υ.2 = σ.2 → (∀ p, p < t.P → υ.1 78 p = if p = i ∧ inC f L i = true then zI (dR s (f i)) else τ.1 78 p) → Inv (i + 1) υ := by
      intro υ u1 u2 u3
      refine ⟨u1, u2, fun p hp => ?_⟩
      rw [u3 p hp]
      by_cases q : p = i
      · subst q
        rw [vC_congr (A := cutC f L (p + 1)) (B := inC f L) (cutC_lt (by omega))]
        cases hc : inC f L p with
        | true =>
          have hLp : L p = true := by unfold inC at hc; rw [Bool.and_eq_true] at hc; exact hc.1
          rw [if_pos ⟨rfl, rfl⟩]
          unfold vC
          rw [if_pos (dif_t.2 ⟨h.sub p hLp, by unfold dif; rw [hc]; simp⟩)]
          unfold upg
          rw [hc, if_pos rfl]
        | false =>
          rw [if_neg (fun z => by cases z.2), w3 p hp]
          rw [vC_congr (B := inC f L) (by rw [cutC_ge (Nat.le_refl p), hc])]
      · rw [if_neg (fun z => q z.1), w3 p hp]
        refine congrArg zI (vC_congr ?_)
        rcases Nat.lt_or_ge p i with z | z
        · rw [cutC_lt z, cutC_lt (by omega)]
        · rw [cutC_ge z, cutC_ge (by omega)]
    cases hl : L i with
    | false =>
      rw [if_pos (by rfl)]
      have hc : inC f L i = false := by unfold inC; rw [hl]; rfl
      refine ⟨τ, keep τ w1 w2 (fun p hp => by rw [if_neg (fun z => by rw [hc] at z; cases z.2)]), ?_⟩
      rw [show bits (inC f L) (i + 1) = bits (inC f L) i from by rw [bits, hc]; simp]
    | true =>
      rw [if_neg (by decide), hRM i hl, pbd1_s]
      have hin : ∀ n, L (itr f n (f i)) = true := by
        intro n
        cases n with
        | zero => exact (hf i).2
        | succ n => rw [itr_s f n (f i)]; exact (hf _).2
      have hfi : σ.1 76 (f i) = zI (dR s (f i)) := h.own _ (h.sub _ (hf i).2)
      -- what comes of the walk
      have last : ∀ q : Nat, q < 5 → (q = i ↔ inC f L i = true) → ∃ υ, Inv (i + 1) υ ∧ (if zI q = zI i then bd1 (some (zI (f i))) (fun (r_17 : Int32) => ixd r_17 (aln 76) (ixd (zI i) (aln 78) (k (zI (bits (inC f L) i) ||| (1 <<< (zI i &&& 31))) (zI (i + 1 : Nat)) (sI τ 78 (zI i).toNatClampNeg (τ.1 76 r_17.toNatClampNeg))))) else k (zI (bits (inC f L) i)) (zI (i + 1 : Nat)) τ) = k (zI (bits (inC f L) (i + 1))) (zI (i + 1 : Nat)) υ := by
        intro q hq hqi
        by_cases e : q = i
        · have hc := hqi.1 e
          have := (hf i).1
          rw [if_pos (by rw [e]), pbd1_s, ixd_in (by omega), ixd_in (by omega), zI_nat (by omega), zI_nat (by omega), show (i : Int).toNat = i from by omega, show ((f i : Nat) : Int).toNat = f i from by omega, w1 76 (by omega), hfi, bit_or _ (by omega) _ (by rw [hc, if_pos rfl]; rfl)]
          refine ⟨_, keep (sI τ 78 i (zI (dR s (f i)))) (fun a v => by rw [sI_o _ _ _ _ v, w1 a v]) w2 (fun p hp => ?_), rfl⟩
          rw [sI_1]
          by_cases z : p = i
          · rw [if_pos ⟨rfl, z⟩, if_pos ⟨z, hc⟩]
          · rw [if_neg (fun y => z y.2), if_neg (fun y => z y.1)]
        · have hc : inC f L i = false := by
            cases hx : inC f L i with
            | false => rfl
            | true => exact absurd (hqi.2 hx) e
          rw [if_neg (by rw [zI_eq (by omega) (by omega)]; omega)]
          refine ⟨τ, keep τ w1 w2 (fun p hp => by rw [if_neg (fun z => by rw [hc] at z; cases z.2)]), ?_⟩
          rw [show bits (inC f L) (i + 1) = bits (inC f L) i from by rw [bits, hc]; simp]
      have hQ : ∀ n, n ≤ 5 → (∀ m, m < n → itr f m (f i) ≠ i) → (n = 5 ∨ itr f n (f i) = i) → (itr f n (f i) = i ↔ inC f L i = true) := by
        intro n hn h1 h2
        rw [inC_at hl]
        constructor
        · intro h3; exact exF_t n (by omega) (by omega) (decide_eq_true h3)
        · intro h3
          obtain ⟨m, y1, y2, y3⟩ := exF_iff.1 h3
          have y3 := of_decide_eq_true y3
          rcases h2 with h2 | h2
          · rcases Nat.lt_or_ge m n with w | w
            · exact absurd y3 (h1 m w)
            · rw [show n = m from by omega]; exact y3
          · exact h2
      -- the walk itself, by the first step that comes back
      have walk : ∀ n, n ≤ 5 → (∀ m, m < n → itr f m (f i) ≠ i) → ∀ M, ∃ υ, Inv (i + 1) υ ∧ fx2 (5 - n + 1 + M) (fun k_14 (i_12 : Int32) (i_13 : Int32) => jn0 ((if i_12 = zI i then bd1 (some (zI (f i))) (fun (r_17 : Int32) => ixd r_17 (aln 76) (ixd (zI i) (aln 78) (k (zI (bits (inC f L) i) ||| (1 <<< (zI i &&& 31))) (zI (i + 1 : Nat)) (sI τ 78 (zI i).toNatClampNeg (τ.1 76 r_17.toNatClampNeg))))) else k (zI (bits (inC f L) i)) (zI (i + 1 : Nat)) τ)) (fun k_15 => (if 5 ≤ i_13 then k_15 else (if i_12 = zI i then k_15 else bd1 (f_X13_pointsAt τ i_12 (zI (bits L t.P))) (fun (r_19 : Int32) => k_14 r_19 (i_13 + 1)))))) (zI (itr f n (f i))) (zI n) = k (zI (bits (inC f L) (i + 1))) (zI (i + 1 : Nat)) υ := by
        have main : ∀ d n, n + d = 5 → (∀ m, m < n → itr f m (f i) ≠ i) → ∀ M, ∃ υ, Inv (i + 1) υ ∧ fx2 (d + 1 + M) (fun k_14 (i_12 : Int32) (i_13 : Int32) => jn0 ((if i_12 = zI i then bd1 (some (zI (f i))) (fun (r_17 : Int32) => ixd r_17 (aln 76) (ixd (zI i) (aln 78) (k (zI (bits (inC f L) i) ||| (1 <<< (zI i &&& 31))) (zI (i + 1 : Nat)) (sI τ 78 (zI i).toNatClampNeg (τ.1 76 r_17.toNatClampNeg))))) else k (zI (bits (inC f L) i)) (zI (i + 1 : Nat)) τ)) (fun k_15 => (if 5 ≤ i_13 then k_15 else (if i_12 = zI i then k_15 else bd1 (f_X13_pointsAt τ i_12 (zI (bits L t.P))) (fun (r_19 : Int32) => k_14 r_19 (i_13 + 1)))))) (zI (itr f n (f i))) (zI n) = k (zI (bits (inC f L) (i + 1))) (zI (i + 1 : Nat)) υ := by
          intro d
          induction d with
          | zero =>
            intro n hn h1 M
            have h5n := h5 _ (hin n)
            obtain ⟨υ, v1, v2⟩ := last (itr f n (f i)) h5n (hQ n (by omega) h1 (Or.inl (by omega)))
            refine ⟨υ, v1, ?_⟩
            rw [show 0 + 1 + M = M + 1 from by omega]
            show jn0 _ _ = _
            rw [jn0_e, if_pos (by rw [show (5 : Int32) = zI 5 from rfl, zI_le (by omega) (by omega)]; omega)]
            exact v2
          | succ d ih =>
            intro n hn h1 M
            have h5n := h5 _ (hin n)
            rw [show d + 1 + 1 + M = (d + 1 + M) + 1 from by omega]
            by_cases e : itr f n (f i) = i
            · obtain ⟨υ, v1, v2⟩ := last (itr f n (f i)) h5n (hQ n (by omega) h1 (Or.inr e))
              refine ⟨υ, v1, ?_⟩
              show jn0 _ _ = _
              rw [jn0_e, if_neg (by rw [show (5 : Int32) = zI 5 from rfl, zI_le (by omega) (by omega)]; omega), if_pos (show zI (itr f n (f i)) = zI i from by rw [e])]
              exact v2
            · obtain ⟨υ, v1, v2⟩ := ih (n + 1) (by omega) (fun m hm => by
                rcases Nat.lt_or_ge m n with w | w
                · exact h1 m w
                · rw [show m = n from by omega]; exact e) M
              refine ⟨υ, v1, ?_⟩
              show jn0 _ _ = _
              rw [jn0_e, if_neg (by rw [show (5 : Int32) = zI 5 from rfl, zI_le (by omega) (by omega)]; omega), if_neg (show ¬ zI (itr f n (f i)) = zI i from by rw [zI_eq (by omega) (by omega)]; omega), hRM _ (hin n), pbd1_s, ← itr_s f n (f i), show zI n + 1 = zI (n + 1 : Nat) from by rw [show (1 : Int32) = zI 1 from rfl, zI_add]; rfl]
              exact v2
        intro n hn h1 M
        exact main (5 - n) n (by omega) h1 M
      have hw := walk 0 (by omega) (fun m hm => absurd hm (by omega)) 99994
      rw [show FU = 5 - 0 + 1 + 99994 from by unfold FU; decide]
      exact hw
  · rw [h.gets p hp]
    have e : dif L (cutC f L 0) = L := funext fun p => by unfold dif; rw [cutC_ge (by omega)]; simp
    unfold vC
    rw [e]
    unfold upg
    rw [cutC_ge (by omega), if_neg (show ¬ false = true by decide)]
