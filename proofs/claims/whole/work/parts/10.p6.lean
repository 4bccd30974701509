/-- the first of those in L below n whose key is least -/
def am (k : Nat → Nat) (L : Nat → Bool) : Nat → Option Nat
  | 0 => none
  | n + 1 => match am k L n with
    | none => if L n = true then some n else none
    | some b => if L n = true ∧ k n < k b then some n else some b
theorem am_none {k : Nat → Nat} {L : Nat → Bool} : ∀ {n}, am k L n = none → ∀ q, q < n → L q = false
  | 0, _, q, h => absurd h (by omega)
  | n + 1, h, q, hq => by
    rw [am] at h
    cases e : am k L n with
    | none =>
      rw [e] at h
      dsimp only at h
      rcases Nat.lt_or_ge q n with w | w
      · exact am_none e q w
      · rw [show q = n from by omega]
        cases hl : L n with
        | false => rfl
        | true => rw [hl, if_pos rfl] at h; cases h
    | some b =>
      rw [e] at h
      dsimp only at h
      split at h <;> cases h
theorem am_some {k : Nat → Nat} {L : Nat → Bool} : ∀ {n b}, am k L n = some b → L b = true ∧ b < n ∧ (∀ q, q < n → L q = true → k b ≤ k q) ∧ ∀ q, q < b → L q = true → k b < k q
  | 0, b, h => by cases h
  | n + 1, b, h => by
    rw [am] at h
    cases e : am k L n with
    | none =>
      rw [e] at h
      dsimp only at h
      split at h
      · rename_i hl
        have hb := Option.some.inj h
        subst hb
        refine ⟨hl, by omega, fun q hq hL => ?_, fun q hq hL => ?_⟩
        · rcases Nat.lt_or_ge q n with w | w
          · rw [am_none e q w] at hL; cases hL
          · rw [show q = n from by omega]; exact Nat.le_refl _
        · rw [am_none e q hq] at hL; cases hL
      · cases h
    | some c =>
      rw [e] at h
      dsimp only at h
      obtain ⟨h1, h2, h3, h4⟩ := am_some e
      split at h
      · rename_i hl
        have hb := Option.some.inj h
        subst hb
        refine ⟨hl.1, by omega, fun q hq hL => ?_, fun q hq hL => ?_⟩
        · rcases Nat.lt_or_ge q n with w | w
          · have := h3 q w hL; omega
          · rw [show q = n from by omega]; exact Nat.le_refl _
        · have := h3 q hq hL; omega
      · rename_i hl
        have hb := Option.some.inj h
        subst hb
        refine ⟨h1, by omega, fun q hq hL => ?_, h4⟩
        rcases Nat.lt_or_ge q n with w | w
        · exact h3 q w hL
        · have : q = n := by omega
          subst this
          have : ¬ (k q < k c) := fun z => hl ⟨hL, z⟩
          omega
theorem am_iff {k : Nat → Nat} {L : Nat → Bool} {n b : Nat} (h1 : L b = true) (h2 : b < n) (h3 : ∀ q, q < n → L q = true → k b ≤ k q) (h4 : ∀ q, q < b → L q = true → k b < k q) : am k L n = some b := by
  cases e : am k L n with
  | none => rw [am_none e b h2] at h1; cases h1
  | some c =>
    obtain ⟨g1, g2, g3, g4⟩ := am_some e
    have : c = b := by
      rcases Nat.lt_trichotomy c b with w | w | w
      · have := h4 c w g1; have := g3 b h2 h1; omega
      · exact w
      · have := g4 b w h1; have := h3 c g2 g1; omega
    rw [this]
def fbst (k : Nat → Nat → Nat) (L : Nat → Bool) (p : Nat) : Nat := (am (k p) L 5).getD 0
def L5 (L : Nat → Bool) : Prop := ∀ q, L q = true → q < 5
theorem fbst_in {k : Nat → Nat → Nat} {L : Nat → Bool} (h5 : L5 L) {p0 : Nat} (h : L p0 = true) (p : Nat) : am (k p) L 5 = some (fbst k L p) ∧ L (fbst k L p) = true := by
  unfold fbst
  cases e : am (k p) L 5 with
  | none => rw [am_none e p0 (h5 p0 h)] at h; cases h
  | some b => exact ⟨rfl, (am_some e).1⟩
theorem fbst_sub {k : Nat → Nat → Nat} {L M : Nat → Bool} (h5 : L5 L) (hM : ∀ q, M q = true → L q = true) {p : Nat} (h : M (fbst k L p) = true) : fbst k M p = fbst k L p := by
  obtain ⟨e, h1⟩ := fbst_in h5 (hM _ h) p (k := k)
  obtain ⟨g1, g2, g3, g4⟩ := am_some e
  have : am (k p) M 5 = some (fbst k L p) := am_iff h g2 (fun q hq hL => g3 q hq (hM q hL)) (fun q hq hL => g4 q hq (hM q hL))
  show (am (k p) M 5).getD 0 = _
  rw [this]; rfl
def itr (f : Nat → Nat) : Nat → Nat → Nat
  | 0, p => p
  | n + 1, p => itr f n (f p)
theorem itr_s (f : Nat → Nat) : ∀ n p, itr f (n + 1) p = f (itr f n p)
  | 0, _ => rfl
  | n + 1, p => by rw [itr, itr_s f n (f p)]; rfl
theorem itr_add (f : Nat → Nat) : ∀ m n p, itr f (m + n) p = itr f m (itr f n p)
  | m, 0, _ => rfl
  | m, n + 1, p => by rw [← Nat.add_assoc, itr, itr_add f m n (f p)]; rfl
/-- A is left by rings alone, of those in L -/
abbrev RCl (k : Nat → Nat → Nat) (L A : Nat → Bool) : Prop :=
  (∀ p, A p = true → L p = true) ∧ (∀ p, A p = true → A (fbst k L p) = true) ∧ (∀ p, A p = true → ∃ n, itr (fbst k L) n (fbst k L p) = p)
theorem RCl.sub {k : Nat → Nat → Nat}{L A : Nat → Bool} (h : RCl k L A) : ∀ p, A p = true → L p = true := h.1
theorem RCl.clo {k : Nat → Nat → Nat}{L A : Nat → Bool} (h : RCl k L A) : ∀ p, A p = true → A (fbst k L p) = true := h.2.1
theorem RCl.cyc {k : Nat → Nat → Nat}{L A : Nat → Bool} (h : RCl k L A) : ∀ p, A p = true → ∃ n, itr (fbst k L) n (fbst k L p) = p := h.2.2
def dif (L A : Nat → Bool) : Nat → Bool := fun p => L p && !A p
theorem dif_t {L A : Nat → Bool} {p : Nat} : dif L A p = true ↔ L p = true ∧ A p = false := by
  unfold dif
  rw [Bool.and_eq_true, Bool.not_eq_true']
theorem itr_in {k : Nat → Nat → Nat} {L A : Nat → Bool} (h : RCl k L A) : ∀ n p, A p = true → A (itr (fbst k L) n p) = true
  | 0, _, hp => hp
  | n + 1, p, hp => itr_in h n _ (h.clo p hp)
/-- who isn't in a ring set doesn't point into it, if he is in another -/
theorem RCl.diff {k : Nat → Nat → Nat} {L A B : Nat → Bool} (h5 : L5 L) (hA : RCl k L A) (hB : RCl k L B) : RCl k (dif L A) (dif B A) ∧ ∀ p, dif B A p = true → fbst k (dif L A) p = fbst k L p := by
  have h5' : L5 (dif L A) := fun q hq => h5 q (dif_t.1 hq).1
  have hs : ∀ q, dif L A q = true → L q = true := fun q hq => (dif_t.1 hq).1
  have hcl : ∀ p, dif B A p = true → dif B A (fbst k L p) = true := by
    intro p hp
    obtain ⟨hb, ha⟩ := dif_t.1 hp
    refine dif_t.2 ⟨hB.clo p hb, ?_⟩
    cases e : A (fbst k L p) with
    | false => rfl
    | true =>
      obtain ⟨n, hn⟩ := hB.cyc p hb
      have := itr_in hA n _ e
      rw [hn, ha] at this; cases this
  have heq : ∀ p, dif B A p = true → fbst k (dif L A) p = fbst k L p := by
    intro p hp
    have h1 := hcl p hp
    obtain ⟨hb, ha⟩ := dif_t.1 h1
    exact fbst_sub h5 hs (dif_t.2 ⟨hB.sub _ hb, ha⟩)
  have hit : ∀ n p, dif B A p = true → itr (fbst k (dif L A)) n p = itr (fbst k L) n p := by
    intro n
    induction n with
    | zero => intro p _; rfl
    | succ n ih => intro p hp; rw [itr, itr, heq p hp, ih _ (hcl p hp)]
  refine ⟨⟨fun p hp => ?_, fun p hp => ?_, fun p hp => ?_⟩, heq⟩
  · obtain ⟨hb, ha⟩ := dif_t.1 hp
    exact dif_t.2 ⟨hB.sub p hb, ha⟩
  · rw [heq p hp]; exact hcl p hp
  · obtain ⟨n, hn⟩ := hB.cyc p (dif_t.1 hp).1
    exact ⟨n, by rw [heq p hp, hit n _ (hcl p hp)]; exact hn⟩
/-- rings that go out one after another, till nobody is left; g: to whom each points then -/
def pRun (k : Nat → Nat → Nat) (g : Nat → Nat) : (Nat → Bool) → List (Nat → Bool) → Prop
  | L, [] => ∀ p, L p = false
  | L, A :: r => RCl k L A ∧ (∀ p, A p = true → g p = fbst k L p) ∧ pRun k g (dif L A) r
theorem dif_c (L A B : Nat → Bool) : dif (dif L A) (dif B A) = dif (dif L B) (dif A B) := by
  funext p
  unfold dif
  cases L p <;> cases A p <;> cases B p <;> rfl
theorem run_cut {k : Nat → Nat → Nat} {g : Nat → Nat} : ∀ (r : List (Nat → Bool)) (L B : Nat → Bool), L5 L → pRun k g L r → RCl k L B → (∃ r2, pRun k g (dif L B) r2) ∧ ∀ p, B p = true → g p = fbst k L p
  | [], L, B, h5, hr, hB => by
    have hr : ∀ p, L p = false := hr
    refine ⟨⟨[], fun p => ?_⟩, fun p hp => ?_⟩
    · unfold dif; rw [hr p]; rfl
    · have := hB.sub p hp; rw [hr p] at this; cases this
  | A :: r, L, B, h5, hr, hB => by
    obtain ⟨hA, hg, hr⟩ := hr
    obtain ⟨h1, h2⟩ := hA.diff h5 hB
    obtain ⟨h3, h4⟩ := hB.diff h5 hA
    obtain ⟨⟨r2, e1⟩, e2⟩ := run_cut r (dif L A) (dif B A) (fun q hq => h5 q (dif_t.1 hq).1) hr h1
    refine ⟨⟨dif A B :: r2, h3, fun p hp => ?_, ?_⟩, fun p hp => ?_⟩
    · rw [h4 p hp]; exact hg p (dif_t.1 hp).1
    · rw [dif_c L B A]; exact e1
    · cases ha : A p with
      | true => exact hg p ha
      | false =>
        have hd : dif B A p = true := dif_t.2 ⟨hp, ha⟩
        rw [e2 p hd, h2 p hd]
theorem run_one {k : Nat → Nat → Nat} {g g' : Nat → Nat} : ∀ (r' : List (Nat → Bool)) (L : Nat → Bool) (r : List (Nat → Bool)), L5 L → pRun k g L r → pRun k g' L r' → ∀ p, L p = true → g p = g' p
  | [], L, r, _, _, hr', p, hp => by
    have hr' : ∀ p, L p = false := hr'
    rw [hr' p] at hp; cases hp
  | B :: r', L, r, h5, hr, hr', p, hp => by
    obtain ⟨hB, hg, hr'⟩ := hr'
    obtain ⟨⟨r2, e1⟩, e2⟩ := run_cut r L B h5 hr hB
    cases hb : B p with
    | true => rw [e2 p hb, hg p hb]
    | false => exact run_one r' (dif L B) r2 (fun q hq => h5 q (dif_t.1 hq).1) e1 hr' p (dif_t.2 ⟨hp, hb⟩)
