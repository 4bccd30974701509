/-- loops by an invariant and a post condition -/
theorem fx1_pn {A1 β : Type} {F : (A1 → Option β) → A1 → Option β} (Inv : Nat → A1 → Prop) (Post : Option β → Prop) (N : Nat) (he : ∀ k x, Inv N x → Post (F k x)) (hs : ∀ i, i < N → ∀ x, Inv i x → ∀ k, Post (F k x) ∨ ∃ y, Inv (i + 1) y ∧ F k x = k y) : ∀ n i, i + n = N → ∀ x, Inv i x → ∀ m, Post (fx1 (n + 1 + m) F x) := by
  intro n
  induction n with
  | zero =>
    intro i hi x hx m
    rw [show 0 + 1 + m = m + 1 from by omega]
    show Post (F (fx1 m F) x)
    exact he _ _ (by rw [show N = i from by omega]; exact hx)
  | succ n ih =>
    intro i hi x hx m
    rw [show n + 1 + 1 + m = (n + 1 + m) + 1 from by omega]
    show Post (F (fx1 (n + 1 + m) F) x)
    rcases hs i (by omega) x hx (fx1 (n + 1 + m) F) with h | ⟨y, hy, e⟩
    · exact h
    · rw [e]; exact ih (i + 1) (by omega) y hy m
theorem fx1_pi {A1 β : Type} {F : (A1 → Option β) → A1 → Option β} (Inv : Nat → A1 → Prop) (Post : Option β → Prop) (N : Nat) (hN : N < 100000) (he : ∀ k x, Inv N x → Post (F k x)) (hs : ∀ i, i < N → ∀ x, Inv i x → ∀ k, Post (F k x) ∨ ∃ y, Inv (i + 1) y ∧ F k x = k y) (i : Nat) (hi : i ≤ N) (x : A1) (hx : Inv i x) : Post (fx1 FU F x) := by
  have := fx1_pn Inv Post N he hs (N - i) i (by omega) x hx (100000 - (N - i) - 1)
  rw [show N - i + 1 + (100000 - (N - i) - 1) = 100000 from by omega] at this
  exact this
theorem fx2_pn {A1 A2 β : Type} {F : (A1 → A2 → Option β) → A1 → A2 → Option β} (a : Nat → A1) (Inv : Nat → A2 → Prop) (Post : Option β → Prop) (N : Nat) (he : ∀ k x, Inv N x → Post (F k (a N) x)) (hs : ∀ i, i < N → ∀ x, Inv i x → ∀ k, Post (F k (a i) x) ∨ ∃ y, Inv (i + 1) y ∧ F k (a i) x = k (a (i + 1)) y) : ∀ n i, i + n = N → ∀ x, Inv i x → ∀ m, Post (fx2 (n + 1 + m) F (a i) x) := by
  intro n
  induction n with
  | zero =>
    intro i hi x hx m
    rw [show 0 + 1 + m = m + 1 from by omega]
    show Post (F (fx2 m F) (a i) x)
    obtain rfl : N = i := by omega
    exact he _ _ hx
  | succ n ih =>
    intro i hi x hx m
    rw [show n + 1 + 1 + m = (n + 1 + m) + 1 from by omega]
    show Post (F (fx2 (n + 1 + m) F) (a i) x)
    rcases hs i (by omega) x hx (fx2 (n + 1 + m) F) with h | ⟨y, hy, e⟩
    · exact h
    · rw [e]; exact ih (i + 1) (by omega) y hy m
theorem fx2_pi {A1 A2 β : Type} {F : (A1 → A2 → Option β) → A1 → A2 → Option β} (a : Nat → A1) (Inv : Nat → A2 → Prop) (Post : Option β → Prop) (N : Nat) (hN : N < 100000) (he : ∀ k x, Inv N x → Post (F k (a N) x)) (hs : ∀ i, i < N → ∀ x, Inv i x → ∀ k, Post (F k (a i) x) ∨ ∃ y, Inv (i + 1) y ∧ F k (a i) x = k (a (i + 1)) y) (i : Nat) (hi : i ≤ N) {z : A1} (hz : z = a i) (x : A2) (hx : Inv i x) : Post (fx2 FU F z x) := by
  subst hz
  have := fx2_pn a Inv Post N he hs (N - i) i (by omega) x hx (100000 - (N - i) - 1)
  rw [show N - i + 1 + (100000 - (N - i) - 1) = 100000 from by omega] at this
  exact this
theorem fx3_pn {A1 A2 A3 β : Type} {F : (A1 → A2 → A3 → Option β) → A1 → A2 → A3 → Option β} (a : Nat → A1) (b : Nat → A2) (Inv : Nat → A3 → Prop) (Post : Option β → Prop) (N : Nat) (he : ∀ k x, Inv N x → Post (F k (a N) (b N) x)) (hs : ∀ i, i < N → ∀ x, Inv i x → ∀ k, Post (F k (a i) (b i) x) ∨ ∃ y, Inv (i + 1) y ∧ F k (a i) (b i) x = k (a (i + 1)) (b (i + 1)) y) : ∀ n i, i + n = N → ∀ x, Inv i x → ∀ m, Post (fx3 (n + 1 + m) F (a i) (b i) x) := by
  intro n
  induction n with
  | zero =>
    intro i hi x hx m
    rw [show 0 + 1 + m = m + 1 from by omega]
    show Post (F (fx3 m F) (a i) (b i) x)
    obtain rfl : N = i := by omega
    exact he _ _ hx
  | succ n ih =>
    intro i hi x hx m
    rw [show n + 1 + 1 + m = (n + 1 + m) + 1 from by omega]
    show Post (F (fx3 (n + 1 + m) F) (a i) (b i) x)
    rcases hs i (by omega) x hx (fx3 (n + 1 + m) F) with h | ⟨y, hy, e⟩
    · exact h
    · rw [e]; exact ih (i + 1) (by omega) y hy m
theorem fx3_pi {A1 A2 A3 β : Type} {F : (A1 → A2 → A3 → Option β) → A1 → A2 → A3 → Option β} (a : Nat → A1) (b : Nat → A2) (Inv : Nat → A3 → Prop) (Post : Option β → Prop) (N : Nat) (hN : N < 100000) (he : ∀ k x, Inv N x → Post (F k (a N) (b N) x)) (hs : ∀ i, i < N → ∀ x, Inv i x → ∀ k, Post (F k (a i) (b i) x) ∨ ∃ y, Inv (i + 1) y ∧ F k (a i) (b i) x = k (a (i + 1)) (b (i + 1)) y) (i : Nat) (hi : i ≤ N) {z : A1} (hz : z = a i) {w : A2} (hw : w = b i) (x : A3) (hx : Inv i x) : Post (fx3 FU F z w x) := by
  subst hz hw
  have := fx3_pn a b Inv Post N he hs (N - i) i (by omega) x hx (100000 - (N - i) - 1)
  rw [show N - i + 1 + (100000 - (N - i) - 1) = 100000 from by omega] at this
  exact this
/-- signs -/
def isSm (c : Nat) : Bool := decide (97 ≤ c ∧ c ≤ 122)
def isDg (c : Nat) : Bool := decide (48 ≤ c ∧ c ≤ 57)
/-- the first place from i on, of m places, where p doesn't hold -/
def scn (p : Nat → Bool) : Nat → Nat → Nat
  | 0, i => i
  | m + 1, i => if p i = true then scn p m (i + 1) else i
theorem scn_ge (p : Nat → Bool) : ∀ m i, i ≤ scn p m i
  | 0, i => Nat.le_refl i
  | m + 1, i => by
    rw [scn]; split
    · have := scn_ge p m (i + 1); omega
    · omega
theorem scn_le (p : Nat → Bool) : ∀ m i, scn p m i ≤ i + m
  | 0, i => Nat.le_refl i
  | m + 1, i => by
    rw [scn]; split
    · have := scn_le p m (i + 1); omega
    · omega
theorem scn_p (p : Nat → Bool) : ∀ m i j, i ≤ j → j < scn p m i → p j = true
  | 0, i, j, h1, h2 => by rw [scn] at h2; omega
  | m + 1, i, j, h1, h2 => by
    rw [scn] at h2
    split at h2
    · rename_i h
      rcases Nat.eq_or_lt_of_le h1 with rfl | h3
      · exact h
      · exact scn_p p m (i + 1) j h3 h2
    · omega
/-- up to n -/
def sc (p : Nat → Bool) (n i : Nat) : Nat := scn p (n - i) i
theorem sc_go {p : Nat → Bool} {n i : Nat} (h : i < n) (hp : p i = true) : sc p n i = sc p n (i + 1) := by
  unfold sc
  rw [show n - i = (n - (i + 1)) + 1 from by omega, scn, if_pos hp]
theorem sc_no {p : Nat → Bool} {n i : Nat} (h : n ≤ i ∨ p i = false) : sc p n i = i := by
  unfold sc
  rcases h with h | h
  · rw [show n - i = 0 from by omega, scn]
  · rcases Nat.lt_or_ge i n with q | q
    · rw [show n - i = (n - (i + 1)) + 1 from by omega, scn, if_neg (by rw [h]; decide)]
    · rw [show n - i = 0 from by omega, scn]
theorem sc_ge (p : Nat → Bool) (n i : Nat) : i ≤ sc p n i := scn_ge p _ i
theorem sc_le (p : Nat → Bool) {n i : Nat} (h : i ≤ n) : sc p n i ≤ n := by have := scn_le p (n - i) i; unfold sc; omega
theorem sc_p (p : Nat → Bool) (n i j : Nat) (h1 : i ≤ j) (h2 : j < sc p n i) : p j = true := scn_p p _ i j h1 h2
/-- sorts: 0 end, 1 blank, 2 word, 3 whole, 4 semicolon, 5 other -/
def srt (b : Nat → Nat) (n i : Nat) : Nat := if n ≤ i then 0 else if b i = 32 then 1 else if isSm (b i) = true then 2 else if isDg (b i) = true then 3 else if b i = 59 then 4 else 5
def most (k : Nat) : Nat := if k = 2 then 8 else if k = 3 then 3 else 1
/-- place and end and sort of the token from i on -/
def tpl (b : Nat → Nat) (n i : Nat) : Nat := sc (fun j => decide (b j = 32)) n i
def cn (k c : Nat) : Bool := (decide (k = 2) && isSm c) || (decide (k = 3) && isDg c)
def ten (b : Nat → Nat) (n i : Nat) : Nat := sc (fun j => cn (srt b n (tpl b n i)) (b j)) n (min (tpl b n i + 1) n)
def tkd (b : Nat → Nat) (n i : Nat) : Nat := if ten b n i - tpl b n i ≤ most (srt b n (tpl b n i)) then srt b n (tpl b n i) else 5
/-- what the class's tape and the model's tape say of n bytes b -/
abbrev TKc (σ : Mem) (b : Nat → Nat) (n : Nat) : Prop :=
  (n ≤ 800) ∧ (∀ i, i < n → b i < 256) ∧ (σ.1 1 2 = zI n) ∧ (∀ i, i < n → σ.1 2 i = zI (if b i < 128 then (b i : Int) else (b i : Int) - 256))
theorem TKc.n8 {σ : Mem}{b : Nat → Nat}{n : Nat} (h : TKc σ b n) : n ≤ 800 := h.1
theorem TKc.b8 {σ : Mem}{b : Nat → Nat}{n : Nat} (h : TKc σ b n) : ∀ i, i < n → b i < 256 := h.2.1
theorem TKc.end_ {σ : Mem}{b : Nat → Nat}{n : Nat} (h : TKc σ b n) : σ.1 1 2 = zI n := h.2.2.1
theorem TKc.byte {σ : Mem}{b : Nat → Nat}{n : Nat} (h : TKc σ b n) : ∀ i, i < n → σ.1 2 i = zI (if b i < 128 then (b i : Int) else (b i : Int) - 256) := h.2.2.2
abbrev TKm (σ : Mem) (b : Nat → Nat) (n : Nat) : Prop :=
  (n ≤ 800) ∧ (∀ i, i < n → b i < 256) ∧ (σ.1 64 3 = zI n) ∧ (∀ i, i < n → σ.1 65 i = zI (b i))
theorem TKm.n8 {σ : Mem}{b : Nat → Nat}{n : Nat} (h : TKm σ b n) : n ≤ 800 := h.1
theorem TKm.b8 {σ : Mem}{b : Nat → Nat}{n : Nat} (h : TKm σ b n) : ∀ i, i < n → b i < 256 := h.2.1
theorem TKm.size {σ : Mem}{b : Nat → Nat}{n : Nat} (h : TKm σ b n) : σ.1 64 3 = zI n := h.2.2.1
theorem TKm.byte {σ : Mem}{b : Nat → Nat}{n : Nat} (h : TKm σ b n) : ∀ i, i < n → σ.1 65 i = zI (b i) := h.2.2.2
theorem c_sort {σ : Mem} {b : Nat → Nat} {n : Nat} (h : TKc σ b n) (i : Nat) (hi : i ≤ 1000) : f_X10_sortAt σ (zI i) = some (zI (srt b n i)) := by
  have h8 := h.n8
  unfold f_X10_sortAt srt
  rw [show (0 : Int32) = zI 0 from rfl, if_neg (by rw [zI_lt (by omega) (by omega)]; omega), h.end_]
  by_cases h1 : n ≤ i
  · rw [if_pos (by rw [zI_le (by omega) (by omega)]; omega), if_pos h1]; rfl
  rw [if_neg (by rw [zI_le (by omega) (by omega)]; omega), if_neg h1, show nI (aln (1 + 1)) = zI 800 from rfl, if_pos (by rw [zI_lt (by omega) (by omega)]; omega), show aln (1 + 1) = 800 from rfl, ixd_in (by omega), pnm_e, zI_nat (by omega), show ((i : Int)).toNat = i from by omega, h.byte i (by omega)]
  have hb := h.b8 i (by omega)
  simp only [isSm, isDg, decide_eq_true_iff]
  by_cases q : b i < 128
  · rw [if_pos q]
    simp (disch := omega) only [jn0_e, jn1_e, jn2_e, pnm_e, pbd1_s, pbd2_s, prfc_s, onm_sm, onm_nn, zI_lit, zI_nI, zI_add, zI_sub, zI_mul, zI_neg, zI_lt, zI_le, zI_eq, zI_nat, zI_div, zI_mod, ixd_in, dvd_ne]
    by_cases q1 : b i = 32
    · rw [q1]; rfl
    · rw [if_neg q1]
      by_cases q2 : 97 ≤ b i ∧ b i ≤ 122
      · rw [if_pos q2, if_neg (by omega), if_neg (by omega)]; rfl
      · rw [if_neg q2]
        by_cases q3 : 48 ≤ b i ∧ b i ≤ 57
        · rw [if_pos q3, if_pos (by omega), if_neg (by omega), if_neg (by omega)]; rfl
        · rw [if_neg q3]
          by_cases q4 : b i = 59
          · rw [q4]; rfl
          · rw [if_neg q4]
            have e : (if (b i : Int) = 32 then some (zI 1) else if (b i : Int) = 59 then some (zI 4) else some (zI 5)) = some (zI ((5 : Nat) : Int)) := by rw [if_neg (by omega), if_neg (by omega)]; rfl
            by_cases q5 : (b i : Int) < 97
            · rw [if_pos q5]
              by_cases q6 : (b i : Int) < 48
              · rw [if_pos q6]; exact e
              · rw [if_neg q6, if_pos (by omega)]; exact e
            · rw [if_neg q5, if_pos (by omega), if_neg (by omega), if_pos (by omega)]; exact e
  · rw [if_neg q]
    simp (disch := omega) only [jn0_e, jn1_e, jn2_e, pnm_e, pbd1_s, pbd2_s, prfc_s, onm_sm, onm_nn, zI_lit, zI_nI, zI_add, zI_sub, zI_mul, zI_neg, zI_lt, zI_le, zI_eq, zI_nat, zI_div, zI_mod, ixd_in, dvd_ne]
    rw [if_neg (show ¬ b i = 32 from by omega), if_neg (show ¬ (97 ≤ b i ∧ b i ≤ 122) from by omega), if_neg (show ¬ (48 ≤ b i ∧ b i ≤ 57) from by omega), if_neg (show ¬ b i = 59 from by omega), if_pos (by omega), if_pos (by omega), if_neg (by omega), if_neg (by omega)]; rfl
theorem srt_cn {b : Nat → Nat} {n m k : Nat} (hm : m < n) (hk : 1 < most k) : srt b n m = k ↔ cn k (b m) = true := by
  unfold most at hk
  unfold srt cn
  rw [if_neg (by omega)]
  have d : isSm (b m) = true → isDg (b m) = false ∧ b m ≠ 32 ∧ b m ≠ 59 := by
    unfold isSm isDg; simp only [decide_eq_true_iff, decide_eq_false_iff_not]; omega
  have d2 : isDg (b m) = true → b m ≠ 32 ∧ b m ≠ 59 := by
    unfold isDg; simp only [decide_eq_true_iff]; omega
  by_cases h2 : k = 2
  · subst h2
    cases h : isSm (b m) with
    | true => rw [if_neg (d h).2.1]; simp
    | false => cases h3 : isDg (b m) <;> by_cases q : b m = 32 <;> by_cases q' : b m = 59 <;> simp [q, q']
  · by_cases h3 : k = 3
    · subst h3
      cases h : isDg (b m) with
      | true =>
        have : isSm (b m) = false := by cases h' : isSm (b m) with | false => rfl | true => rw [(d h').1] at h; cases h
        rw [if_neg (d2 h).1, this]; simp
      | false => cases h3 : isSm (b m) <;> by_cases q : b m = 32 <;> by_cases q' : b m = 59 <;> simp [q, q']
    · rw [if_neg h2, if_neg h3] at hk; omega
theorem cn_no {k c : Nat} (hk : ¬ 1 < most k) : cn k c = false := by
  unfold most at hk
  unfold cn
  by_cases h2 : k = 2
  · rw [if_pos h2] at hk; omega
  · by_cases h3 : k = 3
    · rw [if_neg h2, if_pos h3] at hk; omega
    · simp [h2, h3]
theorem srt_5 (b : Nat → Nat) (n i : Nat) : srt b n i ≤ 5 := by unfold srt; repeat (split <;> try omega)
/-- only the class's token has changed -/
def FrT (σ τ : Mem) : Prop := (∀ a j, ¬ (a = 1 ∧ 3 ≤ j ∧ j ≤ 5) → τ.1 a j = σ.1 a j) ∧ τ.2 = σ.2
theorem FrT.refl (σ : Mem) : FrT σ σ := ⟨fun _ _ _ => rfl, rfl⟩
theorem FrT.trans {σ τ υ : Mem} (h1 : FrT σ τ) (h2 : FrT τ υ) : FrT σ υ := ⟨fun a j h => (h2.1 a j h).trans (h1.1 a j h), h2.2.trans h1.2⟩
theorem FrT.sI {σ τ : Mem} (h : FrT σ τ) {j : Nat} (v : Int32) (hj : 3 ≤ j ∧ j ≤ 5) : FrT σ (sI τ 1 j v) := by
  refine ⟨fun a i hi => ?_, h.2⟩
  rw [sI_1, if_neg (fun e => hi ⟨e.1, by omega, by omega⟩)]; exact h.1 a i hi
theorem TKc.fr {σ τ : Mem} {b : Nat → Nat} {n : Nat} (h : TKc σ b n) (f : FrT σ τ) : TKc τ b n :=
  ⟨h.n8, h.b8, by rw [f.1 _ _ (by omega)]; exact h.end_, fun i hi => by rw [f.1 _ _ (by omega)]; exact h.byte i hi⟩
def stP (σ : Mem) (b : Nat → Nat) (n i : Nat) (o : Option Mem) : Prop := ∃ τ, o = some τ ∧ FrT σ τ ∧ τ.1 1 3 = zI (ten b n i) ∧ τ.1 1 4 = zI (tpl b n i) ∧ τ.1 1 5 = zI (tkd b n i)
theorem c_step2 {σ y : Mem} {b : Nat → Nat} {n i j : Nat} (h : TKc σ b n) (fy : FrT σ y) (y4 : y.1 1 4 = zI j) (y5 : y.1 1 5 = zI (srt b n j)) (hj : j ≤ n) (hp : tpl b n i = j) (mo : Int32) (hmo : mo = zI (most (srt b n j))) : stP σ b n i (nm (if (y.1 1 2) < ((y.1 1 4) + 1) then (y.1 1 2) else ((y.1 1 4) + 1)) (fun (x_9 : Int32) => nm (sI y 1 3 x_9) (fun (σ_10 : Mem) => fx1 FU (fun k_12 (σ_11 : Mem) => jn0 ((if ((σ_11.1 1 3) - (σ_11.1 1 4)) ≤ mo then some σ_11 else nm (sI σ_11 1 5 5) (fun (σ_14 : Mem) => some σ_14))) (fun k_13 => (if (σ_11.1 1 2) ≤ (σ_11.1 1 3) then k_13 else (if mo ≤ 1 then k_13 else bd1 (f_X10_sortAt σ_11 (σ_11.1 1 3)) (fun (r_15 : Int32) => (if r_15 = (σ_11.1 1 5) then nm (sI σ_11 1 3 ((σ_11.1 1 3) + 1)) (fun (σ_16 : Mem) => k_12 σ_16) else k_13)))))) σ_10))) := by
  have h8 := h.n8
  subst hmo
  have s5 := srt_5 b n j
  have m8 : 1 ≤ most (srt b n j) ∧ most (srt b n j) ≤ 8 := by unfold most; repeat (split <;> try omega)
  have e3 : (if (y.1 1 2) < ((y.1 1 4) + 1) then (y.1 1 2) else ((y.1 1 4) + 1)) = zI (min (j + 1) n : Nat) := by
    rw [(h.fr fy).end_, y4]
    simp (disch := omega) only [jn0_e, jn1_e, jn2_e, pnm_e, pbd1_s, pbd2_s, prfc_s, onm_sm, onm_nn, zI_lit, zI_nI, zI_add, zI_sub, zI_mul, zI_neg, zI_lt, zI_le, zI_eq, zI_nat, zI_div, zI_mod, ixd_in, dvd_ne]
    by_cases q : (n : Int) < j + 1
    · rw [if_pos q]; congr 1; omega
    · rw [if_neg q]; congr 1; omega
  rw [pnm_e, e3, pnm_e]
  have fin : ∀ x : Mem, FrT σ x → x.1 1 4 = zI j → x.1 1 5 = zI (srt b n j) → x.1 1 3 = zI (ten b n i) → stP σ b n i (if ((x.1 1 3) - (x.1 1 4)) ≤ zI (most (srt b n j)) then some x else nm (sI x 1 5 5) (fun (σ_14 : Mem) => some σ_14)) := by
    intro x fx x4 x5 x3
    have l1 : j ≤ ten b n i := by unfold ten; rw [hp]; have := sc_ge (fun m => cn (srt b n j) (b m)) n (min (j + 1) n); omega
    have l2 : ten b n i ≤ n := by unfold ten; rw [hp]; exact sc_le _ (by omega)
    rw [x3, x4]
    simp (disch := omega) only [jn0_e, jn1_e, jn2_e, pnm_e, pbd1_s, pbd2_s, prfc_s, onm_sm, onm_nn, zI_lit, zI_nI, zI_add, zI_sub, zI_mul, zI_neg, zI_lt, zI_le, zI_eq, zI_nat, zI_div, zI_mod, ixd_in, dvd_ne]
    by_cases q : ten b n i - j ≤ most (srt b n j)
    · rw [if_pos (by omega)]
      exact ⟨x, rfl, fx, x3, by rw [hp]; exact x4, by rw [x5]; unfold tkd; rw [hp, if_pos q]⟩
    · rw [if_neg (by omega)]
      refine ⟨_, rfl, fx.sI _ (by omega), ?_, ?_, ?_⟩
      · rw [sI_1, if_neg (by omega)]; exact x3
      · rw [sI_1, if_neg (by omega), hp]; exact x4
      · rw [sI_1, if_pos ⟨rfl, rfl⟩]; unfold tkd; rw [hp, if_neg q]; rfl
  refine fx1_pi (fun m x => FrT σ x ∧ x.1 1 4 = zI j ∧ x.1 1 5 = zI (srt b n j) ∧ x.1 1 3 = zI m ∧ sc (fun m => cn (srt b n j) (b m)) n m = ten b n i) (stP σ b n i) n (by omega) ?_ ?_ (min (j + 1) n) (by omega) _ ⟨fy.sI _ (by omega), ?_, ?_, ?_, ?_⟩
  · rintro k x ⟨fx, x4, x5, x3, xe⟩
    rw [jn0_e, if_pos (by rw [(h.fr fx).end_, x3, zI_le (by omega) (by omega)]; omega)]
    exact fin x fx x4 x5 (by rw [x3, ← xe, sc_no (Or.inl (Nat.le_refl n))])
  · rintro m hm x ⟨fx, x4, x5, x3, xe⟩ k
    rw [jn0_e, if_neg (by rw [(h.fr fx).end_, x3, zI_le (by omega) (by omega)]; omega)]
    by_cases q : 1 < most (srt b n j)
    · rw [show (1 : Int32) = zI 1 from rfl, if_neg (by rw [zI_le (by omega) (by omega)]; omega), x3, c_sort (h.fr fx) m (by omega), pbd1_s, x5]
      have sm := srt_5 b n m
      by_cases q2 : srt b n m = srt b n j
      · right
        rw [if_pos (by rw [q2]), pnm_e]
        refine ⟨_, ⟨fx.sI _ (by omega), ?_, ?_, ?_, ?_⟩, rfl⟩
        · rw [sI_1, if_neg (by omega)]; exact x4
        · rw [sI_1, if_neg (by omega)]; exact x5
        · rw [sI_1, if_pos ⟨rfl, rfl⟩, zI_add]; rfl
        · rw [← xe]; exact (sc_go hm ((srt_cn hm q).1 q2)).symm
      · left
        rw [if_neg (by rw [zI_eq (by omega) (by omega)]; omega)]
        have := fin x fx x4 x5 (by
          rw [x3, ← xe, sc_no (Or.inr ?_)]
          cases w : cn (srt b n j) (b m) with
          | false => rfl
          | true => exact absurd ((srt_cn hm q).2 w) q2)
        rw [x3] at this
        exact this
    · left
      rw [show (1 : Int32) = zI 1 from rfl, if_pos (by rw [zI_le (by omega) (by omega)]; omega)]
      exact fin x fx x4 x5 (by rw [x3, ← xe, sc_no (p := fun m => cn (srt b n j) (b m)) (Or.inr (cn_no q))])
  · rw [sI_1, if_neg (by omega)]; exact y4
  · rw [sI_1, if_neg (by omega)]; exact y5
  · rw [sI_1, if_pos ⟨rfl, rfl⟩]
  · unfold ten; rw [hp]
theorem c_step {σ : Mem} {b : Nat → Nat} {n i : Nat} (h : TKc σ b n) (hi : i ≤ n) (e : σ.1 1 3 = zI i) : stP σ b n i (f_X10_step σ) := by
  have h8 := h.n8
  have R : ∀ (x : Mem) (j : Nat), FrT σ x → x.1 1 3 = zI j → j ≤ n → tpl b n i = j → stP σ b n i (nm (sI x 1 4 (x.1 1 3)) (fun (σ_4 : Mem) => bd1 (f_X10_sortAt σ_4 (σ_4.1 1 4)) (fun (r_5 : Int32) => nm (sI σ_4 1 5 r_5) (fun (σ_6 : Mem) => jn1 (fun (i_7 : Int32) => nm (if (σ_6.1 1 2) < ((σ_6.1 1 4) + 1) then (σ_6.1 1 2) else ((σ_6.1 1 4) + 1)) (fun (x_9 : Int32) => nm (sI σ_6 1 3 x_9) (fun (σ_10 : Mem) => fx1 FU (fun k_12 (σ_11 : Mem) => jn0 ((if ((σ_11.1 1 3) - (σ_11.1 1 4)) ≤ i_7 then some σ_11 else nm (sI σ_11 1 5 5) (fun (σ_14 : Mem) => some σ_14))) (fun k_13 => (if (σ_11.1 1 2) ≤ (σ_11.1 1 3) then k_13 else (if i_7 ≤ 1 then k_13 else bd1 (f_X10_sortAt σ_11 (σ_11.1 1 3)) (fun (r_15 : Int32) => (if r_15 = (σ_11.1 1 5) then nm (sI σ_11 1 3 ((σ_11.1 1 3) + 1)) (fun (σ_16 : Mem) => k_12 σ_16) else k_13)))))) σ_10))) (fun k_8 => (if (σ_6.1 1 5) = 2 then k_8 8 else (if (σ_6.1 1 5) = 3 then k_8 3 else k_8 1))))))) := by
    intro x j fx ex hj hp
    rw [pnm_e, show (sI x 1 4 (x.1 1 3)).1 1 4 = zI j from by rw [sI_1, if_pos ⟨rfl, rfl⟩, ex], c_sort (h.fr (fx.sI _ (by omega))) j (by omega), pbd1_s, pnm_e, jn1_e]
    obtain ⟨y, hy⟩ : ∃ y, y = sI (sI x 1 4 (x.1 1 3)) 1 5 (zI (srt b n j)) := ⟨_, rfl⟩
    rw [← hy]
    have fy : FrT σ y := by rw [hy]; exact (fx.sI _ (by omega)).sI _ (by omega)
    have y4 : y.1 1 4 = zI j := by rw [hy, sI_1, if_neg (by omega), sI_1, if_pos ⟨rfl, rfl⟩, ex]
    have y5 : y.1 1 5 = zI (srt b n j) := by rw [hy, sI_1, if_pos ⟨rfl, rfl⟩]
    have s5 := srt_5 b n j
    have key := c_step2 h fy y4 y5 hj hp
    by_cases q2 : srt b n j = 2
    · rw [if_pos (by rw [y5, q2]; rfl)]; exact key 8 (by rw [q2]; rfl)
    · rw [if_neg (by rw [y5, show (2 : Int32) = zI 2 from rfl, zI_eq (by omega) (by omega)]; omega)]
      by_cases q3 : srt b n j = 3
      · rw [if_pos (by rw [y5, q3]; rfl)]; exact key 3 (by rw [q3]; rfl)
      · rw [if_neg (by rw [y5, show (3 : Int32) = zI 3 from rfl, zI_eq (by omega) (by omega)]; omega)]
        exact key 1 (by unfold most; rw [if_neg q2, if_neg q3]; rfl)
  unfold f_X10_step
  refine fx1_pi (fun m x => FrT σ x ∧ x.1 1 3 = zI m ∧ tpl b n m = tpl b n i) (stP σ b n i) n (by omega) ?_ ?_ i hi σ ⟨FrT.refl σ, e, rfl⟩
  · rintro k x ⟨fx, x3, xe⟩
    rw [jn0_e, if_pos (by rw [(h.fr fx).end_, x3, zI_le (by omega) (by omega)]; omega)]
    exact R x n fx x3 (Nat.le_refl n) (by rw [← xe]; exact sc_no (Or.inl (Nat.le_refl n)))
  · rintro m hm x ⟨fx, x3, xe⟩ k
    rw [jn0_e, if_neg (by rw [(h.fr fx).end_, x3, zI_le (by omega) (by omega)]; omega)]
    have e2 : bd1 (f_X10_sortAt x (x.1 1 3)) = bd1 (some (zI (srt b n m))) (β := Mem) := by rw [x3, c_sort (h.fr fx) m (by omega)]
    rw [e2, pbd1_s]
    have sm := srt_5 b n m
    have d1 : srt b n m = 1 ↔ b m = 32 := by
      unfold srt; rw [if_neg (by omega)]
      by_cases q : b m = 32
      · simp [q]
      · rw [if_neg q]; simp only [q, iff_false]; repeat (split <;> try omega)
    by_cases q : b m = 32
    · right
      rw [if_pos (by rw [d1.2 q]; rfl), pnm_e]
      refine ⟨_, ⟨fx.sI _ (by omega), ?_, ?_⟩, rfl⟩
      · rw [sI_1, if_pos ⟨rfl, rfl⟩, x3]; show zI m + zI 1 = _; rw [zI_add]; rfl
      · rw [← xe]; exact (sc_go hm (decide_eq_true q)).symm
    · left
      rw [if_neg (by rw [show (1 : Int32) = zI 1 from rfl, zI_eq (by omega) (by omega)]; intro w; exact q (d1.1 (by omega)))]
      exact R x m fx x3 (by omega) (by rw [← xe]; exact sc_no (Or.inr (decide_eq_false q)))
/-- the model's number of a sort -/
def tk4 (k : Nat) : Nat := if k = 5 then 1 else if k = 4 then 59 else k
/-- the value of m digits from a place on -/
def nmv (b : Nat → Nat) (p : Nat) : Nat → Nat
  | 0 => 0
  | m + 1 => 10 * nmv b p m + (b (p + m) - 48)
def FrN (σ τ : Mem) : Prop := (∀ a j, a ≠ 66 → ¬ (a = 64 ∧ 4 ≤ j ∧ j ≤ 8) → τ.1 a j = σ.1 a j) ∧ τ.2 = σ.2
theorem FrN.refl (σ : Mem) : FrN σ σ := ⟨fun _ _ _ _ => rfl, rfl⟩
theorem FrN.trans {σ τ υ : Mem} (h1 : FrN σ τ) (h2 : FrN τ υ) : FrN σ υ := ⟨fun a j h k => (h2.1 a j h k).trans (h1.1 a j h k), h2.2.trans h1.2⟩
theorem FrN.s4 {σ τ : Mem} (h : FrN σ τ) {j : Nat} (v : Int32) (hj : 4 ≤ j ∧ j ≤ 8) : FrN σ (sI τ 64 j v) := by
  refine ⟨fun a i h6 hi => ?_, h.2⟩
  rw [sI_1, if_neg (fun e => hi ⟨e.1, by omega, by omega⟩)]; exact h.1 a i h6 hi
theorem FrN.s6 {σ τ : Mem} (h : FrN σ τ) (j : Nat) (v : Int32) : FrN σ (sI τ 66 j v) := by
  refine ⟨fun a i h6 hi => ?_, h.2⟩
  rw [sI_1, if_neg (fun e => h6 e.1)]; exact h.1 a i h6 hi
theorem TKm.fr {σ τ : Mem} {b : Nat → Nat} {n : Nat} (h : TKm σ b n) (f : FrN σ τ) : TKm τ b n :=
  ⟨h.n8, h.b8, by rw [f.1 _ _ (by omega) (by omega)]; exact h.size, fun i hi => by rw [f.1 _ _ (by omega) (by omega)]; exact h.byte i hi⟩
/-- the model's token after one from i on was read -/
abbrev MTk (σ : Mem) (b : Nat → Nat) (n i : Nat) : Prop :=
  (σ.1 64 4 = zI (tpl b n i)) ∧ (σ.1 64 5 = zI (ten b n i)) ∧ (σ.1 64 6 = zI (tk4 (tkd b n i))) ∧ (∃ z : Nat, σ.1 64 8 = zI z ∧ z ≤ 800 ∧ (tkd b n i = 2 → z = ten b n i - tpl b n i) ∧ (tkd b n i ≠ 2 → z = 0 ∨ 8 < z)) ∧ (tkd b n i = 2 → ∀ x, x < ten b n i - tpl b n i → σ.1 66 x = zI (b (tpl b n i + x))) ∧ (tkd b n i = 3 → σ.1 64 7 = zI (nmv b (tpl b n i) (ten b n i - tpl b n i)))
theorem MTk.at_ {σ : Mem}{b : Nat → Nat}{n i : Nat} (h : MTk σ b n i) : σ.1 64 4 = zI (tpl b n i) := h.1
theorem MTk.end_ {σ : Mem}{b : Nat → Nat}{n i : Nat} (h : MTk σ b n i) : σ.1 64 5 = zI (ten b n i) := h.2.1
theorem MTk.tok {σ : Mem}{b : Nat → Nat}{n i : Nat} (h : MTk σ b n i) : σ.1 64 6 = zI (tk4 (tkd b n i)) := h.2.2.1
theorem MTk.size {σ : Mem}{b : Nat → Nat}{n i : Nat} (h : MTk σ b n i) : ∃ z : Nat, σ.1 64 8 = zI z ∧ z ≤ 800 ∧ (tkd b n i = 2 → z = ten b n i - tpl b n i) ∧ (tkd b n i ≠ 2 → z = 0 ∨ 8 < z) := h.2.2.2.1
theorem MTk.let_ {σ : Mem}{b : Nat → Nat}{n i : Nat} (h : MTk σ b n i) : tkd b n i = 2 → ∀ x, x < ten b n i - tpl b n i → σ.1 66 x = zI (b (tpl b n i + x)) := h.2.2.2.2.1
theorem MTk.whole {σ : Mem}{b : Nat → Nat}{n i : Nat} (h : MTk σ b n i) : tkd b n i = 3 → σ.1 64 7 = zI (nmv b (tpl b n i) (ten b n i - tpl b n i)) := h.2.2.2.2.2
theorem m_look1 {σ : Mem} {b : Nat → Nat} {n : Nat} (h : TKm σ b n) (i : Nat) (hi : i ≤ 1000) : f_X13_look1 σ (zI i) = some (zI (if n ≤ i then -1 else b i)) := by
  have h8 := h.n8
  unfold f_X13_look1
  rw [h.size]
  by_cases q : n ≤ i
  · rw [if_pos (by rw [zI_le (by omega) (by omega)]; omega), if_pos q]; rfl
  · rw [if_neg (by rw [zI_le (by omega) (by omega)]; omega), if_neg q, show aln 65 = 800 from rfl, ixd_in (by omega), zI_nat (by omega), show ((i : Int)).toNat = i from by omega, h.byte i (by omega)]
theorem m_small (c : Int) (hc : -1 ≤ c ∧ c < 256) : f_X13_isSmall (zI c) = some (bI (decide (97 ≤ c ∧ c ≤ 122))) := by
  unfold f_X13_isSmall
  simp (disch := omega) only [jn0_e, jn1_e, jn2_e, pnm_e, pbd1_s, pbd2_s, prfc_s, onm_sm, onm_nn, zI_lit, zI_nI, zI_add, zI_sub, zI_mul, zI_neg, zI_lt, zI_le, zI_eq, zI_nat, zI_div, zI_mod, ixd_in, dvd_ne]
  by_cases h1 : c < 97
  · rw [if_pos h1, decide_eq_false (by omega)]; rfl
  · rw [if_neg h1]
    by_cases h2 : 122 < c
    · rw [if_pos h2, decide_eq_false (by omega)]; rfl
    · rw [if_neg h2, decide_eq_true (by omega)]; rfl
theorem m_digit (c : Int) (hc : -1 ≤ c ∧ c < 256) : f_X13_isDigit (zI c) = some (bI (decide (48 ≤ c ∧ c ≤ 57))) := by
  unfold f_X13_isDigit
  simp (disch := omega) only [jn0_e, jn1_e, jn2_e, pnm_e, pbd1_s, pbd2_s, prfc_s, onm_sm, onm_nn, zI_lit, zI_nI, zI_add, zI_sub, zI_mul, zI_neg, zI_lt, zI_le, zI_eq, zI_nat, zI_div, zI_mod, ixd_in, dvd_ne]
  by_cases h1 : c < 48
  · rw [if_pos h1, decide_eq_false (by omega)]; rfl
  · rw [if_neg h1]
    by_cases h2 : 57 < c
    · rw [if_pos h2, decide_eq_false (by omega)]; rfl
    · rw [if_neg h2, decide_eq_true (by omega)]; rfl
theorem bI_z0 (q : Bool) : (bI q = 0) ↔ q = false := by cases q <;> decide
def stM (σ : Mem) (b : Nat → Nat) (n i : Nat) (o : Option Mem) : Prop := ∃ τ, o = some τ ∧ FrN σ τ ∧ MTk τ b n i
theorem ten_w {b : Nat → Nat} {n i : Nat} (hp : tpl b n i < n) (hs : srt b n (tpl b n i) = 2) : ten b n i = sc (fun j => isSm (b j)) n (tpl b n i) := by
  unfold ten
  rw [hs, show (fun j => cn 2 (b j)) = fun j => isSm (b j) from funext fun j => by simp [cn], show min (tpl b n i + 1) n = tpl b n i + 1 from by omega]
  refine (sc_go hp ?_).symm
  have := (srt_cn hp (by decide)).1 hs
  simpa [cn] using this
theorem ten_d {b : Nat → Nat} {n i : Nat} (hp : tpl b n i < n) (hs : srt b n (tpl b n i) = 3) : ten b n i = sc (fun j => isDg (b j)) n (tpl b n i) := by
  unfold ten
  rw [hs, show (fun j => cn 3 (b j)) = fun j => isDg (b j) from funext fun j => by simp [cn], show min (tpl b n i + 1) n = tpl b n i + 1 from by omega]
  refine (sc_go hp ?_).symm
  have := (srt_cn hp (by decide)).1 hs
  simpa [cn] using this
theorem ten_o {b : Nat → Nat} {n i : Nat} (hs : ¬ 1 < most (srt b n (tpl b n i))) : ten b n i = min (tpl b n i + 1) n := by
  unfold ten
  exact sc_no (Or.inr (cn_no hs))
theorem tpl_le {b : Nat → Nat} {n i : Nat} (hi : i ≤ n) : tpl b n i ≤ n := sc_le _ hi
theorem tpl_ge (b : Nat → Nat) (n i : Nat) : i ≤ tpl b n i := sc_ge _ _ _
theorem ten_le {b : Nat → Nat} {n i : Nat} : ten b n i ≤ n := sc_le _ (by omega)
theorem ten_ge {b : Nat → Nat} {n i : Nat} (hi : i ≤ n) : tpl b n i ≤ ten b n i := by
  have := tpl_le (b := b) hi
  have := sc_ge (fun j => cn (srt b n (tpl b n i)) (b j)) n (min (tpl b n i + 1) n)
  unfold ten; omega
theorem ten_gt {b : Nat → Nat} {n i : Nat} (hi : tpl b n i < n) : tpl b n i < ten b n i := by
  have := sc_ge (fun j => cn (srt b n (tpl b n i)) (b j)) n (min (tpl b n i + 1) n)
  unfold ten; omega
/-- the model's token of a word -/
theorem m_word {σ x : Mem} {b : Nat → Nat} {n i j : Nat} (h : TKm σ b n) (hi : i ≤ n) (fx : FrN σ x) (hp : tpl b n i = j) (hj : j < n) (hs : srt b n j = 2) (x4 : x.1 64 4 = zI j) (x8 : x.1 64 8 = 0) : stM σ b n i (fx2 FU (fun k_35 (i_33 : Int32) (σ_34 : Mem) => bd1 (f_X13_look1 σ_34 i_33) (fun (r_36 : Int32) => bd1 (f_X13_isSmall r_36) (fun (r_37 : Int32) => (if r_37 = 0 then nm (sI σ_34 64 5 i_33) (fun (σ_38 : Mem) => jn1 (fun (i_39 : Int32) => nm (sI σ_38 64 6 i_39) (fun (σ_41 : Mem) => some σ_41)) (fun k_40 => (if (σ_38.1 64 8) ≤ 8 then k_40 2 else k_40 1))) else jn1 (fun (σ_42 : Mem) => nm (sI σ_42 64 8 ((σ_42.1 64 8) + 1)) (fun (σ_44 : Mem) => nm (i_33 + 1) (fun (x_45 : Int32) => k_35 x_45 σ_44))) (fun k_43 => (if 8 ≤ (σ_34.1 64 8) then k_43 σ_34 else bd1 (f_X13_look1 σ_34 i_33) (fun (r_47 : Int32) => ixd (σ_34.1 64 8) (aln 66) (nm (sI σ_34 66 (σ_34.1 64 8).toNatClampNeg r_47) (fun (σ_48 : Mem) => k_43 σ_48))))))))) (zI j) x) := by
  have h8 := h.n8
  have eE := ten_w (b := b) (n := n) (i := i) (by omega) (by rw [hp]; exact hs)
  rw [hp] at eE
  have fin : ∀ (m : Nat) (x : Mem), m ≤ n → FrN σ x → x.1 64 4 = zI j → j ≤ m → x.1 64 8 = zI (m - j : Nat) → (∀ y, y < m - j → y < 8 → x.1 66 y = zI (b (j + y))) → ten b n i = m → stM σ b n i (nm (sI x 64 5 (zI m)) (fun (σ_38 : Mem) => jn1 (fun (i_39 : Int32) => nm (sI σ_38 64 6 i_39) (fun (σ_41 : Mem) => some σ_41)) (fun k_40 => (if (σ_38.1 64 8) ≤ 8 then k_40 2 else k_40 1)))) := by
    intro m x hm fx x4 hjm x8 xl xe
    rw [pnm_e, jn1_e]
    dsimp only
    rw [show (sI x 64 5 (zI m)).1 64 8 = zI (m - j : Nat) from by rw [sI_1, if_neg (by omega)]; exact x8]
    have G : ∀ v : Nat, v = tk4 (tkd b n i) → stM σ b n i (nm (sI (sI x 64 5 (zI m)) 64 6 (zI v)) (fun (σ_41 : Mem) => some σ_41)) := by
      intro v hv
      have c : ∀ (a y : Nat), ¬ (a = 64 ∧ (y = 5 ∨ y = 6)) → (sI (sI x 64 5 (zI m)) 64 6 (zI v)).1 a y = x.1 a y := fun a y q => by
        rw [sI_1, if_neg (by omega), sI_1, if_neg (by omega)]
      refine ⟨_, rfl, (fx.s4 _ (by omega)).s4 _ (by omega), ?_, ?_, ?_, ⟨m - j, ?_, by omega, ?_, ?_⟩, ?_, ?_⟩
      · rw [c _ _ (by omega), hp]; exact x4
      · rw [sI_1, if_neg (by omega), sI_1, if_pos ⟨rfl, rfl⟩, xe]
      · rw [sI_1, if_pos ⟨rfl, rfl⟩, hv]
      · rw [c _ _ (by omega)]; exact x8
      · intro _; rw [hp, xe]
      · intro q; right
        unfold tkd at q; rw [hp, hs, xe] at q
        rcases Nat.lt_or_ge 8 (m - j) with w | w
        · exact w
        · rw [if_pos (by show m - j ≤ 8; exact w)] at q; exact absurd rfl q
      · intro q y hy
        rw [hp, xe] at hy
        unfold tkd at q; rw [hp, hs, xe] at q
        have w : m - j ≤ 8 := by
          rcases Nat.lt_or_ge 8 (m - j) with w | w
          · rw [if_neg (by show ¬ (m - j ≤ 8); omega)] at q; omega
          · exact w
        rw [c _ _ (by omega), hp]; exact xl y hy (by omega)
      · intro q
        unfold tkd at q; rw [hp, hs] at q; split at q <;> omega
    by_cases w : m - j ≤ 8
    · rw [if_pos (by rw [show (8 : Int32) = zI 8 from rfl, zI_le (by omega) (by omega)]; omega)]
      exact G 2 (by unfold tkd; rw [hp, hs, xe, if_pos (by show m - j ≤ 8; exact w)]; rfl)
    · rw [if_neg (by rw [show (8 : Int32) = zI 8 from rfl, zI_le (by omega) (by omega)]; omega)]
      exact G 1 (by unfold tkd; rw [hp, hs, xe, if_neg (by show ¬ (m - j ≤ 8); exact w)]; rfl)
  refine fx2_pi (fun m => zI m) (fun m x => FrN σ x ∧ x.1 64 4 = zI j ∧ j ≤ m ∧ x.1 64 8 = zI (m - j : Nat) ∧ (∀ y, y < m - j → y < 8 → x.1 66 y = zI (b (j + y))) ∧ sc (fun j => isSm (b j)) n m = ten b n i) (stM σ b n i) n (by omega) ?_ ?_ j (by omega) rfl x ⟨fx, x4, Nat.le_refl j, by rw [x8, Nat.sub_self]; rfl, fun y hy => absurd hy (by omega), eE.symm⟩
  · rintro k x ⟨fx, x4, hjm, x8, xl, xe⟩
    rw [m_look1 (h.fr fx) n (by omega), pbd1_s, if_pos (Nat.le_refl n), m_small _ (by omega), pbd1_s, if_pos (by rw [bI_z0]; decide)]
    exact fin n x (Nat.le_refl n) fx x4 hjm x8 xl (by rw [← xe]; exact sc_no (Or.inl (Nat.le_refl n)))
  · rintro m hm x ⟨fx, x4, hjm, x8, xl, xe⟩ k
    have hb := h.b8 m hm
    rw [m_look1 (h.fr fx) m (by omega), pbd1_s, if_neg (by omega), m_small _ (by omega), pbd1_s]
    by_cases q : isSm (b m) = true
    · right
      have q' := q
      unfold isSm at q'
      rw [decide_eq_true_iff] at q'
      rw [if_neg (by rw [bI_z0, decide_eq_true (by omega)]; decide), jn1_e]
      dsimp only
      by_cases w : 8 ≤ m - j
      · rw [if_pos (by rw [x8, show (8 : Int32) = zI 8 from rfl, zI_le (by omega) (by omega)]; omega), pnm_e, pnm_e]
        refine ⟨sI x 64 8 (zI (m + 1 - j : Nat)), ⟨fx.s4 _ (by omega), ?_, by omega, ?_, ?_, ?_⟩, ?_⟩
        · rw [sI_1, if_neg (by omega)]; exact x4
        · rw [sI_1, if_pos ⟨rfl, rfl⟩]
        · intro y hy hy8; rw [sI_1, if_neg (by omega)]; exact xl y (by omega) hy8
        · rw [← xe]; exact (sc_go hm q).symm
        · congr 1
          · show zI m + zI 1 = _; rw [zI_add]; rfl
          · rw [x8]; congr 1; show zI _ + zI 1 = _; rw [zI_add]; congr 1; omega
      · rw [if_neg (by rw [x8, show (8 : Int32) = zI 8 from rfl, zI_le (by omega) (by omega)]; omega), pbd1_s, x8, show aln 66 = 8 from rfl, ixd_in (by omega), pnm_e, pnm_e, pnm_e, zI_nat (by omega), show ((m - j : Nat) : Int).toNat = m - j from by omega]
        refine ⟨sI (sI x 66 (m - j) (zI (b m))) 64 8 (zI (m + 1 - j : Nat)), ⟨(fx.s6 _ _).s4 _ (by omega), ?_, by omega, ?_, ?_, ?_⟩, ?_⟩
        · rw [sI_1, if_neg (by omega), sI_1, if_neg (by omega)]; exact x4
        · rw [sI_1, if_pos ⟨rfl, rfl⟩]
        · intro y hy hy8; rw [sI_1, if_neg (by omega), sI_1]
          by_cases e : y = m - j
          · rw [if_pos ⟨rfl, e⟩, e, show j + (m - j) = m from by omega]
          · rw [if_neg (fun c => e c.2)]; exact xl y (by omega) hy8
        · rw [← xe]; exact (sc_go hm q).symm
        · congr 1
          · show zI m + zI 1 = _; rw [zI_add]; rfl
          · rw [sI_1, if_neg (by omega), x8]; congr 1; show zI _ + zI 1 = _; rw [zI_add]; congr 1; omega
    · left
      have q' := q
      unfold isSm at q'
      rw [decide_eq_true_iff] at q'
      rw [if_pos (by rw [bI_z0, decide_eq_false (by omega)])]
      exact fin m x (by omega) fx x4 hjm x8 xl (by rw [← xe]; exact sc_no (Or.inr (by simpa using q)))
theorem nmv_lt (b : Nat → Nat) (p : Nat) : ∀ m, m ≤ 3 → (∀ x, x < m → b (p + x) < 58) → nmv b p m < 10 ^ m
  | 0, _, _ => Nat.one_pos
  | m + 1, hm, h => by
    have h1 := nmv_lt b p m (by omega) (fun x hx => h x (by omega))
    have h2 := h m (by omega)
    rw [nmv, Nat.pow_succ]; omega
/-- the model's token of digits -/
theorem m_dig {σ x : Mem} {b : Nat → Nat} {n i j : Nat} (h : TKm σ b n) (hi : i ≤ n) (fx : FrN σ x) (hp : tpl b n i = j) (hj : j < n) (hs : srt b n j = 3) (x4 : x.1 64 4 = zI j) (x8 : x.1 64 8 = 0) (x7 : x.1 64 7 = 0) : stM σ b n i (fx3 FU (fun k_18 (i_15 : Int32) (i_16 : Int32) (σ_17 : Mem) => bd1 (f_X13_look1 σ_17 i_15) (fun (r_19 : Int32) => bd1 (f_X13_isDigit r_19) (fun (r_20 : Int32) => (if r_20 = 0 then nm (sI σ_17 64 5 i_15) (fun (σ_21 : Mem) => jn1 (fun (i_22 : Int32) => nm (sI σ_21 64 6 i_22) (fun (σ_24 : Mem) => some σ_24)) (fun k_23 => (if i_16 ≤ 3 then k_23 3 else k_23 1))) else jn1 (fun (σ_25 : Mem) => nm (i_16 + 1) (fun (x_27 : Int32) => nm (i_15 + 1) (fun (x_29 : Int32) => k_18 x_29 x_27 σ_25))) (fun k_26 => (if 3 ≤ i_16 then k_26 σ_17 else bd1 (f_X13_look1 σ_17 i_15) (fun (r_31 : Int32) => nm (sI σ_17 64 7 (((10 * (σ_17.1 64 7)) + r_31) - 48)) (fun (σ_32 : Mem) => k_26 σ_32)))))))) (zI j) 0 x) := by
  have h8 := h.n8
  have eE := ten_d (b := b) (n := n) (i := i) (by omega) (by rw [hp]; exact hs)
  rw [hp] at eE
  have fin : ∀ (m : Nat) (x : Mem), m ≤ n → FrN σ x → x.1 64 4 = zI j → j ≤ m → x.1 64 8 = 0 → (m - j ≤ 3 → x.1 64 7 = zI (nmv b j (m - j))) → ten b n i = m → stM σ b n i (nm (sI x 64 5 (zI m)) (fun (σ_21 : Mem) => jn1 (fun (i_22 : Int32) => nm (sI σ_21 64 6 i_22) (fun (σ_24 : Mem) => some σ_24)) (fun k_23 => (if zI (m - j : Nat) ≤ 3 then k_23 3 else k_23 1)))) := by
    intro m x hm fx x4 hjm x8 xl xe
    rw [pnm_e, jn1_e]
    dsimp only
    have G : ∀ v : Nat, v = tk4 (tkd b n i) → stM σ b n i (nm (sI (sI x 64 5 (zI m)) 64 6 (zI v)) (fun (σ_41 : Mem) => some σ_41)) := by
      intro v hv
      have c : ∀ (a y : Nat), ¬ (a = 64 ∧ (y = 5 ∨ y = 6)) → (sI (sI x 64 5 (zI m)) 64 6 (zI v)).1 a y = x.1 a y := fun a y q => by
        rw [sI_1, if_neg (by omega), sI_1, if_neg (by omega)]
      refine ⟨_, rfl, (fx.s4 _ (by omega)).s4 _ (by omega), ?_, ?_, ?_, ⟨0, ?_, by omega, ?_, ?_⟩, ?_, ?_⟩
      · rw [c _ _ (by omega), hp]; exact x4
      · rw [sI_1, if_neg (by omega), sI_1, if_pos ⟨rfl, rfl⟩, xe]
      · rw [sI_1, if_pos ⟨rfl, rfl⟩, hv]
      · rw [c _ _ (by omega)]; exact x8
      · intro q
        unfold tkd at q; rw [hp, hs] at q; split at q <;> omega
      · intro _; left; rfl
      · intro q
        unfold tkd at q; rw [hp, hs] at q; split at q <;> omega
      · intro q
        unfold tkd at q; rw [hp, hs, xe] at q
        have w : m - j ≤ 3 := by
          rcases Nat.lt_or_ge 3 (m - j) with w | w
          · rw [if_neg (by show ¬ (m - j ≤ 3); omega)] at q; omega
          · exact w
        rw [c _ _ (by omega), hp, xe]; exact xl w
    by_cases w : m - j ≤ 3
    · rw [if_pos (by rw [show (3 : Int32) = zI 3 from rfl, zI_le (by omega) (by omega)]; omega)]
      exact G 3 (by unfold tkd; rw [hp, hs, xe, if_pos (by show m - j ≤ 3; exact w)]; rfl)
    · rw [if_neg (by rw [show (3 : Int32) = zI 3 from rfl, zI_le (by omega) (by omega)]; omega)]
      exact G 1 (by unfold tkd; rw [hp, hs, xe, if_neg (by show ¬ (m - j ≤ 3); exact w)]; rfl)
  refine fx3_pi (fun m => zI m) (fun m => zI (m - j : Nat)) (fun m x => FrN σ x ∧ x.1 64 4 = zI j ∧ j ≤ m ∧ x.1 64 8 = 0 ∧ (m - j ≤ 3 → x.1 64 7 = zI (nmv b j (m - j))) ∧ (∀ y, j ≤ y → y < m → isDg (b y) = true) ∧ sc (fun j => isDg (b j)) n m = ten b n i) (stM σ b n i) n (by omega) ?_ ?_ j (by omega) rfl (by rw [Nat.sub_self]; rfl) x ⟨fx, x4, Nat.le_refl j, x8, fun _ => by rw [x7, Nat.sub_self]; rfl, fun y h1 h2 => by omega, eE.symm⟩
  · rintro k x ⟨fx, x4, hjm, x8, xl, xd, xe⟩
    rw [m_look1 (h.fr fx) n (by omega), pbd1_s, if_pos (Nat.le_refl n), m_digit _ (by omega), pbd1_s, if_pos (by rw [bI_z0]; decide)]
    exact fin n x (Nat.le_refl n) fx x4 hjm x8 xl (by rw [← xe]; exact sc_no (Or.inl (Nat.le_refl n)))
  · rintro m hm x ⟨fx, x4, hjm, x8, xl, xd, xe⟩ k
    have hb := h.b8 m hm
    rw [m_look1 (h.fr fx) m (by omega), pbd1_s, if_neg (by omega), m_digit _ (by omega), pbd1_s]
    by_cases q : isDg (b m) = true
    · right
      have q' := q
      unfold isDg at q'
      rw [decide_eq_true_iff] at q'
      have xd' : ∀ y, j ≤ y → y < m + 1 → isDg (b y) = true := fun y h1 h2 => by
        rcases Nat.lt_or_ge y m with w | w
        · exact xd y h1 w
        · rw [show y = m from by omega]; exact q
      have ek : ∀ x : Mem, k (zI m + 1) (zI (m - j : Nat) + 1) x = k (zI (m + 1 : Nat)) (zI (m + 1 - j : Nat)) x := fun x => by
        rw [show zI m + 1 = zI (m + 1 : Nat) from by show zI m + zI 1 = _; rw [zI_add]; rfl, show zI (m - j : Nat) + 1 = zI (m + 1 - j : Nat) from by show zI _ + zI 1 = _; rw [zI_add]; congr 1; omega]
      rw [if_neg (by rw [bI_z0, decide_eq_true (by omega)]; decide), jn1_e]
      dsimp only
      by_cases w : 3 ≤ m - j
      · rw [if_pos (by rw [show (3 : Int32) = zI 3 from rfl, zI_le (by omega) (by omega)]; omega), pnm_e, pnm_e]
        exact ⟨x, ⟨fx, x4, by omega, x8, fun q => by omega, xd', by rw [← xe]; exact (sc_go hm q).symm⟩, ek x⟩
      · have nl := nmv_lt b j (m - j) (by omega) (fun y hy => by
          have := xd (j + y) (by omega) (by omega)
          unfold isDg at this; rw [decide_eq_true_iff] at this; omega)
        have nl2 : 10 ^ (m - j) ≤ 10 ^ 2 := Nat.pow_le_pow_right (by decide) (by omega)
        rw [if_neg (by rw [show (3 : Int32) = zI 3 from rfl, zI_le (by omega) (by omega)]; omega), pbd1_s, pnm_e, pnm_e, pnm_e, xl (by omega)]
        refine ⟨_, ⟨fx.s4 _ (by omega), ?_, by omega, ?_, ?_, xd', by rw [← xe]; exact (sc_go hm q).symm⟩, ek _⟩
        · rw [sI_1, if_neg (by omega)]; exact x4
        · rw [sI_1, if_neg (by omega)]; exact x8
        · intro _
          rw [sI_1, if_pos ⟨rfl, rfl⟩, show m + 1 - j = (m - j) + 1 from by omega, nmv, show j + (m - j) = m from by omega]
          simp (disch := omega) only [jn0_e, jn1_e, jn2_e, pnm_e, pbd1_s, pbd2_s, prfc_s, onm_sm, onm_nn, zI_lit, zI_nI, zI_add, zI_sub, zI_mul, zI_neg, zI_lt, zI_le, zI_eq, zI_nat, zI_div, zI_mod, ixd_in, dvd_ne]
          congr 1; omega
    · left
      have q' := q
      unfold isDg at q'
      rw [decide_eq_true_iff] at q'
      rw [if_pos (by rw [bI_z0, decide_eq_false (by omega)])]
      exact fin m x (by omega) fx x4 hjm x8 xl (by rw [← xe]; exact sc_no (Or.inr (by simpa using q)))
theorem srt_of {b : Nat → Nat} {n m : Nat} (hm : m < n) : (b m = 32 → srt b n m = 1) ∧ (b m ≠ 32 → isSm (b m) = true → srt b n m = 2) ∧ (b m ≠ 32 → isSm (b m) = false → isDg (b m) = true → srt b n m = 3) ∧ (b m ≠ 32 → isSm (b m) = false → isDg (b m) = false → srt b n m = if b m = 59 then 4 else 5) := by
  unfold srt
  rw [if_neg (by omega)]
  refine ⟨fun h => if_pos h, fun h1 h2 => by rw [if_neg h1, if_pos h2], fun h1 h2 h3 => ?_, fun h1 h2 h3 => ?_⟩
  · rw [if_neg h1, if_neg (by rw [h2]; decide), if_pos h3]
  · rw [if_neg h1, if_neg (by rw [h2]; decide), if_neg (by rw [h3]; decide)]
theorem m_next {σ : Mem} {b : Nat → Nat} {n i : Nat} (h : TKm σ b n) (hi : i ≤ n) (e : σ.1 64 5 = zI i) : stM σ b n i (f_X13_next σ) := by
  have h8 := h.n8
  unfold f_X13_next
  rw [pnm_e, e]
  refine fx1_pi (fun m (x : Int32) => x = zI m ∧ tpl b n m = tpl b n i) (stM σ b n i) n (by omega) ?_ ?_ i hi _ ⟨rfl, rfl⟩
  · rintro k x ⟨rfl, xe⟩
    have hp : tpl b n i = n := by rw [← xe]; exact sc_no (Or.inl (Nat.le_refl n))
    have fx := (FrN.refl σ).s4 (zI n) (j := 4) (by omega)
    rw [m_look1 h n (by omega), pbd1_s, if_pos (Nat.le_refl n), if_neg (by decide), pnm_e, m_look1 (h.fr fx) n (by omega), pbd1_s, if_pos (Nat.le_refl n), pnm_e, pnm_e, if_pos (by decide), pnm_e, pnm_e]
    have hk : tkd b n i = 0 := by unfold tkd; rw [hp, show srt b n n = 0 from if_pos (Nat.le_refl n), ten_o (by rw [hp, show srt b n n = 0 from if_pos (Nat.le_refl n)]; decide), hp, if_pos (by omega)]
    have c : ∀ y : Nat, y ≠ 4 → y ≠ 8 → y ≠ 7 → y ≠ 6 → y ≠ 5 → True := fun _ _ _ _ _ _ => trivial
    refine ⟨_, rfl, ((((fx.s4 _ (by omega)).s4 _ (by omega)).s4 _ (by omega)).s4 _ (by omega)), ?_, ?_, ?_, ⟨0, ?_, by omega, ?_, fun _ => Or.inl rfl⟩, ?_, ?_⟩
    · rw [sI_1, if_neg (by omega), sI_1, if_neg (by omega), sI_1, if_neg (by omega), sI_1, if_neg (by omega), sI_1, if_pos ⟨rfl, rfl⟩, hp]
    · rw [sI_1, if_pos ⟨rfl, rfl⟩, ten_o (by rw [hp, show srt b n n = 0 from if_pos (Nat.le_refl n)]; decide), hp]; congr 1; omega
    · rw [sI_1, if_neg (by omega), sI_1, if_pos ⟨rfl, rfl⟩, hk]; rfl
    · rw [sI_1, if_neg (by omega), sI_1, if_neg (by omega), sI_1, if_neg (by omega), sI_1, if_pos ⟨rfl, rfl⟩]; rfl
    · rw [hk]; intro q; omega
    · rw [hk]; intro q; omega
    · rw [hk]; intro q; omega
  · rintro m hm x ⟨rfl, xe⟩ k
    have hb := h.b8 m hm
    have fx := (FrN.refl σ).s4 (zI m) (j := 4) (by omega)
    rw [m_look1 h m (by omega), pbd1_s, if_neg (show ¬ n ≤ m from by omega)]
    by_cases q : b m = 32
    · right
      rw [if_pos (by rw [q]; rfl), pnm_e]
      refine ⟨_, ⟨?_, ?_⟩, rfl⟩
      · show zI m + zI 1 = _; rw [zI_add]; rfl
      · rw [← xe]; exact (sc_go hm (decide_eq_true q)).symm
    · left
      have hp : tpl b n i = m := by rw [← xe]; exact sc_no (Or.inr (decide_eq_false q))
      rw [if_neg (by rw [show (32 : Int32) = zI 32 from rfl, zI_eq (by omega) (by omega)]; omega), pnm_e, m_look1 (h.fr fx) m (by omega), pbd1_s, if_neg (show ¬ n ≤ m from by omega), pnm_e, pnm_e, if_neg (by rw [show (-1 : Int32) = zI (-1) from rfl, zI_eq (by omega) (by omega)]; omega), m_small _ (by omega), pbd1_s]
      have f3 := (fx.s4 0 (j := 8) (by omega)).s4 0 (j := 7) (by omega)
      have y4 : (sI (sI (sI σ 64 4 (zI m)) 64 8 0) 64 7 0).1 64 4 = zI m := by rw [sI_1, if_neg (by omega), sI_1, if_neg (by omega), sI_1, if_pos ⟨rfl, rfl⟩]
      have y8 : (sI (sI (sI σ 64 4 (zI m)) 64 8 0) 64 7 0).1 64 8 = 0 := by rw [sI_1, if_neg (by omega), sI_1, if_pos ⟨rfl, rfl⟩]
      have y7 : (sI (sI (sI σ 64 4 (zI m)) 64 8 0) 64 7 0).1 64 7 = 0 := by rw [sI_1, if_pos ⟨rfl, rfl⟩]
      obtain ⟨s1, s2, s3, s4⟩ := srt_of (b := b) hm
      cases w : isSm (b m) with
      | true =>
        have w' := w
        unfold isSm at w'; rw [decide_eq_true_iff] at w'
        rw [if_neg (by rw [bI_z0, decide_eq_true (by omega)]; decide)]
        exact m_word h hi f3 hp hm (s2 q w) y4 y8
      | false =>
        have w' := w
        unfold isSm at w'; rw [decide_eq_false_iff_not] at w'
        rw [if_pos (by rw [bI_z0, decide_eq_false (by omega)]), m_digit _ (by omega), pbd1_s]
        cases v : isDg (b m) with
        | true =>
          have v' := v
          unfold isDg at v'; rw [decide_eq_true_iff] at v'
          rw [if_neg (by rw [bI_z0, decide_eq_true (by omega)]; decide)]
          exact m_dig h hi f3 hp hm (s3 q w v) y4 y8 y7
        | false =>
          have v' := v
          unfold isDg at v'; rw [decide_eq_false_iff_not] at v'
          rw [if_pos (by rw [bI_z0, decide_eq_false (by omega)]), pnm_e, jn1_e]
          dsimp only
          obtain ⟨x, hx⟩ : ∃ x, x = sI (sI (sI σ 64 4 (zI m)) 64 8 0) 64 7 0 := ⟨_, rfl⟩
          rw [← hx] at y4 y8 y7 f3
          rw [← hx]
          have s := s4 q w v
          have hl : ¬ 1 < most (srt b n m) := by rw [s]; split <;> decide
          have ho : ten b n i = m + 1 := by rw [ten_o (by rw [hp]; exact hl), hp]; omega
          have hk : tkd b n i = if b m = 59 then 4 else 5 := by
            have w1 : 1 ≤ most (srt b n m) := by rw [s]; split <;> decide
            unfold tkd; rw [ho, hp, if_pos (by omega), s]
          have G : ∀ v : Nat, v = tk4 (tkd b n i) → stM σ b n i (nm (sI (sI x 64 5 (zI m + 1)) 64 6 (zI v)) (fun (σ_41 : Mem) => some σ_41)) := by
            intro v hv
            have c : ∀ (a y : Nat), ¬ (a = 64 ∧ (y = 5 ∨ y = 6)) → (sI (sI x 64 5 (zI m + 1)) 64 6 (zI v)).1 a y = x.1 a y := fun a y q => by
              rw [sI_1, if_neg (by omega), sI_1, if_neg (by omega)]
            refine ⟨_, rfl, (f3.s4 _ (by omega)).s4 _ (by omega), ?_, ?_, ?_, ⟨0, ?_, by omega, ?_, fun _ => Or.inl rfl⟩, ?_, ?_⟩
            · rw [c _ _ (by omega), hp]; exact y4
            · rw [sI_1, if_neg (by omega), sI_1, if_pos ⟨rfl, rfl⟩, ho]; show zI m + zI 1 = _; rw [zI_add]; rfl
            · rw [sI_1, if_pos ⟨rfl, rfl⟩, hv]
            · rw [c _ _ (by omega)]; exact y8
            · intro q; rw [hk] at q; split at q <;> omega
            · intro q; rw [hk] at q; split at q <;> omega
            · intro q; rw [hk] at q; split at q <;> omega
          by_cases u : b m = 59
          · rw [if_pos (by rw [u]; rfl), u]
            exact G 59 (by rw [hk, if_pos u]; rfl)
          · rw [if_neg (by rw [show (59 : Int32) = zI 59 from rfl, zI_eq (by omega) (by omega)]; omega)]
            exact G 1 (by rw [hk, if_neg u]; rfl)
/-- letters of the fixed words -/
def sl (s : Nat) : Nat := strLen.getD s 0
def sbN (s i : Nat) : Nat := ((strB.getD s []).getD i 0).toInt.toNat
theorem str_len : ∀ s, s < 19 → f_J0_length_8abf5 s = some (zI (sl s)) := by decide +kernel
theorem str_ch : ∀ s, s < 19 → ∀ i, i < sl s → f_J0_charAt_5068e s (zI i) = some (zI (sbN s i)) := by decide +kernel
theorem str_sm : ∀ s, s < 19 → sl s ≤ 8 ∧ ∀ i, i < sl s → 97 ≤ sbN s i ∧ sbN s i ≤ 122 := by decide +kernel
/-- what a token is -/
theorem tk_w {b : Nat → Nat} {n i : Nat} (hi : i ≤ n) (h : tkd b n i = 2) : tpl b n i < n ∧ tpl b n i < ten b n i ∧ ten b n i ≤ n ∧ ten b n i - tpl b n i ≤ 8 ∧ ∀ x, tpl b n i ≤ x → x < ten b n i → 97 ≤ b x ∧ b x ≤ 122 := by
  have hs : srt b n (tpl b n i) = 2 ∧ ten b n i - tpl b n i ≤ 8 := by
    unfold tkd at h
    split at h
    · rename_i w; rw [h] at w; exact ⟨h, w⟩
    · omega
  have hp : tpl b n i < n := by
    rcases Nat.lt_or_ge (tpl b n i) n with w | w
    · exact w
    · have := hs.1; unfold srt at this; rw [if_pos w] at this; omega
  refine ⟨hp, ten_gt hp, ten_le, hs.2, fun x h1 h2 => ?_⟩
  rw [ten_w hp hs.1] at h2
  have := sc_p _ _ _ x h1 h2
  unfold isSm at this
  exact of_decide_eq_true this
theorem tk_d {b : Nat → Nat} {n i : Nat} (hi : i ≤ n) (h : tkd b n i = 3) : tpl b n i < n ∧ tpl b n i < ten b n i ∧ ten b n i ≤ n ∧ ten b n i - tpl b n i ≤ 3 ∧ ∀ x, tpl b n i ≤ x → x < ten b n i → 48 ≤ b x ∧ b x ≤ 57 := by
  have hs : srt b n (tpl b n i) = 3 ∧ ten b n i - tpl b n i ≤ 3 := by
    unfold tkd at h
    split at h
    · rename_i w; rw [h] at w; exact ⟨h, w⟩
    · omega
  have hp : tpl b n i < n := by
    rcases Nat.lt_or_ge (tpl b n i) n with w | w
    · exact w
    · have := hs.1; unfold srt at this; rw [if_pos w] at this; omega
  refine ⟨hp, ten_gt hp, ten_le, hs.2, fun x h1 h2 => ?_⟩
  rw [ten_d hp hs.1] at h2
  have := sc_p _ _ _ x h1 h2
  unfold isDg at this
  exact of_decide_eq_true this
theorem tkd_5 (b : Nat → Nat) (n i : Nat) : tkd b n i ≤ 5 := by
  unfold tkd; split
  · exact srt_5 _ _ _
  · omega
theorem tkd_1 {b : Nat → Nat} {n i : Nat} : tkd b n i ≠ 1 := by
  unfold tkd
  split
  · unfold srt
    split
    · omega
    · rename_i w
      have e : b (tpl b n i) ≠ 32 := by
        intro q
        have h1 : sc (fun j => decide (b j = 32)) n (tpl b n i) = tpl b n i := by
          have : ∀ m i, sc (fun j => decide (b j = 32)) (i + m) (scn (fun j => decide (b j = 32)) m i) = scn (fun j => decide (b j = 32)) m i := by
            intro m
            induction m with
            | zero => intro i; exact sc_no (Or.inl (by rw [scn]; omega))
            | succ m ih =>
              intro i
              rw [scn]
              split
              · have := ih (i + 1); rw [show i + 1 + m = i + (m + 1) from by omega] at this; exact this
              · rename_i w0; exact sc_no (Or.inr (by simpa using w0))
          rcases Nat.lt_or_ge n i with r | r
          · have t : tpl b n i = i := sc_no (Or.inl (by omega))
            rw [t]; exact sc_no (Or.inl (by omega))
          · have := this (n - i) i
            rw [show i + (n - i) = n from by omega] at this
            exact this
        have h2 := sc_go (p := fun j => decide (b j = 32)) (n := n) (i := tpl b n i) (by omega) (decide_eq_true q)
        have h3 := sc_ge (fun j => decide (b j = 32)) n (tpl b n i + 1)
        omega
      rw [if_neg e]
      split
      · omega
      · split
        · omega
        · split <;> omega
  · omega
/-- the token is a fixed word -/
def isw (b : Nat → Nat) (n i s : Nat) : Bool := decide (tkd b n i = 2 ∧ ten b n i - tpl b n i = sl s ∧ ∀ x, x < sl s → b (tpl b n i + x) = sbN s x)
/-- the class's token after one from i on was read -/
abbrev CTk (σ : Mem) (b : Nat → Nat) (n i : Nat) : Prop :=
  (σ.1 1 4 = zI (tpl b n i)) ∧ (σ.1 1 3 = zI (ten b n i)) ∧ (σ.1 1 5 = zI (tkd b n i))
theorem CTk.at_ {σ : Mem}{b : Nat → Nat}{n i : Nat} (h : CTk σ b n i) : σ.1 1 4 = zI (tpl b n i) := h.1
theorem CTk.end_ {σ : Mem}{b : Nat → Nat}{n i : Nat} (h : CTk σ b n i) : σ.1 1 3 = zI (ten b n i) := h.2.1
theorem CTk.tok {σ : Mem}{b : Nat → Nat}{n i : Nat} (h : CTk σ b n i) : σ.1 1 5 = zI (tkd b n i) := h.2.2
theorem c_byte {σ : Mem} {b : Nat → Nat} {n : Nat} (h : TKc σ b n) {i : Nat} (hi : i < n) : f_X10_byteAt σ (zI i) = some (zI (if b i < 128 then (b i : Int) else (b i : Int) - 256)) := by
  have h8 := h.n8
  unfold f_X10_byteAt
  rw [jn0_e, if_neg (by rw [show (0 : Int32) = zI 0 from rfl, zI_lt (by omega) (by omega)]; omega), if_neg (by rw [h.end_, zI_le (by omega) (by omega)]; omega), show nI (aln (1 + 1)) = zI 800 from rfl, if_neg (by rw [zI_le (by omega) (by omega)]; omega), show aln (1 + 1) = 800 from rfl, ixd_in (by omega), zI_nat (by omega), show ((i : Int)).toNat = i from by omega, h.byte i hi]
theorem c_is {σ : Mem} {b : Nat → Nat} {n i s : Nat} (h : TKc σ b n) (hi : i ≤ n) (ht : CTk σ b n i) (hs : s < 19) : f_X10_is σ s = some (bI (isw b n i s)) := by
  have h8 := h.n8
  have k5 := tkd_5 b n i
  unfold f_X10_is
  rw [ht.tok]
  by_cases h2 : tkd b n i = 2
  · obtain ⟨w1, w2, w3, w4, w5⟩ := tk_w hi h2
    obtain ⟨l1, l2⟩ := str_sm s hs
    rw [if_pos (by rw [h2]; rfl), str_len s hs, pbd1_s, ht.end_, ht.at_, zI_sub]
    by_cases h3 : ten b n i - tpl b n i = sl s
    · rw [if_pos (by congr 1; omega)]
      have key := fx1_ex (β := Int32) (F := fun k_3 (i_2 : Int32) => bd1 (some (zI (sl s))) (fun (r_4 : Int32) => (if r_4 ≤ i_2 then some 1 else bd1 (f_X10_byteAt σ ((zI (tpl b n i)) + i_2)) (fun (r_5 : Int32) => bd1 (f_J0_charAt_5068e s i_2) (fun (r_6 : Int32) => (if r_5 = r_6 then nm (i_2 + 1) (fun (x_7 : Int32) => k_3 x_7) else some 0)))))) (x1 := 0) (fun x => decide (b (tpl b n i + x) ≠ sbN s x)) (sl s) 0 (some 0) (some 1) (by omega) rfl (fun k => ?_) (fun x hx k => ?_)
      · rw [key]
        by_cases q : ∀ x, x < sl s → b (tpl b n i + x) = sbN s x
        · rw [if_neg (by rw [exF_f (fun x _ hx => by rw [q x hx]; simp)]; decide), show isw b n i s = true from decide_eq_true ⟨h2, h3, q⟩]; rfl
        · rw [if_pos (by
            rw [exF_iff]
            refine Classical.byContradiction (fun c => q (fun x hx => Classical.byContradiction (fun c2 => c ⟨x, Nat.zero_le _, hx, decide_eq_true c2⟩)))), show isw b n i s = false from decide_eq_false (fun c => q c.2.2)]; rfl
      · rw [pbd1_s, if_pos (by rw [zI_le (by omega) (by omega)]; omega)]
      · have lx := l2 x hx
        have bx := w5 (tpl b n i + x) (by omega) (by omega)
        have e : zI (tpl b n i) + zI x = zI (tpl b n i + x : Nat) := by rw [zI_add]; rfl
        rw [pbd1_s, if_neg (by rw [zI_le (by omega) (by omega)]; omega), e, c_byte h (by omega), pbd1_s, str_ch s hs x hx, pbd1_s, if_pos (show b (tpl b n i + x) < 128 from by omega), pnm_e]
        by_cases q : b (tpl b n i + x) = sbN s x
        · rw [if_pos (by rw [q]), if_neg (by simp [q])]
          congr 1
          show zI x + zI 1 = _; rw [zI_add]; rfl
        · rw [if_neg (by rw [zI_eq (by omega) (by omega)]; omega), if_pos (decide_eq_true q)]
    · rw [if_neg (by rw [zI_eq (by omega) (by omega)]; omega), show isw b n i s = false from decide_eq_false (fun c => h3 c.2.1)]; rfl
  · rw [if_neg (by rw [show (2 : Int32) = zI 2 from rfl, zI_eq (by omega) (by omega)]; omega), show isw b n i s = false from decide_eq_false (fun c => h2 c.1)]; rfl
theorem tk4_2 (k : Nat) (h : k ≤ 5) : (zI (tk4 k) = 2) ↔ k = 2 := by
  have : k = 0 ∨ k = 1 ∨ k = 2 ∨ k = 3 ∨ k = 4 ∨ k = 5 := by omega
  rcases this with rfl | rfl | rfl | rfl | rfl | rfl <;> decide
theorem tk4_3 (k : Nat) (h : k ≤ 5) : (zI (tk4 k) = 3) ↔ k = 3 := by
  have : k = 0 ∨ k = 1 ∨ k = 2 ∨ k = 3 ∨ k = 4 ∨ k = 5 := by omega
  rcases this with rfl | rfl | rfl | rfl | rfl | rfl <;> decide
theorem tk4_0 (k : Nat) (h : k ≤ 5) (h1 : k ≠ 1) : (zI (tk4 k) = 0) ↔ k = 0 := by
  have : k = 0 ∨ k = 2 ∨ k = 3 ∨ k = 4 ∨ k = 5 := by omega
  rcases this with rfl | rfl | rfl | rfl | rfl <;> decide
theorem tk4_4 (k : Nat) (h : k ≤ 5) : (zI (tk4 k) = 59) ↔ k = 4 := by
  have : k = 0 ∨ k = 1 ∨ k = 2 ∨ k = 3 ∨ k = 4 ∨ k = 5 := by omega
  rcases this with rfl | rfl | rfl | rfl | rfl | rfl <;> decide
theorem m_isWord {σ : Mem} {b : Nat → Nat} {n i s : Nat} (n8 : n ≤ 800) (hi : i ≤ n) (ht : MTk σ b n i) (hs : s < 19) (hf : σ.1 64 13 = 0) : f_X13_isWord σ s = some (bI (isw b n i s)) := by
  have k5 := tkd_5 b n i
  unfold f_X13_isWord
  rw [if_pos hf, ht.tok]
  by_cases h2 : tkd b n i = 2
  · obtain ⟨w1, w2, w3, w4, w5⟩ := tk_w hi h2
    obtain ⟨l1, l2⟩ := str_sm s hs
    obtain ⟨z, z1, z2, z3, -⟩ := ht.size
    rw [if_pos ((tk4_2 _ k5).2 h2), str_len s hs, pbd1_s, z1, z3 h2]
    by_cases h3 : ten b n i - tpl b n i = sl s
    · rw [if_pos (by rw [h3])]
      refine fx2_run (fun m => bI (decide (∀ x, x < m → b (tpl b n i + x) = sbN s x))) (fun m => zI m) (sl s) 0 (by omega) ?_ rfl (fun k => ?_) (fun m hm k => ?_)
      · rw [decide_eq_true (fun x hx => by omega)]; rfl
      · rw [if_pos (by rw [zI_le (by omega) (by omega)]; omega)]
        have e : isw b n i s = decide (∀ x, x < sl s → b (tpl b n i + x) = sbN s x) := by
          unfold isw
          by_cases q : ∀ x, x < sl s → b (tpl b n i + x) = sbN s x
          · rw [decide_eq_true q, decide_eq_true ⟨h2, h3, q⟩]
          · rw [decide_eq_false q, decide_eq_false (fun c => q c.2.2)]
        rw [e]
        cases decide (∀ x, x < sl s → b (tpl b n i + x) = sbN s x) <;> rfl
      · rw [if_neg (by rw [zI_le (by omega) (by omega)]; omega), jn1_e]
        dsimp only
        rw [jn0_e]
        have e1 : zI m + 1 = zI (m + 1 : Nat) := by show zI m + zI 1 = _; rw [zI_add]; rfl
        by_cases q : ∀ x, x < m → b (tpl b n i + x) = sbN s x
        · rw [if_neg (by rw [decide_eq_true q]; decide), show aln 66 = 8 from rfl, ixd_in (by omega), str_ch s hs m hm, pbd1_s, zI_nat (by omega), show ((m : Int)).toNat = m from by omega, ht.let_ h2 m (by omega), pnm_e, pnm_e, e1]
          have lx := l2 m hm
          have bx := w5 (tpl b n i + m) (by omega) (by omega)
          by_cases r : b (tpl b n i + m) = sbN s m
          · rw [if_pos (by rw [r]), decide_eq_true (fun x hx => by
              rcases Nat.lt_or_ge x m with c | c
              · exact q x c
              · rw [show x = m from by omega]; exact r)]; rfl
          · rw [if_neg (by rw [zI_eq (by omega) (by omega)]; omega), decide_eq_false (fun c => r (c m (by omega)))]; rfl
        · rw [if_pos (by rw [decide_eq_false q]; rfl), pnm_e, e1, decide_eq_false (fun c => q (fun x hx => c x (by omega)))]; rfl
    · rw [if_neg (by rw [zI_eq (by omega) (by omega)]; omega), show isw b n i s = false from decide_eq_false (fun c => h3 c.2.1)]; rfl
  · rw [if_neg (fun c => h2 ((tk4_2 _ k5).1 c)), show isw b n i s = false from decide_eq_false (fun c => h2 c.1)]; rfl
theorem zI_sc (i : Nat) : zI i + 1 = zI (i + 1 : Nat) := by show _ + zI 1 = _; rw [zI_add]; rfl
theorem fx2_once {A1 A2 β : Type} (F : (A1 → A2 → Option β) → A1 → A2 → Option β) (x : A1) (y : A2) : fx2 FU F x y = F (fx2 99999 F) x y := rfl
theorem scn_f (p : Nat → Bool) : ∀ m i, scn p m i < i + m → p (scn p m i) = false
  | 0, i, h => by rw [scn] at h; omega
  | m + 1, i, h => by
    rw [scn] at h ⊢
    split
    · rename_i w
      rw [if_pos w] at h
      exact scn_f p m (i + 1) (by omega)
    · rename_i w
      simpa using w
theorem sc_f {p : Nat → Bool} {n i : Nat} (hi : i ≤ n) (h : sc p n i < n) : p (sc p n i) = false := scn_f p (n - i) i (by unfold sc at h; omega)
/-- a word's number: its letters, 27 each -/
def vwf (f : Nat → Nat) : Nat → Nat
  | 0 => 0
  | m + 1 => 27 * vwf f m + (f m - 96)
theorem vwf_lt (f : Nat → Nat) : ∀ m, (∀ x, x < m → 97 ≤ f x ∧ f x ≤ 122) → vwf f m < 27 ^ m
  | 0, _ => by show 0 < 1; omega
  | m + 1, h => by
    have := vwf_lt f m (fun x hx => h x (by omega))
    have := h m (by omega)
    rw [vwf, Nat.pow_succ]
    omega
theorem vwf_8 (f : Nat → Nat) {m : Nat} (hm : m ≤ 8) (h : ∀ x, x < m → 97 ≤ f x ∧ f x ≤ 122) : vwf f m < 282429536481 := by
  have h1 := vwf_lt f m h
  have h2 : 27 ^ m ≤ 27 ^ 8 := Nat.pow_le_pow_right (by omega) hm
  have h3 : 27 ^ 8 = 282429536481 := by decide
  omega
theorem vwf_inj (f g : Nat → Nat) : ∀ m k, (∀ x, x < m → 97 ≤ f x ∧ f x ≤ 122) → (∀ x, x < k → 97 ≤ g x ∧ g x ≤ 122) → vwf f m = vwf g k → m = k ∧ ∀ x, x < m → f x = g x
  | 0, 0, _, _, _ => ⟨rfl, fun x hx => by omega⟩
  | 0, k + 1, _, h2, e => by
    have := h2 k (by omega)
    simp only [vwf] at e
    omega
  | m + 1, 0, h1, _, e => by
    have := h1 m (by omega)
    simp only [vwf] at e
    omega
  | m + 1, k + 1, h1, h2, e => by
    have a1 := h1 m (by omega)
    have a2 := h2 k (by omega)
    simp only [vwf] at e
    obtain ⟨e1, e2⟩ := vwf_inj f g m k (fun x hx => h1 x (by omega)) (fun x hx => h2 x (by omega)) (by omega)
    subst e1
    refine ⟨rfl, fun x hx => ?_⟩
    rcases Nat.lt_or_ge x m with q | q
    · exact e2 x q
    · obtain rfl : x = m := by omega
      omega
theorem c_whole {σ : Mem} {b : Nat → Nat} {n i : Nat} (h : TKc σ b n) (hi : i ≤ n) (ht : CTk σ b n i) (h3 : tkd b n i = 3) : f_X10_whole σ = some (zI (nmv b (tpl b n i) (ten b n i - tpl b n i))) := by
  have h8 := h.n8
  obtain ⟨w1, w2, w3, w4, w5⟩ := tk_d hi h3
  unfold f_X10_whole
  rw [pnm_e, ht.at_, ht.end_]
  refine fx2_run (fun m => zI (nmv b (tpl b n i) m)) (fun m => zI (tpl b n i + m : Nat)) (ten b n i - tpl b n i) 0 (by omega) rfl rfl (fun k => ?_) (fun m hm k => ?_)
  · rw [if_pos (by rw [zI_le (by omega) (by omega)]; omega)]
  · have bx := w5 (tpl b n i + m) (by omega) (by omega)
    rw [if_neg (by rw [zI_le (by omega) (by omega)]; omega), c_byte h (by omega), pbd1_s, if_pos (by omega), pnm_e, pnm_e]
    congr 1
    · show zI 10 * _ + (_ - zI 48) = _
      rw [zI_mul, zI_sub, zI_add, nmv]
      congr 1
      omega
    · show _ + zI 1 = _
      rw [zI_add]; rfl
/-- the word read from i on -/
def wrd (b : Nat → Nat) (n i : Nat) : Nat × (Nat → Nat) := (ten b n i - tpl b n i, fun x => b (tpl b n i + x))
/-- a name -/
def nmOk (w : Nat × (Nat → Nat)) : Prop := 1 ≤ w.1 ∧ w.1 ≤ 8 ∧ ∀ x, x < w.1 → 97 ≤ w.2 x ∧ w.2 x ≤ 122
def nmL (w : Nat × (Nat → Nat)) : Nat := vwf w.2 w.1
def nmE (v w : Nat × (Nat → Nat)) : Bool := decide (v.1 = w.1 ∧ ∀ x, x < w.1 → v.2 x = w.2 x)
theorem nmE_L {v w : Nat × (Nat → Nat)} (hv : nmOk v) (hw : nmOk w) : nmL v = nmL w ↔ nmE v w = true := by
  unfold nmL nmE
  rw [decide_eq_true_iff]
  constructor
  · intro e
    obtain ⟨h1, h2⟩ := vwf_inj _ _ _ _ hv.2.2 hw.2.2 e
    exact ⟨h1, fun x hx => h2 x (by omega)⟩
  · intro ⟨h1, h2⟩
    have : ∀ m, m ≤ w.1 → vwf v.2 m = vwf w.2 m := by
      intro m
      induction m with
      | zero => intro _; rfl
      | succ m ih => intro hm; rw [vwf, vwf, ih (by omega), h2 m (by omega)]
    rw [h1]; exact this _ (Nat.le_refl _)
theorem wrd_ok {b : Nat → Nat} {n i : Nat} (hi : i ≤ n) (h : tkd b n i = 2) : nmOk (wrd b n i) := by
  obtain ⟨w1, w2, w3, w4, w5⟩ := tk_w hi h
  refine ⟨?_, ?_, fun x hx => ?_⟩
  · show 1 ≤ ten b n i - tpl b n i; omega
  · show ten b n i - tpl b n i ≤ 8; omega
  · have hx : x < ten b n i - tpl b n i := hx
    exact w5 (tpl b n i + x) (by omega) (by omega)
theorem c_name {σ : Mem} {b : Nat → Nat} {n i : Nat} (h : TKc σ b n) (hi : i ≤ n) (ht : CTk σ b n i) (h2 : tkd b n i = 2) : f_X10_name σ = some (zL (nmL (wrd b n i))) := by
  have h8 := h.n8
  obtain ⟨w1, w2, w3, w4, w5⟩ := tk_w hi h2
  unfold f_X10_name
  rw [pnm_e, ht.at_, ht.end_]
  refine fx2_run (fun m => zL (vwf (fun x => b (tpl b n i + x)) m)) (fun m => zI (tpl b n i + m : Nat)) (ten b n i - tpl b n i) 0 (by omega) rfl rfl (fun k => ?_) (fun m hm k => ?_)
  · rw [if_pos (by rw [zI_le (by omega) (by omega)]; omega)]; rfl
  · have bx := w5 (tpl b n i + m) (by omega) (by omega)
    rw [if_neg (by rw [zI_le (by omega) (by omega)]; omega), c_byte h (by omega), pbd1_s, if_pos (by omega), pnm_e, pnm_e]
    congr 1
    · show zL 27 * _ + (((_ - zI 97) + zI 1).toInt64) = _
      rw [zI_sub, zI_add, zI_L _ (by omega), zL_mul, zL_add, vwf]
      congr 1
      omega
    · show _ + zI 1 = _
      rw [zI_add]; rfl
/-- the person of P who has the name w -/
def fnd (N : Nat → Nat × (Nat → Nat)) (P : Nat) (w : Nat × (Nat → Nat)) : Nat := sc (fun p => !nmE (N p) w) P 0
/-- the names of P persons as either side keeps them -/
abbrev CN (σ : Mem) (T P : Nat) (N : Nat → Nat × (Nat → Nat)) : Prop :=
  (T = 3 ∨ T = 15) ∧ (P ≤ 5) ∧ (∀ p, p < P → nmOk (N p)) ∧ (∀ p, p < P → σ.2.1 (T + 2) p = zL (nmL (N p)))
theorem CN.at_ {σ : Mem}{T P : Nat}{N : Nat → Nat × (Nat → Nat)} (h : CN σ T P N) : T = 3 ∨ T = 15 := h.1
theorem CN.P5 {σ : Mem}{T P : Nat}{N : Nat → Nat × (Nat → Nat)} (h : CN σ T P N) : P ≤ 5 := h.2.1
theorem CN.ok {σ : Mem}{T P : Nat}{N : Nat → Nat × (Nat → Nat)} (h : CN σ T P N) : ∀ p, p < P → nmOk (N p) := h.2.2.1
theorem CN.cls {σ : Mem}{T P : Nat}{N : Nat → Nat × (Nat → Nat)} (h : CN σ T P N) : ∀ p, p < P → σ.2.1 (T + 2) p = zL (nmL (N p)) := h.2.2.2
abbrev MN (σ : Mem) (P : Nat) (N : Nat → Nat × (Nat → Nat)) : Prop :=
  (P ≤ 5) ∧ (∀ p, p < P → nmOk (N p)) ∧ (∀ p, p < P → σ.1 68 (130 + p) = zI (N p).1) ∧ (∀ p, p < P → ∀ x, x < (N p).1 → σ.1 68 (135 + 8 * p + x) = zI ((N p).2 x)) ∧ (∀ p, P ≤ p → p < 5 → σ.1 68 (130 + p) = 0)
theorem MN.P5 {σ : Mem}{P : Nat}{N : Nat → Nat × (Nat → Nat)} (h : MN σ P N) : P ≤ 5 := h.1
theorem MN.ok {σ : Mem}{P : Nat}{N : Nat → Nat × (Nat → Nat)} (h : MN σ P N) : ∀ p, p < P → nmOk (N p) := h.2.1
theorem MN.size {σ : Mem}{P : Nat}{N : Nat → Nat × (Nat → Nat)} (h : MN σ P N) : ∀ p, p < P → σ.1 68 (130 + p) = zI (N p).1 := h.2.2.1
theorem MN.let_ {σ : Mem}{P : Nat}{N : Nat → Nat × (Nat → Nat)} (h : MN σ P N) : ∀ p, p < P → ∀ x, x < (N p).1 → σ.1 68 (135 + 8 * p + x) = zI ((N p).2 x) := h.2.2.2.1
theorem MN.none_ {σ : Mem}{P : Nat}{N : Nat → Nat × (Nat → Nat)} (h : MN σ P N) : ∀ p, P ≤ p → p < 5 → σ.1 68 (130 + p) = 0 := h.2.2.2.2
theorem c_find {σ : Mem} {T P : Nat} {N : Nat → Nat × (Nat → Nat)} (h : CN σ T P N) (hP : σ.1 (T + 1) 1 = zI P) {w : Nat × (Nat → Nat)} (hw : nmOk w) : f_X11_personNamed σ T (zL (nmL w)) = some (if fnd N P w < P then zI (fnd N P w) else -2) := by
  have h5 := h.P5
  have e2 : nI (aln (T + 2)) = zI 5 ∧ aln (T + 2) = 5 := by rcases h.at_ with rfl | rfl <;> exact ⟨rfl, rfl⟩
  have pe : f_X11_people σ T = some (zI P) := by
    have aa : aln (T + 1) = 7 := by rcases h.at_ with rfl | rfl <;> rfl
    unfold f_X11_people
    rw [show lnNum.getD 1 0 = zI (1 : Nat) from rfl, g_get hP (by omega) (by omega)]
    rfl
  unfold f_X11_personNamed
  refine fx1_up (fun m => zI (m : Nat)) (fun i => some (if sc (fun p => !nmE (N p) w) P i < P then zI (sc (fun p => !nmE (N p) w) P i) else -2)) P (by omega) (fun k => ?_) (fun i hi k => ?_) 0 (by omega)
  · rw [pe, pbd1_s, if_pos (by rw [zI_le (by omega) (by omega)]; omega), sc_no (Or.inl (Nat.le_refl _)), if_neg (by omega)]
  · have oi := h.ok i hi
    have l1 := vwf_8 _ oi.2.1 oi.2.2
    have l2 := vwf_8 _ hw.2.1 hw.2.2
    rw [pe, pbd1_s, if_neg (by rw [zI_le (by omega) (by omega)]; omega), e2.1, if_neg (show ¬ (zI 5 ≤ zI (i : Nat)) from by rw [zI_le (by omega) (by omega)]; omega), e2.2, ixd_in (by omega), zI_nat (by omega), show ((i : Int)).toNat = i from by omega, h.cls i hi, pnm_e]
    have ce := cmp_e (a := nmL (N i)) (b := nmL w) (by unfold rL nmL; omega) (by unfold rL nmL; omega)
    by_cases q : nmE (N i) w = true
    · left
      have eL := (nmE_L oi hw).2 q
      rw [ce, eL, if_neg (show ¬ ((nmL w : Int) < nmL w) from by omega), if_pos rfl, if_pos rfl, sc_no (Or.inr (by rw [q]; rfl)), if_pos hi]
    · right
      have eL : nmL (N i) ≠ nmL w := fun e => q ((nmE_L oi hw).1 e)
      rw [ce, if_neg (show ¬ (nmL (N i) : Int) = nmL w from by omega)]
      refine ⟨?_, ?_⟩
      · rw [if_neg (by split <;> decide), zI_sc]
      · rw [sc_go hi (show (fun p => !nmE (N p) w) i = true from by simp [q])]
theorem m_find {σ : Mem} {P : Nat} {N : Nat → Nat × (Nat → Nat)} (h : MN σ P N) {w : Nat × (Nat → Nat)} (hw : nmOk w) (h8 : σ.1 64 8 = zI w.1) (h66 : ∀ x, x < w.1 → σ.1 66 x = zI (w.2 x)) : f_X13_find σ = some (if fnd N P w < P then zI (fnd N P w) else -1) := by
  have h5 := h.P5
  have w8 := hw.2.1
  have w1 := hw.1
  unfold f_X13_find
  refine fx1_up (fun m => zI (m : Nat)) (fun i => some (if sc (fun p => !nmE (N p) w) P i < P then zI (sc (fun p => !nmE (N p) w) P i) else -1)) 5 (by omega) (fun k => ?_) (fun i hi k => ?_) 0 (by omega)
  · rw [if_pos (by rw [show (5 : Int32) = zI 5 from rfl, zI_le (by omega) (by omega)]; omega), sc_no (Or.inl (by omega)), if_neg (by omega)]
  · have e1 : zI 130 + zI (i : Nat) = zI (130 + i : Nat) := by rw [zI_add]; congr 1
    have aa : aln 68 = 175 := rfl
    rw [if_neg (show ¬ ((5 : Int32) ≤ zI (i : Nat)) from by rw [show (5 : Int32) = zI 5 from rfl, zI_le (by omega) (by omega)]; omega), show (130 : Int32) = zI 130 from rfl, e1, aa, ixd_in (by omega), jn1_e, jn0_e, zI_nat (by omega), show ((130 + i : Nat) : Int).toNat = 130 + i from by omega]
    rcases Nat.lt_or_ge i P with q | q
    · have oi := h.ok i q
      have o1 := oi.1
      have o8 := oi.2.1
      rw [h.size i q, if_neg (show ¬ (zI (N i).1 ≤ 0) from by rw [show (0 : Int32) = zI 0 from rfl, zI_le (by omega) (by omega)]; omega), ixd_in (by omega), h8]
      dsimp only
      by_cases ql : (N i).1 = w.1
      · rw [if_pos (show zI (N i).1 = zI w.1 from by rw [ql])]
        by_cases qe : nmE (N i) w = true
        · left
          rw [sc_no (Or.inr (by rw [qe]; rfl)), if_pos q]
          have qa := (of_decide_eq_true qe).2
          refine fx2_run (fun _ => 1) (fun m => zI (m : Nat)) w.1 0 (by omega) rfl rfl (fun k2 => ?_) (fun x hx k2 => ?_)
          · rw [jn0_e, if_pos (by rw [zI_le (by omega) (by omega)]; omega), if_neg (by decide)]
          · have e2 : (zI 135 + zI 8 * zI (i : Nat)) + zI (x : Nat) = zI (135 + 8 * i + x : Nat) := by rw [zI_mul, zI_add, zI_add]; congr 1
            rw [jn0_e, if_neg (by rw [zI_le (by omega) (by omega)]; omega), if_neg (by decide), show (135 : Int32) = zI 135 from rfl, show (8 : Int32) = zI 8 from rfl, e2, ixd_in (by omega), show aln 66 = 8 from rfl, ixd_in (by omega), jn1_e, zI_nat (by omega), zI_nat (by omega), show ((135 + 8 * i + x : Nat) : Int).toNat = 135 + 8 * i + x from by omega, show ((x : Nat) : Int).toNat = x from by omega, h.let_ i q x (by omega), h66 x hx, if_pos (by rw [qa x hx])]
            show k2 1 (zI (x : Nat) + 1) = _
            rw [zI_sc]
        · right
          rw [sc_go q (show (fun p => !nmE (N p) w) i = true from by simp [qe])]
          refine ⟨?_, rfl⟩
          have ex : ∃ x, x < w.1 ∧ (N i).2 x ≠ w.2 x := Classical.byContradiction (fun c => qe (decide_eq_true ⟨ql, fun x hx => Classical.byContradiction (fun d => c ⟨x, hx, d⟩)⟩))
          refine (fx2_up (fun m => bI (decide (∀ x, x < m → (N i).2 x = w.2 x))) (fun m => zI (m : Nat)) (fun _ => k (zI (i + 1 : Nat))) w.1 (by omega) (fun k2 => ?_) (fun m hm k2 => ?_) 0 (by omega) : _)
          · obtain ⟨x, x1, x2⟩ := ex
            rw [jn0_e, if_pos (by rw [zI_le (by omega) (by omega)]; omega), if_pos (by rw [decide_eq_false (fun c => x2 (c x x1))]; rfl), pnm_e, zI_sc]
          · by_cases qm : ∀ x, x < m → (N i).2 x = w.2 x
            · right
              refine ⟨?_, rfl⟩
              have e2 : (zI 135 + zI 8 * zI (i : Nat)) + zI (m : Nat) = zI (135 + 8 * i + m : Nat) := by rw [zI_mul, zI_add, zI_add]; congr 1
              have om := oi.2.2 m (by omega)
              have wm := hw.2.2 m hm
              rw [jn0_e, if_neg (by rw [zI_le (by omega) (by omega)]; omega), if_neg (by rw [decide_eq_true qm]; decide), show (135 : Int32) = zI 135 from rfl, show (8 : Int32) = zI 8 from rfl, e2, ixd_in (by omega), show aln 66 = 8 from rfl, ixd_in (by omega), jn1_e, zI_nat (by omega), zI_nat (by omega), show ((135 + 8 * i + m : Nat) : Int).toNat = 135 + 8 * i + m from by omega, show ((m : Nat) : Int).toNat = m from by omega, h.let_ i q m (by omega), h66 m hm]
              have e3 : zI (m : Nat) + 1 = zI (m + 1 : Nat) := by show _ + zI 1 = _; rw [zI_add]; rfl
              by_cases qx : (N i).2 m = w.2 m
              · rw [if_pos (by rw [qx])]
                show k2 1 (zI (m : Nat) + 1) = _
                rw [e3, decide_eq_true (show ∀ x, x < m + 1 → (N i).2 x = w.2 x from fun x hx => by
                  rcases Nat.lt_or_ge x m with r | r
                  · exact qm x r
                  · obtain rfl : x = m := by omega
                    exact qx)]
                rfl
              · rw [if_neg (by rw [zI_eq (by omega) (by omega)]; omega)]
                show k2 0 (zI (m : Nat) + 1) = _
                rw [e3, decide_eq_false (show ¬ ∀ x, x < m + 1 → (N i).2 x = w.2 x from fun c => qx (c m (by omega)))]
                rfl
            · left
              rw [jn0_e, if_neg (by rw [zI_le (by omega) (by omega)]; omega), if_pos (by rw [decide_eq_false qm]; rfl), if_pos (by rw [decide_eq_false qm]; rfl), pnm_e, zI_sc]
      · right
        have qe : nmE (N i) w = false := decide_eq_false (fun c => ql c.1)
        rw [if_neg (show ¬ zI (N i).1 = zI w.1 from by rw [zI_eq (by omega) (by omega)]; omega), sc_go q (show (fun p => !nmE (N p) w) i = true from by simp [qe])]
        refine ⟨?_, rfl⟩
        rw [fx2_once, jn0_e, if_neg (by rw [show (0 : Int32) = zI 0 from rfl, zI_le (by omega) (by omega)]; omega), if_pos rfl, if_pos rfl, pnm_e, zI_sc]
    · right
      rw [h.none_ i q hi, if_pos (by decide)]
      dsimp only
      rw [sc_no (Or.inl (by omega)), sc_no (Or.inl (by omega)), if_neg (by omega), if_neg (by omega), h8]
      refine ⟨?_, rfl⟩
      rw [fx2_once, jn0_e, if_neg (by rw [show (0 : Int32) = zI 0 from rfl, zI_le (by omega) (by omega)]; omega), if_pos rfl, if_pos rfl, pnm_e, zI_sc]
/-- the fixed word that begins a line, 7 for none -/
def lin (b : Nat → Nat) (n i : Nat) : Nat := sc (fun s => !isw b n i s) 7 0
theorem c_line {σ : Mem} {b : Nat → Nat} {n i : Nat} (h : TKc σ b n) (hi : i ≤ n) (ht : CTk σ b n i) : f_X6_lineNamed σ = some (if lin b n i < 7 then some (lin b n i) else none) := by
  unfold f_X6_lineNamed
  refine fx1_up (fun m => zI (m : Nat)) (fun s => some (if sc (fun s => !isw b n i s) 7 s < 7 then some (sc (fun s => !isw b n i s) 7 s) else none)) 7 (by omega) (fun k => ?_) (fun s hs k => ?_) 0 (by omega)
  · rw [if_pos (by decide), sc_no (Or.inl (by omega)), if_neg (by omega)]
  · rw [if_neg (show ¬ ((7 : Int32) ≤ zI (s : Nat)) from by rw [show (7 : Int32) = zI 7 from rfl, zI_le (by omega) (by omega)]; omega), ixd_in (by omega), pnm_e, zI_nat (by omega), show ((s : Nat) : Int).toNat = s from by omega, c_is h hi ht (by omega), pbd1_s]
    by_cases q : isw b n i s = true
    · left
      rw [q, if_neg (by decide), sc_no (Or.inr (by rw [q]; rfl)), if_pos hs]
    · right
      have q : isw b n i s = false := by simpa using q
      rw [q, if_pos (show bI false = 0 from rfl), pnm_e, zI_sc, sc_go hs (show (fun s => !isw b n i s) s = true from by simp [q])]
      exact ⟨rfl, rfl⟩
theorem lin_w {b : Nat → Nat} {n i : Nat} (h : lin b n i < 7) : isw b n i (lin b n i) = true ∧ ∀ s, s < lin b n i → isw b n i s = false := by
  have h1 : ∀ s, s < lin b n i → isw b n i s = false := fun s hs => by
    have := sc_p _ 7 0 s (Nat.zero_le _) hs
    simpa using this
  refine ⟨?_, h1⟩
  have := sc_f (p := fun s => !isw b n i s) (n := 7) (i := 0) (by omega) h
  unfold lin
  simpa using this
/-- what a text tells at a token: a fault and its place, or a value and the token that it stands in -/
def pWh (b : Nat → Nat) (n lo hi i : Nat) : Sum (Nat × Nat) (Nat × Nat) := if tkd b n i = 3 then (if lo ≤ nmv b (tpl b n i) (ten b n i - tpl b n i) ∧ nmv b (tpl b n i) (ten b n i - tpl b n i) ≤ hi then .inr (nmv b (tpl b n i) (ten b n i - tpl b n i), i) else .inl (4, tpl b n i)) else .inl (1, tpl b n i)
def pWb (b : Nat → Nat) (n s lo hi i : Nat) : Sum (Nat × Nat) (Nat × Nat) := if isw b n i s = true then pWh b n lo hi (ten b n i) else .inl (1, tpl b n i)
def pPp (b : Nat → Nat) (n : Nat) (N : Nat → Nat × (Nat → Nat)) (P i : Nat) : Sum (Nat × Nat) (Nat × Nat) := if tkd b n i = 2 ∧ lin b n i = 7 then (if fnd N P (wrd b n i) < P then .inr (fnd N P (wrd b n i), i) else .inl (2, tpl b n i)) else .inl (1, tpl b n i)
def pKd (b : Nat → Nat) (n i : Nat) : Sum (Nat × Nat) (Nat × Nat) := if isw b n i 15 = true then .inr (0, i) else if isw b n i 16 = true then .inr (1, i) else if isw b n i 17 = true then .inr (2, i) else if isw b n i 18 = true then .inr (3, i) else .inl (1, tpl b n i)
/-- cells that the class's helpers change -/
def FrC (σ τ : Mem) : Prop := (∀ a j, ¬ (a = 1 ∧ 3 ≤ j ∧ j ≤ 5) → ¬ (a = 27 ∧ 2 ≤ j ∧ j ≤ 4) → τ.1 a j = σ.1 a j) ∧ τ.2 = σ.2
theorem FrC.refl (σ : Mem) : FrC σ σ := ⟨fun _ _ _ _ => rfl, rfl⟩
theorem FrC.trans {σ τ υ : Mem} (h1 : FrC σ τ) (h2 : FrC τ υ) : FrC σ υ := ⟨fun a j h k => (h2.1 a j h k).trans (h1.1 a j h k), h2.2.trans h1.2⟩
theorem FrT.toC {σ τ : Mem} (h : FrT σ τ) : FrC σ τ := ⟨fun a j h1 _ => h.1 a j h1, h.2⟩
theorem FrC.s7 {σ τ : Mem} (h : FrC σ τ) (j : Nat) (v : Int32) (hj : 2 ≤ j ∧ j ≤ 4) : FrC σ (sI τ 27 j v) := by
  refine ⟨fun a i h1 h2 => ?_, h.2⟩
  rw [sI_1, if_neg (fun e => h2 ⟨e.1, by omega, by omega⟩)]; exact h.1 a i h1 h2
theorem TKc.fc {σ τ : Mem} {b : Nat → Nat} {n : Nat} (h : TKc σ b n) (f : FrC σ τ) : TKc τ b n :=
  ⟨h.n8, h.b8, by rw [f.1 _ _ (by omega) (by omega)]; exact h.end_, fun i hi => by rw [f.1 _ _ (by omega) (by omega)]; exact h.byte i hi⟩
theorem CTk.s7 {σ : Mem} {b : Nat → Nat} {n i : Nat} (h : CTk σ b n i) (j : Nat) (v : Int32) : CTk (sI σ 27 j v) b n i :=
  ⟨by rw [sI_1, if_neg (by omega)]; exact h.at_, by rw [sI_1, if_neg (by omega)]; exact h.end_, by rw [sI_1, if_neg (by omega)]; exact h.tok⟩
/-- the class's answer is that of r -/
def cO (σ : Mem) (b : Nat → Nat) (n : Nat) (r : Sum (Nat × Nat) (Nat × Nat)) (o : Option (Int32 × Mem)) : Prop :=
  (∀ f p, r = Sum.inl (f, p) → ∃ τ, o = some (0, τ) ∧ FrC σ τ ∧ τ.1 27 4 = zI f ∧ τ.1 27 3 = zI p) ∧
  (∀ v q, r = Sum.inr (v, q) → ∃ τ, o = some (1, τ) ∧ FrC σ τ ∧ τ.1 27 2 = zI v ∧ τ.1 27 3 = zI (tpl b n q) ∧ CTk τ b n (ten b n q) ∧ τ.1 27 4 = σ.1 27 4)
theorem cO_l {σ τ : Mem} {b : Nat → Nat} {n f p : Nat} {o : Option (Int32 × Mem)} (h : o = some (0, τ)) (h1 : FrC σ τ) (h2 : τ.1 27 4 = zI f) (h3 : τ.1 27 3 = zI p) : cO σ b n (.inl (f, p)) o := by
  refine ⟨fun f' p' e => ?_, fun v q e => by cases e⟩
  cases e
  exact ⟨τ, h, h1, h2, h3⟩
theorem cO_r {σ τ : Mem} {b : Nat → Nat} {n v q : Nat} {o : Option (Int32 × Mem)} (h : o = some (1, τ)) (h1 : FrC σ τ) (h2 : τ.1 27 2 = zI v) (h3 : τ.1 27 3 = zI (tpl b n q)) (h4 : CTk τ b n (ten b n q)) (h5 : τ.1 27 4 = σ.1 27 4) : cO σ b n (.inr (v, q)) o := by
  refine ⟨fun f' p' e => (by cases e), fun v' q' e => ?_⟩
  cases e
  exact ⟨τ, h, h1, h2, h3, h4, h5⟩
/-- a failing helper that set the spot -/
theorem c_fl {σ τ : Mem} {b : Nat → Nat} {n f p : Nat} (h : FrC σ τ) (e : τ.1 27 3 = zI p) : cO σ b n (.inl (f, p)) (bd2 (f_X6_fail τ (zI f)) (fun (r_6 : Int32) (σ_7 : Mem) => zrm r_6 σ_7)) := by
  refine cO_l (τ := sI τ 27 4 (zI f)) rfl (h.s7 _ _ (by omega)) (by rw [sI_1, if_pos ⟨rfl, rfl⟩]) (by rw [sI_1, if_neg (by omega)]; exact e)
/-- one that steps on and succeeds -/
theorem c_go {σ τ : Mem} {b : Nat → Nat} {n v q : Nat} (hc : TKc τ b n) (hq : q ≤ n) (ht : CTk τ b n q) (h : FrC σ τ) (e : τ.1 27 3 = zI (tpl b n q)) (e2 : τ.1 27 2 = zI v) (e4 : τ.1 27 4 = σ.1 27 4) : cO σ b n (.inr (v, q)) (bd1 (f_X10_step τ) (fun (σ_5 : Mem) => some (1, σ_5))) := by
  obtain ⟨υ, u1, u2, u3, u4, u5⟩ := c_step hc ten_le ht.end_
  rw [u1, pbd1_s]
  exact cO_r rfl (h.trans u2.toC) (by rw [u2.1 _ _ (by omega)]; exact e2) (by rw [u2.1 _ _ (by omega)]; exact e) ⟨u4, u3, u5⟩ (by rw [u2.1 _ _ (by omega)]; exact e4)
theorem nmv_9 {b : Nat → Nat} {n i : Nat} (hi : i ≤ n) (h : tkd b n i = 3) : nmv b (tpl b n i) (ten b n i - tpl b n i) < 1000 := by
  obtain ⟨w1, w2, w3, w4, w5⟩ := tk_d hi h
  have := nmv_lt b (tpl b n i) _ w4 (fun x hx => by have := w5 (tpl b n i + x) (by omega) (by omega); omega)
  have h2 : 10 ^ (ten b n i - tpl b n i) ≤ 10 ^ 3 := Nat.pow_le_pow_right (by omega) w4
  omega
theorem c_wh {σ : Mem} {b : Nat → Nat} {n i : Nat} (h : TKc σ b n) (hi : i ≤ n) (ht : CTk σ b n i) (lo hi' : Nat) (h1 : lo ≤ 1000) (h2 : hi' ≤ 1000) : cO σ b n (pWh b n lo hi' i) (f_X6_whole σ (zI lo) (zI hi')) := by
  have k5 := tkd_5 b n i
  unfold f_X6_whole
  rw [pnm_e]
  have ht1 := ht.s7 3 (σ.1 1 4)
  have f1 : FrC σ (sI σ 27 3 (σ.1 1 4)) := (FrC.refl σ).s7 _ _ (by omega)
  have hc1 := h.fc f1
  have s1 : (sI σ 27 3 (σ.1 1 4)).1 27 3 = zI (tpl b n i) := by rw [sI_1, if_pos ⟨rfl, rfl⟩]; exact ht.at_
  have q1 : (sI σ 27 3 (σ.1 1 4)).1 27 4 = σ.1 27 4 := by rw [sI_1, if_neg (by omega)]
  revert ht1 f1 hc1 s1 q1
  generalize sI σ 27 3 (σ.1 1 4) = σ1
  intro ht1 f1 hc1 s1 q1
  rw [ht1.tok]
  unfold pWh
  by_cases h3 : tkd b n i = 3
  · have nv := nmv_9 hi h3
    rw [if_pos h3, if_pos (show zI (tkd b n i) = 3 from by rw [h3]; rfl), c_whole hc1 hi ht1 h3, pbd1_s, pnm_e, jn0_e]
    revert nv
    generalize nmv b (tpl b n i) (ten b n i - tpl b n i) = v
    intro nv
    have f2 := f1.s7 2 (zI v) (by omega)
    have e2 : (sI σ1 27 2 (zI v)).1 27 2 = zI v := by rw [sI_1, if_pos ⟨rfl, rfl⟩]
    have e3 : (sI σ1 27 2 (zI v)).1 27 3 = zI (tpl b n i) := by rw [sI_1, if_neg (by omega)]; exact s1
    have e4 : (sI σ1 27 2 (zI v)).1 27 4 = σ.1 27 4 := by rw [sI_1, if_neg (by omega)]; exact q1
    rw [e2]
    by_cases h4 : lo ≤ v
    · rw [if_neg (show ¬ (zI v < zI lo) from by rw [zI_lt (by omega) (by omega)]; omega)]
      by_cases h5 : v ≤ hi'
      · rw [if_pos (show lo ≤ v ∧ v ≤ hi' from ⟨h4, h5⟩), if_pos (show zI v ≤ zI hi' from by rw [zI_le (by omega) (by omega)]; omega)]
        exact c_go (h.fc f2) hi (ht1.s7 _ _) f2 e3 e2 e4
      · rw [if_neg (show ¬ (lo ≤ v ∧ v ≤ hi') from fun c => h5 c.2), if_neg (show ¬ (zI v ≤ zI hi') from by rw [zI_le (by omega) (by omega)]; omega)]
        exact c_fl f2 e3
    · rw [if_neg (show ¬ (lo ≤ v ∧ v ≤ hi') from fun c => h4 c.1), if_pos (show (zI v < zI lo) from by rw [zI_lt (by omega) (by omega)]; omega)]
      exact c_fl f2 e3
  · rw [if_neg h3, if_neg (show ¬ zI (tkd b n i) = 3 from by rw [show (3 : Int32) = zI 3 from rfl, zI_eq (by omega) (by omega)]; omega)]
    exact c_fl f1 s1
theorem c_wb {σ : Mem} {b : Nat → Nat} {n i : Nat} (h : TKc σ b n) (hi : i ≤ n) (ht : CTk σ b n i) (s lo hi' : Nat) (hs : s < 19) (h1 : lo ≤ 1000) (h2 : hi' ≤ 1000) : cO σ b n (pWb b n s lo hi' i) (f_X6_wholeBehind σ s (zI lo) (zI hi')) := by
  unfold f_X6_wholeBehind
  rw [pnm_e]
  have ht1 := ht.s7 3 (σ.1 1 4)
  have f1 : FrC σ (sI σ 27 3 (σ.1 1 4)) := (FrC.refl σ).s7 _ _ (by omega)
  have hc1 := h.fc f1
  have s1 : (sI σ 27 3 (σ.1 1 4)).1 27 3 = zI (tpl b n i) := by rw [sI_1, if_pos ⟨rfl, rfl⟩]; exact ht.at_
  have q1 : (sI σ 27 3 (σ.1 1 4)).1 27 4 = σ.1 27 4 := by rw [sI_1, if_neg (by omega)]
  revert ht1 f1 hc1 s1 q1
  generalize sI σ 27 3 (σ.1 1 4) = σ1
  intro ht1 f1 hc1 s1 q1
  rw [c_is hc1 hi ht1 hs, pbd1_s]
  unfold pWb
  by_cases q : isw b n i s = true
  · rw [q, if_pos (show true = true from rfl), if_neg (show ¬ bI true = 0 from by decide)]
    obtain ⟨υ, u1, u2, u3, u4, u5⟩ := c_step hc1 ten_le ht1.end_
    rw [u1, pbd1_s]
    have f2 := f1.trans u2.toC
    have := c_wh (h.fc f2) ten_le (i := ten b n i) ⟨u4, u3, u5⟩ lo hi' h1 h2
    have q2 : υ.1 27 4 = σ.1 27 4 := by rw [u2.1 _ _ (by omega)]; exact q1
    refine ⟨fun f p e => ?_, fun v q e => ?_⟩
    · obtain ⟨τ, t1, t2, t3, t4⟩ := this.1 f p e
      exact ⟨τ, by rw [t1, pbd2_s]; rfl, f2.trans t2, t3, t4⟩
    · obtain ⟨τ, t1, t2, t3, t4, t5, t6⟩ := this.2 v q e
      exact ⟨τ, by rw [t1, pbd2_s]; rfl, f2.trans t2, t3, t4, t5, t6.trans q2⟩
  · have q : isw b n i s = false := by simpa using q
    rw [q, if_neg (show ¬ (false = true) from by decide), if_pos (show bI false = 0 from rfl)]
    exact c_fl f1 s1
theorem c_pp {σ : Mem} {b : Nat → Nat} {n i T P : Nat} {N : Nat → Nat × (Nat → Nat)} (h : TKc σ b n) (hi : i ≤ n) (ht : CTk σ b n i) (hN : CN σ T P N) (hP : σ.1 (T + 1) 1 = zI P) (hT : σ.2.2 27 1 = some T) : cO σ b n (pPp b n N P i) (f_X6_person σ) := by
  have k5 := tkd_5 b n i
  have at_ := hN.at_
  have h5 := hN.P5
  unfold f_X6_person
  rw [pnm_e]
  have ht1 := ht.s7 3 (σ.1 1 4)
  have f1 : FrC σ (sI σ 27 3 (σ.1 1 4)) := (FrC.refl σ).s7 _ _ (by omega)
  have hc1 := h.fc f1
  have s1 : (sI σ 27 3 (σ.1 1 4)).1 27 3 = zI (tpl b n i) := by rw [sI_1, if_pos ⟨rfl, rfl⟩]; exact ht.at_
  have q1 : (sI σ 27 3 (σ.1 1 4)).1 27 4 = σ.1 27 4 := by rw [sI_1, if_neg (by omega)]
  have P1 : (sI σ 27 3 (σ.1 1 4)).1 (T + 1) 1 = zI P := by rw [f1.1 _ _ (by omega) (by omega)]; exact hP
  have T1 : (sI σ 27 3 (σ.1 1 4)).2.2 27 1 = some T := hT
  have N1 : CN (sI σ 27 3 (σ.1 1 4)) T P N := ⟨hN.at_, hN.P5, hN.ok, hN.cls⟩
  revert ht1 f1 hc1 s1 q1 P1 T1 N1
  generalize sI σ 27 3 (σ.1 1 4) = σ1
  intro ht1 f1 hc1 s1 q1 P1 T1 N1
  rw [jn0_e, ht1.tok]
  unfold pPp
  by_cases h2 : tkd b n i = 2
  · rw [if_pos (show zI (tkd b n i) = 2 from by rw [h2]; rfl), c_line hc1 hi ht1, pbd1_s]
    by_cases h7 : lin b n i < 7
    · rw [if_pos h7, onm_sm, if_neg (show ¬ (tkd b n i = 2 ∧ lin b n i = 7) from fun c => by omega)]
      exact c_fl f1 s1
    · have l7 : lin b n i = 7 := by
        have : lin b n i ≤ 7 := sc_le _ (by omega)
        omega
      have wo := wrd_ok hi h2
      rw [if_neg h7, onm_nn, if_pos (show tkd b n i = 2 ∧ lin b n i = 7 from ⟨h2, l7⟩), T1, prfc_s, c_name hc1 hi ht1 h2, pbd1_s, c_find N1 P1 wo, pbd1_s, pnm_e]
      have fv : ∀ x : Int32, (sI σ1 27 2 x).1 27 2 = x := fun x => by rw [sI_1, if_pos ⟨rfl, rfl⟩]
      have fs : ∀ x : Int32, (sI σ1 27 2 x).1 27 3 = zI (tpl b n i) := fun x => by rw [sI_1, if_neg (by omega)]; exact s1
      rw [fv]
      have f2 := fun x => f1.s7 2 x (by omega)
      by_cases q : fnd N P (wrd b n i) < P
      · rw [if_pos q, if_pos q, if_pos (show (0 : Int32) ≤ zI (fnd N P (wrd b n i) : Nat) from by rw [show (0 : Int32) = zI 0 from rfl, zI_le (by omega) (by omega)]; omega)]
        exact c_go (h.fc (f2 _)) hi (ht1.s7 _ _) (f2 _) (fs _) (fv _) (by rw [sI_1, if_neg (by omega)]; exact q1)
      · rw [if_neg q, if_neg q, if_neg (show ¬ ((0 : Int32) ≤ -2) from by decide)]
        exact c_fl (f2 _) (fs _)
  · rw [if_neg (show ¬ zI (tkd b n i) = 2 from by rw [show (2 : Int32) = zI 2 from rfl, zI_eq (by omega) (by omega)]; omega), if_neg (show ¬ (tkd b n i = 2 ∧ lin b n i = 7) from fun c => h2 c.1)]
    exact c_fl f1 s1
theorem c_kd {σ : Mem} {b : Nat → Nat} {n i : Nat} (h : TKc σ b n) (hi : i ≤ n) (ht : CTk σ b n i) : cO σ b n (pKd b n i) (f_X6_kindWord σ) := by
  unfold f_X6_kindWord
  rw [pnm_e]
  have ht1 := ht.s7 3 (σ.1 1 4)
  have f1 : FrC σ (sI σ 27 3 (σ.1 1 4)) := (FrC.refl σ).s7 _ _ (by omega)
  have hc1 := h.fc f1
  have s1 : (sI σ 27 3 (σ.1 1 4)).1 27 3 = zI (tpl b n i) := by rw [sI_1, if_pos ⟨rfl, rfl⟩]; exact ht.at_
  have q1 : (sI σ 27 3 (σ.1 1 4)).1 27 4 = σ.1 27 4 := by rw [sI_1, if_neg (by omega)]
  revert ht1 f1 hc1 s1 q1
  generalize sI σ 27 3 (σ.1 1 4) = σ1
  intro ht1 f1 hc1 s1 q1
  rw [c_is hc1 hi ht1 (by omega), c_is hc1 hi ht1 (by omega), c_is hc1 hi ht1 (by omega), c_is hc1 hi ht1 (by omega), pbd1_s, jn1_e]
  dsimp only
  have fv : ∀ x : Int32, (sI σ1 27 2 x).1 27 2 = x := fun x => by rw [sI_1, if_pos ⟨rfl, rfl⟩]
  have fs : ∀ x : Int32, (sI σ1 27 2 x).1 27 3 = zI (tpl b n i) := fun x => by rw [sI_1, if_neg (by omega)]; exact s1
  have f2 := fun x => f1.s7 2 x (by omega)
  have good : ∀ v : Nat, v ≤ 3 → cO σ b n (.inr (v, i)) (nm (sI σ1 27 2 (zI v)) (fun (σ_5 : Mem) => (if 0 ≤ (σ_5.1 27 2) then bd1 (f_X10_step σ_5) (fun (σ_6 : Mem) => some (1, σ_6)) else bd2 (f_X6_fail σ_5 1) (fun (r_7 : Int32) (σ_8 : Mem) => zrm r_7 σ_8)))) := by
    intro v hv
    rw [pnm_e, fv, if_pos (by rw [show (0 : Int32) = zI 0 from rfl, zI_le (by omega) (by omega)]; omega)]
    exact c_go (h.fc (f2 _)) hi (ht1.s7 _ _) (f2 _) (fs _) (fv _) (by rw [sI_1, if_neg (by omega)]; exact q1)
  unfold pKd
  by_cases w0 : isw b n i 15 = true
  · rw [w0, if_pos (show true = true from rfl), if_neg (show ¬ bI true = 0 from by decide)]; exact good 0 (by omega)
  have w0 : isw b n i 15 = false := by simpa using w0
  rw [w0, if_neg (show ¬ (false = true) from by decide), if_pos (show bI false = 0 from rfl), pbd1_s]
  by_cases w1 : isw b n i 16 = true
  · rw [w1, if_pos (show true = true from rfl), if_neg (show ¬ bI true = 0 from by decide)]; exact good 1 (by omega)
  have w1 : isw b n i 16 = false := by simpa using w1
  rw [w1, if_neg (show ¬ (false = true) from by decide), if_pos (show bI false = 0 from rfl), pbd1_s]
  by_cases w2 : isw b n i 17 = true
  · rw [w2, if_pos (show true = true from rfl), if_neg (show ¬ bI true = 0 from by decide)]; exact good 2 (by omega)
  have w2 : isw b n i 17 = false := by simpa using w2
  rw [w2, if_neg (show ¬ (false = true) from by decide), if_pos (show bI false = 0 from rfl), pbd1_s]
  by_cases w3 : isw b n i 18 = true
  · rw [w3, if_pos (show true = true from rfl), if_neg (show ¬ bI true = 0 from by decide)]; exact good 3 (by omega)
  have w3 : isw b n i 18 = false := by simpa using w3
  rw [w3, if_neg (show ¬ (false = true) from by decide), if_pos (show bI false = 0 from rfl), pnm_e, fv, if_neg (by decide)]
  exact c_fl (f2 _) (fs _)
/-- cells that the model's helpers change -/
def FrM (σ τ : Mem) : Prop := (∀ a j, a ≠ 66 → ¬ (a = 64 ∧ 4 ≤ j ∧ j ≤ 13 ∧ j ≠ 11) → τ.1 a j = σ.1 a j) ∧ τ.2 = σ.2 ∧ (τ.1 64 13 = 0 → σ.1 64 13 = 0 ∧ τ.1 64 9 = σ.1 64 9)
theorem FrM.refl (σ : Mem) : FrM σ σ := ⟨fun _ _ _ _ => rfl, rfl, fun h => ⟨h, rfl⟩⟩
theorem FrM.trans {σ τ υ : Mem} (h1 : FrM σ τ) (h2 : FrM τ υ) : FrM σ υ := ⟨fun a j h k => (h2.1 a j h k).trans (h1.1 a j h k), h2.2.1.trans h1.2.1, fun h => ⟨(h1.2.2 (h2.2.2 h).1).1, (h2.2.2 h).2.trans (h1.2.2 (h2.2.2 h).1).2⟩⟩
theorem FrN.toM {σ τ : Mem} (h : FrN σ τ) : FrM σ τ := ⟨fun a j h1 h2 => h.1 a j h1 (fun c => h2 ⟨c.1, c.2.1, by omega, by omega⟩), h.2, fun z => ⟨(h.1 64 13 (by omega) (by omega)).symm.trans z, h.1 64 9 (by omega) (by omega)⟩⟩
theorem TKm.fm {σ τ : Mem} {b : Nat → Nat} {n : Nat} (h : TKm σ b n) (f : FrM σ τ) : TKm τ b n :=
  ⟨h.n8, h.b8, by rw [f.1 _ _ (by omega) (by omega)]; exact h.size, fun i hi => by rw [f.1 _ _ (by omega) (by omega)]; exact h.byte i hi⟩
theorem MN.fm {σ τ : Mem} {P : Nat} {N : Nat → Nat × (Nat → Nat)} (h : MN σ P N) (f : FrM σ τ) : MN τ P N :=
  ⟨h.P5, h.ok, fun p hp => by rw [f.1 _ _ (by omega) (by omega)]; exact h.size p hp, fun p hp x hx => by rw [f.1 _ _ (by omega) (by omega)]; exact h.let_ p hp x hx, fun p h1 h2 => by rw [f.1 _ _ (by omega) (by omega)]; exact h.none_ p h1 h2⟩
/-- the model's memory with a fault -/
def wr (σ : Mem) (f p : Int32) : Mem := sI (sI (sI σ 64 13 1) 64 9 f) 64 10 p
theorem m_wrong {σ : Mem} (h : σ.1 64 13 = 0) (f p : Int32) : f_X13_wrong σ f p = some (wr σ f p) := by
  unfold f_X13_wrong wr
  rw [if_pos h]; rfl
theorem m_wrF {σ : Mem} (h : σ.1 64 13 = 1) (f p : Int32) : f_X13_wrong σ f p = some σ := by
  unfold f_X13_wrong
  rw [if_neg (by rw [h]; decide)]
theorem wr_13 (τ : Mem) (f p : Int32) : (wr τ f p).1 64 13 = 1 := by unfold wr; rw [sI_1, if_neg (by omega), sI_1, if_neg (by omega), sI_1, if_pos ⟨rfl, rfl⟩]
theorem wr_fr {σ τ : Mem} (h : FrM σ τ) (f p : Int32) : FrM σ (wr τ f p) := by
  refine ⟨fun a i h1 h2 => ?_, h.2.1, fun z => absurd z (by rw [wr_13]; decide)⟩
  unfold wr
  rw [sI_1, if_neg (fun e => h2 ⟨e.1, by omega, by omega, by omega⟩), sI_1, if_neg (fun e => h2 ⟨e.1, by omega, by omega, by omega⟩), sI_1, if_neg (fun e => h2 ⟨e.1, by omega, by omega, by omega⟩)]
  exact h.1 a i h1 h2
theorem wr_9 (τ : Mem) (f p : Int32) : (wr τ f p).1 64 9 = f := by unfold wr; rw [sI_1, if_neg (by omega), sI_1, if_pos ⟨rfl, rfl⟩]
theorem wr_10 (τ : Mem) (f p : Int32) : (wr τ f p).1 64 10 = p := by unfold wr; rw [sI_1, if_pos ⟨rfl, rfl⟩]
theorem wr_o (τ : Mem) (f p : Int32) {a j : Nat} (h : ¬ (a = 64 ∧ 9 ≤ j ∧ j ≤ 13)) : (wr τ f p).1 a j = τ.1 a j := by
  unfold wr
  rw [sI_1, if_neg (fun e => h ⟨e.1, by omega, by omega⟩), sI_1, if_neg (fun e => h ⟨e.1, by omega, by omega⟩), sI_1, if_neg (fun e => h ⟨e.1, by omega, by omega⟩)]
/-- the model's answer is that of r; the token stands at the value -/
def mH (σ : Mem) (b : Nat → Nat) (n : Nat) (r : Sum (Nat × Nat) (Nat × Nat)) (o : Option (Int32 × Mem)) : Prop :=
  (∀ f p, r = Sum.inl (f, p) → ∃ v τ, o = some (v, τ) ∧ FrM σ τ ∧ τ.1 64 13 = 1 ∧ τ.1 64 9 = zI f ∧ τ.1 64 10 = zI p) ∧
  (∀ v q, r = Sum.inr (v, q) → ∃ τ, o = some (zI v, τ) ∧ FrM σ τ ∧ MTk τ b n q ∧ τ.1 64 13 = 0 ∧ q ≤ n)
/-- .. or behind it -/
def mO (σ : Mem) (b : Nat → Nat) (n : Nat) (r : Sum (Nat × Nat) (Nat × Nat)) (o : Option (Int32 × Mem)) : Prop :=
  (∀ f p, r = Sum.inl (f, p) → ∃ v τ, o = some (v, τ) ∧ FrM σ τ ∧ τ.1 64 13 = 1 ∧ τ.1 64 9 = zI f ∧ τ.1 64 10 = zI p) ∧
  (∀ v q, r = Sum.inr (v, q) → ∃ τ, o = some (zI v, τ) ∧ FrM σ τ ∧ MTk τ b n (ten b n q) ∧ τ.1 64 13 = 0 ∧ q ≤ n)
theorem mH_l {σ τ : Mem} {b : Nat → Nat} {n f p : Nat} {v : Int32} {o : Option (Int32 × Mem)} (h : o = some (v, wr τ (zI f) (zI p))) (h1 : FrM σ τ) : mH σ b n (.inl (f, p)) o := by
  refine ⟨fun f' p' e => ?_, fun v q e => by cases e⟩
  cases e
  exact ⟨v, _, h, wr_fr h1 _ _, wr_13 _ _ _, wr_9 _ _ _, wr_10 _ _ _⟩
theorem mH_r {σ τ : Mem} {b : Nat → Nat} {n v q : Nat} {o : Option (Int32 × Mem)} (h : o = some (zI v, τ)) (h1 : FrM σ τ) (h2 : MTk τ b n q) (h3 : τ.1 64 13 = 0) (h4 : q ≤ n) : mH σ b n (.inr (v, q)) o := by
  refine ⟨fun f' p' e => (by cases e), fun v' q' e => ?_⟩
  cases e
  exact ⟨τ, h, h1, h2, h3, h4⟩
theorem m_pass {σ : Mem} {b : Nat → Nat} {n : Nat} {r : Sum (Nat × Nat) (Nat × Nat)} {o : Option (Int32 × Mem)} (hk : TKm σ b n) (h : mH σ b n r o) : mO σ b n r (bd2 o (fun (r_1 : Int32) (σ_2 : Mem) => (if (σ_2.1 64 13) = 0 then bd1 (f_X13_next σ_2) (fun (σ_3 : Mem) => some (r_1, σ_3)) else some (r_1, σ_2)))) := by
  refine ⟨fun f p e => ?_, fun v q e => ?_⟩
  · obtain ⟨v, τ, t1, t2, t3, t4⟩ := h.1 f p e
    exact ⟨v, τ, by rw [t1, pbd2_s, if_neg (by rw [t3]; decide)], t2, t3, t4⟩
  · obtain ⟨τ, t1, t2, t3, t4, t5⟩ := h.2 v q e
    obtain ⟨υ, u1, u2, u3⟩ := m_next (hk.fm t2) (i := ten b n q) ten_le t3.end_
    exact ⟨υ, by rw [t1, pbd2_s, if_pos t4, u1, pbd1_s], t2.trans u2.toM, u3, by rw [u2.1 _ _ (by omega) (by omega)]; exact t4, t5⟩
theorem m_in (v lo hi : Nat) (h : v < 2000 ∧ lo < 2000 ∧ hi < 2000) : f_X13_in (zI v) (zI lo) (zI hi) = some (bI (decide (lo ≤ v ∧ v ≤ hi))) := by
  unfold f_X13_in
  rw [jn0_e]
  by_cases h1 : v < lo
  · rw [if_pos (by rw [zI_lt (by omega) (by omega)]; omega), decide_eq_false (by omega)]; rfl
  · rw [if_neg (show ¬ (zI v < zI lo) from by rw [zI_lt (by omega) (by omega)]; omega)]
    by_cases h2 : hi < v
    · rw [if_pos (by rw [zI_lt (by omega) (by omega)]; omega), decide_eq_false (by omega)]; rfl
    · rw [if_neg (show ¬ (zI hi < zI v) from by rw [zI_lt (by omega) (by omega)]; omega), decide_eq_true (by omega)]; rfl
theorem m_nh {σ : Mem} {b : Nat → Nat} {n i : Nat} (hi : i ≤ n) (ht : MTk σ b n i) (hf : σ.1 64 13 = 0) (lo hi' : Nat) (h1 : lo ≤ 1000) (h2 : hi' ≤ 1000) : mH σ b n (pWh b n lo hi' i) (f_X13_numberHere σ (zI lo) (zI hi')) := by
  have k5 := tkd_5 b n i
  unfold f_X13_numberHere pWh
  rw [if_pos hf, jn1_e, ht.tok, ht.at_]
  by_cases h3 : tkd b n i = 3
  · have nv := nmv_9 hi h3
    rw [if_pos h3, if_pos ((tk4_3 _ k5).2 h3), ht.whole h3]
    have hw := ht.whole h3
    revert nv hw
    generalize nmv b (tpl b n i) (ten b n i - tpl b n i) = v
    intro nv hw
    rw [m_in v lo hi' (by omega), pbd1_s]
    by_cases h4 : lo ≤ v ∧ v ≤ hi'
    · rw [decide_eq_true h4, if_pos h4, if_neg (show ¬ bI true = 0 from by decide)]
      dsimp only
      rw [if_pos hf]
      exact mH_r (by rw [hw]) (FrM.refl σ) ht hf hi
    · rw [decide_eq_false h4, if_neg h4, if_pos (show bI false = 0 from rfl), m_wrong hf, pbd1_s]
      dsimp only
      rw [if_neg (by rw [wr_13]; decide)]
      exact mH_l rfl (FrM.refl σ)
  · rw [if_neg h3, if_neg (show ¬ zI (tk4 (tkd b n i)) = 3 from fun c => h3 ((tk4_3 _ k5).1 c)), m_wrong hf, pbd1_s]
    dsimp only
    rw [if_neg (by rw [wr_13]; decide)]
    exact mH_l rfl (FrM.refl σ)
theorem m_nhF {σ : Mem} (hf : σ.1 64 13 = 1) (lo hi : Int32) : f_X13_numberHere σ lo hi = some (lo, σ) := by
  unfold f_X13_numberHere
  rw [if_neg (by rw [hf]; decide)]
theorem m_n {σ : Mem} {b : Nat → Nat} {n i : Nat} (hk : TKm σ b n) (hi : i ≤ n) (ht : MTk σ b n i) (hf : σ.1 64 13 = 0) (lo hi' : Nat) (h1 : lo ≤ 1000) (h2 : hi' ≤ 1000) : mO σ b n (pWh b n lo hi' i) (f_X13_number σ (zI lo) (zI hi')) := m_pass hk (m_nh hi ht hf lo hi' h1 h2)
theorem m_nF {σ : Mem} (hf : σ.1 64 13 = 1) (lo hi : Int32) : f_X13_number σ lo hi = some (lo, σ) := by
  unfold f_X13_number
  rw [m_nhF hf, pbd2_s, if_neg (by rw [hf]; decide)]
theorem m_must {σ : Mem} {b : Nat → Nat} {n i s : Nat} (hk : TKm σ b n) (hi : i ≤ n) (ht : MTk σ b n i) (hs : s < 19) (hf : σ.1 64 13 = 0) : (isw b n i s = false → f_X13_must σ s = some (wr σ (zI (1 : Nat)) (zI (tpl b n i : Nat)))) ∧ (isw b n i s = true → ∃ τ, f_X13_must σ s = some τ ∧ FrM σ τ ∧ MTk τ b n (ten b n i) ∧ τ.1 64 13 = 0) := by
  have e : f_X13_must σ s = bd2 (bd1 (some (bI (isw b n i s))) (fun (r_1 : Int32) => (if r_1 = 0 then some (0, σ) else bd1 (f_X13_next σ) (fun (σ_2 : Mem) => some (1, σ_2))))) (fun (r_1 : Int32) (σ_2 : Mem) => (if r_1 = 0 then bd1 (f_X13_wrong σ_2 1 (σ_2.1 64 4)) (fun (σ_3 : Mem) => some σ_3) else some σ_2)) := by
    unfold f_X13_must f_X13_takesWord
    rw [if_pos hf, m_isWord hk.n8 hi ht hs hf]
  rw [e, pbd1_s]
  refine ⟨fun q => ?_, fun q => ?_⟩
  · rw [q, if_pos (show bI false = 0 from rfl), pbd2_s, if_pos rfl, ht.at_]
    exact (congrArg (fun x => bd1 x (fun (σ_3 : Mem) => some σ_3)) (m_wrong hf (zI (1 : Nat)) (zI (tpl b n i : Nat))))
  · obtain ⟨υ, u1, u2, u3⟩ := m_next hk (i := ten b n i) ten_le ht.end_
    exact ⟨υ, by rw [q, if_neg (show ¬ bI true = 0 from by decide), u1, pbd1_s, pbd2_s, if_neg (by decide)], u2.toM, u3, by rw [u2.1 _ _ (by omega) (by omega)]; exact hf⟩
theorem m_ah {σ : Mem} {b : Nat → Nat} {n i s : Nat} (hk : TKm σ b n) (hi : i ≤ n) (ht : MTk σ b n i) (hs : s < 19) (hf : σ.1 64 13 = 0) (lo hi' : Nat) (h1 : lo ≤ 1000) (h2 : hi' ≤ 1000) : mH σ b n (pWb b n s lo hi' i) (f_X13_afterHere σ s (zI lo) (zI hi')) := by
  unfold f_X13_afterHere pWb
  obtain ⟨m1, m2⟩ := m_must hk hi ht hs hf
  by_cases q : isw b n i s = true
  · obtain ⟨τ, t1, t2, t3, t4⟩ := m2 q
    rw [if_pos q, t1, pbd1_s]
    have := m_nh (i := ten b n i) ten_le t3 t4 lo hi' h1 h2
    refine ⟨fun f p e => ?_, fun v r e => ?_⟩
    · obtain ⟨v, υ, u1, u2, u3⟩ := this.1 f p e
      exact ⟨v, υ, by rw [u1, pbd2_s], t2.trans u2, u3⟩
    · obtain ⟨υ, u1, u2, u3⟩ := this.2 v r e
      exact ⟨υ, by rw [u1, pbd2_s], t2.trans u2, u3⟩
  · have q0 : isw b n i s = false := by simpa using q
    rw [if_neg q, m1 q0, pbd1_s, m_nhF (wr_13 _ _ _), pbd2_s]
    exact mH_l rfl (FrM.refl σ)
theorem m_ahF {σ : Mem} (hf : σ.1 64 13 = 1) (s : Nat) (lo hi : Int32) : f_X13_afterHere σ s lo hi = some (lo, σ) := by
  unfold f_X13_afterHere f_X13_must
  rw [if_neg (by rw [hf]; decide), pbd1_s, m_nhF hf, pbd2_s]
theorem m_a {σ : Mem} {b : Nat → Nat} {n i s : Nat} (hk : TKm σ b n) (hi : i ≤ n) (ht : MTk σ b n i) (hs : s < 19) (hf : σ.1 64 13 = 0) (lo hi' : Nat) (h1 : lo ≤ 1000) (h2 : hi' ≤ 1000) : mO σ b n (pWb b n s lo hi' i) (f_X13_after σ s (zI lo) (zI hi')) := by
  unfold f_X13_after pWb
  obtain ⟨m1, m2⟩ := m_must hk hi ht hs hf
  by_cases q : isw b n i s = true
  · obtain ⟨τ, t1, t2, t3, t4⟩ := m2 q
    rw [if_pos q, t1, pbd1_s]
    have := m_n (hk.fm t2) (i := ten b n i) ten_le t3 t4 lo hi' h1 h2
    refine ⟨fun f p e => ?_, fun v r e => ?_⟩
    · obtain ⟨v, υ, u1, u2, u3⟩ := this.1 f p e
      exact ⟨v, υ, by rw [u1, pbd2_s], t2.trans u2, u3⟩
    · obtain ⟨υ, u1, u2, u3⟩ := this.2 v r e
      exact ⟨υ, by rw [u1, pbd2_s], t2.trans u2, u3⟩
  · have q0 : isw b n i s = false := by simpa using q
    rw [if_neg q, m1 q0, pbd1_s, m_nF (wr_13 _ _ _), pbd2_s]
    refine ⟨fun f p e => ?_, fun v q e => by cases e⟩
    cases e
    exact ⟨_, _, rfl, wr_fr (FrM.refl σ) _ _, wr_13 _ _ _, wr_9 _ _ _, wr_10 _ _ _⟩
theorem m_aF {σ : Mem} (hf : σ.1 64 13 = 1) (s : Nat) (lo hi : Int32) : f_X13_after σ s lo hi = some (lo, σ) := by
  unfold f_X13_after f_X13_must
  rw [if_neg (by rw [hf]; decide), pbd1_s, m_nF hf, pbd2_s]
theorem m_nameOk {σ : Mem} {b : Nat → Nat} {n i : Nat} (n8 : n ≤ 800) (hi : i ≤ n) (ht : MTk σ b n i) (hf : σ.1 64 13 = 0) : f_X13_mustName σ = some (if tkd b n i = 2 ∧ lin b n i = 7 then σ else wr σ (zI (1 : Nat)) (zI (tpl b n i : Nat))) := by
  have k5 := tkd_5 b n i
  have bad : bd1 (f_X13_wrong σ 1 (σ.1 64 4)) (fun (σ_2 : Mem) => some σ_2) = some (wr σ (zI (1 : Nat)) (zI (tpl b n i : Nat))) := by rw [m_wrong hf, pbd1_s, ht.at_]; rfl
  unfold f_X13_mustName
  rw [jn0_e, bad, ht.tok]
  by_cases h2 : tkd b n i = 2
  · rw [if_pos ((tk4_2 _ k5).2 h2), m_isWord n8 hi ht (by omega) hf, m_isWord n8 hi ht (by omega) hf, m_isWord n8 hi ht (by omega) hf, m_isWord n8 hi ht (by omega) hf, m_isWord n8 hi ht (by omega) hf, m_isWord n8 hi ht (by omega) hf, m_isWord n8 hi ht (by omega) hf]
    by_cases h7 : lin b n i = 7
    · rw [if_pos ⟨h2, h7⟩]
      have w : ∀ s, s < 7 → isw b n i s = false := fun s hs => by
        have := sc_p (fun s => !isw b n i s) 7 0 s (Nat.zero_le _) (by show s < lin b n i; omega)
        simpa using this
      simp only [w 0 (by omega), w 1 (by omega), w 2 (by omega), w 3 (by omega), w 4 (by omega), w 5 (by omega), w 6 (by omega), pbd1_s]
      rfl
    · have l7 : lin b n i < 7 := by
        have : lin b n i ≤ 7 := sc_le _ (by omega)
        omega
      obtain ⟨g1, g2⟩ := lin_w l7
      rw [if_neg (fun c => h7 c.2)]
      simp only [pbd1_s, bI_z0]
      have : ∀ s, s < 7 → isw b n i s = true → (isw b n i 0 = true ∨ isw b n i 1 = true ∨ isw b n i 2 = true ∨ isw b n i 3 = true ∨ isw b n i 4 = true ∨ isw b n i 5 = true ∨ isw b n i 6 = true) := by
        intro s hs e
        have : s = 0 ∨ s = 1 ∨ s = 2 ∨ s = 3 ∨ s = 4 ∨ s = 5 ∨ s = 6 := by omega
        rcases this with rfl | rfl | rfl | rfl | rfl | rfl | rfl <;> simp [e]
      have := this _ l7 g1
      repeat' split
      all_goals first | rfl | (simp_all)
  · rw [if_neg (fun c => h2 ((tk4_2 _ k5).1 c)), if_neg (fun c => h2 c.1)]
theorem m_ph {σ : Mem} {b : Nat → Nat} {n i P : Nat} {N : Nat → Nat × (Nat → Nat)} (n8 : n ≤ 800) (hi : i ≤ n) (ht : MTk σ b n i) (hN : MN σ P N) (hf : σ.1 64 13 = 0) : mH σ b n (pPp b n N P i) (f_X13_personHere σ) := by
  unfold f_X13_personHere pPp
  have h5 := hN.P5
  rw [if_pos hf, m_nameOk n8 hi ht hf, pbd1_s]
  by_cases h : tkd b n i = 2 ∧ lin b n i = 7
  · have wo := wrd_ok hi h.1
    obtain ⟨z, z1, z2, z3, -⟩ := ht.size
    rw [if_pos h, if_pos h, if_pos hf, m_find hN wo (by rw [z1, z3 h.1]; rfl) (fun x hx => ht.let_ h.1 x hx), pbd1_s, jn1_e]
    dsimp only
    by_cases q : fnd N P (wrd b n i) < P
    · rw [if_pos q, if_pos q, if_pos (by rw [show (0 : Int32) = zI 0 from rfl, zI_le (by omega) (by omega)]; omega), if_pos hf]
      exact mH_r rfl (FrM.refl σ) ht hf hi
    · rw [if_neg q, if_neg q, if_neg (by decide), show (2 : Int32) = zI (2 : Nat) from rfl, m_wrong hf, pbd1_s, if_neg (by rw [wr_13]; decide), ht.at_]
      exact mH_l rfl (FrM.refl σ)
  · rw [if_neg h, if_neg h, if_neg (by rw [wr_13]; decide)]
    exact mH_l rfl (FrM.refl σ)
theorem m_phF {σ : Mem} (hf : σ.1 64 13 = 1) : f_X13_personHere σ = some (0, σ) := by
  unfold f_X13_personHere
  rw [if_neg (by rw [hf]; decide)]
theorem m_pp {σ : Mem} {b : Nat → Nat} {n i P : Nat} {N : Nat → Nat × (Nat → Nat)} (hk : TKm σ b n) (hi : i ≤ n) (ht : MTk σ b n i) (hN : MN σ P N) (hf : σ.1 64 13 = 0) : mO σ b n (pPp b n N P i) (f_X13_personPassed σ) := m_pass hk (m_ph hk.n8 hi ht hN hf)
theorem m_ppF {σ : Mem} (hf : σ.1 64 13 = 1) : f_X13_personPassed σ = some (0, σ) := by
  unfold f_X13_personPassed
  rw [m_phF hf, pbd2_s, if_neg (by rw [hf]; decide)]
/-- a text's town up to here is in order -/
abbrev TI (t : TT) : Prop :=
  (TB t) ∧ (t.ms = 0 ∨ 3 ≤ t.ms) ∧ (t.ms = 0 → t.P = 0 ∧ t.ch.length = 0 ∧ t.V = 0 ∧ t.W = 0 ∧ t.A = 0 ∧ t.S = 0)
theorem TI.tb {t : TT} (h : TI t) : TB t := h.1
theorem TI.ms {t : TT} (h : TI t) : t.ms = 0 ∨ 3 ≤ t.ms := h.2.1
theorem TI.no {t : TT} (h : TI t) : t.ms = 0 → t.P = 0 ∧ t.ch.length = 0 ∧ t.V = 0 ∧ t.W = 0 ∧ t.A = 0 ∧ t.S = 0 := h.2.2
/-- the class's town being read, at place T -/
abbrev CTI (σ : Mem) (T : Nat) (t : TT) (N : Nat → Nat × (Nat → Nat)) : Prop :=
  (CT σ T t) ∧ (CN σ T t.P N) ∧ (σ.1 (T + 1) 0 = bI (decide (0 < t.ms))) ∧ (∀ p d, p < t.P → d < 30 → σ.1 (T + 6) (p * 30 + d) = zI (e5 (lk t t.ch p d))) ∧ (σ.2.2 27 1 = some T)
theorem CTI.ct {σ : Mem}{T : Nat}{t : TT}{N : Nat → Nat × (Nat → Nat)} (h : CTI σ T t N) : CT σ T t := h.1
theorem CTI.cn {σ : Mem}{T : Nat}{t : TT}{N : Nat → Nat × (Nat → Nat)} (h : CTI σ T t N) : CN σ T t.P N := h.2.1
theorem CTI.c0 {σ : Mem}{T : Nat}{t : TT}{N : Nat → Nat × (Nat → Nat)} (h : CTI σ T t N) : σ.1 (T + 1) 0 = bI (decide (0 < t.ms)) := h.2.2.1
theorem CTI.look {σ : Mem}{T : Nat}{t : TT}{N : Nat → Nat × (Nat → Nat)} (h : CTI σ T t N) : ∀ p d, p < t.P → d < 30 → σ.1 (T + 6) (p * 30 + d) = zI (e5 (lk t t.ch p d)) := h.2.2.2.1
theorem CTI.town {σ : Mem}{T : Nat}{t : TT}{N : Nat → Nat × (Nat → Nat)} (h : CTI σ T t N) : σ.2.2 27 1 = some T := h.2.2.2.2
/-- the model's -/
abbrev MI (σ : Mem) (t : TT) (N : Nat → Nat × (Nat → Nat)) : Prop :=
  (MR (σ.1 68) t) ∧ (MN σ t.P N)
theorem MI.mr {σ : Mem}{t : TT}{N : Nat → Nat × (Nat → Nat)} (h : MI σ t N) : MR (σ.1 68) t := h.1
theorem MI.mn {σ : Mem}{t : TT}{N : Nat → Nat × (Nat → Nat)} (h : MI σ t N) : MN σ t.P N := h.2
/-- cells that reading a line changes: the class, the model -/
def FrW (T : Nat) (σ τ : Mem) : Prop := (∀ a j, ¬ (a = 1 ∧ 3 ≤ j ∧ j ≤ 5) → ¬ (a = 27 ∧ 2 ≤ j ∧ j ≤ 4) → ¬ (T ≤ a ∧ a ≤ T + 11) → τ.1 a j = σ.1 a j) ∧ (∀ a, a ≠ T + 2 → τ.2.1 a = σ.2.1 a) ∧ τ.2.2 = σ.2.2
def FrV (σ τ : Mem) : Prop := (∀ a j, a ≠ 66 → a ≠ 68 → ¬ (a = 64 ∧ 4 ≤ j ∧ j ≤ 13 ∧ j ≠ 11) → τ.1 a j = σ.1 a j) ∧ τ.2 = σ.2 ∧ (τ.1 64 13 = 0 → σ.1 64 13 = 0 ∧ τ.1 64 9 = σ.1 64 9)
theorem FrW.refl (T : Nat) (σ : Mem) : FrW T σ σ := ⟨fun _ _ _ _ _ => rfl, fun _ _ => rfl, rfl⟩
theorem FrW.trans {T : Nat} {σ τ υ : Mem} (h1 : FrW T σ τ) (h2 : FrW T τ υ) : FrW T σ υ := ⟨fun a j h k l => (h2.1 a j h k l).trans (h1.1 a j h k l), fun a h => (h2.2.1 a h).trans (h1.2.1 a h), h2.2.2.trans h1.2.2⟩
theorem FrC.toW {σ τ : Mem} (h : FrC σ τ) (T : Nat) : FrW T σ τ := ⟨fun a j h1 h2 _ => h.1 a j h1 h2, fun a _ => by rw [h.2], by rw [h.2]⟩
theorem FrW.sT {T : Nat} {σ τ : Mem} (h : FrW T σ τ) (a j : Nat) (v : Int32) (ha : T ≤ a ∧ a ≤ T + 11) : FrW T σ (sI τ a j v) := by
  refine ⟨fun c i h1 h2 h3 => ?_, h.2⟩
  rw [sI_1, if_neg (fun e => h3 (by rw [e.1]; exact ha))]; exact h.1 c i h1 h2 h3
theorem FrV.refl (σ : Mem) : FrV σ σ := ⟨fun _ _ _ _ _ => rfl, rfl, fun h => ⟨h, rfl⟩⟩
theorem FrV.trans {σ τ υ : Mem} (h1 : FrV σ τ) (h2 : FrV τ υ) : FrV σ υ := ⟨fun a j h k l => (h2.1 a j h k l).trans (h1.1 a j h k l), h2.2.1.trans h1.2.1, fun h => ⟨(h1.2.2 (h2.2.2 h).1).1, (h2.2.2 h).2.trans (h1.2.2 (h2.2.2 h).1).2⟩⟩
theorem FrM.toV {σ τ : Mem} (h : FrM σ τ) : FrV σ τ := ⟨fun a j h1 _ h2 => h.1 a j h1 h2, h.2⟩
theorem FrV.s8 {σ τ : Mem} (h : FrV σ τ) (j : Nat) (v : Int32) : FrV σ (sI τ 68 j v) := by
  refine ⟨fun c i h1 h2 h3 => ?_, h.2.1, fun z => ?_⟩
  · rw [sI_1, if_neg (fun e => h2 e.1)]; exact h.1 c i h1 h2 h3
  · rw [sI_1, if_neg (by omega)] at z
    rw [sI_1, if_neg (by omega)]; exact h.2.2 z
theorem TKc.fw {T : Nat} {σ τ : Mem} {b : Nat → Nat} {n : Nat} (h : TKc σ b n) (hT : T = 3 ∨ T = 15) (f : FrW T σ τ) : TKc τ b n :=
  ⟨h.n8, h.b8, by rw [f.1 _ _ (by omega) (by omega) (by omega)]; exact h.end_, fun i hi => by rw [f.1 _ _ (by omega) (by omega) (by omega)]; exact h.byte i hi⟩
theorem TKm.fv {σ τ : Mem} {b : Nat → Nat} {n : Nat} (h : TKm σ b n) (f : FrV σ τ) : TKm τ b n :=
  ⟨h.n8, h.b8, by rw [f.1 _ _ (by omega) (by omega) (by omega)]; exact h.size, fun i hi => by rw [f.1 _ _ (by omega) (by omega) (by omega)]; exact h.byte i hi⟩
theorem CTI.fc {σ τ : Mem} {T : Nat} {t : TT} {N : Nat → Nat × (Nat → Nat)} (h : CTI σ T t N) (f : FrC σ τ) : CTI τ T t N := by
  have at_ := h.ct.at_
  refine ⟨h.ct.of (fun a h1 h2 => funext fun j => f.1 a j (by omega) (by omega)), ⟨h.cn.at_, h.cn.P5, h.cn.ok, fun p hp => ?_⟩, ?_, fun p d hp hd => ?_, ?_⟩
  · rw [f.2]; exact h.cn.cls p hp
  · rw [f.1 _ _ (by omega) (by omega)]; exact h.c0
  · rw [f.1 _ _ (by omega) (by omega)]; exact h.look p d hp hd
  · rw [f.2]; exact h.town
theorem MI.fm {σ τ : Mem} {t : TT} {N : Nat → Nat × (Nat → Nat)} (h : MI σ t N) (f : FrM σ τ) : MI τ t N := by
  refine ⟨?_, h.mn.fm f⟩
  rw [show τ.1 68 = σ.1 68 from funext fun j => f.1 68 j (by omega) (by omega)]
  exact h.mr
/-- first r, then k -/
def sbd {β : Type} (r : Sum (Nat × Nat) (Nat × Nat)) (k : Nat → Nat → Sum (Nat × Nat) β) : Sum (Nat × Nat) β :=
  match r with
  | .inl e => .inl e
  | .inr x => k x.1 x.2
theorem sbd_l {β : Type} (e : Nat × Nat) (k : Nat → Nat → Sum (Nat × Nat) β) : sbd (.inl e) k = .inl e := rfl
theorem sbd_r {β : Type} (v q : Nat) (k : Nat → Nat → Sum (Nat × Nat) β) : sbd (.inr (v, q)) k = k v q := rfl
/-- what a line tells: a fault and its place, or the town, the names, and where the token behind it is read from -/
abbrev LR : Type := Sum (Nat × Nat) ((TT × (Nat → Nat × (Nat → Nat))) × Nat)
/-- the class's answer to line s is that of r -/
def cL (σ : Mem) (T : Nat) (b : Nat → Nat) (n s : Nat) (r : LR) (o : Option (Int32 × Mem)) : Prop :=
  (∀ f p, r = Sum.inl (f, p) → ∃ τ, o = some (0, τ) ∧ FrW T σ τ ∧ τ.1 27 4 = zI f ∧ τ.1 27 3 = zI p) ∧
  (∀ x j, r = Sum.inr (x, j) → ∃ τ, o = some (1, τ) ∧ FrW T σ τ ∧ CTk τ b n j ∧ τ.1 27 4 = σ.1 27 4 ∧ CTI (sI τ (T + 1) s (τ.1 (T + 1) s + 1)) T x.1 x.2)
theorem cL_fr {σ τ : Mem} {T : Nat} {b : Nat → Nat} {n s : Nat} {r : LR} {o : Option (Int32 × Mem)} (f : FrW T σ τ) (e : τ.1 27 4 = σ.1 27 4) (h : cL τ T b n s r o) : cL σ T b n s r o := by
  refine ⟨fun f' p' q => ?_, fun x j q => ?_⟩
  · obtain ⟨υ, u1, u2, u3⟩ := h.1 f' p' q
    exact ⟨υ, u1, f.trans u2, u3⟩
  · obtain ⟨υ, u1, u2, u3, u4, u5⟩ := h.2 x j q
    exact ⟨υ, u1, f.trans u2, u3, u4.trans e, u5⟩
theorem cL_l {σ τ : Mem} {T : Nat} {b : Nat → Nat} {n s f p : Nat} {o : Option (Int32 × Mem)} (h : o = some (0, τ)) (h1 : FrW T σ τ) (h2 : τ.1 27 4 = zI f) (h3 : τ.1 27 3 = zI p) : cL σ T b n s (.inl (f, p)) o := by
  refine ⟨fun f' p' e => ?_, fun x j e => by cases e⟩
  cases e
  exact ⟨τ, h, h1, h2, h3⟩
theorem cL_r {σ τ : Mem} {T : Nat} {b : Nat → Nat} {n s j : Nat} {x : TT × (Nat → Nat × (Nat → Nat))} {o : Option (Int32 × Mem)} (h : o = some (1, τ)) (h1 : FrW T σ τ) (h2 : CTk τ b n j) (h3 : τ.1 27 4 = σ.1 27 4) (h4 : CTI (sI τ (T + 1) s (τ.1 (T + 1) s + 1)) T x.1 x.2) : cL σ T b n s (.inr (x, j)) o := by
  refine ⟨fun f' p' e => (by cases e), fun x' j' e => ?_⟩
  cases e
  exact ⟨τ, h, h1, h2, h3, h4⟩
theorem cL_bd {σ : Mem} {T : Nat} {b : Nat → Nat} {n s : Nat} {r : Sum (Nat × Nat) (Nat × Nat)} {k : Nat → Nat → LR} {o : Option (Int32 × Mem)} {K : Int32 → Mem → Option (Int32 × Mem)} (h : cO σ b n r o) (h0 : ∀ τ, K 0 τ = some (0, τ)) (h1 : ∀ v q τ, r = .inr (v, q) → FrC σ τ → τ.1 27 2 = zI v → τ.1 27 3 = zI (tpl b n q) → CTk τ b n (ten b n q) → cL τ T b n s (k v q) (K 1 τ)) : cL σ T b n s (sbd r k) (bd2 o K) := by
  rcases r with ⟨f, p⟩ | ⟨v, q⟩
  · obtain ⟨τ, t1, t2, t3, t4⟩ := h.1 f p rfl
    rw [sbd_l, t1, pbd2_s, h0]
    exact cL_l rfl (t2.toW T) t3 t4
  · obtain ⟨τ, t1, t2, t3, t4, t5, t6⟩ := h.2 v q rfl
    rw [sbd_r, t1, pbd2_s]
    exact cL_fr (t2.toW T) t6 (h1 v q τ rfl t2 t3 t4 t5)
theorem cL_fail {σ : Mem} {T : Nat} {b : Nat → Nat} {n s f p : Nat} (e : σ.1 27 3 = zI p) : cL σ T b n s (.inl (f, p)) (bd2 (f_X6_fail σ (zI f)) (fun (r_6 : Int32) (σ_7 : Mem) => zrm r_6 σ_7)) :=
  cL_l (τ := sI σ 27 4 (zI f)) rfl (((FrC.refl σ).s7 _ _ (by omega)).toW T) (by rw [sI_1, if_pos ⟨rfl, rfl⟩]) (by rw [sI_1, if_neg (by omega)]; exact e)
/-- the model's answer to a line -/
def mL (σ : Mem) (b : Nat → Nat) (n : Nat) (r : LR) (o : Option Mem) : Prop :=
  (∀ f p, r = Sum.inl (f, p) → ∃ τ, o = some τ ∧ FrV σ τ ∧ τ.1 64 13 = 1 ∧ τ.1 64 9 = zI f ∧ τ.1 64 10 = zI p) ∧
  (∀ x j, r = Sum.inr (x, j) → ∃ τ, o = some τ ∧ FrV σ τ ∧ MTk τ b n j ∧ τ.1 64 13 = 0 ∧ MI τ x.1 x.2)
/-- the model goes on with its fault -/
def mF (σ : Mem) (o : Option Mem) : Prop := ∃ τ, o = some τ ∧ FrV σ τ ∧ τ.1 64 13 = 1 ∧ τ.1 64 9 = σ.1 64 9 ∧ τ.1 64 10 = σ.1 64 10
theorem mF_s {σ : Mem} (h : σ.1 64 13 = 1) : mF σ (some σ) := ⟨σ, rfl, FrV.refl σ, h, rfl, rfl⟩
theorem mF_8 {σ : Mem} {j : Nat} {v : Int32} {o : Option Mem} (h : mF (sI σ 68 j v) o) : mF σ o := by
  obtain ⟨τ, t1, t2, t3, t4, t5⟩ := h
  refine ⟨τ, t1, ((FrV.refl σ).s8 j v).trans t2, t3, ?_, ?_⟩
  · rw [t4, sI_1, if_neg (by omega)]
  · rw [t5, sI_1, if_neg (by omega)]
theorem mL_l {σ τ : Mem} {b : Nat → Nat} {n f p : Nat} {o : Option Mem} (h : mF τ o) (h1 : FrV σ τ) (h2 : τ.1 64 9 = zI f) (h3 : τ.1 64 10 = zI p) : mL σ b n (.inl (f, p)) o := by
  refine ⟨fun f' p' e => ?_, fun x j e => by cases e⟩
  cases e
  obtain ⟨υ, u1, u2, u3, u4, u5⟩ := h
  exact ⟨υ, u1, h1.trans u2, u3, u4.trans h2, u5.trans h3⟩
theorem mL_w {σ τ : Mem} {b : Nat → Nat} {n f p : Nat} {o : Option Mem} (h : mF (wr τ (zI f) (zI p)) o) (h1 : FrV σ τ) : mL σ b n (.inl (f, p)) o :=
  mL_l h (h1.trans (wr_fr (FrM.refl τ) _ _).toV) (wr_9 _ _ _) (wr_10 _ _ _)
theorem mL_r {σ τ : Mem} {b : Nat → Nat} {n j : Nat} {x : TT × (Nat → Nat × (Nat → Nat))} {o : Option Mem} (h : o = some τ) (h1 : FrV σ τ) (h2 : MTk τ b n j) (h3 : τ.1 64 13 = 0) (h4 : MI τ x.1 x.2) : mL σ b n (.inr (x, j)) o := by
  refine ⟨fun f' p' e => (by cases e), fun x' j' e => ?_⟩
  cases e
  exact ⟨τ, h, h1, h2, h3, h4⟩
theorem mL_fr {σ τ : Mem} {b : Nat → Nat} {n : Nat} {r : LR} {o : Option Mem} (f : FrV σ τ) (h : mL τ b n r o) : mL σ b n r o := by
  refine ⟨fun f' p' q => ?_, fun x j q => ?_⟩
  · obtain ⟨υ, u1, u2, u3⟩ := h.1 f' p' q
    exact ⟨υ, u1, f.trans u2, u3⟩
  · obtain ⟨υ, u1, u2, u3⟩ := h.2 x j q
    exact ⟨υ, u1, f.trans u2, u3⟩
/-- behind a piece that passes on .. -/
theorem mL_bd {σ : Mem} {b : Nat → Nat} {n : Nat} {r : Sum (Nat × Nat) (Nat × Nat)} {k : Nat → Nat → LR} {o : Option (Int32 × Mem)} {K : Int32 → Mem → Option Mem} (h : mO σ b n r o) (h0 : ∀ v τ, FrM σ τ → τ.1 64 13 = 1 → mF τ (K v τ)) (h1 : ∀ v q τ, r = .inr (v, q) → FrM σ τ → MTk τ b n (ten b n q) → τ.1 64 13 = 0 → q ≤ n → mL τ b n (k v q) (K (zI v) τ)) : mL σ b n (sbd r k) (bd2 o K) := by
  rcases r with ⟨f, p⟩ | ⟨v, q⟩
  · obtain ⟨v, τ, t1, t2, t3, t4, t5⟩ := h.1 f p rfl
    rw [sbd_l, t1, pbd2_s]
    exact mL_l (h0 v τ t2 t3) t2.toV t4 t5
  · obtain ⟨τ, t1, t2, t3, t4, t5⟩ := h.2 v q rfl
    rw [sbd_r, t1, pbd2_s]
    exact mL_fr t2.toV (h1 v q τ rfl t2 t3 t4 t5)
/-- .. or stays -/
theorem mL_bh {σ : Mem} {b : Nat → Nat} {n : Nat} {r : Sum (Nat × Nat) (Nat × Nat)} {k : Nat → Nat → LR} {o : Option (Int32 × Mem)} {K : Int32 → Mem → Option Mem} (h : mH σ b n r o) (h0 : ∀ v τ, FrM σ τ → τ.1 64 13 = 1 → mF τ (K v τ)) (h1 : ∀ v q τ, r = .inr (v, q) → FrM σ τ → MTk τ b n q → τ.1 64 13 = 0 → q ≤ n → mL τ b n (k v q) (K (zI v) τ)) : mL σ b n (sbd r k) (bd2 o K) := by
  rcases r with ⟨f, p⟩ | ⟨v, q⟩
  · obtain ⟨v, τ, t1, t2, t3, t4, t5⟩ := h.1 f p rfl
    rw [sbd_l, t1, pbd2_s]
    exact mL_l (h0 v τ t2 t3) t2.toV t4 t5
  · obtain ⟨τ, t1, t2, t3, t4, t5⟩ := h.2 v q rfl
    rw [sbd_r, t1, pbd2_s]
    exact mL_fr t2.toV (h1 v q τ rfl t2 t3 t4 t5)
/-- bounds of the pieces -/
theorem pWh_b {b : Nat → Nat} {n lo hi i v q : Nat} (h : pWh b n lo hi i = .inr (v, q)) : lo ≤ v ∧ v ≤ hi ∧ q = i := by
  unfold pWh at h
  split at h
  · split at h
    · rename_i w
      obtain ⟨h1, h2⟩ := Prod.mk.inj (Sum.inr.inj h)
      subst h1 h2
      exact ⟨w.1, w.2, rfl⟩
    · cases h
  · cases h
theorem pWb_b {b : Nat → Nat} {n s lo hi i v q : Nat} (h : pWb b n s lo hi i = .inr (v, q)) : lo ≤ v ∧ v ≤ hi ∧ q = ten b n i := by
  unfold pWb at h
  split at h
  · exact pWh_b h
  · cases h
theorem pPp_b {b : Nat → Nat} {n P i p q : Nat} {N : Nat → Nat × (Nat → Nat)} (h : pPp b n N P i = .inr (p, q)) : p < P ∧ q = i := by
  unfold pPp at h
  split at h
  · split at h
    · rename_i w
      obtain ⟨h1, h2⟩ := Prod.mk.inj (Sum.inr.inj h)
      subst h1 h2
      exact ⟨w, rfl⟩
    · cases h
  · cases h
theorem pKd_b {b : Nat → Nat} {n i v q : Nat} (h : pKd b n i = .inr (v, q)) : v ≤ 3 ∧ q = i := by
  unfold pKd at h
  have g : ∀ x : Nat, x ≤ 3 → (Sum.inr (x, i) : Sum (Nat × Nat) (Nat × Nat)) = .inr (v, q) → v ≤ 3 ∧ q = i := by
    intro x hx e
    obtain ⟨h1, h2⟩ := Prod.mk.inj (Sum.inr.inj e)
    subst h1 h2
    exact ⟨hx, rfl⟩
  split at h
  · exact g 0 (by omega) h
  · split at h
    · exact g 1 (by omega) h
    · split at h
      · exact g 2 (by omega) h
      · split at h
        · exact g 3 (by omega) h
        · cases h
