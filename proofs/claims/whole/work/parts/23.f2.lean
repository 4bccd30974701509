/-- whether a code is a candidate -/
noncomputable def canB (t : TT) (E : List (Nat × Nat × Nat × Nat)) (s : SS) (c : Nat) : Bool := decide (c % 10 < t.P) && opn t s (c / 10) && hlp t E s (c % 10) (c / 10)
noncomputable def cnL (t : TT) (E : List (Nat × Nat × Nat × Nat)) (s : SS) (n : Nat) : List Nat := (List.range n).filter (canB t E s)
theorem cnL_s (t : TT) (E : List (Nat × Nat × Nat × Nat)) (s : SS) (n : Nat) : cnL t E s (n + 1) = if canB t E s n = true then cnL t E s n ++ [n] else cnL t E s n := by
  unfold cnL
  rw [List.range_succ, List.filter_append]
  by_cases q : canB t E s n = true
  · rw [if_pos q, List.filter_cons_of_pos (by rw [q])]; rfl
  · rw [if_neg q, List.filter_cons_of_neg (by simpa using q)]; simp
theorem cnL_len {t : TT} (tb : TB t) (E : List (Nat × Nat × Nat × Nat)) (s : SS) : ∀ n, (cnL t E s n).length ≤ 5 * (n / 10) + min (n % 10) 5
  | 0 => Nat.le_refl _
  | n + 1 => by
    have ih := cnL_len tb E s n
    have hP := tb.P
    rw [cnL_s]
    by_cases q : canB t E s n = true
    · rw [if_pos q, List.length_append, List.length_singleton]
      unfold canB at q
      rw [Bool.and_eq_true, Bool.and_eq_true] at q
      have := of_decide_eq_true q.1.1
      omega
    · rw [if_neg q]; omega
theorem cnL_mem {t : TT} {E : List (Nat × Nat × Nat × Nat)} {s : SS} {n c : Nat} : c ∈ cnL t E s n ↔ c < n ∧ canB t E s c = true := by
  unfold cnL
  rw [List.mem_filter, List.mem_range]
theorem cnL_asc (t : TT) (E : List (Nat × Nat × Nat × Nat)) (s : SS) (n : Nat) : (cnL t E s n).Pairwise (· < ·) := List.Pairwise.sublist List.filter_sublist List.pairwise_lt_range
/-- rows of candidates -/
abbrev Cds (σ : Mem) (L : List Nat) : Prop :=
  (σ.1 51 3 = zI L.length) ∧ (∀ j x : Nat, L[j]? = some x → σ.1 52 j = zI x)
theorem Cds.n {σ : Mem}{L : List Nat} (h : Cds σ L) : σ.1 51 3 = zI L.length := h.1
theorem Cds.at_ {σ : Mem}{L : List Nat} (h : Cds σ L) : ∀ j x : Nat, L[j]? = some x → σ.1 52 j = zI x := h.2
theorem Cds.add {σ : Mem} {L : List Nat} (h : Cds σ L) (x : Nat) : Cds (sI (sI σ 52 L.length (zI x)) 51 3 (zI (L.length + 1 : Nat))) (L ++ [x]) := by
  refine ⟨?_, fun j y hj => ?_⟩
  · rw [sI_1, if_pos ⟨rfl, rfl⟩, List.length_append]; rfl
  · rw [sI_o _ _ _ _ (by omega), sI_1]
    rcases sk_get hj with ⟨q1, q2⟩ | ⟨q1, q2⟩
    · rw [if_neg (by omega)]; exact h.at_ j y q2
    · rw [if_pos ⟨rfl, q1⟩, q2]
theorem bits_orq (f h : Nat → Bool) (n : Nat) : bits f n ||| bits h n = bits (fun i => f i || h i) n := by
  apply Nat.eq_of_testBit_eq
  intro i
  rw [Nat.testBit_or, bits_at, bits_at, bits_at]
  cases decide (i < n) <;> simp
/-- the wishes that candidates below a code help -/
noncomputable def alwq (t : TT) (E : List (Nat × Nat × Nat × Nat)) (s : SS) (n w : Nat) : Bool := exF (fun c => canB t E s c && hlwq t E s (c % 10) (c / 10) w) 0 n
theorem alwq_n {t : TT} {E : List (Nat × Nat × Nat × Nat)} {s : SS} {n : Nat} (h : canB t E s n = false) : bits (alwq t E s (n + 1)) t.W = bits (alwq t E s n) t.W := bits_congr _ (fun w _ => by
    show alwq t E s (n + 1) w = alwq t E s n w
    unfold alwq
    rw [exF_s, h, Bool.false_and, Bool.or_false])
theorem alwq_y {t : TT} {E : List (Nat × Nat × Nat × Nat)} {s : SS} {n p d : Nat} (h : canB t E s n = true) (hp : n % 10 = p) (hd : n / 10 = d) : bits (alwq t E s n) t.W ||| bits (hlwq t E s p d) t.W = bits (alwq t E s (n + 1)) t.W := by
  rw [bits_orq]
  exact bits_congr _ (fun w _ => by
    show (alwq t E s n w || hlwq t E s p d w) = alwq t E s (n + 1) w
    unfold alwq
    rw [exF_s, h, Bool.true_and, hp, hd])
theorem c_cands {σ : Mem} {T : Nat} {t : TT} {s : SS} (tb : TB t) (sb : SB t s) (cs : CS σ 28 T t (t.ch ++ s.sk) s) (ct : CT σ T t) (hpv : ∀ w, w < t.W → σ.1 53 w = zI (la s (t.wp w) (t.wd w))) : ∃ τ, f_X3_listCandidates σ 28 = some (zI (bits (alwq t (t.ch ++ s.sk) s 300) t.W), τ) ∧ (∀ a, a ≠ 51 → a ≠ 52 → τ.1 a = σ.1 a) ∧ τ.2 = σ.2 ∧ Cds τ (cnL t (t.ch ++ s.sk) s 300) := by
  have hP := tb.P
  have hW := tb.W
  have a52 : aln (51 + 1) = 150 := rfl
  let Inv : Nat → Mem → Prop := fun n τ => (∀ a, a ≠ 51 → a ≠ 52 → τ.1 a = σ.1 a) ∧ τ.2 = σ.2 ∧ Cds τ (cnL t (t.ch ++ s.sk) s n)
  let A : Nat → Int32 := fun n => zI (bits (alwq t (t.ch ++ s.sk) s n) t.W)
  have hq : ∀ τ : Mem, (∀ a, a ≠ 51 → a ≠ 52 → τ.1 a = σ.1 a) → τ.2 = σ.2 → CS τ 28 T t (t.ch ++ s.sk) s ∧ CT τ T t ∧ ∀ w, w < t.W → τ.1 53 w = zI (la s (t.wp w) (t.wd w)) := fun τ h1 h2 => ⟨cs.of (fun a h3 h4 => h1 a (by omega) (by omega)) (by rw [h2]), ct.of (fun a h3 h4 => h1 a (by have := ct.at_; omega) (by have := ct.at_; omega)), fun w hw => by rw [h1 53 (by omega) (by omega)]; exact hpv w hw⟩
  have skip : ∀ n k, (∀ c, n ≤ c → c < n + k → canB t (t.ch ++ s.sk) s c = false) → cnL t (t.ch ++ s.sk) s (n + k) = cnL t (t.ch ++ s.sk) s n ∧ A (n + k) = A n := by
    intro n k
    induction k with
    | zero => intro _; exact ⟨rfl, rfl⟩
    | succ k ih =>
      intro h
      obtain ⟨i1, i2⟩ := ih (fun c h1 h2 => h c h1 (by omega))
      refine ⟨by rw [← Nat.add_assoc, cnL_s, if_neg (by rw [h (n + k) (by omega) (by omega)]; decide), i1], ?_⟩
      rw [← i2]
      show zI _ = zI _
      rw [← Nat.add_assoc, alwq_n (h (n + k) (by omega) (by omega))]
  have A0 : A (10 * 0) = 0 := by
    show zI (bits (alwq t (t.ch ++ s.sk) s 0) t.W) = 0
    rw [bits_0 (fun i _ => by unfold alwq; exact exF_end _ 0)]; rfl
  unfold f_X3_listCandidates
  rw [pnm_e]
  have hh := fx3_inv (F := fun k_5 (i_2 : Int32) (i_3 : Int32) (σ_4 : Mem) => (if 30 ≤ i_3 then some (i_2, σ_4) else fx3 FU (fun k_9 (i_6 : Int32) (i_7 : Int32) (σ_8 : Mem) => rfc (σ_8.2.2 28 0) (fun (T_10 : Nat) => bd1 (f_X11_people σ_8 T_10) (fun (r_11 : Int32) => (if r_11 ≤ i_7 then nm (i_3 + 1) (fun (x_12 : Int32) => k_5 i_6 x_12 σ_8) else bd1 (f_X9_isFree σ_8 28 i_3) (fun (r_14 : Int32) => jn1 (fun (i_15 : Int32) => jn1 (fun (σ_17 : Mem) => nm (i_6 ||| i_15) (fun (x_19 : Int32) => nm (i_7 + 1) (fun (x_20 : Int32) => k_9 x_19 x_20 σ_17))) (fun k_18 => (if i_15 = 0 then k_18 σ_8 else bd1 (f_X12_set σ_8 (51 + 1) (σ_8.1 51 3) ((10 * i_3) + i_7)) (fun (σ_22 : Mem) => nm (sI σ_22 51 3 ((σ_22.1 51 3) + 1)) (fun (σ_23 : Mem) => k_18 σ_23))))) (fun k_16 => (if r_14 = 0 then k_16 0 else bd1 (f_X3_helpedBy σ_8 28 i_7 i_3) (fun (r_24 : Int32) => k_16 r_24)))))))) i_2 0 σ_4)) (fun d => A (10 * d)) (fun d => zI d) (fun d τ => Inv (10 * d) τ) (fun τ => some (A (10 * 30), τ)) 30 (by omega) ?_ ?_ 0 (by omega) (x := 0) (y := 0) A0.symm rfl (sI σ 51 3 0) ⟨fun a h1 h2 => sI_o _ _ _ _ h1, rfl, ⟨by rw [sI_1, if_pos ⟨rfl, rfl⟩]; rfl, fun j x hj => (by cases hj)⟩⟩
  · obtain ⟨τ, ⟨w1, w2, w3⟩, w4⟩ := hh
    exact ⟨τ, w4, w1, w2, w3⟩
  · rintro k τ w
    rw [if_pos (by decide)]
  · rintro d hd τ ⟨w1, w2, w3⟩ k
    rw [if_neg (by rw [show (30 : Int32) = zI 30 from rfl, zI_le (by omega) (by omega)]; omega)]
    have inner := fx3_inv (F := fun k_9 (i_6 : Int32) (i_7 : Int32) (σ_8 : Mem) => rfc (σ_8.2.2 28 0) (fun (T_10 : Nat) => bd1 (f_X11_people σ_8 T_10) (fun (r_11 : Int32) => (if r_11 ≤ i_7 then nm (zI d + 1) (fun (x_12 : Int32) => k i_6 x_12 σ_8) else bd1 (f_X9_isFree σ_8 28 (zI d)) (fun (r_14 : Int32) => jn1 (fun (i_15 : Int32) => jn1 (fun (σ_17 : Mem) => nm (i_6 ||| i_15) (fun (x_19 : Int32) => nm (i_7 + 1) (fun (x_20 : Int32) => k_9 x_19 x_20 σ_17))) (fun k_18 => (if i_15 = 0 then k_18 σ_8 else bd1 (f_X12_set σ_8 (51 + 1) (σ_8.1 51 3) ((10 * (zI d)) + i_7)) (fun (σ_22 : Mem) => nm (sI σ_22 51 3 ((σ_22.1 51 3) + 1)) (fun (σ_23 : Mem) => k_18 σ_23))))) (fun k_16 => (if r_14 = 0 then k_16 0 else bd1 (f_X3_helpedBy σ_8 28 i_7 (zI d)) (fun (r_24 : Int32) => k_16 r_24)))))))) (fun p => A (10 * d + p)) (fun p => zI p) (fun p τ => Inv (10 * d + p) τ) (fun υ => k (A (10 * d + t.P)) (zI (d + 1 : Nat)) υ) t.P (by omega) ?_ ?_ 0 (by omega) (x := A (10 * d)) (y := 0) rfl rfl τ ⟨w1, w2, w3⟩
    · obtain ⟨υ, ⟨v1, v2, v3⟩, v4⟩ := inner
      have := skip (10 * d + t.P) (10 - t.P) (fun c h1 h2 => by unfold canB; rw [decide_eq_false (by omega)]; rfl)
      rw [show 10 * d + t.P + (10 - t.P) = 10 * (d + 1) from by omega] at this
      refine ⟨υ, ⟨v1, v2, ?_⟩, ?_⟩
      · rw [this.1]; exact v3
      · rw [this.2]; exact v4
    · rintro k2 υ ⟨v1, v2, v3⟩
      obtain ⟨g1, g2, g3⟩ := hq υ v1 v2
      rw [g1.town, prfc_s, ct_people g2, pbd1_s, if_pos (by rw [zI_le (by omega) (by omega)]; omega), pnm_e, show zI d + 1 = zI (d + 1 : Nat) from by rw [show (1 : Int32) = zI 1 from rfl, zI_add]; rfl]
    · rintro p hp υ ⟨v1, v2, v3⟩ k2
      obtain ⟨g1, g2, g3⟩ := hq υ v1 v2
      have hmod : (10 * d + p) % 10 = p := by omega
      have hdiv : (10 * d + p) / 10 = d := by omega
      have hlen := cnL_len tb (t.ch ++ s.sk) s (10 * d + p)
      have hst := cnL_s t (t.ch ++ s.sk) s (10 * d + p)
      have hcan : canB t (t.ch ++ s.sk) s (10 * d + p) = (opn t s d && hlp t (t.ch ++ s.sk) s p d) := by
        unfold canB
        rw [hmod, hdiv, decide_eq_true hp, Bool.true_and]
      have hb5 := bits_256 (hlwq t (t.ch ++ s.sk) s p d) (show t.W ≤ 8 by omega)
      have hno : canB t (t.ch ++ s.sk) s (10 * d + p) = false → A (10 * d + p) ||| (0 : Int32) = A (10 * d + (p + 1)) := fun e => by
        show zI _ ||| (0 : Int32) = zI (bits (alwq t (t.ch ++ s.sk) s (10 * d + p + 1)) t.W)
        rw [show (0 : Int32) = zI ((0 : Nat) : Int) from rfl, zI_or, Nat.or_zero, alwq_n e]
      have hye : canB t (t.ch ++ s.sk) s (10 * d + p) = true → A (10 * d + p) ||| zI (bits (hlwq t (t.ch ++ s.sk) s p d) t.W) = A (10 * d + (p + 1)) := fun e => by
        show zI _ ||| _ = zI (bits (alwq t (t.ch ++ s.sk) s (10 * d + p + 1)) t.W)
        rw [zI_or, alwq_y e hmod hdiv]
      rw [g1.town, prfc_s, ct_people g2, pbd1_s, if_neg (by rw [zI_le (by omega) (by omega)]; omega), c_free g1 g2 tb sb hd, pbd1_s]
      simp only [jn1_e, pnm_e, show zI p + 1 = zI (p + 1 : Nat) from by rw [show (1 : Int32) = zI 1 from rfl, zI_add]; rfl]
      cases ho : opn t s d with
      | false =>
        have hcf : canB t (t.ch ++ s.sk) s (10 * d + p) = false := by rw [hcan, ho, Bool.false_and]
        rw [if_pos (by rfl), if_pos (by trivial), hno hcf]
        refine ⟨υ, ⟨v1, v2, ?_⟩, rfl⟩
        show Cds υ (cnL t (t.ch ++ s.sk) s (10 * d + p + 1))
        rw [hst, if_neg (by rw [hcf]; decide)]; exact v3
      | true =>
        rw [if_neg (by decide), c_helpedBy tb g1 g2 g3 hp hd, pbd1_s]
        cases hh : hlp t (t.ch ++ s.sk) s p d with
        | false =>
          have hcf : canB t (t.ch ++ s.sk) s (10 * d + p) = false := by rw [hcan, hh, Bool.and_false]
          rw [hlp_bits.2 hh, if_pos (by rfl), show zI ((0 : Nat) : Int) = (0 : Int32) from rfl, hno hcf]
          refine ⟨υ, ⟨v1, v2, ?_⟩, rfl⟩
          show Cds υ (cnL t (t.ch ++ s.sk) s (10 * d + p + 1))
          rw [hst, if_neg (by rw [hcf]; decide)]; exact v3
        | true =>
          have hct : canB t (t.ch ++ s.sk) s (10 * d + p) = true := by rw [hcan, ho, hh]; rfl
          have hne : bits (hlwq t (t.ch ++ s.sk) s p d) t.W ≠ 0 := fun z => by rw [hlp_bits.1 z] at hh; cases hh
          rw [if_neg (by rw [show (0 : Int32) = zI 0 from rfl, zI_eq (by omega) (by omega)]; omega), v3.n, f_setN (by omega) (by omega), pbd1_s, sI_o _ _ _ _ (by decide), v3.n, show zI (cnL t (t.ch ++ s.sk) s (10 * d + p)).length + 1 = zI ((cnL t (t.ch ++ s.sk) s (10 * d + p)).length + 1 : Nat) from by rw [show (1 : Int32) = zI 1 from rfl, zI_add]; rfl, show (10 : Int32) * zI d + zI p = zI (10 * d + p : Nat) from by rw [show (10 : Int32) = zI 10 from rfl, zI_mul, zI_add]; congr 1, hye hct]
          refine ⟨_, ⟨fun a x1 x2 => by rw [sI_o _ _ _ _ x1, sI_o _ _ _ _ x2, v1 a x1 x2], by rw [sI_2, sI_2]; exact v2, ?_⟩, rfl⟩
          show Cds _ (cnL t (t.ch ++ s.sk) s (10 * d + p + 1))
          rw [hst, if_pos (by rw [hct])]
          exact v3.add _
/-- the latest visit is the one of before, or a code's -/
theorem laL_src : ∀ (L : List Nat) (p d : Nat) (v : Int), laL L p d v = v ∨ ∃ c ∈ L, c % 10 = p ∧ c / 10 ≤ d ∧ laL L p d v = ((c / 10 : Nat) : Int) ∧ v < ((c / 10 : Nat) : Int)
  | [], _, _, _ => Or.inl rfl
  | c :: L, p, d, v => by
    rw [laL]
    by_cases q : c % 10 = p ∧ c / 10 ≤ d
    · rw [if_pos q]
      rcases laL_src L p d (max v ((c / 10 : Nat) : Int)) with e | ⟨x, x1, x2, x3, x4, x5⟩
      · by_cases hv : v < ((c / 10 : Nat) : Int)
        · right
          exact ⟨c, by simp, q.1, q.2, by rw [e]; omega, hv⟩
        · left; rw [e]; omega
      · right
        exact ⟨x, by simp [x1], x2, x3, x4, by omega⟩
    · rw [if_neg q]
      rcases laL_src L p d v with e | ⟨x, x1, x2, x3, x4, x5⟩
      · exact Or.inl e
      · right
        exact ⟨x, by simp [x1], x2, x3, x4, x5⟩
/-- where there is a way, each wish holds or is helped by some candidate -/
theorem hope_of {t : TT} {E : List (Nat × Nat × Nat × Nat)} {s : SS} {j : Nat} {L : List Nat} (h : firstS t E s j [] 0 = some L) {w : Nat} (hw : w < t.W) : (alwq t E s 300 w || hl t E s w) = true := by
  obtain ⟨g1, g2, g3, g4⟩ := firstS_ok h
  have h3 := hW_t.1 g4 w hw
  rw [List.nil_append] at h3
  rcases laL_src L (t.wp w) (t.wd w) (la s (t.wp w) (t.wd w)) with e | ⟨c, hc, q1, q2, q3, q4⟩
  · rw [e] at h3
    rw [hl_kw, h3, Bool.or_true]
  · obtain ⟨-, k1, k2, k3⟩ := g2 c hc
    rw [q3] at h3
    have hh : hlwq t E s (c % 10) (c / 10) w = true := by
      unfold hlwq
      rw [h3, decide_eq_true ⟨q1.symm, q2, q4⟩]; rfl
    have h4 : hlp t E s (c % 10) (c / 10) = true := exF_t w (by omega) hw hh
    have h5 : canB t E s c = true := by
      unfold canB
      rw [decide_eq_true k2, k3, h4]; rfl
    have h6 : alwq t E s 300 w = true := exF_t c (by omega) k1 (by rw [h5, hh]; rfl)
    rw [h6, Bool.true_or]
