/-- nothing that the relation speaks of has changed, troubles as well -/
abbrev Ev (σ τ : Mem) : Prop :=
  (Eqv σ τ) ∧ (τ.1 0 13 = σ.1 0 13) ∧ (τ.1 64 11 = σ.1 64 11)
theorem Ev.e {σ τ : Mem} (h : Ev σ τ) : Eqv σ τ := h.1
theorem Ev.a {σ τ : Mem} (h : Ev σ τ) : τ.1 0 13 = σ.1 0 13 := h.2.1
theorem Ev.b {σ τ : Mem} (h : Ev σ τ) : τ.1 64 11 = σ.1 64 11 := h.2.2
theorem Ev.rfl' (σ : Mem) : Ev σ σ := ⟨Eqv.rfl' σ, rfl, rfl⟩
theorem Ev.trans {σ τ υ : Mem} (h1 : Ev σ τ) (h2 : Ev τ υ) : Ev σ υ := ⟨h1.e.trans h2.e, h2.a.trans h1.a, h2.b.trans h1.b⟩
theorem Ev.sI {σ τ : Mem} (h : Ev σ τ) (a j : Nat) (v : Int32) (hc : core a j = false) (h1 : (a == 0 && j == 13) = false) (h2 : (a == 64 && j == 11) = false) : Ev σ (sI τ a j v) := by
  refine ⟨h.e.sI a j v hc, ?_, ?_⟩
  · rw [sI_1, if_neg (fun q => by rw [← q.1, ← q.2] at h1; cases h1)]; exact h.a
  · rw [sI_1, if_neg (fun q => by rw [← q.1, ← q.2] at h2; cases h2)]; exact h.b
/-- changed in such places alone -/
theorem Ev.of {σ τ : Mem} (h1 : ∀ a, (a ≠ 32 ∧ a ≠ 33 ∧ a ≠ 35 ∧ a ≠ 0 ∧ a ≠ 1 ∧ ¬ (51 ≤ a ∧ a ≤ 64) ∧ a ≠ 66 ∧ a ≠ 68 ∧ ¬ (72 ≤ a)) → τ.1 a = σ.1 a) (h2 : ∀ a, a ≠ 32 → τ.2.2 a = σ.2.2 a) (h3 : τ.2.1 = σ.2.1) (h4 : τ.1 0 = σ.1 0) (h5 : τ.1 1 = σ.1 1) (h6 : ∀ j, (j = 2 ∨ j = 9 ∨ j = 11 ∨ j = 14 ∨ j = 20 ∨ j = 21 ∨ j = 24) → τ.1 64 j = σ.1 64 j) : Ev σ τ := by
  refine ⟨⟨fun a j hc => ?_, fun a hc => h2 a (fun q => by subst q; cases hc), fun a _ _ => by rw [h3]⟩, by rw [h4], h6 11 (by omega)⟩
  by_cases q0 : a = 0
  · rw [q0, h4]
  by_cases q1 : a = 1
  · rw [q1, h5]
  by_cases q2 : a = 64
  · subst q2
    refine h6 j ?_
    simp [core] at hc
    omega
  · rw [h1 a]
    simp [core] at hc
    omega
/-- the relation behind a question that both sides answer -/
theorem RL_yesE {σ σ1 σ2 : Mem} {T : Nat} {t : TT} {s : SS} (h : RC σ T t s) (e1 : Ev (sI σ 0 13 0) σ1) (e2 : Ev (gd σ1) σ2) : RLq σ2 := by
  have g : Eqv σ σ2 := (((Eqv.rfl' σ).sI 0 13 0 rfl).trans e1.e).trans (((gd_e (Eqv.rfl' σ1))).trans e2.e)
  refine RL_of h g 0 ?_ ?_ (by decide)
  · rw [e2.a, gd_o _ (by omega), e1.a, sI_1, if_pos ⟨rfl, rfl⟩]
  · rw [e2.b, gd_11]
theorem RC_cE {σ σ1 : Mem} {T : Nat} {t : TT} {s : SS} (h : RC σ T t s) (v : Int32) (e1 : Ev (sI σ 0 13 v) σ1) : RC (gd σ1) T t s := (RC_c h v).eqv (gd_e e1.e)
theorem rel_pE {α : Type} {x : Int32} {vc vm : Mem → Option (α × Mem)} {no : α} {cv : Int32 → α} (val : TT → SS → Nat → α) (hno : cv (-1) = no) (hv : ∀ σ T t s, RC σ T t s → ∀ p : Nat, x = zI p → p < t.P → (∃ τ, vc σ = some (val t s p, τ) ∧ Ev σ τ) ∧ ∃ τ, vm σ = some (val t s p, τ) ∧ Ev σ τ) {σ : Mem} (h : RLq σ) : ∃ r σ1 σ2, bd1 (f_X12_ofPerson σ x) (fun (r_1 : Int32) => bd2 (f_X12_refused σ r_1) (fun (r_2 : Int32) (σ_3 : Mem) => (if r_2 = 0 then vc σ_3 else some (no, σ_3)))) = some (r, σ1) ∧ bd1 (f_X13_good σ1) (fun (σ_1 : Mem) => bd1 (f_X13_isPerson σ_1 x) (fun (r_2 : Int32) => (if r_2 = 0 then bd2 (f_X13_no σ_1 1) (fun (r_5 : Int32) (σ_6 : Mem) => some (cv r_5, σ_6)) else vm σ_1))) = some (r, σ2) ∧ RLq σ2 := by
  obtain ⟨T, t, s, hc, ht, hp⟩ := h
  have hP := hc.tb.P
  have ha := zI_rng x
  have ex := zI_all x
  rw [show f_X12_ofPerson σ x = some (bI (!decide (0 ≤ x.toInt ∧ x.toInt < t.P))) by rw [← c_ofPerson hc _ ha, ← ex], pbd1_s]
  simp only [m_good, pbd1_s]
  by_cases q : 0 ≤ x.toInt ∧ x.toInt < t.P
  · rw [decide_eq_true q, show bI (!true) = 0 from rfl, refu_0, pbd2_s, if_pos rfl]
    have hc1 := RC_c hc 0
    obtain ⟨p, ep⟩ : ∃ p : Nat, x.toInt = p := ⟨x.toInt.toNat, by omega⟩
    obtain ⟨τ, e1, e2⟩ := (hv _ T t s hc1 p (by rw [← ep]; exact ex) (by omega)).1
    have hc2 := RC_cE hc 0 e2
    obtain ⟨υ, u1, u2⟩ := (hv _ T t s hc2 p (by rw [← ep]; exact ex) (by omega)).2
    rw [e1]
    refine ⟨_, _, υ, rfl, ?_, RL_yesE hc e2 u2⟩
    rw [← u1, ex, m_isPerson hc2 _ ha, decide_eq_true q, pbd1_s, if_neg (by decide)]
  · rw [decide_eq_false q, show bI (!false) = 1 from rfl, refu_1, pbd2_s, if_neg (by decide)]
    have hc2 := RC_m hc 1
    refine ⟨_, _, _, rfl, ?_, RL_no hc 1 (by decide)⟩
    rw [ex, m_isPerson hc2 _ ha, decide_eq_false q, pbd1_s, if_pos (by decide), m_no, ← hno]
    rfl
theorem rel_dE {y : Int32} {vc vm : Mem → Option (Int32 × Mem)} (val : TT → SS → Nat → Int32) (hv : ∀ σ T t s, RC σ T t s → ∀ d : Nat, y = zI d → 0 < t.P → d < 30 → (∃ τ, vc σ = some (val t s d, τ) ∧ Ev σ τ) ∧ ∃ τ, vm σ = some (val t s d, τ) ∧ Ev σ τ) {σ : Mem} (h : RLq σ) : ∃ r σ1 σ2, bd1 (f_X12_ofDay σ y) (fun (r_1 : Int32) => bd2 (f_X12_refused σ r_1) (fun (r_2 : Int32) (σ_3 : Mem) => (if r_2 = 0 then vc σ_3 else some ((-1), σ_3)))) = some (r, σ1) ∧ bd1 (f_X13_good σ1) (fun (σ_1 : Mem) => bd1 (f_X13_why (σ_1.1 64 14) y) (fun (r_3 : Int32) => (if r_3 = 0 then vm σ_1 else bd2 (f_X13_no σ_1 r_3) (fun (r_5 : Int32) (σ_6 : Mem) => some (r_5, σ_6))))) = some (r, σ2) ∧ RLq σ2 := by
  obtain ⟨T, t, s, hc, ht, hp⟩ := h
  have hP := hc.tb.P
  have hb := zI_rng y
  have ey := zI_all y
  rw [show f_X12_ofDay σ y = some (tr3 (0 < t.P) (0 ≤ y.toInt ∧ y.toInt < 30)) by rw [← c_ofDay hc _ hb, ← ey], pbd1_s]
  simp only [m_good, pbd1_s]
  by_cases q : 0 < t.P
  · by_cases q2 : 0 ≤ y.toInt ∧ y.toInt < 30
    · rw [tr3_0 q q2, refu_0, pbd2_s, if_pos rfl]
      have hc1 := RC_c hc 0
      obtain ⟨d, ed⟩ : ∃ d : Nat, y.toInt = d := ⟨y.toInt.toNat, by omega⟩
      obtain ⟨τ, e1, e2⟩ := (hv _ T t s hc1 d (by rw [← ed]; exact ey) (by omega) (by omega)).1
      have hc2 := RC_cE hc 0 e2
      obtain ⟨υ, u1, u2⟩ := (hv _ T t s hc2 d (by rw [← ed]; exact ey) (by omega) (by omega)).2
      rw [e1]
      refine ⟨_, _, υ, rfl, ?_, RL_yesE hc e2 u2⟩
      rw [hc2.has, show f_X13_why (bI (decide (0 < t.P))) y = some 0 from by rw [ey, m_whyD _ _ hb, tr3_0 q q2], pbd1_s, if_pos rfl, u1]
    · rw [tr3_2 q q2, refu_2, pbd2_s, if_neg (by decide)]
      have hc2 := RC_m hc 2
      refine ⟨_, _, _, rfl, ?_, RL_no hc 2 (by decide)⟩
      rw [hc2.has, ey, m_whyD _ _ hb, pbd1_s, tr3_2 q q2, if_neg (by decide), m_no]
      rfl
  · rw [tr3_1 q, refu_1, pbd2_s, if_neg (by decide)]
    have hc2 := RC_m hc 1
    refine ⟨_, _, _, rfl, ?_, RL_no hc 1 (by decide)⟩
    rw [hc2.has, ey, m_whyD _ _ hb, pbd1_s, tr3_1 q, if_neg (by decide), m_no]
    rfl
theorem rel_tE {vc vm : Mem → Option (Int32 × Mem)} (val : TT → SS → Int32) (hv : ∀ σ T t s, RC σ T t s → 0 < t.P → (∃ τ, vc σ = some (val t s, τ) ∧ Ev σ τ) ∧ ∃ τ, vm σ = some (val t s, τ) ∧ Ev σ τ) {σ : Mem} (h : RLq σ) : ∃ r σ1 σ2, bd1 (f_X12_ofTown σ) (fun (r_1 : Int32) => bd2 (f_X12_refused σ r_1) (fun (r_2 : Int32) (σ_3 : Mem) => (if r_2 = 0 then vc σ_3 else some ((-1), σ_3)))) = some (r, σ1) ∧ bd1 (f_X13_good σ1) (fun (σ_1 : Mem) => (if (σ_1.1 64 14) = 0 then bd2 (f_X13_no σ_1 1) (fun (r_5 : Int32) (σ_6 : Mem) => some (r_5, σ_6)) else vm σ_1)) = some (r, σ2) ∧ RLq σ2 := by
  obtain ⟨T, t, s, hc, ht, hp⟩ := h
  have hP := hc.tb.P
  rw [c_ofTown hc, pbd1_s]
  simp only [m_good, pbd1_s]
  by_cases q : 0 < t.P
  · have hc1 := RC_c hc 0
    obtain ⟨τ, e1, e2⟩ := (hv _ T t s hc1 q).1
    have hc2 := RC_cE hc 0 e2
    obtain ⟨υ, u1, u2⟩ := (hv _ T t s hc2 q).2
    rw [decide_eq_false (by omega), show bI false = 0 from rfl, refu_0, pbd2_s, if_pos rfl, e1]
    refine ⟨_, _, υ, rfl, ?_, RL_yesE hc e2 u2⟩
    rw [if_neg (by rw [hc2.has, decide_eq_true q]; decide), u1]
  · have hc2 := RC_m hc 1
    rw [decide_eq_true (by omega), show bI true = 1 from rfl, refu_1, pbd2_s, if_neg (by decide)]
    refine ⟨_, _, _, rfl, ?_, RL_no hc 1 (by decide)⟩
    rw [if_pos (by rw [hc2.has, decide_eq_false q]; rfl), m_no]
    rfl
def pc (n : Nat) : Nat := cnt (fun i => n.testBit i) 8
theorem bt_bc : ((List.range 256).all fun n => f_J6_bitCount_0f7a4 (nI n) == some (nI (pc n))) = true := by decide +kernel
theorem c_bc {n : Nat} (h : n < 256) : f_J6_bitCount_0f7a4 (zI n) = some (zI (pc n)) := by
  have e := eq_of_beq (List.all_eq_true.1 bt_bc n (List.mem_range.2 h))
  rwa [zI_nI, zI_nI] at e
theorem pc_bits (f : Nat → Bool) {n : Nat} (h : n ≤ 8) : pc (bits f n) = cnt f n := cnt_bits f h
theorem bits_256 (f : Nat → Bool) {n : Nat} (h : n ≤ 8) : bits f n < 256 := Nat.lt_of_lt_of_le (bits_lt f n) (show 2 ^ n ≤ 2 ^ 8 from Nat.pow_le_pow_right (by omega) h)
theorem pc_le (n : Nat) : pc n ≤ 8 := cnt_le _ 8
/-- how many wishes hold -/
def hN (t : TT) (E : List (Nat × Nat × Nat × Nat)) (s : SS) : Nat := cnt (hl t E s) t.W
theorem hN_le {t : TT} (tb : TB t) (E : List (Nat × Nat × Nat × Nat)) (s : SS) : hN t E s ≤ 5 := Nat.le_trans (cnt_le _ _) tb.W
theorem c_hN {σ : Mem} {k T : Nat} {t : TT} {E : List (Nat × Nat × Nat × Nat)} {s : SS} (h : CS σ k T t E s) (hT : CT σ T t) (tb : TB t) (sb : SB t s) : f_X9_countHeld σ k = some (zI (hN t E s)) := by
  have hW := tb.W
  unfold f_X9_countHeld
  rw [c_held h hT tb sb, pbd1_s, c_bc (bits_256 _ (by omega)), pbd1_s, pc_bits _ (by omega)]; rfl
theorem m_hN {σ : Mem} {t : TT} {s : SS} (h : MC σ t s) {β : Type} (K : Int32 → Option β) : bd1 (f_X13_holdsNow σ) (fun r => bd1 (f_X13_ones r) K) = K (zI (hN t (t.ch ++ s.sk) s)) := by
  have hW := h.tb.W
  rw [m_held h.mr h.mv h.tb h.sb h.nod, pbd1_s, m_onesB _ (by omega), pbd1_s]; rfl
theorem sI_back (σ : Mem) (a j : Nat) (v w : Int32) (h : σ.1 a j = w) : sI (sI σ a j v) a j w = σ := by
  refine Prod.ext (funext fun b => ?_) rfl
  by_cases q : b = a
  · subst q; rw [sI_at, sI_at]; funext k; unfold upd
    by_cases q : k = j
    · rw [if_pos q, q, h]
    · rw [if_neg q, if_neg q]
  · rw [sI_o _ _ _ _ q, sI_o _ _ _ _ q]
/-- another visitor of the trial, of the model's state -/
theorem c_trV {σ : Mem} {T : Nat} {t : TT} {E : List (Nat × Nat × Nat × Nat)} {s : SS} (h : CS σ 32 T t E s) (hT : CT σ T t) (d : Nat) (v : Option Nat) : CS (sI σ 33 d (zI (oC v))) 32 T t E (setV s d v) ∧ CT (sI σ 33 d (zI (oC v))) T t :=
  ⟨h.setV d v, hT.of (fun a h1 h2 => sI_o _ _ _ _ (by have := hT.at_; omega))⟩
theorem MC.setV {σ : Mem} {t : TT} {s : SS} (h : MC σ t s) {d : Nat} (hd : d < 30) {v : Option Nat} (hv : ∀ p, v = some p → p < t.P) : MC (sI σ 69 d (zI (oM v))) t (setV s d v) :=
  ⟨h.tb, h.sb.setV hv, by rw [sI_o _ _ _ _ (by omega)]; exact h.mr, by rw [sI_at]; exact h.mv.setV hd v, by rw [sI_o _ _ _ _ (by omega)]; exact h.has, by rw [sI_o _ _ _ _ (by omega)]; exact h.nod⟩
/-- the trial as a copy of the state now -/
theorem c_trial {σ : Mem} {T : Nat} {t : TT} {s : SS} (hc : RC σ T t s) : ∃ τ, f_X9_copy σ 32 28 = some τ ∧ Ev σ τ ∧ CS τ 32 T t (t.ch ++ s.sk) s := by
  obtain ⟨τ, e1, e2, e3, e4, e5⟩ := c_copy hc.cs (j := 32) (Or.inr (Or.inl rfl)) (by omega) hc.tb.P
  exact ⟨τ, e1, Ev.of (fun a h => e3 a (by omega) (by omega) (by omega)) (fun a h => e4 a h) e5 (e3 0 (by omega) (by omega) (by omega)) (e3 1 (by omega) (by omega) (by omega)) (fun j _ => by rw [e3 64 (by omega) (by omega) (by omega)]), e2⟩
/-- the best that comes first -/
def bst (o : Nat → Bool) (f : Nat → Nat) (b0 m0 : Int) : Nat → Int × Int
  | 0 => (b0, m0)
  | d + 1 => if o d = true ∧ (bst o f b0 m0 d).2 < f d then ((d : Int), (f d : Int)) else bst o f b0 m0 d
theorem bst_b {o : Nat → Bool} {f : Nat → Nat} {b0 m0 : Int} (hf : ∀ d, f d ≤ 5) (hb : -2 ≤ b0 ∧ b0 ≤ 0) (hm : -1 ≤ m0 ∧ m0 ≤ 5) : ∀ d, -2 ≤ (bst o f b0 m0 d).1 ∧ (bst o f b0 m0 d).1 ≤ d ∧ -1 ≤ (bst o f b0 m0 d).2 ∧ (bst o f b0 m0 d).2 ≤ 5
  | 0 => ⟨hb.1, by have := hb.2; show b0 ≤ ((0 : Nat) : Int); omega, hm.1, hm.2⟩
  | d + 1 => by
    have h := bst_b (o := o) hf hb hm d
    have := hf d
    rw [bst]
    split
    · refine ⟨?_, ?_, ?_, ?_⟩ <;> dsimp only <;> omega
    · omega
theorem rel_bestDay (σ : Mem) (h : RLq σ) (x : Int32) : ∃ r σ1 σ2, f_X12_bestDay σ x = some (r, σ1) ∧ f_X13_bestDay σ1 x = some (r, σ2) ∧ RLq σ2 := by
  unfold f_X12_bestDay f_X13_bestDay
  refine rel_pE (no := (-1 : Int32)) (cv := fun r => r) (fun t s p => zI (bst (opn t s) (fun d => hN t (t.ch ++ s.sk) (setV s d (some p))) (-2) (-1) 30).1) rfl (fun σ T t s hc p ex hp => ⟨?_, ?_⟩) h
  · subst ex
    have hP := hc.tb.P
    obtain ⟨τ, e1, e2, e3⟩ := c_trial hc
    have hc1 := hc.eqv e2.e
    rw [e1, pbd1_s]
    have hb := fun d => bst_b (o := opn t s) (f := fun d => hN t (t.ch ++ s.sk) (setV s d (some p))) (b0 := -2) (m0 := -1) (fun d => hN_le hc.tb _ _) (by omega) (by omega) d
    refine ⟨τ, ?_, e2⟩
    refine fx4_run (fun d => zI (bst (opn t s) (fun d => hN t (t.ch ++ s.sk) (setV s d (some p))) (-2) (-1) d).1) (fun d => zI (bst (opn t s) (fun d => hN t (t.ch ++ s.sk) (setV s d (some p))) (-2) (-1) d).2) (fun d => zI d) (fun _ => τ) 30 0 (by omega) rfl rfl rfl rfl (fun k => rfl) (fun d hd k => ?_)
    have hbd := hb d
    have hh := hN_le hc.tb (t.ch ++ s.sk) (setV s d (some p))
    rw [if_neg (by rw [show (30 : Int32) = zI 30 from rfl, zI_le (by omega) (by omega)]; omega), c_free hc1.cs hc1.ct hc.tb hc.sb hd, pbd1_s]
    unfold jn3
    simp only [pnm_e, jn1_e, show zI d + 1 = zI (d + 1 : Nat) from by rw [show (1 : Int32) = zI 1 from rfl, zI_add]; rfl]
    rw [bst]
    by_cases q : opn t s d = true
    · have ho := of_decide_eq_true q
      obtain ⟨e4, e5⟩ := c_trV e3 hc1.ct d (some p)
      have e6 : f_X9_countHeld (sI τ (32 + 1) d (zI p)) 32 = some (zI (hN t (t.ch ++ s.sk) (setV s d (some p)))) := c_hN e4 e5 hc.tb (hc.sb.setV (fun r hr => by have := Option.some.inj hr; omega))
      rw [q, if_neg (by decide), c_set (Or.inr (Or.inl rfl)) hd, pbd1_s, e6, pbd1_s, c_set (Or.inr (Or.inl rfl)) hd, pbd1_s, sI_back _ _ _ _ _ (by have := e3.vis d hd; rw [ho.2.2] at this; exact this)]
      simp (disch := omega) only [jn0_e, jn1_e, jn2_e, pnm_e, pbd1_s, pbd2_s, prfc_s, onm_sm, onm_nn, zI_lit, zI_nI, zI_add, zI_sub, zI_mul, zI_neg, zI_lt, zI_le, zI_eq, zI_nat, zI_div, zI_mod, ixd_in, dvd_ne]
      by_cases q2 : (bst (opn t s) (fun d => hN t (t.ch ++ s.sk) (setV s d (some p))) (-2) (-1) d).2 < (hN t (t.ch ++ s.sk) (setV s d (some p)) : Int)
      · rw [if_neg (by omega), if_neg (by omega), if_pos (And.intro trivial q2)]
      · have e7 : ¬ (True ∧ (bst (opn t s) (fun d => hN t (t.ch ++ s.sk) (setV s d (some p))) (-2) (-1) d).2 < (hN t (t.ch ++ s.sk) (setV s d (some p)) : Int)) := fun w => q2 w.2
        rw [if_pos (by omega), if_neg e7]
        by_cases q3 : (hN t (t.ch ++ s.sk) (setV s d (some p)) : Int) < (bst (opn t s) (fun d => hN t (t.ch ++ s.sk) (setV s d (some p))) (-2) (-1) d).2
        · rw [if_pos q3]
        · rw [if_neg q3, show (hN t (t.ch ++ s.sk) (setV s d (some p)) : Int) = (bst (opn t s) (fun d => hN t (t.ch ++ s.sk) (setV s d (some p))) (-2) (-1) d).2 from by omega]
    · rw [show opn t s d = false from by simpa using q, if_pos (by decide), if_neg (fun w => by cases w.1)]
  · subst ex
    have hP := hc.tb.P
    have a69 : aln 69 = 80 := rfl
    have hb := fun d => bst_b (o := opn t s) (f := fun d => hN t (t.ch ++ s.sk) (setV s d (some p))) (b0 := -2) (m0 := -1) (fun d => hN_le hc.tb _ _) (by omega) (by omega) d
    refine ⟨σ, ?_, Ev.rfl' σ⟩
    refine fx4_run (fun d => zI (bst (opn t s) (fun d => hN t (t.ch ++ s.sk) (setV s d (some p))) (-2) (-1) d).1) (fun d => zI (bst (opn t s) (fun d => hN t (t.ch ++ s.sk) (setV s d (some p))) (-2) (-1) d).2) (fun d => zI d) (fun _ => σ) 30 0 (by omega) rfl rfl rfl rfl (fun k => rfl) (fun d hd k => ?_)
    have hbd := hb d
    have hh := hN_le hc.tb (t.ch ++ s.sk) (setV s d (some p))
    rw [if_neg (by rw [show (30 : Int32) = zI 30 from rfl, zI_le (by omega) (by omega)]; omega), m_open hc.mr hc.mv hc.tb hc.sb hd, pbd1_s]
    unfold jn3
    simp only [pnm_e, jn1_e, show zI d + 1 = zI (d + 1 : Nat) from by rw [show (1 : Int32) = zI 1 from rfl, zI_add]; rfl]
    rw [bst]
    by_cases q : opn t s d = true
    · have ho := of_decide_eq_true q
      have hM : MC (sI σ 69 d (zI (oM (some p)))) t (setV s d (some p)) := hc.mc.setV hd (fun r hr => by have := Option.some.inj hr; omega)
      rw [q, if_neg (by decide), a69, ixd_in (by omega), zI_nat (by omega), show (d : Int).toNat = d from by omega, show zI p + 1 = zI (oM (some p)) from by rw [show (1 : Int32) = zI 1 from rfl, zI_add]; rfl, m_hN hM, ixd_in (by omega), sI_back _ _ _ _ _ (by have := hc.mv.vis d hd; rw [ho.2.2, Nat.zero_add] at this; exact this)]
      rw [setV_sk]
      simp (disch := omega) only [jn0_e, jn1_e, jn2_e, pnm_e, pbd1_s, pbd2_s, prfc_s, onm_sm, onm_nn, zI_lit, zI_nI, zI_add, zI_sub, zI_mul, zI_neg, zI_lt, zI_le, zI_eq, zI_nat, zI_div, zI_mod, ixd_in, dvd_ne]
      by_cases q2 : (bst (opn t s) (fun d => hN t (t.ch ++ s.sk) (setV s d (some p))) (-2) (-1) d).2 < (hN t (t.ch ++ s.sk) (setV s d (some p)) : Int)
      · rw [if_pos q2, if_pos (And.intro trivial q2)]
      · have e7 : ¬ (True ∧ (bst (opn t s) (fun d => hN t (t.ch ++ s.sk) (setV s d (some p))) (-2) (-1) d).2 < (hN t (t.ch ++ s.sk) (setV s d (some p)) : Int)) := fun w => q2 w.2
        rw [if_neg q2, if_neg e7]
    · rw [show opn t s d = false from by simpa using q, if_pos (by decide), if_neg (fun w => by cases w.1)]
def idl (t : TT) (E : List (Nat × Nat × Nat × Nat)) (s : SS) (d : Nat) : Bool := awa s d && decide (hN t E s ≤ hN t E (setV s d none))
theorem bits_0 {f : Nat → Bool} {n : Nat} (h : ∀ i, i < n → f i = false) : bits f n = 0 := by
  induction n with
  | zero => rfl
  | succ n ih => rw [bits, ih (fun i hi => h i (by omega)), h n (by omega)]; simp
theorem bit_or (f : Nat → Bool) {i : Nat} (h : i < 31) (v : Int32) (hv : v = if f i = true then zI 1 <<< (zI i &&& zI 31) else 0) : zI (bits f i) ||| v = zI (bits f (i + 1)) := by
  rw [hv, ← bits_step f h]
  by_cases e : f i = true
  · rw [if_pos e, if_pos e, one_shl h]
  · rw [if_neg e, if_neg e]; rfl
theorem rel_idle (σ : Mem) (h : RLq σ) : ∃ r σ1 σ2, f_X12_idle σ = some (r, σ1) ∧ f_X13_idle σ1 = some (r, σ2) ∧ RLq σ2 := by
  unfold f_X12_idle f_X13_idle
  refine rel_tE (fun t s => zI (bits (idl t (t.ch ++ s.sk) s) 30)) (fun σ T t s hc hp => ⟨?_, ?_⟩) h
  · have hP := hc.tb.P
    obtain ⟨τ, e1, e2, e3⟩ := c_trial hc
    have hc1 := hc.eqv e2.e
    have hn := hN_le hc.tb (t.ch ++ s.sk) s
    rw [e1, pbd1_s, c_hN hc1.cs hc1.ct hc.tb hc.sb, pbd1_s]
    refine ⟨τ, ?_, e2⟩
    refine fx3_run (fun d => zI (bits (idl t (t.ch ++ s.sk) s) d)) (fun d => zI d) (fun _ => τ) 30 0 (by omega) rfl rfl rfl (fun k => rfl) (fun d hd k => ?_)
    have hh := hN_le hc.tb (t.ch ++ s.sk) (setV s d none)
    rw [if_neg (by rw [show (30 : Int32) = zI 30 from rfl, zI_le (by omega) (by omega)]; omega), c_await hc1.cs hc.tb hc.sb hd, pbd1_s]
    unfold jn2
    simp only [pnm_e, jn1_e, show zI d + 1 = zI (d + 1 : Nat) from by rw [show (1 : Int32) = zI 1 from rfl, zI_add]; rfl]
    by_cases q : awa s d = true
    · obtain ⟨e4, e5⟩ := c_trV e3 hc1.ct d none
      have e6 : f_X9_countHeld (sI τ (32 + 1) d (-2)) 32 = some (zI (hN t (t.ch ++ s.sk) (setV s d none))) := c_hN e4 e5 hc.tb (hc.sb.setV (fun r hr => by cases hr))
      have e7 : f_X9_visitor (sI τ (32 + 1) d (-2)) 28 (zI d) = some (zI (oC (s.vis d))) := c_visitor (hc1.cs.of (fun a h1 h2 => sI_o _ _ _ _ (by omega)) rfl) hd
      rw [q, if_neg (by decide), c_set (Or.inr (Or.inl rfl)) hd, pbd1_s, e6, pbd1_s, e7]
      simp only [pbd1_s]
      rw [c_set (Or.inr (Or.inl rfl)) hd]
      simp only [pbd1_s]
      rw [sI_back _ _ _ _ _ (e3.vis d hd)]
      have e8 : idl t (t.ch ++ s.sk) s d = decide (hN t (t.ch ++ s.sk) s ≤ hN t (t.ch ++ s.sk) (setV s d none)) := by rw [idl, q]; rfl
      by_cases q2 : hN t (t.ch ++ s.sk) s ≤ hN t (t.ch ++ s.sk) (setV s d none)
      · rw [if_neg (by rw [zI_lt (by omega) (by omega)]; omega), bit_or _ (by omega) _ (by rw [e8, if_pos (decide_eq_true q2)]; rfl)]
      · rw [if_pos (by rw [zI_lt (by omega) (by omega)]; omega), bit_or _ (by omega) _ (by rw [e8, if_neg (by simpa using q2)])]
    · have q : awa s d = false := by simpa using q
      rw [q, if_pos (by decide)]
      rw [show bits (idl t (t.ch ++ s.sk) s) (d + 1) = bits (idl t (t.ch ++ s.sk) s) d from by rw [bits, idl, q]; simp]
  · have hP := hc.tb.P
    have a69 : aln 69 = 80 := rfl
    have hn := hN_le hc.tb (t.ch ++ s.sk) s
    have hy := hc.mv.day
    have hday := hc.sb.day
    rw [Nat.zero_add] at hy
    rw [m_hN hc.mc, a69, show (79 : Int32) = zI 79 from rfl, ixd_in (by omega), show (zI 79).toNatClampNeg = 79 from rfl, hy, pnm_e]
    refine ⟨σ, ?_, Ev.rfl' σ⟩
    refine fx3_run (fun i => zI (bits (idl t (t.ch ++ s.sk) s) (s.day + i))) (fun i => zI (s.day + i : Nat)) (fun _ => σ) (30 - s.day) 0 (by omega) (by rw [bits_0]; rfl; intro i hi; rw [idl, show awa s i = false from decide_eq_false (by omega)]; rfl) rfl rfl (fun k => ?_) (fun i hi k => ?_)
    · rw [show s.day + (30 - s.day) = 30 from by omega, if_pos (by decide)]
    obtain ⟨d, hd⟩ : ∃ d, d = s.day + i := ⟨_, rfl⟩
    rw [← hd, show s.day + (i + 1) = d + 1 from by omega]
    have hd3 : d < 30 := by omega
    have hh := hN_le hc.tb (t.ch ++ s.sk) (setV s d none)
    have hv := hc.mv.vis d hd3
    rw [Nat.zero_add] at hv
    have hvb := oM_b (sb_5 hc.tb hc.sb d)
    rw [if_neg (by rw [show (30 : Int32) = zI 30 from rfl, zI_le (by omega) (by omega)]; omega), ixd_in (by omega), zI_nat (by omega), show (d : Int).toNat = d from by omega, hv, pnm_e]
    unfold jn2
    simp only [pnm_e, jn1_e, show zI d + 1 = zI (d + 1 : Nat) from by rw [show (1 : Int32) = zI 1 from rfl, zI_add]; rfl]
    by_cases q : s.vis d = none
    · rw [if_pos (by rw [q]; rfl)]
      rw [show bits (idl t (t.ch ++ s.sk) s) (d + 1) = bits (idl t (t.ch ++ s.sk) s) d from by rw [bits, idl, show awa s d = false from decide_eq_false (fun w => w.2 q)]; simp]
    · have hM : MC (sI σ 69 d (zI (oM none))) t (setV s d none) := hc.mc.setV hd3 (fun r hr => by cases hr)
      rw [if_neg (by rw [show (0 : Int32) = zI 0 from rfl, zI_eq (by omega) (by omega)]; exact fun w => q (oM_zero.1 w)), ixd_in (by omega)]
      refine (m_hN hM _).trans ?_
      rw [setV_sk]
      simp only [ixd_in (show 0 ≤ (d : Int) ∧ (d : Int) < (80 : Nat) ∧ 80 ≤ 2000000 by omega)]
      rw [show (0 : Int32) = zI (oM none) from rfl, sI_back _ _ _ _ _ hv]
      have e8 : idl t (t.ch ++ s.sk) s d = decide (hN t (t.ch ++ s.sk) s ≤ hN t (t.ch ++ s.sk) (setV s d none)) := by rw [idl, show awa s d = true from decide_eq_true ⟨by omega, q⟩]; rfl
      by_cases q2 : hN t (t.ch ++ s.sk) s ≤ hN t (t.ch ++ s.sk) (setV s d none)
      · rw [if_neg (by rw [zI_lt (by omega) (by omega)]; omega), bit_or _ (by omega) _ (by rw [e8, if_pos (decide_eq_true q2)]; rfl)]
      · rw [if_pos (by rw [zI_lt (by omega) (by omega)]; omega), bit_or _ (by omega) _ (by rw [e8, if_neg (by simpa using q2)]; rfl)]
def swV (s : SS) (d e : Nat) : SS := setV (setV s d (s.vis e)) e (s.vis d)
theorem SB.swV {t : TT} {s : SS} (h : SB t s) (d e : Nat) : SB t (swV s d e) := (h.setV (fun p hp => h.vis e p hp)).setV (fun p hp => h.vis d p hp)
theorem sI_back2 (σ : Mem) (a : Nat) {j i : Nat} (hne : j ≠ i) (x y v w : Int32) (h1 : σ.1 a j = v) (h2 : σ.1 a i = w) : sI (sI (sI (sI σ a j x) a i y) a j v) a i w = σ := by
  refine Prod.ext (funext fun b => ?_) rfl
  by_cases q : b = a
  · subst q; rw [sI_at, sI_at, sI_at, sI_at]; funext k; unfold upd
    by_cases q : k = i
    · rw [if_pos q, q, h2]
    · rw [if_neg q]
      by_cases q2 : k = j
      · rw [if_pos q2, q2, h1]
      · rw [if_neg q2, if_neg q, if_neg q2]
  · rw [sI_o _ _ _ _ q, sI_o _ _ _ _ q, sI_o _ _ _ _ q, sI_o _ _ _ _ q]
theorem c_swap {τ : Mem} {T : Nat} {t : TT} {s : SS} (hc : RC τ T t s) (h : CS τ 32 T t (t.ch ++ s.sk) s) {d e : Nat} (hd : d < 30) (he : e < 30) (hne : d ≠ e) : f_X12_heldBySwap τ (zI d) (zI e) = some (zI (hN t (t.ch ++ s.sk) (swV s d e)), τ) := by
  obtain ⟨e4, e5⟩ := c_trV h hc.ct d (s.vis e)
  obtain ⟨e6, e7⟩ := c_trV e4 e5 e (s.vis d)
  have hs : ∀ (σ : Mem), (∀ a, 28 ≤ a → a ≤ 31 → σ.1 a = τ.1 a) → σ.2 = τ.2 → ∀ z : Nat, z < 30 → f_X9_visitor σ 28 (zI z) = some (zI (oC (s.vis z))) := fun σ h1 h2 z hz => c_visitor (hc.cs.of (fun a h3 h4 => h1 a h3 h4) (by rw [h2])) hz
  have e8 : f_X9_countHeld (sI (sI τ (32 + 1) d (zI (oC (s.vis e)))) (32 + 1) e (zI (oC (s.vis d)))) 32 = some (zI (hN t (t.ch ++ s.sk) (swV s d e))) := c_hN e6 e7 hc.tb (hc.sb.swV d e)
  have k32 : stp 32 := Or.inr (Or.inl rfl)
  unfold f_X12_heldBySwap
  rw [hs τ (fun a h1 h2 => rfl) rfl e he, pbd1_s, c_set k32 hd, pbd1_s, hs (sI τ (32 + 1) d (zI (oC (s.vis e)))) (fun a h1 h2 => sI_o _ _ _ _ (by omega)) rfl d hd, pbd1_s, c_set k32 he, pbd1_s, e8, pbd1_s, hs (sI (sI τ (32 + 1) d (zI (oC (s.vis e)))) (32 + 1) e (zI (oC (s.vis d)))) (fun a h1 h2 => by rw [sI_o _ _ _ _ (by omega), sI_o _ _ _ _ (by omega)]) rfl d hd, pbd1_s, c_set k32 hd, pbd1_s, hs (sI (sI (sI τ (32 + 1) d (zI (oC (s.vis e)))) (32 + 1) e (zI (oC (s.vis d)))) (32 + 1) d (zI (oC (s.vis d)))) (fun a h1 h2 => by rw [sI_o _ _ _ _ (by omega), sI_o _ _ _ _ (by omega), sI_o _ _ _ _ (by omega)]) rfl e he, pbd1_s, c_set k32 he, pbd1_s, sI_back2 _ _ hne _ _ _ _ (h.vis d hd) (h.vis e he)]
theorem m_swap {σ : Mem} {t : TT} {s : SS} (hc : MC σ t s) {d e : Nat} (hd : d < 30) (he : e < 30) (hne : d ≠ e) : f_X13_heldBySwap σ (zI d) (zI e) = some (zI (hN t (t.ch ++ s.sk) (swV s d e)), σ) := by
  have a69 : aln 69 = 80 := rfl
  have h1 : MC (sI σ 69 d (zI (oM (s.vis e)))) t (setV s d (s.vis e)) := hc.setV hd (fun p hp => hc.sb.vis e p hp)
  have h2 : MC (sI (sI σ 69 d (zI (oM (s.vis e)))) 69 e (zI (oM (s.vis d)))) t (swV s d e) := h1.setV he (fun p hp => hc.sb.vis d p hp)
  have v1 := hc.mv.vis d hd
  have v2 := hc.mv.vis e he
  rw [Nat.zero_add] at v1 v2
  have nt : ∀ z : Nat, z < 30 → (zI z).toNatClampNeg = z := fun z hz => by rw [zI_nat (by omega)]; omega
  unfold f_X13_heldBySwap
  rw [a69]
  simp only [ixd_in (show 0 ≤ (d : Int) ∧ (d : Int) < (80 : Nat) ∧ 80 ≤ 2000000 by omega), ixd_in (show 0 ≤ (e : Int) ∧ (e : Int) < (80 : Nat) ∧ 80 ≤ 2000000 by omega), pnm_e, nt d hd, nt e he, v1, v2]
  refine (m_hN h2 _).trans ?_
  rw [show (swV s d e).sk = s.sk from rfl, show (sI (sI σ 69 d (zI (oM (s.vis e)))) 69 e (zI (oM (s.vis d)))).1 69 d = zI (oM (s.vis e)) from by rw [sI_1, if_neg (by omega), sI_1, if_pos ⟨rfl, rfl⟩]]
  have : sI (sI (sI (sI σ 69 d (zI (oM (s.vis e)))) 69 e (zI (oM (s.vis d)))) 69 e (zI (oM (s.vis e)))) 69 d (zI (oM (s.vis d))) = σ := by
    refine Prod.ext (funext fun b => ?_) rfl
    by_cases q : b = 69
    · subst q; rw [sI_at, sI_at, sI_at, sI_at]; funext k; unfold upd
      by_cases q : k = d
      · rw [if_pos q, q, v1]
      · rw [if_neg q]
        by_cases q2 : k = e
        · rw [if_pos q2, q2, v2]
        · rw [if_neg q2, if_neg q2, if_neg q]
    · rw [sI_o _ _ _ _ q, sI_o _ _ _ _ q, sI_o _ _ _ _ q, sI_o _ _ _ _ q]
  rw [this]
theorem tr3_max {Q D1 D2 : Prop} [Decidable Q] [Decidable D1] [Decidable D2] : (if tr3 Q D1 < tr3 Q D2 then tr3 Q D2 else tr3 Q D1) = tr3 Q (D1 ∧ D2) := by
  unfold tr3
  by_cases q : Q
  · simp only [if_pos q]
    by_cases q1 : D1
    · by_cases q2 : D2
      · have w : (if D1 ∧ D2 then (0 : Int32) else 2) = 0 := if_pos ⟨q1, q2⟩
        rw [w, if_pos q1, if_pos q2]; rfl
      · have w : (if D1 ∧ D2 then (0 : Int32) else 2) = 2 := if_neg (fun x => q2 x.2)
        rw [w, if_pos q1, if_neg q2]; rfl
    · by_cases q2 : D2
      · have w : (if D1 ∧ D2 then (0 : Int32) else 2) = 2 := if_neg (fun x => q1 x.1)
        rw [w, if_neg q1, if_pos q2]; rfl
      · have w : (if D1 ∧ D2 then (0 : Int32) else 2) = 2 := if_neg (fun x => q1 x.1)
        rw [w, if_neg q1, if_neg q2]; rfl
  · simp only [if_neg q]; rfl
theorem rel_swapped (σ : Mem) (h : RLq σ) (x y : Int32) : ∃ r σ1 σ2, f_X12_swapped σ x y = some (r, σ1) ∧ f_X13_swapped σ1 x y = some (r, σ2) ∧ RLq σ2 := by
  obtain ⟨T, t, s, hc, ht, hp⟩ := h
  have hP := hc.tb.P
  have ha := zI_rng x
  have hb := zI_rng y
  rw [zI_all x, zI_all y]
  generalize x.toInt = d at ha
  generalize y.toInt = e at hb
  unfold f_X12_swapped f_X13_swapped f_X12_ofSwap
  rw [c_ofDay hc _ ha, pbd1_s, c_ofDay hc _ hb, pbd1_s, pnm_e, tr3_max]
  simp only [m_good, pbd1_s, jn0_e]
  by_cases q : 0 < t.P
  · have hz : ∀ τ, MC τ t s → ¬ τ.1 64 14 = 0 := fun τ hm => by rw [hm.has, decide_eq_true q]; decide
    by_cases q2 : (0 ≤ d ∧ d < 30) ∧ 0 ≤ e ∧ e < 30
    · obtain ⟨d, rfl⟩ : ∃ i : Nat, d = i := ⟨d.toNat, by omega⟩
      obtain ⟨e, rfl⟩ : ∃ i : Nat, e = i := ⟨e.toNat, by omega⟩
      rw [tr3_0 q q2, if_pos rfl, c_await hc.cs hc.tb hc.sb (d := d) (by omega), c_await hc.cs hc.tb hc.sb (d := e) (by omega)]
      by_cases q3 : d ≠ e ∧ awa s d = true ∧ awa s e = true
      · have k1 := RC_c hc 0
        obtain ⟨τ, w1, w2, w3⟩ := c_trial k1
        have hc2 := RC_cE hc 0 w2
        rw [if_neg (by rw [zI_eq (by omega) (by omega)]; omega), pbd1_s, q3.2.1, if_neg (by decide), pbd1_s, q3.2.2, if_neg (by decide), pbd1_s, refu_0, pbd2_s, if_pos rfl, w1, pbd1_s, c_swap (k1.eqv w2.e) w3 (by omega) (by omega) q3.1, pbd2_s]
        refine ⟨_, _, gd τ, rfl, ?_, RL_yesE hc w2 (Ev.rfl' _)⟩
        rw [if_neg (hz _ hc2.mc), m_isDay _ ha, pbd1_s, decide_eq_true q2.1, if_neg (by decide), m_isDay _ hb, pbd1_s, decide_eq_true q2.2, if_neg (by decide), m_visit hc2.mv hc.tb hc.sb (d := d) (by omega), pbd1_s, q3.2.1, if_neg (by decide), m_visit hc2.mv hc.tb hc.sb (d := e) (by omega), pbd1_s, q3.2.2, if_neg (by decide), if_neg (by rw [zI_eq (by omega) (by omega)]; omega), m_swap hc2.mc (by omega) (by omega) q3.1, pbd2_s]
      · have hc2 := RC_m hc 5
        have e1 : (if zI d = zI e then some (5 : Int32) else bd1 (some (bI (awa s d))) fun r_5 => if r_5 = 0 then some 5 else bd1 (some (bI (awa s e))) fun r_6 => if r_6 = 0 then some 5 else some 0) = some 5 := by
          by_cases w1 : d = e
          · rw [if_pos (by rw [w1])]
          · rw [if_neg (by rw [zI_eq (by omega) (by omega)]; omega), pbd1_s]
            cases w2 : awa s d with
            | false => rfl
            | true =>
              rw [if_neg (by decide), pbd1_s]
              cases w3 : awa s e with
              | false => rfl
              | true => exact absurd ⟨w1, w2, w3⟩ q3
        rw [e1, pbd1_s, show f_X12_refused σ 5 = some (1, sI σ 0 13 5) from rfl, pbd2_s, if_neg (by decide)]
        refine ⟨_, _, _, rfl, ?_, RL_no hc 5 (by decide)⟩
        rw [if_neg (hz _ hc2.mc), m_isDay _ ha, pbd1_s, decide_eq_true q2.1, if_neg (by decide), m_isDay _ hb, pbd1_s, decide_eq_true q2.2, if_neg (by decide), m_visit hc2.mv hc.tb hc.sb (d := d) (by omega), pbd1_s, m_visit hc2.mv hc.tb hc.sb (d := e) (by omega), pbd1_s, m_no, pbd2_s]
        cases w2 : awa s d with
        | false => rfl
        | true =>
          rw [if_neg (by decide)]
          cases w3 : awa s e with
          | false => rfl
          | true =>
            rw [if_neg (by decide)]
            by_cases w1 : d = e
            · rw [if_pos (by rw [w1])]
            · exact absurd ⟨w1, w2, w3⟩ q3
    · rw [tr3_2 q q2, if_neg (by decide), pbd1_s, refu_2, pbd2_s, if_neg (by decide)]
      have hc2 := RC_m hc 2
      refine ⟨_, _, _, rfl, ?_, RL_no hc 2 (by decide)⟩
      rw [if_neg (hz _ hc2.mc), m_isDay _ ha, pbd1_s, m_isDay _ hb, pbd1_s, m_no, pbd2_s]
      by_cases w : 0 ≤ d ∧ d < 30
      · rw [decide_eq_true w, if_neg (by decide), decide_eq_false (fun z => q2 ⟨w, z⟩), if_pos (by decide)]
      · rw [decide_eq_false w, if_pos (by decide)]
  · rw [tr3_1 q, if_neg (by decide), pbd1_s, refu_1, pbd2_s, if_neg (by decide)]
    have hc2 := RC_m hc 1
    refine ⟨_, _, _, rfl, ?_, RL_no hc 1 (by decide)⟩
    rw [if_pos (by rw [hc2.has, decide_eq_false q]; rfl), m_no]
    rfl
/-- the best swap of day d with one behind it, of those up to d + n, from (b, m) on -/
def bs1 (t : TT) (E : List (Nat × Nat × Nat × Nat)) (s : SS) (d : Nat) (b m : Int) : Nat → Int × Int
  | 0 => (b, m)
  | n + 1 => if awa s (d + 1 + n) = true ∧ (bs1 t E s d b m n).2 < hN t E (swV s d (d + 1 + n)) then (((100 * d + (d + 1 + n) : Nat) : Int), (hN t E (swV s d (d + 1 + n)) : Int)) else bs1 t E s d b m n
def bs2 (t : TT) (E : List (Nat × Nat × Nat × Nat)) (s : SS) : Nat → Int × Int
  | 0 => (-2, (hN t E s : Int))
  | d + 1 => if awa s d = true then bs1 t E s d (bs2 t E s d).1 (bs2 t E s d).2 (29 - d) else bs2 t E s d
def okb (x : Int × Int) : Prop := -2 ≤ x.1 ∧ x.1 ≤ 6000 ∧ 0 ≤ x.2 ∧ x.2 ≤ 5
theorem bs1_b {t : TT} (tb : TB t) (E : List (Nat × Nat × Nat × Nat)) (s : SS) {d : Nat} (hd : d < 30) {b m : Int} (h : okb (b, m)) : ∀ n, n ≤ 29 → okb (bs1 t E s d b m n)
  | 0, _ => h
  | n + 1, hn => by
    have ih := bs1_b tb E s hd h n (by omega)
    have := hN_le tb E (swV s d (d + 1 + n))
    rw [bs1]
    split
    · unfold okb; dsimp only; omega
    · exact ih
theorem bs2_b {t : TT} (tb : TB t) (E : List (Nat × Nat × Nat × Nat)) (s : SS) : ∀ d, d ≤ 30 → okb (bs2 t E s d)
  | 0, _ => by have := hN_le tb E s; rw [bs2]; unfold okb; dsimp only; omega
  | d + 1, hd => by
    have ih := bs2_b tb E s d (by omega)
    rw [bs2]
    split
    · exact bs1_b tb E s (by omega) ih _ (by omega)
    · exact ih
theorem rel_bestSwap (σ : Mem) (h : RLq σ) : ∃ r σ1 σ2, f_X12_bestSwap σ = some (r, σ1) ∧ f_X13_bestSwap σ1 = some (r, σ2) ∧ RLq σ2 := by
  unfold f_X12_bestSwap f_X13_bestSwap
  refine rel_tE (fun t s => zI (bs2 t (t.ch ++ s.sk) s 30).1) (fun σ T t s hc hp => ⟨?_, ?_⟩) h
  · have hP := hc.tb.P
    obtain ⟨τ, e1, e2, e3⟩ := c_trial hc
    have hc1 := hc.eqv e2.e
    rw [e1, pbd1_s, c_hN hc1.cs hc1.ct hc.tb hc.sb, pbd1_s]
    refine ⟨τ, ?_, e2⟩
    refine fx4_run (fun d => zI (bs2 t (t.ch ++ s.sk) s d).1) (fun d => zI (bs2 t (t.ch ++ s.sk) s d).2) (fun d => zI d) (fun _ => τ) 30 0 (by omega) rfl rfl rfl rfl (fun k => rfl) (fun d hd k => ?_)
    have hb2 := bs2_b hc.tb (t.ch ++ s.sk) s d (by omega)
    rw [if_neg (by rw [show (30 : Int32) = zI 30 from rfl, zI_le (by omega) (by omega)]; omega)]
    simp only [pnm_e, jn0_e, show zI d + 1 = zI (d + 1 : Nat) from by rw [show (1 : Int32) = zI 1 from rfl, zI_add]; rfl]
    rw [bs2]
    by_cases q : awa s d = true
    · rw [if_pos q]
      refine fx4_run (fun i => zI (bs1 t (t.ch ++ s.sk) s d (bs2 t (t.ch ++ s.sk) s d).1 (bs2 t (t.ch ++ s.sk) s d).2 i).1) (fun i => zI (bs1 t (t.ch ++ s.sk) s d (bs2 t (t.ch ++ s.sk) s d).1 (bs2 t (t.ch ++ s.sk) s d).2 i).2) (fun i => zI (d + 1 + i : Nat)) (fun _ => τ) (29 - d) 0 (by omega) rfl rfl rfl rfl (fun k2 => ?_) (fun i hi k2 => ?_)
      · rw [if_pos (by rw [show (30 : Int32) = zI 30 from rfl, zI_le (by omega) (by omega)]; omega)]
      · have hb := bs1_b hc.tb (t.ch ++ s.sk) s (d := d) (by omega) (b := (bs2 t (t.ch ++ s.sk) s d).1) (m := (bs2 t (t.ch ++ s.sk) s d).2) hb2 i (by omega)
        have hh := hN_le hc.tb (t.ch ++ s.sk) (swV s d (d + 1 + i))
        rw [if_neg (by rw [show (30 : Int32) = zI 30 from rfl, zI_le (by omega) (by omega)]; omega), c_await hc1.cs hc.tb hc.sb hd, pbd1_s, q, if_neg (by decide), c_await hc1.cs hc.tb hc.sb (by omega), pbd1_s]
        unfold jn2
        simp only [pnm_e, jn1_e, show zI (d + 1 + i : Nat) + 1 = zI (d + 1 + (i + 1) : Nat) from by rw [show (1 : Int32) = zI 1 from rfl, zI_add]; rfl]
        rw [bs1]
        unfold okb at hb
        by_cases q1 : awa s (d + 1 + i) = true
        · rw [q1, if_neg (by decide), c_swap hc1 e3 hd (by omega) (by omega), pbd2_s]
          by_cases q2 : (bs1 t (t.ch ++ s.sk) s d (bs2 t (t.ch ++ s.sk) s d).1 (bs2 t (t.ch ++ s.sk) s d).2 i).2 < (hN t (t.ch ++ s.sk) (swV s d (d + 1 + i)) : Int)
          · have e7 : true = true ∧ (bs1 t (t.ch ++ s.sk) s d (bs2 t (t.ch ++ s.sk) s d).1 (bs2 t (t.ch ++ s.sk) s d).2 i).2 < (hN t (t.ch ++ s.sk) (swV s d (d + 1 + i)) : Int) := ⟨rfl, q2⟩
            rw [if_pos e7]
            rw [if_neg (by rw [zI_le (by omega) (by omega)]; omega), if_neg (by rw [zI_lt (by omega) (by omega)]; omega), show (100 : Int32) * zI d + zI (d + 1 + i : Nat) = zI (100 * d + (d + 1 + i) : Nat) from by rw [show (100 : Int32) = zI 100 from rfl, zI_mul, zI_add]; congr 1]
          · have e7 : ¬ (true = true ∧ (bs1 t (t.ch ++ s.sk) s d (bs2 t (t.ch ++ s.sk) s d).1 (bs2 t (t.ch ++ s.sk) s d).2 i).2 < (hN t (t.ch ++ s.sk) (swV s d (d + 1 + i)) : Int)) := fun w => q2 w.2
            rw [if_neg e7]
            rw [if_pos (by rw [zI_le (by omega) (by omega)]; omega)]
            by_cases q3 : (hN t (t.ch ++ s.sk) (swV s d (d + 1 + i)) : Int) < (bs1 t (t.ch ++ s.sk) s d (bs2 t (t.ch ++ s.sk) s d).1 (bs2 t (t.ch ++ s.sk) s d).2 i).2
            · rw [if_pos (by rw [zI_lt (by omega) (by omega)]; omega)]
            · rw [if_neg (by rw [zI_lt (by omega) (by omega)]; omega), show (hN t (t.ch ++ s.sk) (swV s d (d + 1 + i)) : Int) = (bs1 t (t.ch ++ s.sk) s d (bs2 t (t.ch ++ s.sk) s d).1 (bs2 t (t.ch ++ s.sk) s d).2 i).2 from by omega]
        · have e7 : ¬ (awa s (d + 1 + i) = true ∧ (bs1 t (t.ch ++ s.sk) s d (bs2 t (t.ch ++ s.sk) s d).1 (bs2 t (t.ch ++ s.sk) s d).2 i).2 < (hN t (t.ch ++ s.sk) (swV s d (d + 1 + i)) : Int)) := fun w => q1 w.1
          rw [if_neg e7]
          rw [show awa s (d + 1 + i) = false from by simpa using q1, if_pos (by decide), show (0 : Int32) = zI 0 from rfl]
          rw [if_pos (by rw [zI_le (by omega) (by omega)]; omega)]
          by_cases q3 : (0 : Int) < (bs1 t (t.ch ++ s.sk) s d (bs2 t (t.ch ++ s.sk) s d).1 (bs2 t (t.ch ++ s.sk) s d).2 i).2
          · rw [if_pos (by rw [zI_lt (by omega) (by omega)]; omega)]
          · rw [if_neg (by rw [zI_lt (by omega) (by omega)]; omega), show (bs1 t (t.ch ++ s.sk) s d (bs2 t (t.ch ++ s.sk) s d).1 (bs2 t (t.ch ++ s.sk) s d).2 i).2 = 0 from by omega]
    · rw [if_neg q]
      refine fx4_run (fun _ => zI (bs2 t (t.ch ++ s.sk) s d).1) (fun _ => zI (bs2 t (t.ch ++ s.sk) s d).2) (fun i => zI (d + 1 + i : Nat)) (fun _ => τ) 0 0 (by omega) rfl rfl rfl rfl (fun k2 => ?_) (fun i hi k2 => absurd hi (by omega))
      rw [c_await hc1.cs hc.tb hc.sb hd, pbd1_s, show awa s d = false from by simpa using q, if_pos (show bI false = 0 from rfl)]
      rw [ite_self]
  · have hP := hc.tb.P
    have a69 : aln 69 = 80 := rfl
    have hy := hc.mv.day
    have hday := hc.sb.day
    rw [Nat.zero_add] at hy
    rw [m_hN hc.mc, a69, show (79 : Int32) = zI 79 from rfl, ixd_in (by omega), show (zI 79).toNatClampNeg = 79 from rfl, hy, pnm_e]
    refine ⟨σ, ?_, Ev.rfl' σ⟩
    have h0 : ∀ d, d ≤ s.day → bs2 t (t.ch ++ s.sk) s d = (-2, (hN t (t.ch ++ s.sk) s : Int)) := by
      intro d
      induction d with
      | zero => intro _; rfl
      | succ d ih => intro hd; rw [bs2, if_neg (by rw [show awa s d = false from decide_eq_false (by omega)]; decide), ih (by omega)]
    refine fx4_run (fun i => zI (bs2 t (t.ch ++ s.sk) s (s.day + i)).1) (fun i => zI (bs2 t (t.ch ++ s.sk) s (s.day + i)).2) (fun i => zI (s.day + i : Nat)) (fun _ => σ) (30 - s.day) 0 (by omega) (by rw [Nat.add_zero, h0 _ (Nat.le_refl _)]; rfl) (by rw [Nat.add_zero, h0 _ (Nat.le_refl _)]) rfl rfl (fun k => ?_) (fun i hi k => ?_)
    · rw [show s.day + (30 - s.day) = 30 from by omega, if_pos (by decide)]
    obtain ⟨d, hd⟩ : ∃ d, d = s.day + i := ⟨_, rfl⟩
    rw [← hd, show s.day + (i + 1) = d + 1 from by omega]
    have hd3 : d < 30 := by omega
    have hb2 := bs2_b hc.tb (t.ch ++ s.sk) s d (by omega)
    rw [if_neg (by rw [show (30 : Int32) = zI 30 from rfl, zI_le (by omega) (by omega)]; omega)]
    simp only [pnm_e, jn0_e, show zI d + 1 = zI (d + 1 : Nat) from by rw [show (1 : Int32) = zI 1 from rfl, zI_add]; rfl]
    rw [bs2]
    by_cases q : awa s d = true
    · rw [if_pos q]
      refine fx4_run (fun i => zI (bs1 t (t.ch ++ s.sk) s d (bs2 t (t.ch ++ s.sk) s d).1 (bs2 t (t.ch ++ s.sk) s d).2 i).1) (fun i => zI (bs1 t (t.ch ++ s.sk) s d (bs2 t (t.ch ++ s.sk) s d).1 (bs2 t (t.ch ++ s.sk) s d).2 i).2) (fun i => zI (d + 1 + i : Nat)) (fun _ => σ) (29 - d) 0 (by omega) rfl rfl rfl rfl (fun k2 => ?_) (fun i hi k2 => ?_)
      · rw [if_pos (by rw [show (30 : Int32) = zI 30 from rfl, zI_le (by omega) (by omega)]; omega)]
      · have hb := bs1_b hc.tb (t.ch ++ s.sk) s (d := d) (by omega) (b := (bs2 t (t.ch ++ s.sk) s d).1) (m := (bs2 t (t.ch ++ s.sk) s d).2) hb2 i (by omega)
        have hh := hN_le hc.tb (t.ch ++ s.sk) (swV s d (d + 1 + i))
        rw [if_neg (by rw [show (30 : Int32) = zI 30 from rfl, zI_le (by omega) (by omega)]; omega), m_visit hc.mv hc.tb hc.sb hd3, pbd1_s, q]
        unfold jn3
        simp only [pnm_e, jn1_e, show zI (d + 1 + i : Nat) + 1 = zI (d + 1 + (i + 1) : Nat) from by rw [show (1 : Int32) = zI 1 from rfl, zI_add]; rfl]
        rw [if_neg (by decide), m_visit hc.mv hc.tb hc.sb (by omega), pbd1_s, bs1]
        unfold okb at hb
        by_cases q1 : awa s (d + 1 + i) = true
        · rw [q1, if_neg (by decide), m_swap hc.mc hd3 (by omega) (by omega), pbd2_s]
          by_cases q2 : (bs1 t (t.ch ++ s.sk) s d (bs2 t (t.ch ++ s.sk) s d).1 (bs2 t (t.ch ++ s.sk) s d).2 i).2 < (hN t (t.ch ++ s.sk) (swV s d (d + 1 + i)) : Int)
          · have e7 : true = true ∧ (bs1 t (t.ch ++ s.sk) s d (bs2 t (t.ch ++ s.sk) s d).1 (bs2 t (t.ch ++ s.sk) s d).2 i).2 < (hN t (t.ch ++ s.sk) (swV s d (d + 1 + i)) : Int) := ⟨rfl, q2⟩
            rw [if_pos e7]
            rw [if_pos (by rw [zI_lt (by omega) (by omega)]; omega), show (100 : Int32) * zI d + zI (d + 1 + i : Nat) = zI (100 * d + (d + 1 + i) : Nat) from by rw [show (100 : Int32) = zI 100 from rfl, zI_mul, zI_add]; congr 1]
          · have e7 : ¬ (true = true ∧ (bs1 t (t.ch ++ s.sk) s d (bs2 t (t.ch ++ s.sk) s d).1 (bs2 t (t.ch ++ s.sk) s d).2 i).2 < (hN t (t.ch ++ s.sk) (swV s d (d + 1 + i)) : Int)) := fun w => q2 w.2
            rw [if_neg e7]
            rw [if_neg (by rw [zI_lt (by omega) (by omega)]; omega)]
        · have e7 : ¬ (awa s (d + 1 + i) = true ∧ (bs1 t (t.ch ++ s.sk) s d (bs2 t (t.ch ++ s.sk) s d).1 (bs2 t (t.ch ++ s.sk) s d).2 i).2 < (hN t (t.ch ++ s.sk) (swV s d (d + 1 + i)) : Int)) := fun w => q1 w.1
          rw [if_neg e7]
          rw [show awa s (d + 1 + i) = false from by simpa using q1, if_pos (by decide)]
    · rw [if_neg q]
      refine fx4_run (fun _ => zI (bs2 t (t.ch ++ s.sk) s d).1) (fun _ => zI (bs2 t (t.ch ++ s.sk) s d).2) (fun i => zI (d + 1 + i : Nat)) (fun _ => σ) (29 - d) 0 (by omega) rfl rfl rfl rfl (fun k2 => ?_) (fun i hi k2 => ?_)
      · rw [if_pos (by rw [show (30 : Int32) = zI 30 from rfl, zI_le (by omega) (by omega)]; omega)]
      · rw [if_neg (by rw [show (30 : Int32) = zI 30 from rfl, zI_le (by omega) (by omega)]; omega), m_visit hc.mv hc.tb hc.sb hd3, pbd1_s, show awa s d = false from by simpa using q]
        unfold jn3
        simp only [pnm_e, jn1_e, show zI (d + 1 + i : Nat) + 1 = zI (d + 1 + (i + 1) : Nat) from by rw [show (1 : Int32) = zI 1 from rfl, zI_add]; rfl]
        rw [if_pos (by decide)]
/-- a loop by an invariant on its last part -/
theorem fx2_inv {A1 A2 β : Type} {F : (A1 → A2 → Option β) → A1 → A2 → Option β} (a : Nat → A1) (Inv : Nat → A2 → Prop) (E : A2 → Option β) (N : Nat) (hN : N < 100000) (he : ∀ k σ, Inv N σ → F k (a N) σ = E σ) (hs : ∀ i, i < N → ∀ σ, Inv i σ → ∀ k, ∃ σ', Inv (i + 1) σ' ∧ F k (a i) σ = k (a (i + 1)) σ') (i : Nat) (hi : i ≤ N) {x : A1} (hx : x = a i) (σ : A2) (h0 : Inv i σ) : ∃ σ', Inv N σ' ∧ fx2 FU F x σ = E σ' := by
  subst hx
  have key : ∀ n, ∀ i, i + n = N → ∀ m σ, Inv i σ → ∃ σ', Inv N σ' ∧ fx2 (n + 1 + m) F (a i) σ = E σ' := by
    intro n
    induction n with
    | zero =>
      intro i hi m σ h
      have : i = N := by omega
      subst this
      refine ⟨σ, h, ?_⟩
      rw [Nat.zero_add, Nat.add_comm]
      exact he _ σ h
    | succ n ih =>
      intro i hi m σ h
      obtain ⟨σ', h1, h2⟩ := hs i (by omega) σ h (fx2 (n + 1 + m) F)
      obtain ⟨σ2, h3, h4⟩ := ih (i + 1) (by omega) m σ' h1
      refine ⟨σ2, h3, ?_⟩
      rw [show n + 1 + 1 + m = (n + 1 + m) + 1 from by omega]
      exact h2.trans h4
  obtain ⟨σ', h1, h2⟩ := key (N - i) i (by omega) (99999 - (N - i)) σ h0
  rw [show N - i + 1 + (99999 - (N - i)) = FU from by unfold FU; omega] at h2
  exact ⟨σ', h1, h2⟩
/-- whether two are unlike in a mark: one's look, the other's papers -/
def dfm (t : TT) (E : List (Nat × Nat × Nat × Nat)) (s : SS) (d p q m : Nat) : Bool := decide (lk t E p d m ≠ pap t E q (lat s.vis q (d + 1)) m)
theorem c_unlM {f h : Nat → Nat} (h1 : lt4 f) (h2 : lt4 h) : f_X5_unlikeMarks (zI (e5 f)) (zI (e5 h)) = some (zI (bits (fun m => decide (f m ≠ h m)) 6)) := by
  unfold f_X5_unlikeMarks
  refine fx2_run (fun i => zI (bits (fun m => decide (f m ≠ h m)) i)) (fun i => zI i) 6 0 (by omega) rfl rfl (fun k => rfl) (fun i hi k => ?_)
  have b1 := h1 i
  have b2 := h2 i
  rw [if_neg (by rw [show (6 : Int32) = zI 6 from rfl, zI_le (by omega) (by omega)]; omega), c_letter h1 hi, pbd1_s, c_letter h2 hi, pbd1_s]
  simp only [jn1_e, pnm_e, show zI i + 1 = zI (i + 1 : Nat) from by rw [show (1 : Int32) = zI 1 from rfl, zI_add]; rfl]
  by_cases e : f i = h i
  · rw [if_pos (by rw [e]), bit_or (fun m => decide (f m ≠ h m)) (by omega) _ (by rw [if_neg (by simp [e])])]
  · rw [if_neg (by rw [zI_eq (by omega) (by omega)]; omega), bit_or (fun m => decide (f m ≠ h m)) (by omega) _ (by rw [if_pos (by simp [e])]; rfl)]
/-- the class's list of differences -/
abbrev DLs (σ : Mem) (t : TT) (s : SS) (d : Nat) (L : List (Nat × Nat)) : Prop :=
  (σ.1 61 2 = zI L.length) ∧ (∀ j x, L[j]? = some x → σ.1 62 j = zI (bits (dfm t (t.ch ++ s.sk) s d x.1 x.2) 6))
theorem DLs.n {σ : Mem}{t : TT}{s : SS}{d : Nat}{L : List (Nat × Nat)} (h : DLs σ t s d L) : σ.1 61 2 = zI L.length := h.1
theorem DLs.at_ {σ : Mem}{t : TT}{s : SS}{d : Nat}{L : List (Nat × Nat)} (h : DLs σ t s d L) : ∀ j x, L[j]? = some x → σ.1 62 j = zI (bits (dfm t (t.ch ++ s.sk) s d x.1 x.2) 6) := h.2
theorem DLs.add {σ : Mem} {t : TT} {s : SS} {d : Nat} {L : List (Nat × Nat)} (h : DLs σ t s d L) (x : Nat × Nat) : DLs (sI (sI σ 62 L.length (zI (bits (dfm t (t.ch ++ s.sk) s d x.1 x.2) 6))) 61 2 (zI (L.length + 1 : Nat))) t s d (L ++ [x]) := by
  refine ⟨?_, fun j y hj => ?_⟩
  · rw [sI_1, if_pos ⟨rfl, rfl⟩, List.length_append]; rfl
  · rw [sI_o _ _ _ _ (by omega), sI_1]
    rcases sk_get hj with ⟨q1, q2⟩ | ⟨q1, q2⟩
    · rw [if_neg (by omega)]; exact h.at_ j y q2
    · rw [if_pos ⟨rfl, q1⟩, q2]
theorem c_listD {σ : Mem} {T : Nat} {t : TT} {s : SS} (hc : RC σ T t s) {d : Nat} (hd : d < 30) : ∃ τ L, f_X7_listDifferences σ 28 (zI d) = some τ ∧ (∀ a, a ≠ 61 → a ≠ 62 → τ.1 a = σ.1 a) ∧ τ.2 = σ.2 ∧ DLs τ t s d L ∧ L.length ≤ 20 ∧ ∀ p q, (p, q) ∈ L ↔ (q < t.P ∧ p < t.P ∧ p ≠ q) := by
  have hP := hc.tb.P
  have a62 : aln (61 + 1) = 25 := rfl
  let Inv : Nat → Mem → Prop := fun i τ => (∀ a, a ≠ 61 → a ≠ 62 → τ.1 a = σ.1 a) ∧ τ.2 = σ.2 ∧ ∃ L, DLs τ t s d L ∧ L.length = i * (t.P - 1) ∧ ∀ p q, (p, q) ∈ L ↔ (q < i ∧ p < t.P ∧ p ≠ q)
  have hq : ∀ τ : Mem, (∀ a, a ≠ 61 → a ≠ 62 → τ.1 a = σ.1 a) → τ.2 = σ.2 → CS τ 28 T t (t.ch ++ s.sk) s ∧ CT τ T t := fun τ h1 h2 => ⟨hc.cs.of (fun a h3 h4 => h1 a (by omega) (by omega)) (by rw [h2]), hc.ct.of (fun a h3 h4 => h1 a (by have := hc.ct.at_; omega) (by have := hc.ct.at_; omega))⟩
  have h := fx2_inv (F := fun k_4 (i_2 : Int32) (σ_3 : Mem) => rfc (σ_3.2.2 28 0) (fun (T_5 : Nat) => bd1 (f_X11_people σ_3 T_5) (fun (r_6 : Int32) => (if r_6 ≤ i_2 then some σ_3 else bd1 (f_X9_papersOn σ_3 28 i_2 (zI d)) (fun (r_7 : Int32) => fx2 FU (fun k_10 (i_8 : Int32) (σ_9 : Mem) => rfc (σ_9.2.2 28 0) (fun (T_11 : Nat) => bd1 (f_X11_people σ_9 T_11) (fun (r_12 : Int32) => (if r_12 ≤ i_8 then nm (i_2 + 1) (fun (x_13 : Int32) => k_4 x_13 σ_9) else jn1 (fun (σ_15 : Mem) => nm (i_8 + 1) (fun (x_17 : Int32) => k_10 x_17 σ_15)) (fun k_16 => (if i_8 = i_2 then k_16 σ_9 else bd1 (f_X5_at σ_9 (28 + 2) i_8 (zI d)) (fun (r_19 : Int32) => bd1 (f_X5_unlikeMarks r_19 r_7) (fun (r_20 : Int32) => bd1 (f_X12_set σ_9 (61 + 1) (σ_9.1 61 2) r_20) (fun (σ_21 : Mem) => nm (sI σ_21 61 2 ((σ_21.1 61 2) + 1)) (fun (σ_22 : Mem) => k_16 σ_22)))))))))) 0 σ_3))))) (fun i => zI i) Inv (fun τ => some τ) t.P (by omega) ?_ ?_ 0 (by omega) (x := 0) rfl (sI σ 61 2 0) ⟨fun a h1 h2 => sI_o _ _ _ _ h1, rfl, [], ⟨by rw [sI_1, if_pos ⟨rfl, rfl⟩]; rfl, fun j x hj => by cases hj⟩, by simp, fun p q => ⟨fun h => (by cases h), fun h => absurd h.1 (by omega)⟩⟩
  · obtain ⟨τ, ⟨h1, h2, L, h3, h4, h5⟩, h6⟩ := h
    refine ⟨τ, L, h6, h1, h2, h3, ?_, fun p q => h5 p q⟩
    rw [h4]
    have : t.P * (t.P - 1) ≤ 5 * 4 := Nat.mul_le_mul hP (by omega)
    omega
  · rintro k τ ⟨h1, h2, L, h3, h4, h5⟩
    obtain ⟨g1, g2⟩ := hq τ h1 h2
    rw [g1.town, prfc_s, ct_people g2, pbd1_s, if_pos (by rw [zI_le (by omega) (by omega)]; omega)]
  · rintro i hi τ ⟨h1, h2, L, h3, h4, h5⟩ k4
    obtain ⟨g1, g2⟩ := hq τ h1 h2
    have hL : i * (t.P - 1) ≤ 4 * 4 := Nat.mul_le_mul (by omega) (by omega)
    let Inv2 : Nat → Mem → Prop := fun j υ => (∀ a, a ≠ 61 → a ≠ 62 → υ.1 a = σ.1 a) ∧ υ.2 = σ.2 ∧ ∃ L2, DLs υ t s d L2 ∧ L2.length = i * (t.P - 1) + (if i < j then j - 1 else j) ∧ ∀ p q, (p, q) ∈ L2 ↔ ((q < i ∧ p < t.P ∧ p ≠ q) ∨ (q = i ∧ p < j ∧ p ≠ q))
    rw [g1.town, prfc_s, ct_people g2, pbd1_s, if_neg (by rw [zI_le (by omega) (by omega)]; omega), c_pap g1 g2 hc.tb hc.sb hi hd, pbd1_s]
    have inner := fx2_inv (F := fun k_10 (i_8 : Int32) (σ_9 : Mem) => rfc (σ_9.2.2 28 0) (fun (T_11 : Nat) => bd1 (f_X11_people σ_9 T_11) (fun (r_12 : Int32) => (if r_12 ≤ i_8 then nm (zI i + 1) (fun (x_13 : Int32) => k4 x_13 σ_9) else jn1 (fun (σ_15 : Mem) => nm (i_8 + 1) (fun (x_17 : Int32) => k_10 x_17 σ_15)) (fun k_16 => (if i_8 = zI i then k_16 σ_9 else bd1 (f_X5_at σ_9 (28 + 2) i_8 (zI d)) (fun (r_19 : Int32) => bd1 (f_X5_unlikeMarks r_19 (zI (e5 (pap t (t.ch ++ s.sk) i (lat s.vis i (d + 1)))))) (fun (r_20 : Int32) => bd1 (f_X12_set σ_9 (61 + 1) (σ_9.1 61 2) r_20) (fun (σ_21 : Mem) => nm (sI σ_21 61 2 ((σ_21.1 61 2) + 1)) (fun (σ_22 : Mem) => k_16 σ_22)))))))))) (fun i => zI i) Inv2 (fun υ => k4 (zI (i + 1 : Nat)) υ) t.P (by omega) ?_ ?_ 0 (by omega) (x := 0) rfl τ ⟨h1, h2, L, h3, by rw [h4, if_neg (by omega)]; rfl, fun p q => by rw [h5]; constructor; exact fun h => Or.inl h; rintro (h | h); exact h; exact absurd h.2.1 (by omega)⟩
    · obtain ⟨υ, ⟨u1, u2, L2, u3, u4, u5⟩, u6⟩ := inner
      refine ⟨υ, ⟨u1, u2, L2, u3, ?_, fun p q => ?_⟩, u6⟩
      · rw [u4, if_pos hi, Nat.succ_mul]
      · rw [u5]
        constructor
        · rintro (h | h)
          · exact ⟨by omega, h.2⟩
          · exact ⟨by omega, h.2.1, h.2.2⟩
        · rintro ⟨w1, w2, w3⟩
          rcases Nat.lt_or_ge q i with w | w
          · exact Or.inl ⟨w, w2, w3⟩
          · exact Or.inr ⟨by omega, w2, w3⟩
    · rintro k υ ⟨u1, u2, L2, u3, u4, u5⟩
      obtain ⟨v1, v2⟩ := hq υ u1 u2
      rw [v1.town, prfc_s, ct_people v2, pbd1_s, if_pos (by rw [zI_le (by omega) (by omega)]; omega), pnm_e, show zI i + 1 = zI (i + 1 : Nat) from by rw [show (1 : Int32) = zI 1 from rfl, zI_add]; rfl]
    · rintro j hj υ ⟨u1, u2, L2, u3, u4, u5⟩ k
      obtain ⟨v1, v2⟩ := hq υ u1 u2
      rw [v1.town, prfc_s, ct_people v2, pbd1_s, if_neg (by rw [zI_le (by omega) (by omega)]; omega)]
      simp only [jn1_e, pnm_e, show zI j + 1 = zI (j + 1 : Nat) from by rw [show (1 : Int32) = zI 1 from rfl, zI_add]; rfl]
      by_cases e : j = i
      · rw [if_pos (by rw [e])]
        refine ⟨υ, ⟨u1, u2, L2, u3, by rw [u4, if_neg (by omega), if_pos (by omega)]; omega, fun p q => ?_⟩, rfl⟩
        rw [u5]
        constructor
        · rintro (h | h)
          · exact Or.inl h
          · exact Or.inr ⟨h.1, by omega, h.2.2⟩
        · rintro (h | h)
          · exact Or.inl h
          · exact Or.inr ⟨h.1, by omega, h.2.2⟩
      · have hl : L2.length ≤ 20 := by rw [u4]; split <;> omega
        rw [if_neg (by rw [zI_eq (by omega) (by omega)]; omega), c_at v1 hP hj hd, pbd1_s, c_unlM (lk_lt _ _ _ _) (pap_lt hc.tb _ _ _), pbd1_s, u3.n, f_setN (by omega) (by omega), pbd1_s, sI_o _ _ _ _ (by decide), u3.n, show zI L2.length + 1 = zI (L2.length + 1 : Nat) from by rw [show (1 : Int32) = zI 1 from rfl, zI_add]; rfl]
        refine ⟨sI (sI υ 62 L2.length (zI (bits (dfm t (t.ch ++ s.sk) s d j i) 6))) 61 2 (zI (L2.length + 1 : Nat)), ⟨fun a w1 w2 => by rw [sI_o _ _ _ _ w1, sI_o _ _ _ _ w2, u1 a w1 w2], u2, L2 ++ [(j, i)], u3.add (j, i), ?_, fun p q => ?_⟩, rfl⟩
        · rw [List.length_append, u4]
          show i * (t.P - 1) + _ + 1 = _
          split <;> split <;> omega
        · rw [List.mem_append, u5, List.mem_singleton]
          constructor
          · rintro ((h | h) | h)
            · exact Or.inl h
            · exact Or.inr ⟨h.1, by omega, h.2.2⟩
            · have h1 := congrArg Prod.fst h
              have h2 := congrArg Prod.snd h
              dsimp only at h1 h2
              exact Or.inr ⟨by omega, by omega, by omega⟩
          · rintro (h | h)
            · exact Or.inl (Or.inl h)
            · rcases Nat.lt_or_ge p j with w | w
              · exact Or.inl (Or.inr ⟨h.1, w, h.2.2⟩)
              · right
                rw [show p = j from by omega, h.1]
noncomputable def apq (t : TT) (E : List (Nat × Nat × Nat × Nat)) (s : SS) (d n p q : Nat) : Bool := exF (fun m => n.testBit m && dfm t E s d p q m) 0 6
noncomputable def aprt (t : TT) (E : List (Nat × Nat × Nat × Nat)) (s : SS) (d n : Nat) : Bool := !exF (fun p => exF (fun q => decide (p ≠ q) && !apq t E s d n p q) 0 t.P) 0 t.P
theorem and_bits (f : Nat → Bool) (n : Nat) (hn : n < 64) : (zI (bits f 6) &&& zI n = 0) ↔ exF (fun m => n.testBit m && f m) 0 6 = false := by
  have hb : bits f 6 < 64 := bits_lt f 6
  have ha : bits f 6 &&& n < 64 := Nat.lt_of_le_of_lt Nat.and_le_left hb
  rw [zI_and, show (0 : Int32) = zI 0 from rfl, zI_eq (by omega) (by omega)]
  constructor
  · intro h
    have h : bits f 6 &&& n = 0 := by omega
    refine exF_f (fun m _ hm => ?_)
    have h2 : (bits f 6 &&& n).testBit m = false := by rw [h]; exact Nat.zero_testBit m
    rw [Nat.testBit_and, bits_at, decide_eq_true hm, Bool.true_and, Bool.and_comm] at h2
    exact h2
  · intro h
    have : bits f 6 &&& n = 0 := by
      apply Nat.eq_of_testBit_eq
      intro m
      rw [Nat.testBit_and, bits_at, Nat.zero_testBit]
      by_cases hm : m < 6
      · rw [decide_eq_true hm, Bool.true_and]
        cases w : (f m && n.testBit m) with
        | false => rfl
        | true =>
          have : exF (fun m => n.testBit m && f m) 0 6 = true := exF_t m (by omega) hm (by rw [Bool.and_comm]; exact w)
          rw [h] at this; cases this
      · rw [decide_eq_false hm]; rfl
    omega
theorem c_apart {σ : Mem} {t : TT} {s : SS} {d n : Nat} {L : List (Nat × Nat)} (h : DLs σ t s d L) (hl : L.length ≤ 20) (hL : ∀ p q, (p, q) ∈ L ↔ (q < t.P ∧ p < t.P ∧ p ≠ q)) (hn : n < 64) : f_X7_tellsAllApart σ (zI n) = some (bI (aprt t (t.ch ++ s.sk) s d n)) := by
  have a62 : aln (61 + 1) = 25 := rfl
  unfold f_X7_tellsAllApart
  rw [h.n]
  refine (fx1_ex (fun j => match L[j]? with | none => false | some x => !apq t (t.ch ++ s.sk) s d n x.1 x.2) L.length 0 (some 0) (some 1) (by omega) rfl (fun k => ?_) (fun j hj k => ?_)).trans ?_
  · rw [if_pos (by rw [zI_le (by omega) (by omega)]; omega)]
  · obtain ⟨x, hx, -⟩ := get_some L hj
    rw [if_neg (by rw [zI_le (by omega) (by omega)]; omega), g_get (a := 61 + 1) (h.at_ j x hx) (by omega) (by omega), pbd1_s, hx]
    have e := and_bits (dfm t (t.ch ++ s.sk) s d x.1 x.2) n hn
    by_cases q : zI (bits (dfm t (t.ch ++ s.sk) s d x.1 x.2) 6) &&& zI n = 0
    · rw [if_pos q, if_pos (by show (!exF _ 0 6) = true; rw [e.1 q]; rfl)]
    · rw [if_neg q, if_neg (fun w => q (e.2 (by
        have w : (!exF (fun m => n.testBit m && dfm t (t.ch ++ s.sk) s d x.1 x.2 m) 0 6) = true := w
        simpa using w))), pnm_e, show zI j + 1 = zI (j + 1 : Nat) from by rw [show (1 : Int32) = zI 1 from rfl, zI_add]; rfl]
  · have : exF (fun j => match L[j]? with | none => false | some x => !apq t (t.ch ++ s.sk) s d n x.1 x.2) 0 L.length = exF (fun p => exF (fun q => decide (p ≠ q) && !apq t (t.ch ++ s.sk) s d n p q) 0 t.P) 0 t.P := by
      apply Bool.eq_iff_iff.2
      rw [exF_iff, exF_iff]
      constructor
      · rintro ⟨j, -, h2, h3⟩
        obtain ⟨⟨p, q⟩, hx, hm⟩ := get_some L h2
        rw [hx] at h3
        have := (hL p q).1 hm
        exact ⟨p, by omega, this.2.1, exF_t q (by omega) this.1 (by rw [decide_eq_true this.2.2]; exact h3)⟩
      · rintro ⟨p, -, h2, h3⟩
        obtain ⟨q, -, h5, h6⟩ := exF_iff.1 h3
        have h7 : p ≠ q := by
          intro w
          rw [decide_eq_false (fun z => z w)] at h6; cases h6
        rw [decide_eq_true h7, Bool.true_and] at h6
        have hm := (hL p q).2 ⟨h5, h2, h7⟩
        obtain ⟨j, hj, hx⟩ := List.mem_iff_getElem.1 hm
        refine ⟨j, by omega, hj, ?_⟩
        rw [List.getElem?_eq_getElem hj, hx]
        exact h6
    rw [this, aprt]
    cases exF (fun p => exF (fun q => decide (p ≠ q) && !apq t (t.ch ++ s.sk) s d n p q) 0 t.P) 0 t.P <;> rfl
theorem m_guards {σ : Mem} {T : Nat} {t : TT} {s : SS} (hc : RC σ T t s) (hP0 : 0 < t.P) {d n : Nat} (hd : d < 30) (hn : n < 2 ^ t.ms) : f_X13_doesGuard σ (zI n) (zI d) = some (bI (aprt t (t.ch ++ s.sk) s d n)) := by
  have hP := hc.tb.P
  have hms := hc.tb.ms
  have a67 : aln 67 = 175 := rfl
  have hn6 : n < 64 := Nat.lt_of_lt_of_le hn (show 2 ^ t.ms ≤ 2 ^ 6 from Nat.pow_le_pow_right (by omega) hms)
  have i4 : ∀ β (k : Option β), ixd 4 (aln 67) k = k := fun β k => by rw [show (4 : Int32) = zI 4 from rfl, ixd_in (by omega)]
  have i0 : ∀ β (k : Option β), ixd 0 (aln 67) k = k := fun β k => by rw [show (0 : Int32) = zI 0 from rfl, ixd_in (by omega)]
  have p4 : σ.1 67 (4 : Int32).toNatClampNeg = zI t.P := hc.mr.P
  have p0 : σ.1 67 (0 : Int32).toNatClampNeg = zI t.ms := hc.mr.ms
  unfold f_X13_doesGuard
  simp only [i4, i0, p4, p0, jn0_e]
  refine (fx1_ex (fun p => exF (fun q => decide (p ≠ q) && !apq t (t.ch ++ s.sk) s d n p q) 0 t.P) t.P 0 (some 0) (some 1) (by omega) rfl (fun k => ?_) (fun p hp k => ?_)).trans ?_
  · rw [if_pos (by rw [zI_le (by omega) (by omega)]; omega)]
  · rw [if_neg (by rw [zI_le (by omega) (by omega)]; omega)]
    refine fx1_ex (fun q => decide (p ≠ q) && !apq t (t.ch ++ s.sk) s d n p q) t.P 0 (some 0) (k (zI (p + 1 : Nat))) (by omega) rfl (fun k2 => ?_) (fun q hq k2 => ?_)
    · rw [if_pos (by rw [zI_le (by omega) (by omega)]; omega), pnm_e, show zI p + 1 = zI (p + 1 : Nat) from by rw [show (1 : Int32) = zI 1 from rfl, zI_add]; rfl]
    · rw [if_neg (by rw [zI_le (by omega) (by omega)]; omega)]
      simp only [pnm_e, show zI q + 1 = zI (q + 1 : Nat) from by rw [show (1 : Int32) = zI 1 from rfl, zI_add]; rfl]
      by_cases e : p = q
      · rw [if_pos (by rw [e]), if_neg (by rw [decide_eq_false (fun z => z e), Bool.false_and]; decide)]
      · rw [if_neg (by rw [zI_eq (by omega) (by omega)]; omega)]
        refine (fx2_run (fun m => bI (!exF (fun m => n.testBit m && dfm t (t.ch ++ s.sk) s d p q m) 0 m)) (fun m => zI m) t.ms 0 (by omega) (by rw [exF_end]; rfl) rfl (fun k3 => ?_) (fun m hm k3 => ?_))
        · rw [if_pos (by rw [zI_le (by omega) (by omega)]; omega), decide_eq_true e, Bool.true_and, apq]
          have : exF (fun m => n.testBit m && dfm t (t.ch ++ s.sk) s d p q m) 0 t.ms = exF (fun m => n.testBit m && dfm t (t.ch ++ s.sk) s d p q m) 0 6 := by
            apply Bool.eq_iff_iff.2
            rw [exF_iff, exF_iff]
            constructor
            · rintro ⟨m, w1, w2, w3⟩; exact ⟨m, w1, by omega, w3⟩
            · rintro ⟨m, w1, w2, w3⟩
              refine ⟨m, w1, ?_, w3⟩
              rcases Nat.lt_or_ge m t.ms with w | w
              · exact w
              · rw [Nat.testBit_lt_two_pow (Nat.lt_of_lt_of_le hn (Nat.pow_le_pow_right (by omega) w))] at w3; cases w3
          rw [this]
          cases exF (fun m => n.testBit m && dfm t (t.ch ++ s.sk) s d p q m) 0 6 <;> rfl
        · have b1 := lk_lt t (t.ch ++ s.sk) p d m
          have b2 := pap_lt hc.tb (t.ch ++ s.sk) q (lat s.vis q (d + 1)) m
          have est : exF (fun m => n.testBit m && dfm t (t.ch ++ s.sk) s d p q m) 0 (m + 1) = (exF (fun m => n.testBit m && dfm t (t.ch ++ s.sk) s d p q m) 0 m || (n.testBit m && dfm t (t.ch ++ s.sk) s d p q m)) := by
            apply Bool.eq_iff_iff.2
            rw [Bool.or_eq_true, exF_iff, exF_iff]
            constructor
            · rintro ⟨j, w1, w2, w3⟩
              rcases Nat.lt_or_ge j m with w | w
              · exact Or.inl ⟨j, w1, w, w3⟩
              · right; rw [show m = j from by omega]; exact w3
            · rintro (⟨j, w1, w2, w3⟩ | w)
              · exact ⟨j, w1, by omega, w3⟩
              · exact ⟨m, by omega, by omega, w⟩
          rw [if_neg (by rw [zI_le (by omega) (by omega)]; omega)]
          simp only [jn1_e, pnm_e, show zI m + 1 = zI (m + 1 : Nat) from by rw [show (1 : Int32) = zI 1 from rfl, zI_add]; rfl]
          rw [est, m_hasBit (by omega) (by omega), pbd1_s, hc.mlook hp hd, pbd1_s, m_mark (lk_lt _ _ _ _) (by omega), pbd1_s, hc.mpap hq hd, pbd1_s, m_mark (pap_lt hc.tb _ _ _) (by omega), pbd1_s]
          cases exF (fun m => n.testBit m && dfm t (t.ch ++ s.sk) s d p q m) 0 m with
          | true => rfl
          | false =>
            rw [if_neg (by decide)]
            cases n.testBit m with
            | false => rfl
            | true =>
              rw [if_neg (by decide)]
              by_cases w : lk t (t.ch ++ s.sk) p d m = pap t (t.ch ++ s.sk) q (lat s.vis q (d + 1)) m
              · rw [if_pos (by rw [w]), dfm, decide_eq_false (fun z => z w)]; rfl
              · rw [if_neg (by rw [zI_eq (by omega) (by omega)]; omega), dfm, decide_eq_true w]; rfl
  · rw [aprt]
    cases exF (fun p => exF (fun q => decide (p ≠ q) && !apq t (t.ch ++ s.sk) s d n p q) 0 t.P) 0 t.P <;> rfl
theorem bd2_of {α β : Type} {o : Option (α × Mem)} {a : α} {τ : Mem} {K : α → Mem → Option β} (h : o = some (a, τ)) : bd2 o K = K a τ := by rw [h]; rfl
theorem bd1_of {α β : Type} {o : Option α} {a : α} {K : α → Option β} (h : o = some a) : bd1 o K = K a := by rw [h]; rfl
theorem bt_pc6 : ((List.range 64).all fun n => decide (pc n ≤ 6)) = true := by decide +kernel
theorem pc_6 {n : Nat} (h : n < 64) : pc n ≤ 6 := of_decide_eq_true (List.all_eq_true.1 bt_pc6 n (List.mem_range.2 h))
noncomputable def gbs (t : TT) (E : List (Nat × Nat × Nat × Nat)) (s : SS) (d : Nat) : Nat → Int × Nat
  | 0 => (-2, 7)
  | n + 1 => if pc n < (gbs t E s d n).2 ∧ aprt t E s d n = true then ((n : Int), pc n) else gbs t E s d n
theorem gbs_b (t : TT) (E : List (Nat × Nat × Nat × Nat)) (s : SS) (d : Nat) : ∀ n, n ≤ 64 → (gbs t E s d n).2 ≤ 7 ∧ (((gbs t E s d n).1 = -2 ∧ (gbs t E s d n).2 = 7) ∨ ∃ m : Nat, m < n ∧ gbs t E s d n = ((m : Int), pc m))
  | 0, _ => ⟨Nat.le_refl 7, Or.inl ⟨rfl, rfl⟩⟩
  | n + 1, hn => by
    have ih := gbs_b t E s d n (by omega)
    have := pc_6 (n := n) (by omega)
    rw [gbs]
    split
    · exact ⟨by dsimp only; omega, Or.inr ⟨n, by omega, rfl⟩⟩
    · refine ⟨ih.1, ?_⟩
      rcases ih.2 with h | ⟨m, h1, h2⟩
      · exact Or.inl h
      · exact Or.inr ⟨m, by omega, h2⟩
theorem rel_guard (σ : Mem) (h : RLq σ) (y : Int32) : ∃ r σ1 σ2, f_X12_guard σ y = some (r, σ1) ∧ f_X13_guard σ1 y = some (r, σ2) ∧ RLq σ2 := by
  unfold f_X12_guard f_X13_guard
  refine rel_dE (fun t s d => zI (gbs t (t.ch ++ s.sk) s d (2 ^ t.ms)).1) (fun σ T t s hc d ey hp hd => ⟨?_, ?_⟩) h
  · subst ey
    have hms := hc.tb.ms
    obtain ⟨Z, hZ⟩ : ∃ Z : Nat, 2 ^ t.ms = Z := ⟨_, rfl⟩
    have h64 : Z ≤ 64 := by rw [← hZ]; exact (Nat.pow_le_pow_right (by omega) hms : 2 ^ t.ms ≤ 2 ^ 6)
    have hsh : (1 : Int32) <<< (zI t.ms &&& 31) = zI Z := by rw [← hZ]; exact one_shl (by omega)
    rw [hZ]
    obtain ⟨τ, L, e1, e2, e3, e4, e5, e6⟩ := c_listD hc hd
    have ev : Ev σ τ := Ev.of (fun a h => e2 a (by omega) (by omega)) (fun a h => by rw [e3]) (by rw [e3]) (e2 0 (by omega) (by omega)) (e2 1 (by omega) (by omega)) (fun j _ => by rw [e2 64 (by omega) (by omega)])
    have hc1 := hc.eqv ev.e
    unfold f_X7_marksToGuard
    rw [e1, pbd1_s]
    refine ⟨τ, ?_, ev⟩
    refine bd2_of (a := zI (gbs t (t.ch ++ s.sk) s d Z).1) (τ := τ) (fx3_run (fun n => zI (gbs t (t.ch ++ s.sk) s d n).1) (fun n => zI (gbs t (t.ch ++ s.sk) s d n).2) (fun n => zI n) Z 0 (by omega) rfl rfl rfl (fun k => ?_) (fun n hn k => ?_))
    · rw [hc1.cs.town, prfc_s, hc1.ct.ms, hsh, if_pos (by rw [zI_le (by omega) (by omega)]; omega)]
    · have hb := gbs_b t (t.ch ++ s.sk) s d n (by omega)
      have p6 := pc_6 (n := n) (by omega)
      rw [hc1.cs.town, prfc_s, hc1.ct.ms, hsh, if_neg (by rw [zI_le (by omega) (by omega)]; omega), c_bc (by omega), pbd1_s]
      unfold jn2
      simp only [pnm_e, show zI n + 1 = zI (n + 1 : Nat) from by rw [show (1 : Int32) = zI 1 from rfl, zI_add]; rfl]
      rw [c_apart e4 e5 e6 (by omega), pbd1_s, gbs]
      by_cases q1 : pc n < (gbs t (t.ch ++ s.sk) s d n).2
      · rw [if_neg (by rw [zI_le (by omega) (by omega)]; omega)]
        by_cases q2 : aprt t (t.ch ++ s.sk) s d n = true
        · have w : pc n < (gbs t (t.ch ++ s.sk) s d n).2 ∧ aprt t (t.ch ++ s.sk) s d n = true := ⟨q1, q2⟩
          rw [if_pos w, if_neg (by rw [q2]; decide), pbd1_s]
        · have w : ¬ (pc n < (gbs t (t.ch ++ s.sk) s d n).2 ∧ aprt t (t.ch ++ s.sk) s d n = true) := fun z => q2 z.2
          rw [if_neg w, if_pos (by rw [show aprt t (t.ch ++ s.sk) s d n = false from by simpa using q2]; rfl)]
      · have w : ¬ (pc n < (gbs t (t.ch ++ s.sk) s d n).2 ∧ aprt t (t.ch ++ s.sk) s d n = true) := fun z => q1 z.1
        rw [if_neg w, if_pos (by rw [zI_le (by omega) (by omega)]; omega)]
  · subst ey
    have hms := hc.tb.ms
    have a67 : aln 67 = 175 := rfl
    obtain ⟨Z, hZ⟩ : ∃ Z : Nat, 2 ^ t.ms = Z := ⟨_, rfl⟩
    have h64 : Z ≤ 64 := by rw [← hZ]; exact (Nat.pow_le_pow_right (by omega) hms : 2 ^ t.ms ≤ 2 ^ 6)
    have hsh : (1 : Int32) <<< (zI t.ms &&& 31) = zI Z := by rw [← hZ]; exact one_shl (by omega)
    rw [hZ]
    have i0 : ∀ β (k : Option β), ixd 0 (aln 67) k = k := fun β k => by rw [show (0 : Int32) = zI 0 from rfl, ixd_in (by omega)]
    have p0 : σ.1 67 (0 : Int32).toNatClampNeg = zI t.ms := hc.mr.ms
    refine ⟨σ, ?_, Ev.rfl' σ⟩
    simp only [i0, p0]
    refine fx2_run (fun n => zI (gbs t (t.ch ++ s.sk) s d n).1) (fun n => zI n) Z 0 (by omega) rfl rfl (fun k => ?_) (fun n hn k => ?_)
    · rw [hsh, if_pos (by rw [zI_le (by omega) (by omega)]; omega)]
    · have hb := gbs_b t (t.ch ++ s.sk) s d n (by omega)
      have p6 := pc_6 (n := n) (by omega)
      rw [hsh, if_neg (by rw [zI_le (by omega) (by omega)]; omega)]
      simp only [jn1_e, jn0_e, pnm_e, show zI n + 1 = zI (n + 1 : Nat) from by rw [show (1 : Int32) = zI 1 from rfl, zI_add]; rfl]
      rw [m_guards hc hp hd (by rw [hZ]; exact hn), pbd1_s, gbs]
      have hones : ∀ m : Nat, m < 64 → f_X13_ones (zI m) = some (zI (pc m)) := fun m hm => m_ones (by omega)
      by_cases q2 : aprt t (t.ch ++ s.sk) s d n = true
      · rw [q2, if_neg (show ¬ bI true = 0 by decide)]
        rcases hb.2 with ⟨h1, h2⟩ | ⟨m, h1, h2⟩
        · have w : pc n < (gbs t (t.ch ++ s.sk) s d n).2 ∧ true = true := ⟨by omega, rfl⟩
          rw [if_pos w, h1, if_pos (by decide)]
        · rw [h2]
          dsimp only
          rw [show (0 : Int32) = zI 0 from rfl, if_neg (by rw [zI_lt (by omega) (by omega)]; omega), hones n (by omega), pbd1_s, hones m (by omega), pbd1_s]
          have pm := pc_6 (n := m) (by omega)
          by_cases q1 : pc n < pc m
          · have w : pc n < pc m ∧ true = true := ⟨q1, rfl⟩
            rw [if_neg (by rw [zI_le (by omega) (by omega)]; omega), if_pos w]
          · have w : ¬ (pc n < pc m ∧ true = true) := fun z => q1 z.1
            rw [if_pos (by rw [zI_le (by omega) (by omega)]; omega), if_neg w]
      · have w : ¬ (pc n < (gbs t (t.ch ++ s.sk) s d n).2 ∧ aprt t (t.ch ++ s.sk) s d n = true) := fun z => q2 z.2
        rw [if_neg w, show aprt t (t.ch ++ s.sk) s d n = false from by simpa using q2, if_pos (show bI false = 0 from rfl)]
        rcases hb.2 with ⟨h1, h2⟩ | ⟨m, h1, h2⟩
        · rw [h1, if_pos (by decide)]
        · rw [h2]
          dsimp only
          rw [show (0 : Int32) = zI 0 from rfl, if_neg (by rw [zI_lt (by omega) (by omega)]; omega), hones n (by omega), pbd1_s, hones m (by omega), pbd1_s, ite_self]
/-- the n-th look of so many marks, by letters -/
def nlk (ms n : Nat) : Nat → Nat := fun m => if m < ms then n / 4 ^ (ms - 1 - m) % 4 else 0
theorem nlk_lt (ms n : Nat) : lt4 (nlk ms n) := fun m => by unfold nlk; split <;> omega
theorem nlk_z (ms n : Nat) {m : Nat} (h : ms ≤ m) : nlk ms n m = 0 := if_neg (by omega)
theorem bt_nth : ((List.range 4).all fun k => (List.range (4 ^ (k + 3))).all fun n => (nI n <<< ((2 * (6 - nI (k + 3))) &&& 31)) == nI (e5 (nlk (k + 3) n))) = true := by decide +kernel
theorem c_nth {ms n : Nat} (h1 : 3 ≤ ms) (h2 : ms ≤ 6) (hn : n < 4 ^ ms) : zI n <<< ((2 * (6 - zI ms)) &&& 31) = zI (e5 (nlk ms n)) := by
  obtain ⟨k, rfl⟩ : ∃ k, ms = k + 3 := ⟨ms - 3, by omega⟩
  have e := eq_of_beq (List.all_eq_true.1 (List.all_eq_true.1 bt_nth k (List.mem_range.2 (by omega))) n (List.mem_range.2 hn))
  rwa [zI_nI, zI_nI, zI_nI] at e
theorem all_l {ms : Nat} (h2 : ms ≤ 6) : (1 : Int32) <<< ((2 * zI ms) &&& 31) = zI (4 ^ ms : Nat) := by
  rcases (show ms = 0 ∨ ms = 1 ∨ ms = 2 ∨ ms = 3 ∨ ms = 4 ∨ ms = 5 ∨ ms = 6 by omega) with rfl | rfl | rfl | rfl | rfl | rfl | rfl <;> rfl
theorem all_b {ms : Nat} (h2 : ms ≤ 6) : 4 ^ ms ≤ 4096 := (Nat.pow_le_pow_right (by omega) h2 : 4 ^ ms ≤ 4 ^ 6)
theorem m_or {g : Nat → Nat} (h : lt4 g) {m v : Nat} (hm : m < 6) (hv : v < 4) (h0 : g m = 0) : zI (e4 g) ||| (zI v <<< (zI (2 * m) &&& zI 31)) = zI (e4 (fu g m v)) := by
  have hb := e4_lt h
  have hd := e4_at h hm
  have p0 := bt_put' hb hm (show 0 < 4 by omega)
  have pv := bt_put' hb hm hv
  rw [hd, h0] at p0 pv
  have e0 : zI 0 <<< (zI (2 * m) &&& zI 31) = 0 := by
    rcases (show m = 0 ∨ m = 1 ∨ m = 2 ∨ m = 3 ∨ m = 4 ∨ m = 5 by omega) with rfl | rfl | rfl | rfl | rfl | rfl <;> rfl
  rw [show ((0 : Nat) : Int) = 0 from rfl, e0] at p0
  have e1 : ∀ x : Int32, x ||| 0 = x := fun x => Int32.toBitVec_inj.1 (by rw [Int32.toBitVec_or]; exact BitVec.or_zero)
  rw [e1, show e4 g - 0 * 4 ^ m + 0 * 4 ^ m = e4 g from by omega] at p0
  rw [p0] at pv
  rw [pv]
  have := e4_put h hm (v := v)
  rw [hd, h0] at this
  rw [this]
theorem m_lookBy {σ : Mem} {t : TT} (hR : MR (σ.1 67) t) (tb : TB t) (h3 : 3 ≤ t.ms) {n : Nat} (hn : n < 4 ^ t.ms) : f_X13_lookBy σ (zI n) = some (zI (e4 (nlk t.ms n))) := by
  have hms := tb.ms
  have a67 : aln 67 = 175 := rfl
  have h4 := all_b hms
  unfold f_X13_lookBy
  rw [a67, show (0 : Int32) = zI 0 from rfl, ixd_in (by omega), show (zI 0).toNatClampNeg = 0 from rfl, hR.ms, pnm_e]
  let g : Nat → Nat → Nat := fun j m => if t.ms - j ≤ m ∧ m < t.ms then n / 4 ^ (t.ms - 1 - m) % 4 else 0
  have hg : ∀ j, lt4 (g j) := fun j m => by
    show (if _ then _ else _) < 4
    split
    · exact Nat.mod_lt _ (by omega)
    · omega
  refine fx3_run (fun j => zI (e4 (g j))) (fun j => zI (n / 4 ^ j : Nat)) (fun j => zI ((t.ms : Int) - 1 - j)) t.ms 0 (by omega) ?_ (by rw [Nat.pow_zero, Nat.div_one]) (by rw [show (1 : Int32) = zI 1 from rfl, zI_sub]; congr 1; omega) (fun k => ?_) (fun j hj k => ?_)
  · congr 1
    rw [e4_congr (h := fun _ => 0) (fun m hm => if_neg (by omega))]; rfl
  · rw [if_pos (by rw [zI_lt (by omega) (by omega)]; omega)]
    refine some_zI (e4_congr (fun m hm => ?_))
    show (if t.ms - t.ms ≤ m ∧ m < t.ms then _ else _) = (if m < t.ms then _ else _)
    by_cases w : m < t.ms
    · rw [if_pos ⟨by omega, w⟩, if_pos w]
    · rw [if_neg (fun x => w x.2), if_neg w]
  · have hlt : n / 4 ^ j ≤ n := Nat.div_le_self _ _
    rw [if_neg (by rw [zI_lt (by omega) (by omega)]; omega), show (4 : Int32) = zI (4 : Nat) from rfl, dvd_ne (by omega), pnm_e, dvd_ne (by omega), pnm_e, pnm_e, zI_div_nat _ 4 (by omega)]
    have e1 : zI (n / 4 ^ j : Nat) - zI (n / 4 ^ j / 4 : Nat) * zI (4 : Nat) = zI (n / 4 ^ j % 4 : Nat) := by rw [zI_mul, zI_sub]; congr 1; omega
    have e2 : (2 : Int32) * zI ((t.ms : Int) - 1 - j) = zI (2 * (t.ms - 1 - j : Nat)) := by rw [show (2 : Int32) = zI 2 from rfl, zI_mul]; congr 1; omega
    rw [e1, e2, show (31 : Int32) = zI 31 from rfl, m_or (hg j) (by omega) (Nat.mod_lt _ (by omega)) (if_neg (by omega))]
    refine congr (congr (congrArg k (congrArg zI (congrArg Nat.cast (e4_congr (fun m hm => ?_))))) (congrArg zI ?_)) ?_
    · show (if m = t.ms - 1 - j then _ else (if t.ms - j ≤ m ∧ m < t.ms then _ else _)) = (if t.ms - (j + 1) ≤ m ∧ m < t.ms then _ else _)
      by_cases w : m = t.ms - 1 - j
      · rw [if_pos w, if_pos (by omega), w, show t.ms - 1 - (t.ms - 1 - j) = j from by omega]
      · rw [if_neg w]
        by_cases w2 : t.ms - j ≤ m ∧ m < t.ms
        · rw [if_pos w2, if_pos (by omega)]
        · rw [if_neg w2, if_neg (by omega)]
    · rw [Nat.pow_succ, Nat.div_div_eq_div_mul]
    · rw [show (-1 : Int32) = zI (-1) from rfl, zI_add]; congr 1; omega
/-- in how many marks a look is like one's as told -/
def alkN (t : TT) (f : Nat → Nat) (p : Nat) : Nat := t.ms - unl f (t.told p) 6
theorem unl_6 {t : TT} (tb : TB t) {f : Nat → Nat} (hz : ∀ m, t.ms ≤ m → f m = 0) (p : Nat) : unl f (t.told p) 6 ≤ t.ms := by
  rw [← unl_ms tb hz (tb.tolz p)]; exact unl_le _ _ _
theorem alkN_le (t : TT) (f : Nat → Nat) (p : Nat) : alkN t f p ≤ t.ms := Nat.sub_le _ _
theorem c_alike {σ : Mem} {T : Nat} {t : TT} (hT : CT σ T t) (tb : TB t) {f : Nat → Nat} (hf : lt4 f) (hz : ∀ m, t.ms ≤ m → f m = 0) {p : Nat} (hp : p < t.P) : f_X7_alike σ T (zI (e5 f)) (zI p) = some (zI (alkN t f p)) := by
  have hP := tb.P
  have hms := tb.ms
  have hu := unl_6 tb hz p
  obtain ⟨a1, a2, a3, a4, a5, a6, a7, a8, a9, a10⟩ := ct_aln hT.at_
  unfold f_X7_alike
  rw [g_get (hT.told p hp) (by omega) (by omega), pbd1_s, c_unlike hf (tb.told p), pbd1_s, hT.ms, zI_sub]
  rw [show ((t.ms : Int) - (unl f (t.told p) 6 : Nat)) = (alkN t f p : Nat) from by unfold alkN; omega]
theorem m_alike {σ : Mem} {t : TT} (hR : MR (σ.1 67) t) (tb : TB t) {f : Nat → Nat} (hf : lt4 f) (hz : ∀ m, t.ms ≤ m → f m = 0) {p : Nat} (hp : p < t.P) : f_X13_alike σ (zI p) (zI (e4 f)) = some (zI (alkN t f p)) := by
  have hP := tb.P
  have hms := tb.ms
  have hu := unl_6 tb hz p
  have a67 : aln 67 = 175 := rfl
  unfold f_X13_alike
  rw [show (0 : Int32) = zI 0 from rfl, a67, ixd_in (by omega), m_told hR tb hp, pbd1_s, m_unlike hR tb (tb.told p) hf (tb.tolz p) hz, pbd1_s, show (zI 0).toNatClampNeg = 0 from rfl, hR.ms, zI_sub, unl_comm]
  rw [show ((t.ms : Int) - (unl f (t.told p) 6 : Nat)) = (alkN t f p : Nat) from by unfold alkN; omega]
/-- whether a look is like each stared at in as many marks as told -/
noncomputable def nfit (t : TT) (f : Nat → Nat) : Bool := exF (fun p => match t.st p with | none => false | some k => decide (alkN t f p ≠ k)) 0 t.P
theorem c_fits {σ : Mem} {T : Nat} {t : TT} (hT : CT σ T t) (tb : TB t) {f : Nat → Nat} (hf : lt4 f) (hz : ∀ m, t.ms ≤ m → f m = 0) : f_X7_fits σ T (zI (e5 f)) = some (bI (!nfit t f)) := by
  have hP := tb.P
  have hms := tb.ms
  obtain ⟨a1, a2, a3, a4, a5, a6, a7, a8, a9, a10⟩ := ct_aln hT.at_
  unfold f_X7_fits
  simp only [ct_people hT, pbd1_s, jn0_e]
  refine (fx1_ex (fun p => match t.st p with | none => false | some k => decide (alkN t f p ≠ k)) t.P 0 (some 0) (some 1) (by omega) rfl (fun k => ?_) (fun p hp k => ?_)).trans ?_
  · rw [if_pos (by rw [zI_le (by omega) (by omega)]; omega)]
  · have hst := hT.st p (by omega)
    have hg : f_X12_get σ (T + 11) (zI p) = some (zI (oC (t.st p))) := g_get hst (by omega) (by omega)
    rw [if_neg (by rw [zI_le (by omega) (by omega)]; omega)]
    unfold f_X11_isStaredAt
    rw [hg, pbd1_s]
    cases ho : t.st p with
    | none =>
      rw [show zI (oC none) = -2 from rfl, if_pos (by decide), pbd1_s, if_pos rfl, pnm_e, show zI p + 1 = zI (p + 1 : Nat) from by rw [show (1 : Int32) = zI 1 from rfl, zI_add]; rfl]
      simp
    | some v =>
      have hv := (tb.st p v ho).2
      rw [show zI (oC (some v)) = zI v from rfl, if_neg (by rw [show (0 : Int32) = zI 0 from rfl, zI_lt (by omega) (by omega)]; omega), pbd1_s, if_neg (by decide), c_alike hT tb hf hz hp, pbd1_s, pbd1_s, pnm_e, show zI p + 1 = zI (p + 1 : Nat) from by rw [show (1 : Int32) = zI 1 from rfl, zI_add]; rfl]
      have := alkN_le t f p
      dsimp only
      by_cases w : alkN t f p = v
      · rw [if_pos (by rw [w]), if_neg (by simp [w])]
      · rw [if_neg (by rw [zI_eq (by omega) (by omega)]; omega), if_pos (decide_eq_true w)]
  · unfold nfit
    cases exF (fun p => match t.st p with | none => false | some k => decide (alkN t f p ≠ k)) 0 t.P <;> rfl
theorem exF_s (f : Nat → Bool) (m : Nat) : exF f 0 (m + 1) = (exF f 0 m || f m) := by
  apply Bool.eq_iff_iff.2
  rw [Bool.or_eq_true, exF_iff, exF_iff]
  constructor
  · rintro ⟨j, w1, w2, w3⟩
    rcases Nat.lt_or_ge j m with w | w
    · exact Or.inl ⟨j, w1, w, w3⟩
    · right; rw [show m = j from by omega]; exact w3
  · rintro (⟨j, w1, w2, w3⟩ | w)
    · exact ⟨j, w1, by omega, w3⟩
    · exact ⟨m, by omega, by omega, w⟩
theorem m_canBe {σ : Mem} {t : TT} (hR : MR (σ.1 67) t) (tb : TB t) {f : Nat → Nat} (hf : lt4 f) (hz : ∀ m, t.ms ≤ m → f m = 0) : f_X13_canBe σ (zI (e4 f)) = some (bI (!nfit t f)) := by
  have hP := tb.P
  have hms := tb.ms
  have a67 : aln 67 = 175 := rfl
  have i4 : ∀ β (k : Option β), ixd 4 (aln 67) k = k := fun β k => by rw [show (4 : Int32) = zI 4 from rfl, ixd_in (by omega)]
  have p4 : σ.1 67 (4 : Int32).toNatClampNeg = zI t.P := hR.P
  unfold f_X13_canBe
  simp only [i4, p4, jn0_e, jn1_e]
  refine fx2_run (fun p => bI (!exF (fun p => match t.st p with | none => false | some k => decide (alkN t f p ≠ k)) 0 p)) (fun p => zI p) t.P 0 (by omega) (by rw [exF_end]; rfl) rfl (fun k => ?_) (fun p hp k => ?_)
  · rw [if_pos (by rw [zI_le (by omega) (by omega)]; omega), zrt_b]; rfl
  · have hst := hR.st p (by omega)
    have e1 : (125 : Int32) + zI p = zI (125 + p : Nat) := by rw [show (125 : Int32) = zI 125 from rfl, zI_add]; rfl
    rw [if_neg (by rw [zI_le (by omega) (by omega)]; omega), exF_s]
    simp only [pnm_e, show zI p + 1 = zI (p + 1 : Nat) from by rw [show (1 : Int32) = zI 1 from rfl, zI_add]; rfl, e1]
    have ip : ∀ β (k : Option β), ixd (zI (125 + p : Nat)) (aln 67) k = k := fun β k => ixd_in (by omega)
    simp only [ip]
    rw [zI_nat (by omega), show ((125 + p : Nat) : Int).toNat = 125 + p from by omega, hst, m_alike hR tb hf hz hp, pbd1_s]
    cases exF (fun p => match t.st p with | none => false | some k => decide (alkN t f p ≠ k)) 0 p with
    | true => rfl
    | false =>
      rw [if_neg (by decide)]
      cases ho : t.st p with
      | none => rw [if_pos (show zI (oM none) = 0 from rfl)]; rfl
      | some v =>
        have hv := (tb.st p v ho).2
        have := alkN_le t f p
        rw [if_neg (by rw [show (0 : Int32) = zI 0 from rfl, show oM (some v) = (v : Int) + 1 from rfl, zI_eq (by omega) (by omega)]; omega), show zI (oM (some v)) - 1 = zI v from by rw [show oM (some v) = (v : Int) + 1 from rfl, show (1 : Int32) = zI 1 from rfl, zI_sub]; congr 1; omega]
        dsimp only
        by_cases w : alkN t f p = v
        · rw [if_pos (by rw [w]), decide_eq_false (fun z => z w)]; rfl
        · rw [if_neg (by rw [zI_eq (by omega) (by omega)]; omega), decide_eq_true w]; rfl
noncomputable def fitN (t : TT) (n : Nat) : Bool := !nfit t (nlk t.ms n)
theorem rel_unknown (σ : Mem) (h : RLq σ) : ∃ r σ1 σ2, f_X12_unknown σ = some (r, σ1) ∧ f_X13_unknown σ1 = some (r, σ2) ∧ RLq σ2 := by
  unfold f_X12_unknown f_X13_unknown
  refine rel_tE (fun t s => zI (cnt (fitN t) (4 ^ t.ms))) (fun σ T t s hc hp => ⟨⟨σ, ?_, Ev.rfl' σ⟩, ⟨σ, ?_, Ev.rfl' σ⟩⟩) h
  · have hms := hc.tb.ms
    have h3 := hc.tb.ms3 hp
    have h4 := all_b hms
    obtain ⟨Z, hZ⟩ : ∃ Z : Nat, 4 ^ t.ms = Z := ⟨_, rfl⟩
    rw [hZ] at h4
    rw [hc.town, prfc_s]
    refine bd1_of (a := zI (cnt (fitN t) (4 ^ t.ms))) ?_
    unfold f_X7_countFitting f_X7_countLooks
    rw [hc.ct.ms, all_l hms, hZ]
    refine fx2_run (fun n => zI (cnt (fitN t) n)) (fun n => zI n) Z 0 (by omega) rfl rfl (fun k => ?_) (fun n hn k => ?_)
    · rw [pbd1_s, if_pos (by rw [zI_le (by omega) (by omega)]; omega)]
    · rw [pbd1_s, if_neg (by rw [zI_le (by omega) (by omega)]; omega), show f_X7_nthLook σ T (zI n) = some (zI (e5 (nlk t.ms n))) from by unfold f_X7_nthLook; rw [hc.ct.ms, c_nth h3 hms (by rw [hZ]; exact hn)], pbd1_s, c_fits hc.ct hc.tb (nlk_lt _ _) (fun m hm => nlk_z _ _ hm), pbd1_s]
      simp only [jn1_e, pnm_e, show zI n + 1 = zI (n + 1 : Nat) from by rw [show (1 : Int32) = zI 1 from rfl, zI_add]; rfl]
      rw [cnt]
      cases hx : fitN t n with
      | true =>
        have hx : (!nfit t (nlk t.ms n)) = true := hx
        rw [hx, if_neg (by decide), show zI (cnt (fitN t) n) + 1 = zI (cnt (fitN t) n + 1 : Nat) from by rw [show (1 : Int32) = zI 1 from rfl, zI_add]; rfl]; rfl
      | false =>
        have hx : (!nfit t (nlk t.ms n)) = false := hx
        rw [hx, if_pos (by decide), show zI (cnt (fitN t) n) + 0 = zI (cnt (fitN t) n + 0 : Nat) from by rw [show (0 : Int32) = zI 0 from rfl, zI_add]; rfl]; rfl
  · have hms := hc.tb.ms
    have h3 := hc.tb.ms3 hp
    have h4 := all_b hms
    obtain ⟨Z, hZ⟩ : ∃ Z : Nat, 4 ^ t.ms = Z := ⟨_, rfl⟩
    rw [hZ] at h4
    have ha : f_X13_allLooks σ = some (zI Z) := by
      unfold f_X13_allLooks
      rw [show (0 : Int32) = zI 0 from rfl, show aln 67 = 175 from rfl, ixd_in (by omega), show (zI 0).toNatClampNeg = 0 from rfl, hc.mr.ms, all_l hms, hZ]
    rw [ha, hZ]
    refine fx2_run (fun n => zI (cnt (fitN t) n)) (fun n => zI n) Z 0 (by omega) rfl rfl (fun k => ?_) (fun n hn k => ?_)
    · rw [pbd1_s, if_pos (by rw [zI_le (by omega) (by omega)]; omega)]
    · rw [pbd1_s, if_neg (by rw [zI_le (by omega) (by omega)]; omega), m_lookBy hc.mr hc.tb h3 (by rw [hZ]; exact hn), pbd1_s, m_canBe hc.mr hc.tb (nlk_lt _ _) (fun m hm => nlk_z _ _ hm), pbd1_s]
      simp only [jn1_e, pnm_e, show zI n + 1 = zI (n + 1 : Nat) from by rw [show (1 : Int32) = zI 1 from rfl, zI_add]; rfl]
      rw [cnt]
      cases hx : fitN t n with
      | true =>
        have hx : (!nfit t (nlk t.ms n)) = true := hx
        rw [hx, if_neg (by decide), show zI (cnt (fitN t) n) + 1 = zI (cnt (fitN t) n + 1 : Nat) from by rw [show (1 : Int32) = zI 1 from rfl, zI_add]; rfl]; rfl
      | false =>
        have hx : (!nfit t (nlk t.ms n)) = false := hx
        rw [hx, if_pos (by decide), show zI (cnt (fitN t) n) + 0 = zI (cnt (fitN t) n + 0 : Nat) from by rw [show (0 : Int32) = zI 0 from rfl, zI_add]; rfl]; rfl
/-- the a-th of those that are so, of the last k below N -/
def fndN (f : Nat → Bool) (a : Int) (N : Nat) : Nat → Option Nat
  | 0 => none
  | k + 1 => if f (N - (k + 1)) = true ∧ (cnt f (N - (k + 1)) : Int) = a then some (N - (k + 1)) else fndN f a N k
theorem fndN_b {f : Nat → Bool} {a : Int} {N : Nat} : ∀ {k n}, fndN f a N k = some n → k ≤ N → n < N
  | 0, n, h, _ => by cases h
  | k + 1, n, h, hk => by
    rw [fndN] at h
    split at h
    · have := Option.some.inj h; omega
    · exact fndN_b h (by omega)
theorem fx2_fnd {β : Type} {F : (Int32 → Int32 → Option β) → Int32 → Int32 → Option β} (f : Nat → Bool) (a : Int) (N : Nat) (hN : N < 5000) (out : Option Nat → Option β) (he : ∀ k x, F k x (zI N) = out none) (hs : ∀ n : Nat, n < N → ∀ k, F k (zI (cnt f n)) (zI n) = if f n = true then (if (cnt f n : Int) = a then out (some n) else k (zI (cnt f n + 1 : Nat)) (zI (n + 1 : Nat))) else k (zI (cnt f n)) (zI (n + 1 : Nat))) : fx2 FU F 0 0 = out (fndN f a N N) := by
  refine (fx2_go (fun n => zI (cnt f n)) (fun n => zI n) (fun n => out (fndN f a N (N - n))) N 0 (by omega) rfl rfl (fun k => ?_) (fun n hn k => ?_)).trans (by rw [Nat.sub_zero])
  · rw [Nat.sub_self]; exact he k _
  · rw [hs n hn k]
    obtain ⟨j, hj⟩ : ∃ j, N - n = j + 1 := ⟨N - n - 1, by omega⟩
    rw [hj, fndN, show N - (j + 1) = n from by omega, show N - (n + 1) = j from by omega, cnt]
    by_cases q : f n = true
    · rw [if_pos q, if_pos q]
      by_cases q2 : (cnt f n : Int) = a
      · left; rw [if_pos q2, if_pos ⟨q, q2⟩]
      · right; rw [if_neg q2, if_neg (fun x => q2 x.2)]; exact ⟨rfl, rfl⟩
    · right; rw [if_neg q, if_neg q, if_neg (fun x => q x.1)]; exact ⟨rfl, rfl⟩
def dgt (f : Nat → Nat) : Nat → Nat
  | 0 => 0
  | m + 1 => 10 * dgt f m + f m + 1
theorem dgt_b {f : Nat → Nat} (h : lt4 f) : ∀ m, dgt f m < 10 ^ m
  | 0 => by show 0 < 1; omega
  | m + 1 => by have := dgt_b h m; have := h m; rw [dgt, Nat.pow_succ]; omega
theorem dgt_6 {f : Nat → Nat} (h : lt4 f) {m : Nat} (hm : m ≤ 6) : dgt f m < 1000000 := Nat.lt_of_lt_of_le (dgt_b h m) (show 10 ^ m ≤ 10 ^ 6 from Nat.pow_le_pow_right (by omega) hm)
theorem c_digits {f : Nat → Nat} (h : lt4 f) {m : Nat} (hm : m ≤ 6) : f_X5_digits (zI (e5 f)) (zI m) = some (zI (dgt f m)) := by
  unfold f_X5_digits
  refine fx2_run (fun i => zI (dgt f i)) (fun i => zI i) m 0 (by omega) rfl rfl (fun k => ?_) (fun i hi k => ?_)
  · rw [if_pos (by rw [zI_le (by omega) (by omega)]; omega)]
  · rw [if_neg (by rw [zI_le (by omega) (by omega)]; omega), c_letter h (by omega), pbd1_s, pnm_e, pnm_e, show (10 : Int32) = zI 10 from rfl, show (1 : Int32) = zI 1 from rfl, zI_mul, zI_add, zI_add, zI_add, dgt]
    refine congr (congrArg k (congrArg zI ?_)) (congrArg zI ?_) <;> omega
theorem m_digits {σ : Mem} {t : TT} (hR : MR (σ.1 67) t) (tb : TB t) {f : Nat → Nat} (h : lt4 f) : f_X13_digits σ (zI (e4 f)) = some (zI (dgt f t.ms)) := by
  have hms := tb.ms
  unfold f_X13_digits
  have i0 : ∀ β (k : Option β), ixd 0 (aln 67) k = k := fun β k => by rw [show (0 : Int32) = zI 0 from rfl, show aln 67 = 175 from rfl, ixd_in (by omega)]
  have p0 : σ.1 67 (0 : Int32).toNatClampNeg = zI t.ms := hR.ms
  simp only [i0, p0]
  refine fx2_run (fun i => zI (dgt f i)) (fun i => zI i) t.ms 0 (by omega) rfl rfl (fun k => ?_) (fun i hi k => ?_)
  · rw [if_pos (by rw [zI_le (by omega) (by omega)]; omega)]
  · rw [if_neg (by rw [zI_le (by omega) (by omega)]; omega), m_mark h (by omega), pbd1_s, pnm_e, pnm_e, show (10 : Int32) = zI 10 from rfl, show (1 : Int32) = zI 1 from rfl, zI_mul, zI_add, zI_add, zI_add, dgt]
    refine congr (congrArg k (congrArg zI ?_)) (congrArg zI ?_) <;> omega
theorem c_fitAt {σ : Mem} {T : Nat} {t : TT} (hT : CT σ T t) (tb : TB t) (h3 : 3 ≤ t.ms) {a : Int} (ha : -2147483648 ≤ a ∧ a < 2147483648) : f_X7_fittingAt σ T (zI a) = some (match fndN (fitN t) a (4 ^ t.ms) (4 ^ t.ms) with | none => -2 | some n => zI (e5 (nlk t.ms n))) := by
  have hms := tb.ms
  have h4 := all_b hms
  obtain ⟨Z, hZ⟩ : ∃ Z : Nat, 4 ^ t.ms = Z := ⟨_, rfl⟩
  rw [hZ] at h4
  unfold f_X7_fittingAt f_X7_countLooks
  rw [hT.ms, all_l hms, hZ]
  refine fx2_fnd (fitN t) a Z (by omega) (fun o => some (match o with | none => -2 | some n => zI (e5 (nlk t.ms n)))) (fun k x => ?_) (fun n hn k => ?_)
  · rw [pbd1_s, if_pos (by rw [zI_le (by omega) (by omega)]; omega)]
  · have hnt : f_X7_nthLook σ T (zI n) = some (zI (e5 (nlk t.ms n))) := by unfold f_X7_nthLook; rw [hT.ms, c_nth h3 hms (by rw [hZ]; exact hn)]
    have hcn := cnt_le (fitN t) n
    rw [pbd1_s, if_neg (by rw [zI_le (by omega) (by omega)]; omega), hnt, pbd1_s, c_fits hT tb (nlk_lt _ _) (fun m hm => nlk_z _ _ hm), pbd1_s]
    simp only [jn1_e, pnm_e, show zI n + 1 = zI (n + 1 : Nat) from by rw [show (1 : Int32) = zI 1 from rfl, zI_add]; rfl]
    cases hx : fitN t n with
    | true =>
      have hx : (!nfit t (nlk t.ms n)) = true := hx
      rw [hx, if_neg (by decide), if_pos rfl]
      by_cases q : (cnt (fitN t) n : Int) = a
      · rw [if_pos (by rw [q]), if_pos q, pbd1_s]
      · rw [if_neg (by rw [zI_eq (by omega) ha]; exact q), if_neg q, show zI (cnt (fitN t) n) + 1 = zI (cnt (fitN t) n + 1 : Nat) from by rw [show (1 : Int32) = zI 1 from rfl, zI_add]; rfl]
    | false =>
      have hx : (!nfit t (nlk t.ms n)) = false := hx
      rw [hx, if_pos (by decide), if_neg (by decide)]
theorem rel_unknownAt (σ : Mem) (h : RLq σ) (x : Int32) : ∃ r σ1 σ2, f_X12_unknownAt σ x = some (r, σ1) ∧ f_X13_unknownAt σ1 x = some (r, σ2) ∧ RLq σ2 := by
  obtain ⟨T, t, s, hc, ht, hp⟩ := h
  have hms := hc.tb.ms
  have ha := zI_rng x
  rw [zI_all x]
  generalize x.toInt = a at ha
  unfold f_X12_unknownAt f_X13_unknownAt
  rw [c_ofTown hc, pbd1_s]
  simp only [m_good, pbd1_s, jn1_e]
  by_cases q : 0 < t.P
  · have h3 := hc.tb.ms3 q
    have h4 := all_b hms
    obtain ⟨Z, hZ⟩ : ∃ Z : Nat, 4 ^ t.ms = Z := ⟨_, rfl⟩
    rw [decide_eq_false (by omega), if_pos (by rfl), hc.town, prfc_s, c_fitAt hc.ct hc.tb h3 ha, pbd1_s]
    rw [hZ] at h4 ⊢
    have key : ∀ τ : Mem, RC τ T t s → fx2 FU (fun k_4 (i_2 : Int32) (i_3 : Int32) => bd1 (f_X13_allLooks τ) (fun (r_5 : Int32) => (if r_5 ≤ i_3 then bd2 (f_X13_no τ 1) (fun (r_6 : Int32) (σ_7 : Mem) => some (r_6, σ_7)) else bd1 (f_X13_lookBy τ i_3) (fun (r_8 : Int32) => bd1 (f_X13_canBe τ r_8) (fun (r_9 : Int32) => (if r_9 = 0 then nm (i_3 + 1) (fun (x_12 : Int32) => k_4 i_2 x_12) else (if i_2 = zI a then bd1 (f_X13_digits τ r_8) (fun (r_16 : Int32) => some (r_16, τ)) else nm (i_2 + 1) (fun (x_14 : Int32) => nm (i_3 + 1) (fun (x_12 : Int32) => k_4 x_14 x_12))))))))) 0 0 = match fndN (fitN t) a Z Z with | none => some (-1, sI τ 64 11 1) | some n => some (zI (dgt (nlk t.ms n) t.ms), τ) := by
      intro τ hτ
      have hal : f_X13_allLooks τ = some (zI Z) := by
        unfold f_X13_allLooks
        rw [show (0 : Int32) = zI 0 from rfl, show aln 67 = 175 from rfl, ixd_in (by omega), show (zI 0).toNatClampNeg = 0 from rfl, hτ.mr.ms, all_l hms, hZ]
      rw [hal]
      refine fx2_fnd (fitN t) a Z (by omega) (fun o => match o with | none => some (-1, sI τ 64 11 1) | some n => some (zI (dgt (nlk t.ms n) t.ms), τ)) (fun k x => ?_) (fun n hn k => ?_)
      · rw [pbd1_s, if_pos (by rw [zI_le (by omega) (by omega)]; omega), m_no, pbd2_s]
      · have hcn := cnt_le (fitN t) n
        rw [pbd1_s, if_neg (by rw [zI_le (by omega) (by omega)]; omega), m_lookBy hτ.mr hc.tb h3 (by rw [hZ]; exact hn), pbd1_s, m_canBe hτ.mr hc.tb (nlk_lt _ _) (fun m hm => nlk_z _ _ hm), pbd1_s]
        simp only [pnm_e, show zI n + 1 = zI (n + 1 : Nat) from by rw [show (1 : Int32) = zI 1 from rfl, zI_add]; rfl]
        cases hx : fitN t n with
        | true =>
          have hx : (!nfit t (nlk t.ms n)) = true := hx
          rw [hx, if_neg (by decide), if_pos rfl]
          by_cases q : (cnt (fitN t) n : Int) = a
          · rw [if_pos (by rw [q]), if_pos q, m_digits hτ.mr hc.tb (nlk_lt _ _), pbd1_s]
          · rw [if_neg (by rw [zI_eq (by omega) ha]; exact q), if_neg q, show zI (cnt (fitN t) n) + 1 = zI (cnt (fitN t) n + 1 : Nat) from by rw [show (1 : Int32) = zI 1 from rfl, zI_add]; rfl]
        | false =>
          have hx : (!nfit t (nlk t.ms n)) = false := hx
          rw [hx, if_pos (by decide), if_neg (by decide)]
    have key2 := fun τ hτ => key τ hτ
    cases hf : fndN (fitN t) a Z Z with
    | none =>
      have hc2 := RC_m hc 1
      dsimp only
      rw [if_neg (by decide), refu_1, pbd2_s, if_neg (by decide)]
      refine ⟨_, _, _, rfl, ?_, RL_no hc 1 (by decide)⟩
      rw [if_neg (by rw [hc2.has, decide_eq_true q]; decide)]
      refine (key2 _ hc2).trans ?_
      rw [hf]
    | some n =>
      have hb := e5_lt (nlk_lt t.ms n)
      have hc1 := RC_c hc 0
      have hc2 := RC_m hc 0
      dsimp only
      rw [show (0 : Int32) = zI 0 from rfl, if_pos (by rw [zI_le (by omega) (by omega)]; omega), show zI 0 = (0 : Int32) from rfl, refu_0, pbd2_s, if_pos rfl, hc1.town, prfc_s, hc1.ct.ms, c_digits (nlk_lt _ _) hms, pbd1_s]
      refine ⟨_, _, _, rfl, ?_, RL_yes hc⟩
      rw [if_neg (by rw [hc2.has, decide_eq_true q]; decide)]
      refine (key2 _ hc2).trans ?_
      rw [hf]
  · rw [decide_eq_true (by omega), if_neg (by decide), if_neg (by decide), refu_1, pbd2_s, if_neg (by decide)]
    have hc2 := RC_m hc 1
    refine ⟨_, _, _, rfl, ?_, RL_no hc 1 (by decide)⟩
    rw [if_pos (by rw [hc2.has, decide_eq_false q]; rfl), m_no]
    rfl
