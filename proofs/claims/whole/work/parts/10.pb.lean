/-- a state begun, of the town at T -/
def bgn (σ : Mem) (k T : Nat) : Mem := sA (sA (sI (sI (sR σ k 0 (some T)) k 1 0) k 2 0) (k + 1) (va_cpy ((sI (sI (sR σ k 0 (some T)) k 1 0) k 2 0).1 (T + 7)) ((sI (sI (sR σ k 0 (some T)) k 1 0) k 2 0).1 (k + 1)) 0 0 30)) (k + 3) (va_cpy ((sA (sI (sI (sR σ k 0 (some T)) k 1 0) k 2 0) (k + 1) (va_cpy ((sI (sI (sR σ k 0 (some T)) k 1 0) k 2 0).1 (T + 7)) ((sI (sI (sR σ k 0 (some T)) k 1 0) k 2 0).1 (k + 1)) 0 0 30)).1 (T + 6)) ((sA (sI (sI (sR σ k 0 (some T)) k 1 0) k 2 0) (k + 1) (va_cpy ((sI (sI (sR σ k 0 (some T)) k 1 0) k 2 0).1 (T + 7)) ((sI (sI (sR σ k 0 (some T)) k 1 0) k 2 0).1 (k + 1)) 0 0 30)).1 (k + 3)) 0 0 150)
theorem c_beg {σ : Mem} {k T : Nat} (hk : k = 28 ∨ k = 32 ∨ k = 37 ∨ k = 41 ∨ k = 45) (hT : T = 3 ∨ T = 15) : f_X9_begin σ k T = some (bgn σ k T) := by
  have aa := ct_aln hT
  have ak := cs_aln hk
  unfold f_X9_begin f_X5_copy
  rw [pnm_e, pnm_e, pnm_e, c_row (n := 30) aa.2.2.2.2.2.1 ak.1 (by omega), pbd1_s]
  show bd1 (bd1 (f_X12_copyRow _ (T + 6) (k + 3)) _) _ = _
  rw [c_row (n := 150) aa.2.2.2.2.1 ak.2 (by omega), pbd1_s, pbd1_s]
  rfl
theorem bgn_o {σ : Mem} {k T a : Nat} (h1 : a ≠ k) (h2 : a ≠ k + 1) (h3 : a ≠ k + 3) : (bgn σ k T).1 a = σ.1 a := by
  unfold bgn
  rw [sA_o _ _ _ h3, sA_o _ _ _ h2, sI_o _ _ _ _ h1, sI_o _ _ _ _ h1]; rfl
theorem bgn_r {σ : Mem} {k T a j : Nat} : (bgn σ k T).2.2 a j = if a = k ∧ j = 0 then some T else σ.2.2 a j := by
  show (sR σ k 0 (some T)).2.2 a j = _
  rw [sR_2]
theorem bgn_l {σ : Mem} {k T : Nat} : (bgn σ k T).2.1 = σ.2.1 := rfl
theorem bgn_cs {σ : Mem} {k T : Nat} (hk : k = 28 ∨ k = 32 ∨ k = 37 ∨ k = 41 ∨ k = 45) (hT : T = 3 ∨ T = 15) (h : CT σ T tZ) : CS (bgn σ k T) k T tZ [] (sZ tZ) := by
  refine ⟨hk, by rw [bgn_r, if_pos ⟨rfl, rfl⟩], ?_, ?_, fun d hd => ?_, fun p d hp _ => absurd hp (Nat.not_lt_zero p)⟩
  · unfold bgn
    rw [sA_o _ _ _ (by omega), sA_o _ _ _ (by omega), sI_1, if_neg (by omega), sI_1, if_pos ⟨rfl, rfl⟩]; rfl
  · unfold bgn
    rw [sA_o _ _ _ (by omega), sA_o _ _ _ (by omega), sI_1, if_pos ⟨rfl, rfl⟩]; rfl
  · unfold bgn
    rw [sA_o _ _ _ (by omega), sA_at, va_0 hd, sI_o _ _ _ _ (by omega), sI_o _ _ _ _ (by omega)]
    exact h.vis d hd
theorem ZA_bgn {σ : Mem} {k T : Nat} (h : ZA k σ) : ZA (k + 4) (bgn σ k T) := fun a ha => by
  obtain ⟨h1, h2, h3⟩ := h a (by omega)
  refine ⟨(bgn_o (by omega) (by omega) (by omega)).trans h1, h2, funext fun j => ?_⟩
  rw [bgn_r, if_neg (by omega), h3]
theorem ZA_sR {σ : Mem} {k a : Nat} (h : ZA k σ) (ha : a < k) (j : Nat) (v : Option Nat) : ZA k (sR σ a j v) := fun b hb => by
  obtain ⟨h1, h2, h3⟩ := h b hb
  exact ⟨h1, h2, (sR_o _ _ _ _ (by omega)).trans h3⟩
theorem ZA.le {σ : Mem} {k j : Nat} (h : ZA k σ) (hj : k ≤ j) : ZA j σ := fun a ha => h a (Nat.le_trans hj ha)
/-- what the house is while it is being built -/
def hsG (k : Nat) (σ : Mem) : Prop := ZA k σ ∧ CT σ 3 tZ ∧ σ.1 0 = (fun _ => 0) ∧ σ.1 1 = (fun _ => 0) ∧ σ.2.2 0 = (fun _ => none)
theorem hsG_bgn {σ : Mem} {k : Nat} (hk : k = 28 ∨ k = 32 ∨ k = 37 ∨ k = 41 ∨ k = 45) (h : hsG k σ) : hsG (k + 4) (bgn σ k 3) := by
  obtain ⟨h1, h2, h3, h4, h5⟩ := h
  refine ⟨ZA_bgn h1, h2.of (fun a x y => bgn_o (by omega) (by omega) (by omega)), (bgn_o (by omega) (by omega) (by omega)).trans h3, (bgn_o (by omega) (by omega) (by omega)).trans h4, funext fun j => ?_⟩
  rw [bgn_r, if_neg (by omega), h5]
theorem hsG_sR {σ : Mem} {k a : Nat} (h : hsG k σ) (h0 : 0 < a) (ha : a < k) (j : Nat) (v : Option Nat) : hsG k (sR σ a j v) :=
  ⟨ZA_sR h.1 ha j v, h.2.1.of (fun _ _ _ => rfl), h.2.2.1, h.2.2.2.1, (sR_o _ _ _ _ (by omega)).trans h.2.2.2.2⟩
theorem init_pure : ∃ τ1 τ2 τ3 τ4 τ5 τ6 τ7 : Mem, f_X11_forget Z0 3 = some τ1 ∧ f_X11_forget τ1 15 = some τ2 ∧ f_X9_begin (sR τ2 27 1 (some 15)) 28 3 = some τ3 ∧ f_X9_begin τ3 32 3 = some τ4 ∧ f_X9_begin τ4 37 3 = some τ5 ∧ f_X9_begin (sR τ5 36 0 (some 37)) 41 3 = some τ6 ∧ f_X9_begin (sR τ6 36 1 (some 41)) 45 3 = some τ7 ∧ ZA 15 τ1 ∧ ZA 27 τ2 ∧ ZA 28 (sR τ2 27 1 (some 15)) ∧ ZA 32 τ3 ∧ ZA 36 τ4 ∧ ZA 41 (sR τ5 36 0 (some 37)) ∧ ZA 45 (sR τ6 36 1 (some 41)) ∧ ZA 49 (sR τ7 36 2 (some 45)) ∧ (sR τ7 36 2 (some 45)).1 0 = (fun _ => 0) ∧ (sR τ7 36 2 (some 45)).2.2 0 = (fun _ => none) ∧ ZA 64 (sR (sR (sR τ7 36 2 (some 45)) 0 10 (some 3)) 0 11 (some 15)) ∧ RLq (sI (sR (sR (sR τ7 36 2 (some 45)) 0 10 (some 3)) 0 11 (some 15)) 64 10 (-1)) := by
  have z0 : ZA 0 Z0 := fun a _ => ⟨rfl, rfl, rfl⟩
  -- the towns
  obtain ⟨τ1, a1, a2, a3, a4, -⟩ := c_fgt0 (σ := Z0) (T := 3) (Or.inl rfl)
  have g1 : hsG 15 τ1 := ⟨fun a ha => ⟨(a3 a (by omega)).trans (z0 a (by omega)).1, by rw [a2]; rfl, by rw [a2]; rfl⟩, a4, a3 0 (by omega), a3 1 (by omega), by rw [a2]; rfl⟩
  obtain ⟨τ2, b1, b2, b3, -, -⟩ := c_fgt0 (σ := τ1) (T := 15) (Or.inr rfl)
  have g2 : hsG 27 τ2 := ⟨fun a ha => by
    obtain ⟨q1, q2, q3⟩ := g1.1 a (by omega)
    exact ⟨(b3 a (by omega)).trans q1, by rw [b2]; exact q2, by rw [b2]; exact q3⟩, g1.2.1.of (fun a x y => b3 a (by omega)), (b3 0 (by omega)).trans g1.2.2.1, (b3 1 (by omega)).trans g1.2.2.2.1, by rw [b2]; exact g1.2.2.2.2⟩
  -- the reader, the states, the images
  have g3 : hsG 28 (sR τ2 27 1 (some 15)) := hsG_sR ⟨g2.1.le (by omega), g2.2⟩ (by omega) (by omega) 1 _
  have g4 := hsG_bgn (k := 28) (Or.inl rfl) g3
  have g5 := hsG_bgn (k := 32) (Or.inr (Or.inl rfl)) g4
  have g6 := hsG_bgn (k := 37) (Or.inr (Or.inr (Or.inl rfl))) ⟨g5.1.le (by omega), g5.2⟩
  have g6' := hsG_sR (a := 36) g6 (by omega) (by omega) 0 (some 37)
  have g7 := hsG_bgn (k := 41) (Or.inr (Or.inr (Or.inr (Or.inl rfl)))) g6'
  have g7' := hsG_sR (a := 36) g7 (by omega) (by omega) 1 (some 41)
  have g8 := hsG_bgn (k := 45) (Or.inr (Or.inr (Or.inr (Or.inr rfl)))) g7'
  have g8' := hsG_sR (a := 36) g8 (by omega) (by omega) 2 (some 45)
  refine ⟨τ1, τ2, _, _, _, _, _, a1, b1, c_beg (Or.inl rfl) (Or.inl rfl), c_beg (Or.inr (Or.inl rfl)) (Or.inl rfl), c_beg (Or.inr (Or.inr (Or.inl rfl))) (Or.inl rfl), c_beg (Or.inr (Or.inr (Or.inr (Or.inl rfl)))) (Or.inl rfl), c_beg (Or.inr (Or.inr (Or.inr (Or.inr rfl)))) (Or.inl rfl), g1.1, g2.1, g3.1, g4.1, g5.1, g6'.1, g7'.1, g8'.1, g8'.2.2.1, g8'.2.2.2.2, ZA_sR (ZA_sR (g8'.1.le (by omega)) (by omega) _ _) (by omega) _ _, ?_⟩
  -- what stands at the end
  have cs4 := bgn_cs (k := 28) (Or.inl rfl) (Or.inl rfl) g3.2.1
  have n27 : (bgn (sR τ2 27 1 (some 15)) 28 3).2.2 27 1 = some 15 := by rw [bgn_r, if_neg (by omega), sR_2, if_pos ⟨rfl, rfl⟩]
  revert g4 g5 g6 g6' g7 g7' g8 g8' cs4 n27
  generalize bgn (sR τ2 27 1 (some 15)) 28 3 = y4
  intro g4 g5 g6 g6' g7 g7' g8 g8' cs4 n27
  obtain ⟨z, hz⟩ : ∃ z, z = sR (bgn (sR (bgn (sR (bgn (bgn y4 32 3) 37 3) 36 0 (some 37)) 41 3) 36 1 (some 41)) 45 3) 36 2 (some 45) := ⟨_, rfl⟩
  have i0 : z.2.2 36 0 = some 37 := by
    rw [hz, sR_2, if_neg (by omega), bgn_r, if_neg (by omega), sR_2, if_neg (by omega), bgn_r, if_neg (by omega), sR_2, if_pos ⟨rfl, rfl⟩]
  have i1 : z.2.2 36 1 = some 41 := by
    rw [hz, sR_2, if_neg (by omega), bgn_r, if_neg (by omega), sR_2, if_pos ⟨rfl, rfl⟩]
  have i2 : z.2.2 36 2 = some 45 := by rw [hz, sR_2, if_pos ⟨rfl, rfl⟩]
  have m27 : z.2.2 27 1 = some 15 := by
    rw [hz, sR_2, if_neg (by omega), bgn_r, if_neg (by omega), sR_2, if_neg (by omega), bgn_r, if_neg (by omega), sR_2, if_neg (by omega), bgn_r, if_neg (by omega), bgn_r, if_neg (by omega)]; exact n27
  have csz : CS z 28 3 tZ [] (sZ tZ) := by
    refine cs4.of (fun a h1 h2 => ?_) (funext fun j => ?_)
    · rw [hz]
      show (bgn (sR (bgn (sR (bgn (bgn y4 32 3) 37 3) 36 0 (some 37)) 41 3) 36 1 (some 41)) 45 3).1 a = _
      rw [bgn_o (by omega) (by omega) (by omega)]
      show (bgn (sR (bgn (bgn y4 32 3) 37 3) 36 0 (some 37)) 41 3).1 a = _
      rw [bgn_o (by omega) (by omega) (by omega)]
      show (bgn (bgn y4 32 3) 37 3).1 a = _
      rw [bgn_o (by omega) (by omega) (by omega), bgn_o (by omega) (by omega) (by omega)]
    · rw [hz, sR_2, if_neg (by omega), bgn_r, if_neg (by omega), sR_2, if_neg (by omega), bgn_r, if_neg (by omega), sR_2, if_neg (by omega), bgn_r, if_neg (by omega), bgn_r, if_neg (by omega)]
  rw [← hz] at g8' ⊢
  clear hz
  obtain ⟨za, zt, zz, z1, zr⟩ := g8'
  obtain ⟨w, hw⟩ : ∃ w, w = sI (sR (sR z 0 10 (some 3)) 0 11 (some 15)) 64 10 (-1) := ⟨_, rfl⟩
  rw [← hw]
  have w1 : ∀ a j, ¬ (a = 64 ∧ j = 10) → w.1 a j = z.1 a j := fun a j h => by rw [hw, sI_1, if_neg h]; rfl
  have wa : ∀ a, a ≠ 64 → w.1 a = z.1 a := fun a h => funext fun j => w1 a j (by omega)
  have wr : ∀ a j, ¬ (a = 0 ∧ (j = 10 ∨ j = 11)) → w.2.2 a j = z.2.2 a j := fun a j h => by
    rw [hw]
    show (sR (sR z 0 10 (some 3)) 0 11 (some 15)).2.2 a j = _
    rw [sR_2, if_neg (by omega), sR_2, if_neg (by omega)]
  have w0 : ∀ a j, 49 ≤ a → ¬ (a = 64 ∧ j = 10) → w.1 a j = 0 := fun a j h h2 => by rw [w1 a j h2, (za a h).1]
  have sb0 : SB tZ (sZ tZ) := ⟨fun d p e => (by cases e), by show 0 < 30; omega, by show 0 ≤ 12; omega, fun c hc => (by cases hc)⟩
  refine RL_mk (T := 3) (t := tZ) (s := sZ tZ) ⟨TI_Z.tb, sb0, ?_, ?_, zt.of (fun a h1 h2 => wa a (by omega)), csz.of (fun a h1 h2 => wa a (by omega)) (funext fun j => wr 28 j (by omega)), ⟨w0 _ _ (by omega) (by omega), w0 _ _ (by omega) (by omega), w0 _ _ (by omega) (by omega), w0 _ _ (by omega) (by omega), w0 _ _ (by omega) (by omega), w0 _ _ (by omega) (by omega), w0 _ _ (by omega) (by omega), w0 _ _ (by omega) (by omega), w0 _ _ (by omega) (by omega), w0 _ _ (by omega) (by omega), fun p hp => absurd hp (Nat.not_lt_zero p), fun p hp => absurd hp (Nat.not_lt_zero p), fun k c hc => (by cases hc), fun d hd => w0 _ _ (by omega) (by omega), fun x hx => absurd hx (Nat.not_lt_zero x), fun x hx => absurd hx (Nat.not_lt_zero x), fun p q hp hq => w0 _ _ (by omega) (by omega), fun p hp => w0 _ _ (by omega) (by omega)⟩, ⟨fun d hd => w0 _ _ (by omega) (by omega), fun k c hc => (by cases hc), w0 _ _ (by omega) (by omega), w0 _ _ (by omega) (by omega)⟩, w0 _ _ (by omega) (by omega), w0 _ _ (by omega) (by omega), ⟨0, fun _ => sZ tZ, ⟨by omega, w0 _ _ (by omega) (by omega), w0 _ _ (by omega) (by omega), fun i hi => absurd hi (Nat.not_lt_zero i), fun i hi => absurd hi (Nat.not_lt_zero i), fun i _ => sb0⟩, rfl, fun _ => rfl⟩, ⟨0, fun _ => sZ tZ, ⟨by omega, ?_, w0 _ _ (by omega) (by omega), fun i hi => ?_, fun i hi => absurd hi (Nat.not_lt_zero i), fun i hi => absurd hi (Nat.not_lt_zero i), fun i hi => absurd hi (Nat.not_lt_zero i)⟩, fun _ => rfl⟩, ⟨0, fun _ => 0, ⟨by omega, fun _ => (by show 0 < 256; omega), ?_, w0 _ _ (by omega) (by omega), fun i hi => absurd hi (Nat.not_lt_zero i), fun i hi => absurd hi (Nat.not_lt_zero i)⟩⟩, ?_, ⟨15, (wr _ _ (by omega)).trans m27⟩, fun _ => ⟨rfl, rfl, rfl, rfl, rfl, rfl, rfl, rfl, rfl, rfl, rfl, fun _ => rfl⟩⟩ 0 ?_ (w0 _ _ (by omega) (by omega)) (by decide)
  · rw [hw]; rfl
  · rw [hw]; rfl
  · rw [w1 0 12 (by omega), zz]; rfl
  · have : i = 0 ∨ i = 1 ∨ i = 2 := by omega
    rcases this with rfl | rfl | rfl
    · exact (wr _ _ (by omega)).trans i0
    · exact (wr _ _ (by omega)).trans i1
    · exact (wr _ _ (by omega)).trans i2
  · rw [w1 1 1 (by omega), z1]; rfl
  · rw [w1 0 14 (by omega), zz, w0 64 9 (by omega) (by omega)]
  · rw [w1 0 13 (by omega), zz]
/-- the class's led: none where it throws -/
def f_X12_led (σ : Mem) (a1 : Int32) : Option (Option Int32) :=
  fx2 FU (fun k_3 (i_1 : Int32) (i_2 : Int32) => rfc (σ.2.2 0 10) (fun (T_4 : Nat) => bd1 (f_X11_people σ T_4) (fun (r_5 : Int32) => (if r_5 ≤ i_2 then some none else bd1 (f_X9_knowsSelf σ 28 i_2 (σ.1 28 1)) (fun (r_6 : Int32) => jn1 (fun (i_7 : Int32) => nm (i_2 + 1) (fun (x_9 : Int32) => k_3 i_7 x_9)) (fun k_8 => (if r_6 = 0 then (if i_1 = a1 then some (some i_2) else nm (i_1 + 1) (fun (x_11 : Int32) => k_8 x_11)) else k_8 i_1))))))) 0 0
/-- how many before p don't know themselves -/
def ldc (q : Nat → Bool) : Nat → Nat
  | 0 => 0
  | p + 1 => ldc q p + (if q p = true then 0 else 1)
theorem ldc_le (q : Nat → Bool) : ∀ p, ldc q p ≤ p
  | 0 => Nat.le_refl 0
  | p + 1 => by
    have := ldc_le q p
    rw [ldc]
    split <;> omega
def ldp (q : Nat → Bool) (a : Int32) (p : Nat) : Bool := !(!q p && decide (zI (ldc q p : Nat) = a))
def ldx (q : Nat → Bool) (P : Nat) (a : Int32) (i : Nat) : Option Int32 := if sc (ldp q a) P i < P then some (zI (sc (ldp q a) P i : Nat)) else none
def ldm (σ : Mem) (o : Option Int32) : Int32 × Mem := match o with
  | none => (0, sI σ 64 0 1)
  | some v => (v, sI σ 64 0 0)
theorem ldx_at {q : Nat → Bool} {P i : Nat} {a : Int32} (hi : i < P) (h : q i = false) (ha : zI (ldc q i : Nat) = a) : ldx q P a i = some (zI (i : Nat)) := by
  unfold ldx
  rw [sc_no (Or.inr (by unfold ldp; rw [h, decide_eq_true ha]; rfl)), if_pos hi]
theorem ldx_go {q : Nat → Bool} {P i : Nat} {a : Int32} (hi : i < P) (h : q i = true ∨ zI (ldc q i : Nat) ≠ a) : ldx q P a (i + 1) = ldx q P a i := by
  have e : ldp q a i = true := by
    unfold ldp
    rcases h with h | h
    · rw [h]; rfl
    · rw [decide_eq_false h, Bool.and_false]; rfl
  unfold ldx
  rw [sc_go hi e]
theorem ldx_end {q : Nat → Bool} {P : Nat} {a : Int32} : ldx q P a P = none := by
  unfold ldx
  rw [sc_no (Or.inl (Nat.le_refl P)), if_neg (Nat.lt_irrefl P)]
theorem c_led {σ : Mem} {T : Nat} {t : TT} {s : SS} (hc : RC σ T t s) (a : Int32) : f_X12_led σ a = some (ldx (fun p => kn t (t.ch ++ s.sk) s p s.day) t.P a 0) := by
  have tP := hc.tb.P
  have hd := hc.sb.day
  unfold f_X12_led
  refine fx2_up (fun p => zI (ldc (fun p => kn t (t.ch ++ s.sk) s p s.day) p : Nat)) (fun p => zI (p : Nat)) (fun p => some (ldx (fun p => kn t (t.ch ++ s.sk) s p s.day) t.P a p)) t.P (by omega) (fun k => ?_) (fun i hi k => ?_) 0 (Nat.zero_le _)
  · rw [hc.town, prfc_s, ct_people hc.ct, pbd1_s, if_pos (by rw [zI_le (by omega) (by omega)]; omega), ldx_end]
  · rw [hc.town, prfc_s, ct_people hc.ct, pbd1_s, if_neg (show ¬ (zI (t.P : Nat) ≤ zI (i : Nat)) from by rw [zI_le (by omega) (by omega)]; omega), hc.cs.day, c_know hc.cs hc.ct hc.tb hc.sb hi hd, pbd1_s, jn1_e]
    dsimp only
    rw [zI_sc, ldc]
    by_cases hk : kn t (t.ch ++ s.sk) s i s.day = true
    · right
      rw [hk, if_neg (show ¬ bI true = 0 from by decide), if_pos (show true = true from rfl), pnm_e]
      exact ⟨congrArg (k _) (zI_sc i), congrArg some (ldx_go hi (Or.inl hk))⟩
    · have hk : kn t (t.ch ++ s.sk) s i s.day = false := by simpa using hk
      rw [hk, if_pos (show bI false = 0 from rfl), if_neg (show ¬ (false = true) from by decide)]
      by_cases ha : zI (ldc (fun p => kn t (t.ch ++ s.sk) s p s.day) i : Nat) = a
      · left
        rw [if_pos ha, ldx_at hi hk ha]
      · right
        rw [if_neg ha, pnm_e, pnm_e, zI_sc]
        exact ⟨rfl, congrArg some (ldx_go hi (Or.inr ha))⟩
theorem m_led {σ : Mem} {T : Nat} {t : TT} {s : SS} (hc : RC σ T t s) (a : Int32) : f_X13_led σ a = some (ldm σ (ldx (fun p => kn t (t.ch ++ s.sk) s p s.day) t.P a 0)) := by
  have tP := hc.tb.P
  have hd := hc.sb.day
  have h79 : σ.1 69 (79 : Int32).toNatClampNeg = zI s.day := hc.mv.day
  have h4 : σ.1 67 (4 : Int32).toNatClampNeg = zI t.P := hc.mr.P
  have x67 : ∀ {β : Type} (k : Option β), ixd 4 (aln 67) k = k := fun k => ixd_in (i := 4) (n := aln 67) (by decide)
  have x69 : ∀ {β : Type} (k : Option β), ixd 79 (aln 69) k = k := fun k => ixd_in (i := 79) (n := aln 69) (by decide)
  unfold f_X13_led
  refine fx2_up (fun p => zI (ldc (fun p => kn t (t.ch ++ s.sk) s p s.day) p : Nat)) (fun p => zI (p : Nat)) (fun p => some (ldm σ (ldx (fun p => kn t (t.ch ++ s.sk) s p s.day) t.P a p))) t.P (by omega) (fun k => ?_) (fun i hi k => ?_) 0 (Nat.zero_le _)
  · rw [ldx_end, jn0_e, x67, h4, hc.has]
    by_cases z : 0 < t.P
    · rw [decide_eq_true z, if_neg (show ¬ bI true = 0 from by decide), if_pos (show zI (t.P : Nat) ≤ zI (t.P : Nat) from by rw [zI_le (by omega) (by omega)]; omega)]; rfl
    · rw [decide_eq_false z, if_pos (show bI false = 0 from rfl)]; rfl
  · rw [jn0_e, x67, h4, hc.has, decide_eq_true (show 0 < t.P from by omega), if_neg (show ¬ bI true = 0 from by decide), if_neg (show ¬ (zI (t.P : Nat) ≤ zI (i : Nat)) from by rw [zI_le (by omega) (by omega)]; omega), x69, h79, hc.mkn hi hd, pbd1_s, jn1_e]
    dsimp only
    rw [zI_sc, ldc]
    by_cases hk : kn t (t.ch ++ s.sk) s i s.day = true
    · right
      rw [hk, if_neg (show ¬ bI true = 0 from by decide), if_pos (show true = true from rfl), pnm_e]
      exact ⟨congrArg (k _) (zI_sc i), by rw [ldx_go hi (Or.inl hk)]⟩
    · have hk : kn t (t.ch ++ s.sk) s i s.day = false := by simpa using hk
      rw [hk, if_pos (show bI false = 0 from rfl), if_neg (show ¬ (false = true) from by decide)]
      by_cases ha : zI (ldc (fun p => kn t (t.ch ++ s.sk) s p s.day) i : Nat) = a
      · left
        rw [if_pos ha, ldx_at hi hk ha, pnm_e]; rfl
      · right
        rw [if_neg ha, pnm_e, pnm_e, zI_sc]
        exact ⟨rfl, by rw [ldx_go hi (Or.inr ha)]⟩
/-- the law's own long -/
theorem Eqv.out (σ : Mem) (v : Int64) : Eqv σ (sL σ 80 0 v) := ⟨fun _ _ _ => rfl, fun _ _ => rfl, fun a h1 h2 => if_neg (show ¬ a = 80 from by omega)⟩
theorem RL_out {σ : Mem} (h : RLq σ) (v : Int64) : RLq (sL σ 80 0 v) := by
  obtain ⟨T, t, s, hc, ht, hp⟩ := h
  exact ⟨T, t, s, hc.eqv (Eqv.out σ v), ht, hp⟩
theorem rel_led (σ : Mem) (h : RLq σ) (a : Int32) : ∃ o, f_X12_led σ a = some o ∧ (o = none → f_X13_led σ a = some (0, sI σ 64 0 1) ∧ RLq (sI σ 64 0 1)) ∧ ∀ v, o = some v → f_X13_led (sL σ 80 0 v.toInt64) a = some (v, sI (sL σ 80 0 v.toInt64) 64 0 0) ∧ RLq (sI (sL σ 80 0 v.toInt64) 64 0 0) := by
  obtain ⟨T, t, s, hc, -, -⟩ := id h
  refine ⟨_, c_led hc a, fun e => ⟨?_, RL_th h 1⟩, fun v e => ⟨?_, RL_th (RL_out h _) 0⟩⟩
  · rw [m_led hc a, e]; rfl
  · rw [m_led (hc.eqv (Eqv.out σ v.toInt64)) a, e]; rfl
