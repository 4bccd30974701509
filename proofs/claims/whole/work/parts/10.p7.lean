theorem run_ext {k : Nat → Nat → Nat} {g : Nat → Nat} {L M : Nat → Bool} (h : L = M) {r : List (Nat → Bool)} (hr : pRun k g L r) : pRun k g M r := by rw [← h]; exact hr
/-- round after round, till nobody is left -/
theorem m_rounds {T : Nat} {t : TT} {s : SS} {σ0 : Mem} (hc : RC σ0 T t s) : ∀ n, ∀ (τ : Mem) (g : Nat → Nat) (L : Nat → Bool), cnt L 5 ≤ n → MR (τ.1 67) t → RM τ t s g L → Pre t s g L → ∀ M, ∃ υ g2 r, (∀ a, a ≠ 78 → υ.1 a = τ.1 a) ∧ υ.2 = τ.2 ∧ RM υ t s g2 (fun _ => false) ∧ pRun (kR t s) g2 (inR t s) r ∧ fx2 (n + 1 + M) (fun k_8 (i_6 : Int32) (σ_7 : Mem) => (if i_6 = 0 then some σ_7 else bd2 (f_X13_ringOut σ_7 i_6) (fun (r_9 : Int32) (σ_10 : Mem) => k_8 r_9 σ_10))) (zI (bits L t.P)) τ = some υ := by
  have hP := hc.tb.P
  have h5 := inR_5 hc.tb s
  have fin : ∀ (τ : Mem) (g : Nat → Nat) (L : Nat → Bool), (∀ q, L q = false) → RM τ t s g L → Pre t s g L → ∃ r, RM τ t s g (fun _ => false) ∧ pRun (kR t s) g (inR t s) r ∧ bits L t.P = 0 := by
    intro τ g L hL hM hp
    have e : L = fun _ => false := funext hL
    rw [e] at hM hp
    obtain ⟨r, hr⟩ := hp g (fun _ _ => rfl) [] (fun _ => rfl)
    exact ⟨r, hM, hr, bits_zero.2 (fun q _ => hL q)⟩
  intro n
  induction n with
  | zero =>
    intro τ g L hn hR hM hp M
    have hL : ∀ q, L q = false := fun q => by
      cases e : L q with
      | false => rfl
      | true => have := cnt_pos e (h5 q (hM.sub q e)); omega
    obtain ⟨r, h1, h2, h3⟩ := fin τ g L hL hM hp
    refine ⟨τ, g, r, fun a _ => rfl, rfl, h1, h2, ?_⟩
    rw [show 0 + 1 + M = M + 1 from by omega]
    show (if zI (bits L t.P) = 0 then some τ else _) = _
    rw [if_pos (by rw [h3]; rfl)]
  | succ n ih =>
    intro τ g L hn hR hM hp M
    rw [show n + 1 + 1 + M = (n + 1 + M) + 1 from by omega]
    cases hx : exF L 0 5 with
    | false =>
      have hL : ∀ q, L q = false := fun q => by
        cases e : L q with
        | false => rfl
        | true => rw [exF_t q (by omega) (h5 q (hM.sub q e)) e] at hx; cases hx
      obtain ⟨r, h1, h2, h3⟩ := fin τ g L hL hM hp
      refine ⟨τ, g, r, fun a _ => rfl, rfl, h1, h2, ?_⟩
      show (if zI (bits L t.P) = 0 then some τ else _) = _
      rw [if_pos (by rw [h3]; rfl)]
    | true =>
      obtain ⟨p0, -, hp5, hp0⟩ := exF_iff.1 hx
      have hL5 : L5 L := fun q hq => h5 q (hM.sub q hq)
      obtain ⟨f, hfe⟩ : ∃ f, f = fR t s L := ⟨_, rfl⟩
      have hf : ∀ i, f i < 5 ∧ L (f i) = true := fun i => by rw [hfe]; exact fR_lt hL5 hp0 i (t := t) (s := s)
      obtain ⟨τ1, e1, e2, e3, e4⟩ := m_out hc.tb hR hM hfe hp0
      have hcl := inC_cl (L := L) hfe (fun p _ => (hf p).2)
      obtain ⟨q, hq⟩ := inC_ex hL5 (fun i => (hf i).1) (fun p _ => (hf p).2) hp0
      have hcd := cnt_dif hcl.sub 5
      have hcp := cnt_pos hq (hL5 q (hcl.sub q hq))
      obtain ⟨υ, g2, r, v1, v2, v3, v4, v5⟩ := ih τ1 (upg (inC f L) f g) (dif L (inC f L)) (by omega) (by rw [e2 67 (by omega)]; exact hR) e4 (hp.step hM.sub hcl hfe) M
      refine ⟨υ, g2, r, fun a x => by rw [v1 a x, e2 a x], by rw [v2, e3], v3, v4, ?_⟩
      have hne : ¬ zI (bits L t.P) = 0 := by
        have hb := bits_256 L (show t.P ≤ 8 by omega)
        rw [show (0 : Int32) = zI 0 from rfl, zI_eq (by omega) (by omega)]
        intro w
        have := bits_zero.1 (show bits L t.P = 0 by omega) p0 (of_decide_eq_true (hM.sub p0 hp0)).1
        rw [hp0] at this; cases this
      show (if zI (bits L t.P) = 0 then some τ else bd2 (f_X13_ringOut τ (zI (bits L t.P))) _) = _
      rw [if_neg hne, e1, pbd2_s]
      exact v5
theorem tbwp {t : TT} (tb : TB t) {w : Nat} (h : w < t.W) : t.wp w < 5 := Nat.lt_of_lt_of_le (tb.wp w h) tb.P
theorem m_lay {σ : Mem} {T : Nat} {t : TT} {s : SS} (hc : RC σ T t s) : ∃ τ g r, f_X13_layRings σ = some τ ∧ Ev σ τ ∧ RM τ t s g (fun _ => false) ∧ pRun (kR t s) g (inR t s) r ∧ τ.1 64 30 = zI (bits (inR t s) t.P) ∧ τ.1 67 = σ.1 67 := by
  have hP := hc.tb.P
  have hW := hc.tb.W
  have hday := hc.sb.day
  have a67 : aln 67 = 175 := rfl
  have a69 : aln 69 = 80 := rfl
  have a76 : aln 76 = 5 := rfl
  have a77 : aln 77 = 5 := rfl
  have a78 : aln 78 = 5 := rfl
  have i4 : ∀ β (k : Option β), ixd 4 (aln 67) k = k := fun β k => by rw [show (4 : Int32) = zI 4 from rfl, ixd_in (by omega)]
  have i7 : ∀ β (k : Option β), ixd 7 (aln 67) k = k := fun β k => by rw [show (7 : Int32) = zI 7 from rfl, ixd_in (by omega)]
  have i79 : ∀ β (k : Option β), ixd 79 (aln 69) k = k := fun β k => by rw [show (79 : Int32) = zI 79 from rfl, ixd_in (by omega)]
  unfold f_X13_layRings
  rw [pnm_e]
  simp only [i4, i7, i79]
  let Fr : Mem → Prop := fun τ => (∀ a, a ≠ 64 → a ≠ 76 → a ≠ 77 → a ≠ 78 → τ.1 a = σ.1 a) ∧ (∀ j, j ≠ 30 → τ.1 64 j = σ.1 64 j) ∧ τ.2 = σ.2
  let Inv : Nat → Mem → Prop := fun i τ => Fr τ ∧ τ.1 64 30 = zI (bits (inR t s) i) ∧ ∀ p, p < i → (inR t s p = true → τ.1 76 p = zI (dR s p) ∧ τ.1 77 p = zI (wR t p)) ∧ τ.1 78 p = -2
  have hh := fx2_inv (A2 := Mem) (F := fun k_4 (i_2 : Int32) (σ_3 : Mem) => (if (σ_3.1 67 (4 : Int32).toNatClampNeg) ≤ i_2 then nm (σ_3.1 64 30) (fun (x_5 : Int32) => fx2 FU (fun k_8 (i_6 : Int32) (σ_7 : Mem) => (if i_6 = 0 then some σ_7 else bd2 (f_X13_ringOut σ_7 i_6) (fun (r_9 : Int32) (σ_10 : Mem) => k_8 r_9 σ_10))) x_5 σ_3) else ixd i_2 (aln 76) (nm (sI σ_3 76 i_2.toNatClampNeg (-2)) (fun (σ_11 : Mem) => ixd i_2 (aln 78) (nm (sI σ_11 78 i_2.toNatClampNeg (-2)) (fun (σ_12 : Mem) => ixd i_2 (aln 77) (nm (sI σ_12 77 i_2.toNatClampNeg (-2)) (fun (σ_13 : Mem) => (nm (σ_13.1 69 (79 : Int32).toNatClampNeg) (fun (x_14 : Int32) => fx3 FU (fun k_18 (i_15 : Int32) (i_16 : Int32) (σ_17 : Mem) => (if 30 ≤ i_16 then (nm ((σ_17.1 67 (7 : Int32).toNatClampNeg) - 1) (fun (x_19 : Int32) => fx2 FU (fun k_22 (i_20 : Int32) (σ_21 : Mem) => (if i_20 < 0 then jn1 (fun (σ_23 : Mem) => nm (i_2 + 1) (fun (x_25 : Int32) => k_4 x_25 σ_23)) (fun k_24 => (if i_15 = 1 then ixd i_2 (aln 77) ((if (σ_21.1 77 i_2.toNatClampNeg) < 0 then k_24 σ_21 else nm (sI σ_21 64 30 ((σ_21.1 64 30) ||| (1 <<< (i_2 &&& 31)))) (fun (σ_27 : Mem) => k_24 σ_27))) else k_24 σ_21)) else ixd (90 + (2 * i_20)) (aln 67) (jn1 (fun (σ_28 : Mem) => nm (i_20 + (-1)) (fun (x_30 : Int32) => k_22 x_30 σ_28)) (fun k_29 => (if (σ_21.1 67 (90 + (2 * i_20)).toNatClampNeg) = i_2 then ixd ((90 + (2 * i_20)) + 1) (aln 67) (ixd i_2 (aln 77) (nm (sI σ_21 77 i_2.toNatClampNeg (σ_21.1 67 ((90 + (2 * i_20)) + 1).toNatClampNeg)) (fun (σ_32 : Mem) => k_29 σ_32))) else k_29 σ_21))))) x_19 σ_17)) else ixd i_16 (aln 69) (jn2 (fun (i_33 : Int32) (σ_34 : Mem) => nm (i_16 + 1) (fun (x_36 : Int32) => k_18 i_33 x_36 σ_34)) (fun k_35 => (if (σ_17.1 69 i_16.toNatClampNeg) = (i_2 + 1) then ixd i_2 (aln 76) (nm (sI σ_17 76 i_2.toNatClampNeg i_16) (fun (σ_38 : Mem) => nm (i_15 + 1) (fun (x_39 : Int32) => k_35 x_39 σ_38))) else k_35 i_15 σ_17))))) 0 x_14 σ_13))))))))))  (fun i => zI i) Inv (fun σ_3 => fx2 FU (fun k_8 (i_6 : Int32) (σ_7 : Mem) => (if i_6 = 0 then some σ_7 else bd2 (f_X13_ringOut σ_7 i_6) (fun (r_9 : Int32) (σ_10 : Mem) => k_8 r_9 σ_10))) (zI (bits (inR t s) t.P)) σ_3) t.P (by omega) ?_ ?_ 0 (by omega) (x := 0) rfl (sI σ 64 30 0) ⟨⟨fun a h1 _ _ _ => sI_o _ _ _ _ h1, fun j hj => by rw [sI_1, if_neg (by omega)], rfl⟩, by rw [sI_1, if_pos ⟨rfl, rfl⟩]; rfl, fun p hp => absurd hp (by omega)⟩
  · obtain ⟨τ, ⟨⟨w1, w1b, w1c⟩, w2, w3⟩, w4⟩ := hh
    have hdd : ∀ p, dif (inR t s) (inR t s) p = false := fun p => by unfold dif; cases inR t s p <;> rfl
    have hM : RM τ t s (fun p => p) (inR t s) := ⟨fun p hp => ((w3 p (of_decide_eq_true hp).1).1 hp).1, fun p hp => ((w3 p (of_decide_eq_true hp).1).1 hp).2, fun p hp => by rw [(w3 p hp).2, hdd p, if_neg (by decide)]; rfl, fun p hp => hp⟩
    obtain ⟨υ, g2, r, v1, v2, v3, v4, v5⟩ := m_rounds hc 5 τ (fun p => p) (inR t s) (cnt_le _ _) (by rw [w1 67 (by omega) (by omega) (by omega) (by omega)]; exact hc.mr) hM (Pre.nil t s _) 99994
    rw [show 5 + 1 + 99994 = FU from by unfold FU; decide] at v5
    refine ⟨υ, g2, r, w4.trans v5, Ev.of (fun a h => by rw [v1 a (by omega), w1 a (by omega) (by omega) (by omega) (by omega)]) (fun a h => by rw [v2, w1c]) (by rw [v2, w1c]) (by rw [v1 0 (by omega), w1 0 (by omega) (by omega) (by omega) (by omega)]) (by rw [v1 1 (by omega), w1 1 (by omega) (by omega) (by omega) (by omega)]) (fun j hj => by rw [v1 64 (by omega), w1b j (by omega)]), v3, v4, by rw [v1 64 (by omega)]; exact w2, by rw [v1 67 (by omega), w1 67 (by omega) (by omega) (by omega) (by omega)]⟩
  · rintro k τ ⟨⟨w1, w1b, w1c⟩, w2, w3⟩
    have p4 : τ.1 67 (4 : Int32).toNatClampNeg = zI t.P := by rw [w1 67 (by omega) (by omega) (by omega) (by omega)]; exact hc.mr.P
    rw [p4, if_pos (by rw [zI_le (by omega) (by omega)]; omega), pnm_e, w2]
  · rintro i hi τ ⟨⟨w1, w1b, w1c⟩, w2, w3⟩ k
    have p4 : τ.1 67 (4 : Int32).toNatClampNeg = zI t.P := by rw [w1 67 (by omega) (by omega) (by omega) (by omega)]; exact hc.mr.P
    rw [p4, if_neg (by rw [zI_le (by omega) (by omega)]; omega), ixd_in (by omega), pnm_e, ixd_in (by omega), pnm_e, ixd_in (by omega), pnm_e, pnm_e, zI_nat (by omega), show (i : Int).toNat = i from by omega]
    obtain ⟨τ1, hτ1⟩ : ∃ τ1, τ1 = sI (sI (sI τ 76 i (-2)) 78 i (-2)) 77 i (-2) := ⟨_, rfl⟩
    rw [← hτ1]
    have f1 : ∀ a, a ≠ 76 → a ≠ 77 → a ≠ 78 → τ1.1 a = τ.1 a := fun a h1 h2 h3 => by rw [hτ1, sI_o _ _ _ _ h2, sI_o _ _ _ _ h3, sI_o _ _ _ _ h1]
    have f69 : ∀ υ : Mem, (∀ a, a ≠ 76 → a ≠ 77 → υ.1 a = τ1.1 a) → υ.1 69 = σ.1 69 ∧ υ.1 67 = σ.1 67 := fun υ h => ⟨by rw [h 69 (by omega) (by omega), f1 69 (by omega) (by omega) (by omega), w1 69 (by omega) (by omega) (by omega) (by omega)], by rw [h 67 (by omega) (by omega), f1 67 (by omega) (by omega) (by omega), w1 67 (by omega) (by omega) (by omega) (by omega)]⟩
    have hy := hc.mv.day
    rw [Nat.zero_add] at hy
    rw [show (79 : Int32).toNatClampNeg = 79 from rfl, (f69 τ1 (fun a _ _ => rfl)).1, hy]
    -- the wishes
    let InvW : Nat → Mem → Prop := fun j υ => (∀ a, a ≠ 76 → a ≠ 77 → υ.1 a = τ1.1 a) ∧ υ.2 = τ.2 ∧ (∀ p, p ≠ i → υ.1 76 p = τ1.1 76 p ∧ υ.1 77 p = τ1.1 77 p) ∧ υ.1 76 i = zI (oC (lastv s i 30)) ∧ υ.1 77 i = zI (oC (fwU t i j))
    let InvD : Nat → Mem → Prop := fun j υ => (∀ a, a ≠ 76 → υ.1 a = τ1.1 a) ∧ υ.2 = τ.2 ∧ (∀ p, p ≠ i → υ.1 76 p = τ1.1 76 p) ∧ υ.1 76 i = zI (oC (lastv s i (s.day + j)))
    have wishes : ∀ υ0 : Mem, InvD (30 - s.day) υ0 → ∃ υ, Inv (i + 1) υ ∧ fx2 FU (fun k_22 (i_20 : Int32) (σ_21 : Mem) => (if i_20 < 0 then jn1 (fun (σ_23 : Mem) => nm (zI i + 1) (fun (x_25 : Int32) => k x_25 σ_23)) (fun k_24 => (if zI (cnt (vq s i) 30) = 1 then ixd (zI i) (aln 77) ((if (σ_21.1 77 i) < 0 then k_24 σ_21 else nm (sI σ_21 64 30 ((σ_21.1 64 30) ||| (1 <<< (zI i &&& 31)))) (fun (σ_27 : Mem) => k_24 σ_27))) else k_24 σ_21)) else ixd (90 + (2 * i_20)) (aln 67) (jn1 (fun (σ_28 : Mem) => nm (i_20 + (-1)) (fun (x_30 : Int32) => k_22 x_30 σ_28)) (fun k_29 => (if (σ_21.1 67 (90 + (2 * i_20)).toNatClampNeg) = zI i then ixd ((90 + (2 * i_20)) + 1) (aln 67) (ixd (zI i) (aln 77) (nm (sI σ_21 77 i (σ_21.1 67 ((90 + (2 * i_20)) + 1).toNatClampNeg)) (fun (σ_32 : Mem) => k_29 σ_32))) else k_29 σ_21))))) (zI t.W - 1) υ0 = k (zI (i + 1 : Nat)) υ := by
      intro υ0 hD
      obtain ⟨d1, d2, d3, d4⟩ := hD
      rw [show s.day + (30 - s.day) = 30 from by omega] at d4
      obtain ⟨υ, ⟨u1, u2, u3, u4, u5⟩, u6⟩ := fx2_inv (F := (fun k_22 (i_20 : Int32) (σ_21 : Mem) => (if i_20 < 0 then jn1 (fun (σ_23 : Mem) => nm (zI i + 1) (fun (x_25 : Int32) => k x_25 σ_23)) (fun k_24 => (if zI (cnt (vq s i) 30) = 1 then ixd (zI i) (aln 77) ((if (σ_21.1 77 i) < 0 then k_24 σ_21 else nm (sI σ_21 64 30 ((σ_21.1 64 30) ||| (1 <<< (zI i &&& 31)))) (fun (σ_27 : Mem) => k_24 σ_27))) else k_24 σ_21)) else ixd (90 + (2 * i_20)) (aln 67) (jn1 (fun (σ_28 : Mem) => nm (i_20 + (-1)) (fun (x_30 : Int32) => k_22 x_30 σ_28)) (fun k_29 => (if (σ_21.1 67 (90 + (2 * i_20)).toNatClampNeg) = zI i then ixd ((90 + (2 * i_20)) + 1) (aln 67) (ixd (zI i) (aln 77) (nm (sI σ_21 77 i (σ_21.1 67 ((90 + (2 * i_20)) + 1).toNatClampNeg)) (fun (σ_32 : Mem) => k_29 σ_32))) else k_29 σ_21)))))) (fun j => zI ((t.W : Int) - 1 - j)) InvW (fun υ => if inR t s i = true then k (zI (i + 1 : Nat)) (sI υ 64 30 (υ.1 64 30 ||| (1 <<< (zI i &&& 31)))) else k (zI (i + 1 : Nat)) υ) t.W (by omega) (fun k2 υ hυ => by
        obtain ⟨u1, u2, u3, u4, u5⟩ := hυ
        have hfb : ∀ d, fwU t i t.W = some d → d < 30 := fun d h => fwU_b hc.tb (Nat.le_refl _) h
        rw [if_pos (by rw [show (0 : Int32) = zI 0 from rfl, zI_lt (by omega) (by omega)]; omega), jn1_e, ixd_in (by omega), u5]
        simp only [pnm_e, show zI i + 1 = zI (i + 1 : Nat) from by rw [show (1 : Int32) = zI 1 from rfl, zI_add]; rfl]
        have hcl := cnt_le (vq s i) 30
        by_cases q1 : cnt (vq s i) 30 = 1
        · rw [if_pos (show zI (cnt (vq s i) 30) = 1 from by rw [q1]; rfl)]
          cases hf : fwU t i t.W with
          | none =>
            rw [if_pos (by decide), if_neg (fun z => (of_decide_eq_true z).2.2 hf)]
          | some d =>
            have := hfb d hf
            rw [if_neg (by rw [show (0 : Int32) = zI 0 from rfl, show oC (some d) = (d : Int) from rfl, zI_lt (by omega) (by omega)]; omega), if_pos (show inR t s i = true from decide_eq_true ⟨hi, q1, by rw [hf]; exact fun z => (by cases z)⟩)]
        · rw [if_neg (by rw [show (1 : Int32) = zI 1 from rfl, zI_eq (by omega) (by omega)]; omega), if_neg (fun z => q1 (of_decide_eq_true z).2.1)]) (fun j hj υ hυ k2 => by
        obtain ⟨u1, u2, u3, u4, u5⟩ := hυ
        obtain ⟨w, hw⟩ : ∃ w, t.W = w + (j + 1) := ⟨t.W - (j + 1), by omega⟩
        have hwp := tbwp hc.tb (w := w) (by omega)
        have hR67 := (f69 υ u1).2
        have r1 := hc.mr.wp w (by omega)
        have r2 := hc.mr.wd w (by omega)
        rw [if_neg (by rw [show (0 : Int32) = zI 0 from rfl, zI_lt (by omega) (by omega)]; omega), show (90 : Int32) + 2 * zI ((t.W : Int) - 1 - j) = zI (90 + 2 * w : Nat) from by rw [show (90 : Int32) = zI 90 from rfl, show (2 : Int32) = zI 2 from rfl, zI_mul, zI_add]; congr 1; omega, show zI (90 + 2 * w : Nat) + 1 = zI (90 + 2 * w + 1 : Nat) from by rw [show (1 : Int32) = zI 1 from rfl, zI_add]; rfl, ixd_in (by omega), jn1_e, ixd_in (by omega), ixd_in (by omega), zI_nat (by omega), zI_nat (by omega), show ((90 + 2 * w : Nat) : Int).toNat = 90 + 2 * w from by omega, show ((90 + 2 * w + 1 : Nat) : Int).toNat = 90 + 2 * w + 1 from by omega, hR67, r1, r2]
        simp only [pnm_e, show zI ((t.W : Int) - 1 - j) + (-1) = zI ((t.W : Int) - 1 - (j + 1 : Nat)) from by rw [show (-1 : Int32) = zI (-1) from rfl, zI_add]; congr 1; omega]
        by_cases q : t.wp w = i
        · rw [if_pos (by rw [q])]
          refine ⟨sI υ 77 i (zI (t.wd w)), ⟨fun a v1 v2 => by rw [sI_o _ _ _ _ v2, u1 a v1 v2], u2, fun p hp => ⟨by rw [sI_o _ _ _ _ (by decide)]; exact (u3 p hp).1, by rw [sI_1, if_neg (fun z => hp z.2)]; exact (u3 p hp).2⟩, by rw [sI_o _ _ _ _ (by decide)]; exact u4, ?_⟩, rfl⟩
          rw [sI_1, if_pos ⟨rfl, rfl⟩, fwU, show t.W - (j + 1) = w from by omega, if_pos q]; rfl
        · rw [if_neg (by rw [zI_eq (by omega) (by omega)]; omega)]
          refine ⟨υ, ⟨u1, u2, u3, u4, ?_⟩, rfl⟩
          rw [u5, fwU, show t.W - (j + 1) = w from by omega, if_neg q]) 0 (by omega) (x := zI t.W - 1) (by rw [show (1 : Int32) = zI 1 from rfl, zI_sub]; congr 1; omega) υ0 ⟨fun a v1 v2 => d1 a v1, d2, fun p hp => ⟨d3 p hp, by rw [d1 77 (by omega)]⟩, d4, by rw [d1 77 (by omega), hτ1, sI_1, if_pos ⟨rfl, rfl⟩]; rfl⟩
      have g1 : ∀ a, a ≠ 64 → a ≠ 76 → a ≠ 77 → a ≠ 78 → υ.1 a = σ.1 a := fun a v0 v1 v2 v3 => by rw [u1 a v1 v2, f1 a v1 v2 v3, w1 a v0 v1 v2 v3]
      have g64 : υ.1 64 = τ.1 64 := by rw [u1 64 (by omega) (by omega), f1 64 (by omega) (by omega) (by omega)]
      have rows : ∀ p, p < i + 1 → (inR t s p = true → υ.1 76 p = zI (dR s p) ∧ υ.1 77 p = zI (wR t p)) ∧ υ.1 78 p = -2 := by
        intro p hp
        have h78 : υ.1 78 p = if p = i then -2 else τ.1 78 p := by
          rw [u1 78 (by omega) (by omega), hτ1, sI_o _ _ _ _ (by decide), sI_1]
          by_cases q : p = i
          · rw [if_pos ⟨rfl, q⟩, if_pos q]
          · rw [if_neg (fun z => q z.2), if_neg q, sI_o _ _ _ _ (by decide)]
        by_cases q : p = i
        · subst q
          rw [h78, if_pos rfl]
          exact ⟨fun hin => by rw [u4, u5, (inR_e hin).1, (inR_e hin).2]; exact ⟨rfl, rfl⟩, rfl⟩
        · rw [h78, if_neg q]
          have hw3 := w3 p (by omega)
          refine ⟨fun hin => ?_, hw3.2⟩
          rw [(u3 p q).1, (u3 p q).2, hτ1, sI_o _ _ _ _ (by decide), sI_o _ _ _ _ (by decide), sI_1, if_neg (fun z => q z.2), sI_1, if_neg (fun z => q z.2), sI_o _ _ _ _ (by decide), sI_o _ _ _ _ (by decide)]
          exact hw3.1 hin
      rw [u6]
      cases hin : inR t s i with
      | true =>
        rw [if_pos rfl]
        refine ⟨_, ⟨⟨fun a v0 v1 v2 v3 => by rw [sI_o _ _ _ _ v0, g1 a v0 v1 v2 v3], fun j hj => by rw [sI_1, if_neg (by omega), g64, w1b j hj], by rw [sI_2, u2, w1c]⟩, ?_, fun p hp => by rw [sI_o _ _ _ _ (by omega), sI_o _ _ _ _ (by omega), sI_o _ _ _ _ (by omega)]; exact rows p hp⟩, rfl⟩
        rw [sI_1, if_pos ⟨rfl, rfl⟩, g64, w2]
        exact bit_or _ (by omega) _ (by rw [hin, if_pos rfl]; rfl)
      | false =>
        rw [if_neg (by decide)]
        refine ⟨υ, ⟨⟨g1, fun j hj => by rw [g64, w1b j hj], by rw [u2, w1c]⟩, ?_, rows⟩, rfl⟩
        rw [g64, w2, show bits (inR t s) (i + 1) = bits (inR t s) i from by rw [bits, hin]; simp]
    have days := fx3_inv (F := fun k_18 (i_15 : Int32) (i_16 : Int32) (σ_17 : Mem) => (if 30 ≤ i_16 then (nm ((σ_17.1 67 (7 : Int32).toNatClampNeg) - 1) (fun (x_19 : Int32) => fx2 FU (fun k_22 (i_20 : Int32) (σ_21 : Mem) => (if i_20 < 0 then jn1 (fun (σ_23 : Mem) => nm (zI i + 1) (fun (x_25 : Int32) => k x_25 σ_23)) (fun k_24 => (if i_15 = 1 then ixd (zI i) (aln 77) ((if (σ_21.1 77 i) < 0 then k_24 σ_21 else nm (sI σ_21 64 30 ((σ_21.1 64 30) ||| (1 <<< (zI i &&& 31)))) (fun (σ_27 : Mem) => k_24 σ_27))) else k_24 σ_21)) else ixd (90 + (2 * i_20)) (aln 67) (jn1 (fun (σ_28 : Mem) => nm (i_20 + (-1)) (fun (x_30 : Int32) => k_22 x_30 σ_28)) (fun k_29 => (if (σ_21.1 67 (90 + (2 * i_20)).toNatClampNeg) = zI i then ixd ((90 + (2 * i_20)) + 1) (aln 67) (ixd (zI i) (aln 77) (nm (sI σ_21 77 i (σ_21.1 67 ((90 + (2 * i_20)) + 1).toNatClampNeg)) (fun (σ_32 : Mem) => k_29 σ_32))) else k_29 σ_21))))) x_19 σ_17)) else ixd i_16 (aln 69) (jn2 (fun (i_33 : Int32) (σ_34 : Mem) => nm (i_16 + 1) (fun (x_36 : Int32) => k_18 i_33 x_36 σ_34)) (fun k_35 => (if (σ_17.1 69 i_16.toNatClampNeg) = (zI i + 1) then ixd (zI i) (aln 76) (nm (sI σ_17 76 i i_16) (fun (σ_38 : Mem) => nm (i_15 + 1) (fun (x_39 : Int32) => k_35 x_39 σ_38))) else k_35 i_15 σ_17))))) (fun j => zI (cnt (vq s i) (s.day + j))) (fun j => zI (s.day + j : Nat)) InvD (fun υ => fx2 FU (fun k_22 (i_20 : Int32) (σ_21 : Mem) => (if i_20 < 0 then jn1 (fun (σ_23 : Mem) => nm (zI i + 1) (fun (x_25 : Int32) => k x_25 σ_23)) (fun k_24 => (if zI (cnt (vq s i) 30) = 1 then ixd (zI i) (aln 77) ((if (σ_21.1 77 i) < 0 then k_24 σ_21 else nm (sI σ_21 64 30 ((σ_21.1 64 30) ||| (1 <<< (zI i &&& 31)))) (fun (σ_27 : Mem) => k_24 σ_27))) else k_24 σ_21)) else ixd (90 + (2 * i_20)) (aln 67) (jn1 (fun (σ_28 : Mem) => nm (i_20 + (-1)) (fun (x_30 : Int32) => k_22 x_30 σ_28)) (fun k_29 => (if (σ_21.1 67 (90 + (2 * i_20)).toNatClampNeg) = zI i then ixd ((90 + (2 * i_20)) + 1) (aln 67) (ixd (zI i) (aln 77) (nm (sI σ_21 77 i (σ_21.1 67 ((90 + (2 * i_20)) + 1).toNatClampNeg)) (fun (σ_32 : Mem) => k_29 σ_32))) else k_29 σ_21))))) (zI t.W - 1) υ) (30 - s.day) (by omega) (fun k2 υ hυ => by
      rw [show s.day + (30 - s.day) = 30 from by omega, if_pos (by decide), pnm_e, show υ.1 67 (7 : Int32).toNatClampNeg = zI t.W from by rw [(f69 υ (fun a v1 v2 => hυ.1 a v1)).2]; exact hc.mr.W]) (fun j hj υ hυ k2 => by
      obtain ⟨u1, u2, u3, u4⟩ := hυ
      obtain ⟨d, hd⟩ : ∃ d, d = s.day + j := ⟨_, rfl⟩
      have hdv := hc.mv.vis d (by omega)
      rw [Nat.zero_add] at hdv
      have hob := oM_b (sb_5 hc.tb hc.sb d)
      rw [← hd] at u4 ⊢
      rw [show s.day + (j + 1) = d + 1 from by omega, if_neg (by rw [show (30 : Int32) = zI 30 from rfl, zI_le (by omega) (by omega)]; omega), ixd_in (by omega), zI_nat (by omega), show (d : Int).toNat = d from by omega, (f69 υ (fun a v1 v2 => u1 a v1)).1, hdv, show zI i + 1 = zI ((i : Int) + 1) from by rw [show (1 : Int32) = zI 1 from rfl, zI_add]]
      unfold jn2
      simp only [pnm_e, show zI d + 1 = zI (d + 1 : Nat) from by rw [show (1 : Int32) = zI 1 from rfl, zI_add]; rfl]
      have hv : (oM (s.vis d) = (i : Int) + 1) ↔ vq s i d = true := by
        rw [oM_eq, vq, decide_eq_true_iff]
        exact ⟨fun h => ⟨by omega, h⟩, fun h => h.2⟩
      rw [cnt]
      by_cases q : vq s i d = true
      · rw [if_pos (by rw [hv.2 q]), ixd_in (by omega), if_pos q]
        refine ⟨sI υ 76 i (zI d), ⟨fun a v1 => by rw [sI_o _ _ _ _ v1, u1 a v1], u2, fun p hp => by rw [sI_1, if_neg (fun z => hp z.2)]; exact u3 p hp, ?_⟩, ?_⟩
        · rw [sI_1, if_pos ⟨rfl, rfl⟩, show s.day + (j + 1) = d + 1 from by omega, lastv, if_pos q]; rfl
        · rw [show (1 : Int32) = zI 1 from rfl, zI_add]; rfl
      · rw [if_neg (by rw [zI_eq (by omega) (by omega)]; exact fun z => q (hv.1 z)), if_neg q]
        refine ⟨υ, ⟨u1, u2, u3, ?_⟩, rfl⟩
        rw [u4, show s.day + (j + 1) = d + 1 from by omega, lastv, if_neg q]) 0 (by omega) (x := 0) (y := zI s.day) (by rw [Nat.add_zero, (vq_low _ (Nat.le_refl _)).1]; rfl) rfl τ1 ⟨fun a _ => rfl, by rw [hτ1]; rfl, fun p _ => rfl, by rw [Nat.add_zero, (vq_low _ (Nat.le_refl _)).2, hτ1, sI_o _ _ _ _ (by decide), sI_o _ _ _ _ (by decide), sI_1, if_pos ⟨rfl, rfl⟩]; rfl⟩
    obtain ⟨υ0, y1, y2⟩ := days
    obtain ⟨υ, y3, y4⟩ := wishes υ0 y1
    exact ⟨υ, y3, y2.trans y4⟩
theorem c_tradeE {σ : Mem} {T : Nat} {t : TT} {s : SS} (hc : RC σ T t s) : ∃ τ g r, f_X8_trade σ 28 = some τ ∧ Ev σ τ ∧ (∀ p, p < 5 → τ.1 56 p = zI (if inR t s p = true then (dR s p : Int) else -2)) ∧ (∀ p, p < 5 → τ.1 57 p = zI (if inR t s p = true then (dR s (g p) : Int) else -2)) ∧ pRun (kR t s) g (inR t s) r := by
  obtain ⟨τ, g, r, e1, e2, e3, e4, e5⟩ := c_trade hc
  refine ⟨τ, g, r, e1, Ev.of (fun a h => e2 a (by omega) (by omega) (by omega)) (fun a h => by rw [e3]) (by rw [e3]) (e2 0 (by omega) (by omega) (by omega)) (e2 1 (by omega) (by omega) (by omega)) (fun j _ => by rw [e2 64 (by omega) (by omega) (by omega)]), e4.has, fun p hp => ?_, e5⟩
  rw [e4.gets p hp]
  have : dif (inR t s) (fun _ => false) p = inR t s p := by unfold dif; simp
  rw [this]
theorem m_layE {σ : Mem} {T : Nat} {t : TT} {s : SS} (hc : RC σ T t s) : ∃ τ g r, f_X13_layRings σ = some τ ∧ Ev σ τ ∧ (∀ p, p < t.P → τ.1 78 p = zI (if inR t s p = true then (dR s (g p) : Int) else -2)) ∧ (∀ p, inR t s p = true → τ.1 76 p = zI (dR s p)) ∧ pRun (kR t s) g (inR t s) r ∧ τ.1 64 30 = zI (bits (inR t s) t.P) ∧ τ.1 67 = σ.1 67 := by
  obtain ⟨τ, g, r, e1, e2, e3, e4, e5, e6⟩ := m_lay hc
  refine ⟨τ, g, r, e1, e2, fun p hp => ?_, e3.own, e4, e5, e6⟩
  rw [e3.gets p hp]
  have : dif (inR t s) (fun _ => false) p = inR t s p := by unfold dif; simp
  rw [this]
/-- the one way in which rings go out -/
noncomputable def gR (t : TT) (s : SS) (p : Nat) : Nat := @dite _ (∃ g r, pRun (kR t s) g (inR t s) r) (Classical.propDecidable _) (fun h => h.choose p) (fun _ => 0)
theorem gR_e {t : TT} {s : SS} (tb : TB t) {g : Nat → Nat} {r : List (Nat → Bool)} (h : pRun (kR t s) g (inR t s) r) {p : Nat} (hp : inR t s p = true) : g p = gR t s p := by
  have hx : ∃ g r, pRun (kR t s) g (inR t s) r := ⟨g, r, h⟩
  have : gR t s p = hx.choose p := by unfold gR; rw [dif_pos hx]
  rw [this]
  obtain ⟨r', hr'⟩ := hx.choose_spec
  exact run_one r' (inR t s) r (inR_5 tb s) h hr' p hp
noncomputable def ringV (t : TT) (s : SS) (p : Nat) : Int := if inR t s p = true then (dR s (gR t s p) : Int) else -2
theorem ringV_b (t : TT) (s : SS) (p : Nat) : -2 ≤ ringV t s p ∧ ringV t s p < 30 := by
  unfold ringV
  have := dR_lt s (gR t s p)
  split <;> omega
theorem ringV_e {t : TT} {s : SS} (tb : TB t) {g : Nat → Nat} {r : List (Nat → Bool)} (h : pRun (kR t s) g (inR t s) r) (p : Nat) : (if inR t s p = true then (dR s (g p) : Int) else -2) = ringV t s p := by
  unfold ringV
  by_cases q : inR t s p = true
  · rw [if_pos q, if_pos q, gR_e tb h q]
  · rw [if_neg q, if_neg q]
theorem rel_ring (σ : Mem) (h : RLq σ) (x : Int32) : ∃ r σ1 σ2, f_X12_ring σ x = some (r, σ1) ∧ f_X13_ring σ1 x = some (r, σ2) ∧ RLq σ2 := by
  unfold f_X12_ring f_X13_ring
  refine rel_pE (no := (-1 : Int32)) (cv := fun r => r) (fun t s p => zI (ringV t s p)) rfl (fun σ T t s hc p ex hp => ⟨?_, ?_⟩) h
  · subst ex
    have hP := hc.tb.P
    have a57 : aln (55 + 2) = 5 := rfl
    obtain ⟨τ, g, r, e1, e2, e3, e4, e5⟩ := c_tradeE hc
    refine ⟨τ, ?_, e2⟩
    rw [e1, pbd1_s, g_get (a := 55 + 2) (e4 p (by omega)) (by omega) (by omega), pbd1_s, ringV_e hc.tb e5]
  · subst ex
    have hP := hc.tb.P
    have a78 : aln 78 = 5 := rfl
    obtain ⟨τ, g, r, e1, e2, e3, e4, e5, -⟩ := m_layE hc
    refine ⟨τ, ?_, e2⟩
    rw [e1, pbd1_s, ixd_in (by omega), zI_nat (by omega), show (p : Int).toNat = p from by omega, e3 p hp, ringV_e hc.tb e5]
noncomputable def chgB (t : TT) (s : SS) (p : Nat) : Bool := inR t s p && decide (ringV t s p ≠ dR s p)
theorem rel_changed (σ : Mem) (h : RLq σ) : ∃ r σ1 σ2, f_X12_changed σ = some (r, σ1) ∧ f_X13_changed σ1 = some (r, σ2) ∧ RLq σ2 := by
  unfold f_X12_changed f_X13_changed
  refine rel_tE (fun t s => zI (cnt (chgB t s) t.P)) (fun σ T t s hc hp => ⟨?_, ?_⟩) h
  · have hP := hc.tb.P
    have a57 : aln (55 + 2) = 5 := rfl
    have a56 : aln (55 + 1) = 5 := rfl
    obtain ⟨τ, g, r, e1, e2, e3, e4, e5⟩ := c_tradeE hc
    have hc1 := hc.eqv e2.e
    refine ⟨τ, ?_, e2⟩
    rw [e1, pbd1_s]
    refine fx2_run (fun i => zI (cnt (chgB t s) i)) (fun i => zI i) t.P 0 (by omega) rfl rfl (fun k => ?_) (fun i hi k => ?_)
    · rw [hc1.town, prfc_s, ct_people hc1.ct, pbd1_s, if_pos (by rw [zI_le (by omega) (by omega)]; omega)]
    · have hb := ringV_b t s i
      have hd := dR_lt s i
      have e4i := e4 i (by omega)
      rw [ringV_e hc.tb e5] at e4i
      rw [hc1.town, prfc_s, ct_people hc1.ct, pbd1_s, if_neg (by rw [zI_le (by omega) (by omega)]; omega), g_get (a := 55 + 2) e4i (by omega) (by omega), pbd1_s, g_get (a := 55 + 1) (e3 i (by omega)) (by omega) (by omega), pbd1_s]
      simp only [jn1_e, pnm_e, show zI i + 1 = zI (i + 1 : Nat) from by rw [show (1 : Int32) = zI 1 from rfl, zI_add]; rfl]
      rw [cnt]
      by_cases q : inR t s i = true
      · rw [if_pos q]
        by_cases q2 : ringV t s i = dR s i
        · rw [if_pos (by rw [q2]), if_neg (fun z => by unfold chgB at z; rw [Bool.and_eq_true] at z; exact of_decide_eq_true z.2 q2), show (0 : Int32) = zI 0 from rfl, zI_add]; rfl
        · rw [if_neg (by rw [zI_eq (by omega) (by omega)]; exact q2), if_pos (show chgB t s i = true from by unfold chgB; rw [q, decide_eq_true q2]; rfl), show (1 : Int32) = zI 1 from rfl, zI_add]; rfl
      · rw [if_neg q, if_pos (by unfold ringV; rw [if_neg q]), if_neg (fun z => by unfold chgB at z; rw [Bool.and_eq_true] at z; exact q z.1), show (0 : Int32) = zI 0 from rfl, zI_add]; rfl
  · have hP := hc.tb.P
    have a78 : aln 78 = 5 := rfl
    have a76 : aln 76 = 5 := rfl
    have a67 : aln 67 = 175 := rfl
    have i4 : ∀ β (k : Option β), ixd 4 (aln 67) k = k := fun β k => by rw [show (4 : Int32) = zI 4 from rfl, ixd_in (by omega)]
    obtain ⟨τ, g, r, e1, e2, e3, e4, e5, e6, e7⟩ := m_layE hc
    have p4 : τ.1 67 (4 : Int32).toNatClampNeg = zI t.P := by rw [e7]; exact hc.mr.P
    refine ⟨τ, ?_, e2⟩
    rw [e1, pbd1_s]
    simp only [i4, p4, e6]
    refine fx2_run (fun i => zI (cnt (chgB t s) i)) (fun i => zI i) t.P 0 (by omega) rfl rfl (fun k => ?_) (fun i hi k => ?_)
    · rw [if_pos (by rw [zI_le (by omega) (by omega)]; omega)]
    · have hb := ringV_b t s i
      have hd := dR_lt s i
      have e3i := e3 i hi
      rw [ringV_e hc.tb e5] at e3i
      rw [if_neg (by rw [zI_le (by omega) (by omega)]; omega), m_hasBits _ (by omega) hi, pbd1_s, jn1_e, jn0_e]
      simp only [pnm_e, show zI i + 1 = zI (i + 1 : Nat) from by rw [show (1 : Int32) = zI 1 from rfl, zI_add]; rfl]
      rw [cnt]
      by_cases q : inR t s i = true
      · rw [if_neg (by rw [q]; decide), ixd_in (by omega), ixd_in (by omega), zI_nat (by omega), show (i : Int).toNat = i from by omega, e3i, e4 i q]
        by_cases q2 : ringV t s i = dR s i
        · rw [if_pos (by rw [q2]), if_neg (fun z => by unfold chgB at z; rw [Bool.and_eq_true] at z; exact of_decide_eq_true z.2 q2), show (0 : Int32) = zI 0 from rfl, zI_add]; rfl
        · rw [if_neg (by rw [zI_eq (by omega) (by omega)]; exact q2), if_pos (show chgB t s i = true from by unfold chgB; rw [q, decide_eq_true q2]; rfl), show (1 : Int32) = zI 1 from rfl, zI_add]; rfl
      · rw [if_pos (by rw [show inR t s i = false from by simpa using q]; rfl), if_neg (fun z => by unfold chgB at z; rw [Bool.and_eq_true] at z; exact q z.1), show (0 : Int32) = zI 0 from rfl, zI_add]; rfl
