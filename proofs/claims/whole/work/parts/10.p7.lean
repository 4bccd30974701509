theorem run_ext {k : Nat → Nat → Nat} {g : Nat → Nat} {L M : Nat → Bool} (h : L = M) {r : List (Nat → Bool)} (hr : pRun k g L r) : pRun k g M r := by rw [← h]; exact hr
/-- round after round, till nobody is left -/
theorem m_rounds {T : Nat} {t : TT} {s : SS} {σ0 : Mem} (hc : RC σ0 T t s) : ∀ n, ∀ (τ : Mem) (g : Nat → Nat) (L : Nat → Bool), cnt L 5 ≤ n → MR (τ.1 67) t → RM τ t s g L → Pre t s g L → ∀ M, ∃ υ g2 r, (∀ a, a ≠ 78 → υ.1 a = τ.1 a) ∧ υ.2 = τ.2 ∧ RM υ t s g2 (fun _ => false) ∧ pRun (kR t s) g2 (inR t s) r ∧ fx2 (n + 1 + M) (fun k_8 (i_6 : Int32) (σ_7 : Mem) => (if i_6 = 0 then some σ_7 else bd2 (f_X13_ringOut σ_7 i_6) (fun (r_9 : Int32) (σ_10 : Mem) => k_8 r_9 σ_10))) (zI (bits L t.P)) τ = some υ := by
  have hP := hc.tb.P
  have h5 := inR_5 hc.tb s
  have fin : ∀ (τ : Mem) (g : Nat → Nat) (L : Nat → Bool), (∀ q, L q = false) → RM τ t s g L → Pre t s g L → ∃ r, RM τ t s g (fun _ => false) ∧ pRun (kR t s) g (inR t s) r ∧ bits L t.P = 0 := by
    intro τ g L hL hM hp
    have e : L = fun _ => false := funext hL
    rw [e] at hM hp
    obtain ⟨r, hr⟩ := hp g (fun _ _ => rfl) [] (fun _ => rfl)
    exact ⟨r, hM, hr, bits_zero.2 (fun q _ => hL q)⟩
  intro n
  induction n with
  | zero =>
    intro τ g L hn hR hM hp M
    have hL : ∀ q, L q = false := fun q => by
      cases e : L q with
      | false => rfl
      | true => have := cnt_pos e (h5 q (hM.sub q e)); omega
    obtain ⟨r, h1, h2, h3⟩ := fin τ g L hL hM hp
    refine ⟨τ, g, r, fun a _ => rfl, rfl, h1, h2, ?_⟩
    rw [show 0 + 1 + M = M + 1 from by omega]
    show (if zI (bits L t.P) = 0 then some τ else _) = _
    rw [if_pos (by rw [h3]; rfl)]
  | succ n ih =>
    intro τ g L hn hR hM hp M
    rw [show n + 1 + 1 + M = (n + 1 + M) + 1 from by omega]
    cases hx : exF L 0 5 with
    | false =>
      have hL : ∀ q, L q = false := fun q => by
        cases e : L q with
        | false => rfl
        | true => rw [exF_t q (by omega) (h5 q (hM.sub q e)) e] at hx; cases hx
      obtain ⟨r, h1, h2, h3⟩ := fin τ g L hL hM hp
      refine ⟨τ, g, r, fun a _ => rfl, rfl, h1, h2, ?_⟩
      show (if zI (bits L t.P) = 0 then some τ else _) = _
      rw [if_pos (by rw [h3]; rfl)]
    | true =>
      obtain ⟨p0, -, hp5, hp0⟩ := exF_iff.1 hx
      have hL5 : L5 L := fun q hq => h5 q (hM.sub q hq)
      obtain ⟨f, hfe⟩ : ∃ f, f = fR t s L := ⟨_, rfl⟩
      have hf : ∀ i, f i < 5 ∧ L (f i) = true := fun i => by rw [hfe]; exact fR_lt hL5 hp0 i (t := t) (s := s)
      obtain ⟨τ1, e1, e2, e3, e4⟩ := m_out hc.tb hR hM hfe hp0
      have hcl := inC_cl (L := L) hfe (fun p _ => (hf p).2)
      obtain ⟨q, hq⟩ := inC_ex hL5 (fun i => (hf i).1) (fun p _ => (hf p).2) hp0
      have hcd := cnt_dif hcl.sub 5
      have hcp := cnt_pos hq (hL5 q (hcl.sub q hq))
      obtain ⟨υ, g2, r, v1, v2, v3, v4, v5⟩ := ih τ1 (upg (inC f L) f g) (dif L (inC f L)) (by omega) (by rw [e2 67 (by omega)]; exact hR) e4 (hp.step hM.sub hcl hfe) M
      refine ⟨υ, g2, r, fun a x => by rw [v1 a x, e2 a x], by rw [v2, e3], v3, v4, ?_⟩
      have hne : ¬ zI (bits L t.P) = 0 := by
        have hb := bits_256 L (show t.P ≤ 8 by omega)
        rw [show (0 : Int32) = zI 0 from rfl, zI_eq (by omega) (by omega)]
        intro w
        have := bits_zero.1 (show bits L t.P = 0 by omega) p0 (of_decide_eq_true (hM.sub p0 hp0)).1
        rw [hp0] at this; cases this
      show (if zI (bits L t.P) = 0 then some τ else bd2 (f_X13_ringOut τ (zI (bits L t.P))) _) = _
      rw [if_neg hne, e1, pbd2_s]
      exact v5
theorem tbwp {t : TT} (tb : TB t) {w : Nat} (h : w < t.W) : t.wp w < 5 := Nat.lt_of_lt_of_le (tb.wp w h) tb.P
theorem m_lay {σ : Mem} {T : Nat} {t : TT} {s : SS} (hc : RC σ T t s) : ∃ τ g r, f_X13_layRings σ = some τ ∧ Ev σ τ ∧ RM τ t s g (fun _ => false) ∧ pRun (kR t s) g (inR t s) r ∧ τ.1 64 30 = zI (bits (inR t s) t.P) ∧ τ.1 67 = σ.1 67 := by
  have hP := hc.tb.P
  have hW := hc.tb.W
  have hday := hc.sb.day
  have a67 : aln 67 = 175 := rfl
  have a69 : aln 69 = 80 := rfl
  have a76 : aln 76 = 5 := rfl
  have a77 : aln 77 = 5 := rfl
  have a78 : aln 78 = 5 := rfl
  have i4 : ∀ β (k : Option β), ixd 4 (aln 67) k = k := fun β k => by rw [show (4 : Int32) = zI 4 from rfl, ixd_in (by omega)]
  have i7 : ∀ β (k : Option β), ixd 7 (aln 67) k = k := fun β k => by rw [show (7 : Int32) = zI 7 from rfl, ixd_in (by omega)]
  have i79 : ∀ β (k : Option β), ixd 79 (aln 69) k = k := fun β k => by rw [show (79 : Int32) = zI 79 from rfl, ixd_in (by omega)]
  unfold f_X13_layRings
  rw [pnm_e]
  simp only [i4, i7, i79]
  let Fr : Mem → Prop := fun τ => (∀ a, a ≠ 64 → a ≠ 76 → a ≠ 77 → a ≠ 78 → τ.1 a = σ.1 a) ∧ (∀ j, j ≠ 30 → τ.1 64 j = σ.1 64 j) ∧ τ.2 = σ.2
  let Inv : Nat → Mem → Prop := fun i τ => Fr τ ∧ τ.1 64 30 = zI (bits (inR t s) i) ∧ ∀ p, p < i → (inR t s p = true → τ.1 76 p = zI (dR s p) ∧ τ.1 77 p = zI (wR t p)) ∧ τ.1 78 p = -2
  have hh := fx2_inv (A2 := Mem) (F := fun k_4 (i_2 : Int32) (σ_3 : Mem) => (if (σ_3.1 67 (4 : Int32).toNatClampNeg) ≤ i_2 then nm (σ_3.1 64 30) (fun (x_5 : Int32) => fx2 FU (fun k_8 (i_6 : Int32) (σ_7 : Mem) => (if i_6 = 0 then some σ_7 else bd2 (f_X13_ringOut σ_7 i_6) (fun (r_9 : Int32) (σ_10 : Mem) => k_8 r_9 σ_10))) x_5 σ_3) else ixd i_2 (aln 76) (nm (sI σ_3 76 i_2.toNatClampNeg (-2)) (fun (σ_11 : Mem) => ixd i_2 (aln 78) (nm (sI σ_11 78 i_2.toNatClampNeg (-2)) (fun (σ_12 : Mem) => ixd i_2 (aln 77) (nm (sI σ_12 77 i_2.toNatClampNeg (-2)) (fun (σ_13 : Mem) => (nm (σ_13.1 69 (79 : Int32).toNatClampNeg) (fun (x_14 : Int32) => fx3 FU (fun k_18 (i_15 : Int32) (i_16 : Int32) (σ_17 : Mem) => (if 30 ≤ i_16 then (nm ((σ_17.1 67 (7 : Int32).toNatClampNeg) - 1) (fun (x_19 : Int32) => fx2 FU (fun k_22 (i_20 : Int32) (σ_21 : Mem) => (if i_20 < 0 then jn1 (fun (σ_23 : Mem) => nm (i_2 + 1) (fun (x_25 : Int32) => k_4 x_25 σ_23)) (fun k_24 => (if i_15 = 1 then ixd i_2 (aln 77) ((if (σ_21.1 77 i_2.toNatClampNeg) < 0 then k_24 σ_21 else nm (sI σ_21 64 30 ((σ_21.1 64 30) ||| (1 <<< (i_2 &&& 31)))) (fun (σ_27 : Mem) => k_24 σ_27))) else k_24 σ_21)) else ixd (90 + (2 * i_20)) (aln 67) (jn1 (fun (σ_28 : Mem) => nm (i_20 + (-1)) (fun (x_30 : Int32) => k_22 x_30 σ_28)) (fun k_29 => (if (σ_21.1 67 (90 + (2 * i_20)).toNatClampNeg) = i_2 then ixd ((90 + (2 * i_20)) + 1) (aln 67) (ixd i_2 (aln 77) (nm (sI σ_21 77 i_2.toNatClampNeg (σ_21.1 67 ((90 + (2 * i_20)) + 1).toNatClampNeg)) (fun (σ_32 : Mem) => k_29 σ_32))) else k_29 σ_21))))) x_19 σ_17)) else ixd i_16 (aln 69) (jn2 (fun (i_33 : Int32) (σ_34 : Mem) => nm (i_16 + 1) (fun (x_36 : Int32) => k_18 i_33 x_36 σ_34)) (fun k_35 => (if (σ_17.1 69 i_16.toNatClampNeg) = (i_2 + 1) then ixd i_2 (aln 76) (nm (sI σ_17 76 i_2.toNatClampNeg i_16) (fun (σ_38 : Mem) => nm (i_15 + 1) (fun (x_39 : Int32) => k_35 x_39 σ_38))) else k_35 i_15 σ_17))))) 0 x_14 σ_13))))))))))  (fun i => zI i) Inv (fun σ_3 => fx2 FU (fun k_8 (i_6 : Int32) (σ_7 : Mem) => (if i_6 = 0 then some σ_7 else bd2 (f_X13_ringOut σ_7 i_6) (fun (r_9 : Int32) (σ_10 : Mem) => k_8 r_9 σ_10))) (zI (bits (inR t s) t.P)) σ_3) t.P (by omega) ?_ ?_ 0 (by omega) (x := 0) rfl (sI σ 64 30 0) ⟨⟨fun a h1 _ _ _ => sI_o _ _ _ _ h1, fun j hj => by rw [sI_1, if_neg (by omega)], rfl⟩, by rw [sI_1, if_pos ⟨rfl, rfl⟩]; rfl, fun p hp => absurd hp (by omega)⟩
  · obtain ⟨τ, ⟨⟨w1, w1b, w1c⟩, w2, w3⟩, w4⟩ := hh
    have hdd : ∀ p, dif (inR t s) (inR t s) p = false := fun p => by unfold dif; cases inR t s p <;> rfl
    have hM : RM τ t s (fun p => p) (inR t s) := ⟨fun p hp => ((w3 p (of_decide_eq_true hp).1).1 hp).1, fun p hp => ((w3 p (of_decide_eq_true hp).1).1 hp).2, fun p hp => by rw [(w3 p hp).2, hdd p, if_neg (by decide)]; rfl, fun p hp => hp⟩
    obtain ⟨υ, g2, r, v1, v2, v3, v4, v5⟩ := m_rounds hc 5 τ (fun p => p) (inR t s) (cnt_le _ _) (by rw [w1 67 (by omega) (by omega) (by omega) (by omega)]; exact hc.mr) hM (Pre.nil t s _) 99994
    rw [show 5 + 1 + 99994 = FU from by unfold FU; decide] at v5
    refine ⟨υ, g2, r, w4.trans v5, Ev.of (fun a h => by rw [v1 a (by omega), w1 a (by omega) (by omega) (by omega) (by omega)]) (fun a h => by rw [v2, w1c]) (by rw [v2, w1c]) (by rw [v1 0 (by omega), w1 0 (by omega) (by omega) (by omega) (by omega)]) (by rw [v1 1 (by omega), w1 1 (by omega) (by omega) (by omega) (by omega)]) (fun j hj => by rw [v1 64 (by omega), w1b j (by omega)]), v3, v4, by rw [v1 64 (by omega)]; exact w2, by rw [v1 67 (by omega), w1 67 (by omega) (by omega) (by omega) (by omega)]⟩
  · rintro k τ ⟨⟨w1, w1b, w1c⟩, w2, w3⟩
    have p4 : τ.1 67 (4 : Int32).toNatClampNeg = zI t.P := by rw [w1 67 (by omega) (by omega) (by omega) (by omega)]; exact hc.mr.P
    rw [p4, if_pos (by rw [zI_le (by omega) (by omega)]; omega), pnm_e, w2]
  · rintro i hi τ ⟨⟨w1, w1b, w1c⟩, w2, w3⟩ k
    have p4 : τ.1 67 (4 : Int32).toNatClampNeg = zI t.P := by rw [w1 67 (by omega) (by omega) (by omega) (by omega)]; exact hc.mr.P
    rw [p4, if_neg (by rw [zI_le (by omega) (by omega)]; omega), ixd_in (by omega), pnm_e, ixd_in (by omega), pnm_e, ixd_in (by omega), pnm_e, pnm_e, zI_nat (by omega), show (i : Int).toNat = i from by omega]
    obtain ⟨τ1, hτ1⟩ : ∃ τ1, τ1 = sI (sI (sI τ 76 i (-2)) 78 i (-2)) 77 i (-2) := ⟨_, rfl⟩
    rw [← hτ1]
    have f1 : ∀ a, a ≠ 76 → a ≠ 77 → a ≠ 78 → τ1.1 a = τ.1 a := fun a h1 h2 h3 => by rw [hτ1, sI_o _ _ _ _ h2, sI_o _ _ _ _ h3, sI_o _ _ _ _ h1]
    have f69 : ∀ υ : Mem, (∀ a, a ≠ 76 → a ≠ 77 → υ.1 a = τ1.1 a) → υ.1 69 = σ.1 69 ∧ υ.1 67 = σ.1 67 := fun υ h => ⟨by rw [h 69 (by omega) (by omega), f1 69 (by omega) (by omega) (by omega), w1 69 (by omega) (by omega) (by omega) (by omega)], by rw [h 67 (by omega) (by omega), f1 67 (by omega) (by omega) (by omega), w1 67 (by omega) (by omega) (by omega) (by omega)]⟩
    have hy := hc.mv.day
    rw [Nat.zero_add] at hy
    rw [show (79 : Int32).toNatClampNeg = 79 from rfl, (f69 τ1 (fun a _ _ => rfl)).1, hy]
    -- the wishes
    let InvW : Nat → Mem → Prop := fun j υ => (∀ a, a ≠ 76 → a ≠ 77 → υ.1 a = τ1.1 a) ∧ υ.2 = τ.2 ∧ (∀ p, p ≠ i → υ.1 76 p = τ1.1 76 p ∧ υ.1 77 p = τ1.1 77 p) ∧ υ.1 76 i = zI (oC (lastv s i 30)) ∧ υ.1 77 i = zI (oC (fwU t i j))
    let InvD : Nat → Mem → Prop := fun j υ => (∀ a, a ≠ 76 → υ.1 a = τ1.1 a) ∧ υ.2 = τ.2 ∧ (∀ p, p ≠ i → υ.1 76 p = τ1.1 76 p) ∧ υ.1 76 i = zI (oC (lastv s i (s.day + j)))
    have wishes : ∀ υ0 : Mem, InvD (30 - s.day) υ0 → ∃ υ, Inv (i + 1) υ ∧ fx2 FU (fun k_22 (i_20 : Int32) (σ_21 : Mem) => (if i_20 < 0 then jn1 (fun (σ_23 : Mem) => nm (zI i + 1) (fun (x_25 : Int32) => k x_25 σ_23)) (fun k_24 => (if zI (cnt (vq s i) 30) = 1 then ixd (zI i) (aln 77) ((if (σ_21.1 77 i) < 0 then k_24 σ_21 else nm (sI σ_21 64 30 ((σ_21.1 64 30) ||| (1 <<< (zI i &&& 31)))) (fun (σ_27 : Mem) => k_24 σ_27))) else k_24 σ_21)) else ixd (90 + (2 * i_20)) (aln 67) (jn1 (fun (σ_28 : Mem) => nm (i_20 + (-1)) (fun (x_30 : Int32) => k_22 x_30 σ_28)) (fun k_29 => (if (σ_21.1 67 (90 + (2 * i_20)).toNatClampNeg) = zI i then ixd ((90 + (2 * i_20)) + 1) (aln 67) (ixd (zI i) (aln 77) (nm (sI σ_21 77 i (σ_21.1 67 ((90 + (2 * i_20)) + 1).toNatClampNeg)) (fun (σ_32 : Mem) => k_29 σ_32))) else k_29 σ_21))))) (zI t.W - 1) υ0 = k (zI (i + 1 : Nat)) υ := by
      intro υ0 hD
      obtain ⟨d1, d2, d3, d4⟩ := hD
      rw [show s.day + (30 - s.day) = 30 from by omega] at d4
      obtain ⟨υ, ⟨u1, u2, u3, u4, u5⟩, u6⟩ := fx2_inv (F := (fun k_22 (i_20 : Int32) (σ_21 : Mem) => (if i_20 < 0 then jn1 (fun (σ_23 : Mem) => nm (zI i + 1) (fun (x_25 : Int32) => k x_25 σ_23)) (fun k_24 => (if zI (cnt (vq s i) 30) = 1 then ixd (zI i) (aln 77) ((if (σ_21.1 77 i) < 0 then k_24 σ_21 else nm (sI σ_21 64 30 ((σ_21.1 64 30) ||| (1 <<< (zI i &&& 31)))) (fun (σ_27 : Mem) => k_24 σ_27))) else k_24 σ_21)) else ixd (90 + (2 * i_20)) (aln 67) (jn1 (fun (σ_28 : Mem) => nm (i_20 + (-1)) (fun (x_30 : Int32) => k_22 x_30 σ_28)) (fun k_29 => (if (σ_21.1 67 (90 + (2 * i_20)).toNatClampNeg) = zI i then ixd ((90 + (2 * i_20)) + 1) (aln 67) (ixd (zI i) (aln 77) (nm (sI σ_21 77 i (σ_21.1 67 ((90 + (2 * i_20)) + 1).toNatClampNeg)) (fun (σ_32 : Mem) => k_29 σ_32))) else k_29 σ_21)))))) (fun j => zI ((t.W : Int) - 1 - j)) InvW (fun υ => if inR t s i = true then k (zI (i + 1 : Nat)) (sI υ 64 30 (υ.1 64 30 ||| (1 <<< (zI i &&& 31)))) else k (zI (i + 1 : Nat)) υ) t.W (by omega) (fun k2 υ hυ => by
        obtain ⟨u1, u2, u3, u4, u5⟩ := hυ
        have hfb : ∀ d, fwU t i t.W = some d → d < 30 := fun d h => fwU_b hc.tb (Nat.le_refl _) h
        rw [if_pos (by rw [show (0 : Int32) = zI 0 from rfl, zI_lt (by omega) (by omega)]; omega), jn1_e, ixd_in (by omega), u5]
        simp only [pnm_e, show zI i + 1 = zI (i + 1 : Nat) from by rw [show (1 : Int32) = zI 1 from rfl, zI_add]; rfl]
        have hcl := cnt_le (vq s i) 30
        by_cases q1 : cnt (vq s i) 30 = 1
        · rw [if_pos (show zI (cnt (vq s i) 30) = 1 from by rw [q1]; rfl)]
          cases hf : fwU t i t.W with
          | none =>
            rw [if_pos (by decide), if_neg (fun z => (of_decide_eq_true z).2.2 hf)]
          | some d =>
            have := hfb d hf
            rw [if_neg (by rw [show (0 : Int32) = zI 0 from rfl, show oC (some d) = (d : Int) from rfl, zI_lt (by omega) (by omega)]; omega), if_pos (show inR t s i = true from decide_eq_true ⟨hi, q1, by rw [hf]; exact fun z => (by cases z)⟩)]
        · rw [if_neg (by rw [show (1 : Int32) = zI 1 from rfl, zI_eq (by omega) (by omega)]; omega), if_neg (fun z => q1 (of_decide_eq_true z).2.1)]) (fun j hj υ hυ k2 => by
        obtain ⟨u1, u2, u3, u4, u5⟩ := hυ
        obtain ⟨w, hw⟩ : ∃ w, t.W = w + (j + 1) := ⟨t.W - (j + 1), by omega⟩
        have hwp := tbwp hc.tb (w := w) (by omega)
        have hR67 := (f69 υ u1).2
        have r1 := hc.mr.wp w (by omega)
        have r2 := hc.mr.wd w (by omega)
        rw [if_neg (by rw [show (0 : Int32) = zI 0 from rfl, zI_lt (by omega) (by omega)]; omega), show (90 : Int32) + 2 * zI ((t.W : Int) - 1 - j) = zI (90 + 2 * w : Nat) from by rw [show (90 : Int32) = zI 90 from rfl, show (2 : Int32) = zI 2 from rfl, zI_mul, zI_add]; congr 1; omega, show zI (90 + 2 * w : Nat) + 1 = zI (90 + 2 * w + 1 : Nat) from by rw [show (1 : Int32) = zI 1 from rfl, zI_add]; rfl, ixd_in (by omega), jn1_e, ixd_in (by omega), ixd_in (by omega), zI_nat (by omega), zI_nat (by omega), show ((90 + 2 * w : Nat) : Int).toNat = 90 + 2 * w from by omega, show ((90 + 2 * w + 1 : Nat) : Int).toNat = 90 + 2 * w + 1 from by omega, hR67, r1, r2]
        simp only [pnm_e, show zI ((t.W : Int) - 1 - j) + (-1) = zI ((t.W : Int) - 1 - (j + 1 : Nat)) from by rw [show (-1 : Int32) = zI (-1) from rfl, zI_add]; congr 1; omega]
        by_cases q : t.wp w = i
        · rw [if_pos (by rw [q])]
          refine ⟨sI υ 77 i (zI (t.wd w)), ⟨fun a v1 v2 => by rw [sI_o _ _ _ _ v2, u1 a v1 v2], u2, fun p hp => ⟨by rw [sI_o _ _ _ _ (by decide)]; exact (u3 p hp).1, by rw [sI_1, if_neg (fun z => hp z.2)]; exact (u3 p hp).2⟩, by rw [sI_o _ _ _ _ (by decide)]; exact u4, ?_⟩, rfl⟩
          rw [sI_1, if_pos ⟨rfl, rfl⟩, fwU, show t.W - (j + 1) = w from by omega, if_pos q]; rfl
        · rw [if_neg (by rw [zI_eq (by omega) (by omega)]; omega)]
          refine ⟨υ, ⟨u1, u2, u3, u4, ?_⟩, rfl⟩
          rw [u5, fwU, show t.W - (j + 1) = w from by omega, if_neg q]) 0 (by omega) (x := zI t.W - 1) (by rw [show (1 : Int32) = zI 1 from rfl, zI_sub]; congr 1; omega) υ0 ⟨fun a v1 v2 => d1 a v1, d2, fun p hp => ⟨d3 p hp, by rw [d1 77 (by omega)]⟩, d4, by rw [d1 77 (by omega), hτ1, sI_1, if_pos ⟨rfl, rfl⟩]; rfl⟩
      have g1 : ∀ a, a ≠ 64 → a ≠ 76 → a ≠ 77 → a ≠ 78 → υ.1 a = σ.1 a := fun a v0 v1 v2 v3 => by rw [u1 a v1 v2, f1 a v1 v2 v3, w1 a v0 v1 v2 v3]
      have g64 : υ.1 64 = τ.1 64 := by rw [u1 64 (by omega) (by omega), f1 64 (by omega) (by omega) (by omega)]
      have rows : ∀ p, p < i + 1 → (inR t s p = true → υ.1 76 p = zI (dR s p) ∧ υ.1 77 p = zI (wR t p)) ∧ υ.1 78 p = -2 := by
        intro p hp
        have h78 : υ.1 78 p = if p = i then -2 else τ.1 78 p := by
          rw [u1 78 (by omega) (by omega), hτ1, sI_o _ _ _ _ (by decide), sI_1]
          by_cases q : p = i
          · rw [if_pos ⟨rfl, q⟩, if_pos q]
          · rw [if_neg (fun z => q z.2), if_neg q, sI_o _ _ _ _ (by decide)]
        by_cases q : p = i
        · subst q
          rw [h78, if_pos rfl]
          exact ⟨fun hin => by rw [u4, u5, (inR_e hin).1, (inR_e hin).2]; exact ⟨rfl, rfl⟩, rfl⟩
        · rw [h78, if_neg q]
          have hw3 := w3 p (by omega)
          refine ⟨fun hin => ?_, hw3.2⟩
          rw [(u3 p q).1, (u3 p q).2, hτ1, sI_o _ _ _ _ (by decide), sI_o _ _ _ _ (by decide), sI_1, if_neg (fun z => q z.2), sI_1, if_neg (fun z => q z.2), sI_o _ _ _ _ (by decide), sI_o _ _ _ _ (by decide)]
          exact hw3.1 hin
      rw [u6]
      cases hin : inR t s i with
      | true =>
        rw [if_pos rfl]
        refine ⟨_, ⟨⟨fun a v0 v1 v2 v3 => by rw [sI_o _ _ _ _ v0, g1 a v0 v1 v2 v3], fun j hj => by rw [sI_1, if_neg (by omega), g64, w1b j hj], by rw [sI_2, u2, w1c]⟩, ?_, fun p hp => by rw [sI_o _ _ _ _ (by omega), sI_o _ _ _ _ (by omega), sI_o _ _ _ _ (by omega)]; exact rows p hp⟩, rfl⟩
        rw [sI_1, if_pos ⟨rfl, rfl⟩, g64, w2]
        exact bit_or _ (by omega) _ (by rw [hin, if_pos rfl]; rfl)
      | false =>
        rw [if_neg (by decide)]
        refine ⟨υ, ⟨⟨g1, fun j hj => by rw [g64, w1b j hj], by rw [u2, w1c]⟩, ?_, rows⟩, rfl⟩
        rw [g64, w2, show bits (inR t s) (i + 1) = bits (inR t s) i from by rw [bits, hin]; simp]
    have days := fx3_inv (F := fun k_18 (i_15 : Int32) (i_16 : Int32) (σ_17 : Mem) => (if 30 ≤ i_16 then (nm ((σ_17.1 67 (7 : Int32).toNatClampNeg) - 1) (fun (x_19 : Int32) => fx2 FU (fun k_22 (i_20 : Int32) (σ_21 : Mem) => (if i_20 < 0 then jn1 (fun (σ_23 : Mem) => nm (zI i + 1) (fun (x_25 : Int32) => k x_25 σ_23)) (fun k_24 => (if i_15 = 1 then ixd (zI i) (aln 77) ((if (σ_21.1 77 i) < 0 then k_24 σ_21 else nm (sI σ_21 64 30 ((σ_21.1 64 30) ||| (1 <<< (zI i &&& 31)))) (fun (σ_27 : Mem) => k_24 σ_27))) else k_24 σ_21)) else ixd (90 + (2 * i_20)) (aln 67) (jn1 (fun (σ_28 : Mem) => nm (i_20 + (-1)) (fun (x_30 : Int32) => k_22 x_30 σ_28)) (fun k_29 => (if (σ_21.1 67 (90 + (2 * i_20)).toNatClampNeg) = zI i then ixd ((90 + (2 * i_20)) + 1) (aln 67) (ixd (zI i) (aln 77) (nm (sI σ_21 77 i (σ_21.1 67 ((90 + (2 * i_20)) + 1).toNatClampNeg)) (fun (σ_32 : Mem) => k_29 σ_32))) else k_29 σ_21))))) x_19 σ_17)) else ixd i_16 (aln 69) (jn2 (fun (i_33 : Int32) (σ_34 : Mem) => nm (i_16 + 1) (fun (x_36 : Int32) => k_18 i_33 x_36 σ_34)) (fun k_35 => (if (σ_17.1 69 i_16.toNatClampNeg) = (zI i + 1) then ixd (zI i) (aln 76) (nm (sI σ_17 76 i i_16) (fun (σ_38 : Mem) => nm (i_15 + 1) (fun (x_39 : Int32) => k_35 x_39 σ_38))) else k_35 i_15 σ_17))))) (fun j => zI (cnt (vq s i) (s.day + j))) (fun j => zI (s.day + j : Nat)) InvD (fun υ => fx2 FU (fun k_22 (i_20 : Int32) (σ_21 : Mem) => (if i_20 < 0 then jn1 (fun (σ_23 : Mem) => nm (zI i + 1) (fun (x_25 : Int32) => k x_25 σ_23)) (fun k_24 => (if zI (cnt (vq s i) 30) = 1 then ixd (zI i) (aln 77) ((if (σ_21.1 77 i) < 0 then k_24 σ_21 else nm (sI σ_21 64 30 ((σ_21.1 64 30) ||| (1 <<< (zI i &&& 31)))) (fun (σ_27 : Mem) => k_24 σ_27))) else k_24 σ_21)) else ixd (90 + (2 * i_20)) (aln 67) (jn1 (fun (σ_28 : Mem) => nm (i_20 + (-1)) (fun (x_30 : Int32) => k_22 x_30 σ_28)) (fun k_29 => (if (σ_21.1 67 (90 + (2 * i_20)).toNatClampNeg) = zI i then ixd ((90 + (2 * i_20)) + 1) (aln 67) (ixd (zI i) (aln 77) (nm (sI σ_21 77 i (σ_21.1 67 ((90 + (2 * i_20)) + 1).toNatClampNeg)) (fun (σ_32 : Mem) => k_29 σ_32))) else k_29 σ_21))))) (zI t.W - 1) υ) (30 - s.day) (by omega) (fun k2 υ hυ => by
      rw [show s.day + (30 - s.day) = 30 from by omega, if_pos (by decide), pnm_e, show υ.1 67 (7 : Int32).toNatClampNeg = zI t.W from by rw [(f69 υ (fun a v1 v2 => hυ.1 a v1)).2]; exact hc.mr.W]) (fun j hj υ hυ k2 => by
      obtain ⟨u1, u2, u3, u4⟩ := hυ
      obtain ⟨d, hd⟩ : ∃ d, d = s.day + j := ⟨_, rfl⟩
      have hdv := hc.mv.vis d (by omega)
      rw [Nat.zero_add] at hdv
      have hob := oM_b (sb_5 hc.tb hc.sb d)
      rw [← hd] at u4 ⊢
      rw [show s.day + (j + 1) = d + 1 from by omega, if_neg (by rw [show (30 : Int32) = zI 30 from rfl, zI_le (by omega) (by omega)]; omega), ixd_in (by omega), zI_nat (by omega), show (d : Int).toNat = d from by omega, (f69 υ (fun a v1 v2 => u1 a v1)).1, hdv, show zI i + 1 = zI ((i : Int) + 1) from by rw [show (1 : Int32) = zI 1 from rfl, zI_add]]
      unfold jn2
      simp only [pnm_e, show zI d + 1 = zI (d + 1 : Nat) from by rw [show (1 : Int32) = zI 1 from rfl, zI_add]; rfl]
      have hv : (oM (s.vis d) = (i : Int) + 1) ↔ vq s i d = true := by
        rw [oM_eq, vq, decide_eq_true_iff]
        exact ⟨fun h => ⟨by omega, h⟩, fun h => h.2⟩
      rw [cnt]
      by_cases q : vq s i d = true
      · rw [if_pos (by rw [hv.2 q]), ixd_in (by omega), if_pos q]
        refine ⟨sI υ 76 i (zI d), ⟨fun a v1 => by rw [sI_o _ _ _ _ v1, u1 a v1], u2, fun p hp => by rw [sI_1, if_neg (fun z => hp z.2)]; exact u3 p hp, ?_⟩, ?_⟩
        · rw [sI_1, if_pos ⟨rfl, rfl⟩, show s.day + (j + 1) = d + 1 from by omega, lastv, if_pos q]; rfl
        · rw [show (1 : Int32) = zI 1 from rfl, zI_add]; rfl
      · rw [if_neg (by rw [zI_eq (by omega) (by omega)]; exact fun z => q (hv.1 z)), if_neg q]
        refine ⟨υ, ⟨u1, u2, u3, ?_⟩, rfl⟩
        rw [u4, show s.day + (j + 1) = d + 1 from by omega, lastv, if_neg q]) 0 (by omega) (x := 0) (y := zI s.day) (by rw [Nat.add_zero, (vq_low _ (Nat.le_refl _)).1]; rfl) rfl τ1 ⟨fun a _ => rfl, by rw [hτ1]; rfl, fun p _ => rfl, by rw [Nat.add_zero, (vq_low _ (Nat.le_refl _)).2, hτ1, sI_o _ _ _ _ (by decide), sI_o _ _ _ _ (by decide), sI_1, if_pos ⟨rfl, rfl⟩]; rfl⟩
    obtain ⟨υ0, y1, y2⟩ := days
    obtain ⟨υ, y3, y4⟩ := wishes υ0 y1
    exact ⟨υ, y3, y2.trans y4⟩
theorem c_tradeE {σ : Mem} {T : Nat} {t : TT} {s : SS} (hc : RC σ T t s) : ∃ τ g r, f_X8_trade σ 28 = some τ ∧ Ev σ τ ∧ (∀ p, p < 5 → τ.1 56 p = zI (if inR t s p = true then (dR s p : Int) else -2)) ∧ (∀ p, p < 5 → τ.1 57 p = zI (if inR t s p = true then (dR s (g p) : Int) else -2)) ∧ pRun (kR t s) g (inR t s) r := by
  obtain ⟨τ, g, r, e1, e2, e3, e4, e5⟩ := c_trade hc
  refine ⟨τ, g, r, e1, Ev.of (fun a h => e2 a (by omega) (by omega) (by omega)) (fun a h => by rw [e3]) (by rw [e3]) (e2 0 (by omega) (by omega) (by omega)) (e2 1 (by omega) (by omega) (by omega)) (fun j _ => by rw [e2 64 (by omega) (by omega) (by omega)]), e4.has, fun p hp => ?_, e5⟩
  rw [e4.gets p hp]
  have : dif (inR t s) (fun _ => false) p = inR t s p := by unfold dif; simp
  rw [this]
theorem m_layE {σ : Mem} {T : Nat} {t : TT} {s : SS} (hc : RC σ T t s) : ∃ τ g r, f_X13_layRings σ = some τ ∧ Ev σ τ ∧ (∀ p, p < t.P → τ.1 78 p = zI (if inR t s p = true then (dR s (g p) : Int) else -2)) ∧ (∀ p, inR t s p = true → τ.1 76 p = zI (dR s p)) ∧ pRun (kR t s) g (inR t s) r ∧ τ.1 64 30 = zI (bits (inR t s) t.P) ∧ τ.1 67 = σ.1 67 := by
  obtain ⟨τ, g, r, e1, e2, e3, e4, e5, e6⟩ := m_lay hc
  refine ⟨τ, g, r, e1, e2, fun p hp => ?_, e3.own, e4, e5, e6⟩
  rw [e3.gets p hp]
  have : dif (inR t s) (fun _ => false) p = inR t s p := by unfold dif; simp
  rw [this]
/-- the one way in which rings go out -/
noncomputable def gR (t : TT) (s : SS) (p : Nat) : Nat := @dite _ (∃ g r, pRun (kR t s) g (inR t s) r) (Classical.propDecidable _) (fun h => h.choose p) (fun _ => 0)
theorem gR_e {t : TT} {s : SS} (tb : TB t) {g : Nat → Nat} {r : List (Nat → Bool)} (h : pRun (kR t s) g (inR t s) r) {p : Nat} (hp : inR t s p = true) : g p = gR t s p := by
  have hx : ∃ g r, pRun (kR t s) g (inR t s) r := ⟨g, r, h⟩
  have : gR t s p = hx.choose p := by unfold gR; rw [dif_pos hx]
  rw [this]
  obtain ⟨r', hr'⟩ := hx.choose_spec
  exact run_one r' (inR t s) r (inR_5 tb s) h hr' p hp
noncomputable def ringV (t : TT) (s : SS) (p : Nat) : Int := if inR t s p = true then (dR s (gR t s p) : Int) else -2
theorem ringV_b (t : TT) (s : SS) (p : Nat) : -2 ≤ ringV t s p ∧ ringV t s p < 30 := by
  unfold ringV
  have := dR_lt s (gR t s p)
  split <;> omega
theorem ringV_e {t : TT} {s : SS} (tb : TB t) {g : Nat → Nat} {r : List (Nat → Bool)} (h : pRun (kR t s) g (inR t s) r) (p : Nat) : (if inR t s p = true then (dR s (g p) : Int) else -2) = ringV t s p := by
  unfold ringV
  by_cases q : inR t s p = true
  · rw [if_pos q, if_pos q, gR_e tb h q]
  · rw [if_neg q, if_neg q]
theorem rel_ring (σ : Mem) (h : RLq σ) (x : Int32) : ∃ r σ1 σ2, f_X12_ring σ x = some (r, σ1) ∧ f_X13_ring σ1 x = some (r, σ2) ∧ RLq σ2 := by
  unfold f_X12_ring f_X13_ring
  refine rel_pE (no := (-1 : Int32)) (cv := fun r => r) (fun t s p => zI (ringV t s p)) rfl (fun σ T t s hc p ex hp => ⟨?_, ?_⟩) h
  · subst ex
    have hP := hc.tb.P
    have a57 : aln (55 + 2) = 5 := rfl
    obtain ⟨τ, g, r, e1, e2, e3, e4, e5⟩ := c_tradeE hc
    refine ⟨τ, ?_, e2⟩
    rw [e1, pbd1_s, g_get (a := 55 + 2) (e4 p (by omega)) (by omega) (by omega), pbd1_s, ringV_e hc.tb e5]
  · subst ex
    have hP := hc.tb.P
    have a78 : aln 78 = 5 := rfl
    obtain ⟨τ, g, r, e1, e2, e3, e4, e5, -⟩ := m_layE hc
    refine ⟨τ, ?_, e2⟩
    rw [e1, pbd1_s, ixd_in (by omega), zI_nat (by omega), show (p : Int).toNat = p from by omega, e3 p hp, ringV_e hc.tb e5]
noncomputable def chgB (t : TT) (s : SS) (p : Nat) : Bool := inR t s p && decide (ringV t s p ≠ dR s p)
theorem rel_changed (σ : Mem) (h : RLq σ) : ∃ r σ1 σ2, f_X12_changed σ = some (r, σ1) ∧ f_X13_changed σ1 = some (r, σ2) ∧ RLq σ2 := by
  unfold f_X12_changed f_X13_changed
  refine rel_tE (fun t s => zI (cnt (chgB t s) t.P)) (fun σ T t s hc hp => ⟨?_, ?_⟩) h
  · have hP := hc.tb.P
    have a57 : aln (55 + 2) = 5 := rfl
    have a56 : aln (55 + 1) = 5 := rfl
    obtain ⟨τ, g, r, e1, e2, e3, e4, e5⟩ := c_tradeE hc
    have hc1 := hc.eqv e2.e
    refine ⟨τ, ?_, e2⟩
    rw [e1, pbd1_s]
    refine fx2_run (fun i => zI (cnt (chgB t s) i)) (fun i => zI i) t.P 0 (by omega) rfl rfl (fun k => ?_) (fun i hi k => ?_)
    · rw [hc1.town, prfc_s, ct_people hc1.ct, pbd1_s, if_pos (by rw [zI_le (by omega) (by omega)]; omega)]
    · have hb := ringV_b t s i
      have hd := dR_lt s i
      have e4i := e4 i (by omega)
      rw [ringV_e hc.tb e5] at e4i
      rw [hc1.town, prfc_s, ct_people hc1.ct, pbd1_s, if_neg (by rw [zI_le (by omega) (by omega)]; omega), g_get (a := 55 + 2) e4i (by omega) (by omega), pbd1_s, g_get (a := 55 + 1) (e3 i (by omega)) (by omega) (by omega), pbd1_s]
      simp only [jn1_e, pnm_e, show zI i + 1 = zI (i + 1 : Nat) from by rw [show (1 : Int32) = zI 1 from rfl, zI_add]; rfl]
      rw [cnt]
      by_cases q : inR t s i = true
      · rw [if_pos q]
        by_cases q2 : ringV t s i = dR s i
        · rw [if_pos (by rw [q2]), if_neg (fun z => by unfold chgB at z; rw [Bool.and_eq_true] at z; exact of_decide_eq_true z.2 q2), show (0 : Int32) = zI 0 from rfl, zI_add]; rfl
        · rw [if_neg (by rw [zI_eq (by omega) (by omega)]; exact q2), if_pos (show chgB t s i = true from by unfold chgB; rw [q, decide_eq_true q2]; rfl), show (1 : Int32) = zI 1 from rfl, zI_add]; rfl
      · rw [if_neg q, if_pos (by unfold ringV; rw [if_neg q]), if_neg (fun z => by unfold chgB at z; rw [Bool.and_eq_true] at z; exact q z.1), show (0 : Int32) = zI 0 from rfl, zI_add]; rfl
  · have hP := hc.tb.P
    have a78 : aln 78 = 5 := rfl
    have a76 : aln 76 = 5 := rfl
    have a67 : aln 67 = 175 := rfl
    have i4 : ∀ β (k : Option β), ixd 4 (aln 67) k = k := fun β k => by rw [show (4 : Int32) = zI 4 from rfl, ixd_in (by omega)]
    obtain ⟨τ, g, r, e1, e2, e3, e4, e5, e6, e7⟩ := m_layE hc
    have p4 : τ.1 67 (4 : Int32).toNatClampNeg = zI t.P := by rw [e7]; exact hc.mr.P
    refine ⟨τ, ?_, e2⟩
    rw [e1, pbd1_s]
    simp only [i4, p4, e6]
    refine fx2_run (fun i => zI (cnt (chgB t s) i)) (fun i => zI i) t.P 0 (by omega) rfl rfl (fun k => ?_) (fun i hi k => ?_)
    · rw [if_pos (by rw [zI_le (by omega) (by omega)]; omega)]
    · have hb := ringV_b t s i
      have hd := dR_lt s i
      have e3i := e3 i hi
      rw [ringV_e hc.tb e5] at e3i
      rw [if_neg (by rw [zI_le (by omega) (by omega)]; omega), m_hasBits _ (by omega) hi, pbd1_s, jn1_e, jn0_e]
      simp only [pnm_e, show zI i + 1 = zI (i + 1 : Nat) from by rw [show (1 : Int32) = zI 1 from rfl, zI_add]; rfl]
      rw [cnt]
      by_cases q : inR t s i = true
      · rw [if_neg (by rw [q]; decide), ixd_in (by omega), ixd_in (by omega), zI_nat (by omega), show (i : Int).toNat = i from by omega, e3i, e4 i q]
        by_cases q2 : ringV t s i = dR s i
        · rw [if_pos (by rw [q2]), if_neg (fun z => by unfold chgB at z; rw [Bool.and_eq_true] at z; exact of_decide_eq_true z.2 q2), show (0 : Int32) = zI 0 from rfl, zI_add]; rfl
        · rw [if_neg (by rw [zI_eq (by omega) (by omega)]; exact q2), if_pos (show chgB t s i = true from by unfold chgB; rw [q, decide_eq_true q2]; rfl), show (1 : Int32) = zI 1 from rfl, zI_add]; rfl
      · rw [if_pos (by rw [show inR t s i = false from by simpa using q]; rfl), if_neg (fun z => by unfold chgB at z; rw [Bool.and_eq_true] at z; exact q z.1), show (0 : Int32) = zI 0 from rfl, zI_add]; rfl
/-- the latest visit as a number; -2 without one -/
def la (s : SS) (p d : Nat) : Int := oC (lat s.vis p (d + 1))
theorem oC_inj {a b : Option Nat} (h : oC a = oC b) : a = b := by
  cases a with
  | none => cases b with
    | none => rfl
    | some y => simp only [oC] at h; omega
  | some x => cases b with
    | none => simp only [oC] at h; omega
    | some y => simp only [oC] at h; rw [show x = y from by omega]
/-- whether wish w holds if the latest visit is v -/
def kw (t : TT) (E : List (Nat × Nat × Nat × Nat)) (w : Nat) (v : Int) : Bool := knb t E (t.wp w) (t.wd w) (if v < 0 then none else some v.toNat)
theorem hl_kw (t : TT) (E : List (Nat × Nat × Nat × Nat)) (s : SS) (w : Nat) : hl t E s w = kw t E w (la s (t.wp w) (t.wd w)) := by
  unfold hl kn kw la
  congr 1
  cases lat s.vis (t.wp w) (t.wd w + 1) with
  | none => rfl
  | some d => rw [if_neg (by simp only [oC]; omega)]; rfl
theorem oC_ge (o : Option Nat) : -2 ≤ oC o := by cases o <;> simp only [oC] <;> omega
theorem la_b (s : SS) (p d : Nat) : -2 ≤ la s p d ∧ la s p d ≤ d := by
  unfold la
  cases h : lat s.vis p (d + 1) with
  | none => simp only [oC]; omega
  | some e => have := (lat_lt h).1; simp only [oC]; omega
/-- a visit more -/
theorem lat_set {vis : Nat → Option Nat} {e q : Nat} (he : vis e = none) (p : Nat) : ∀ n, oC (lat (fun x => if x = e then some q else vis x) p n) = if q = p ∧ e < n then max (oC (lat vis p n)) (e : Int) else oC (lat vis p n)
  | 0 => by rw [if_neg (by omega)]; rfl
  | n + 1 => by
    have ih := lat_set (q := q) he p n
    rw [lat, lat]
    by_cases h1 : n = e
    · subst h1
      rw [if_pos rfl, he]
      by_cases h2 : q = p
      · rw [if_pos (by rw [h2]), if_neg (show ¬ (none : Option Nat) = some p from fun z => (by cases z)), if_pos ⟨h2, by omega⟩]
        have : oC (lat vis p n) ≤ (n : Int) := by
          cases h : lat vis p n with
          | none => simp only [oC]; omega
          | some d => have := (lat_lt h).1; simp only [oC]; omega
        show ((n : Nat) : Int) = max _ _
        omega
      · rw [if_neg (fun z => h2 (Option.some.inj z)), if_neg (show ¬ (none : Option Nat) = some p from fun z => (by cases z)), ih, if_neg (fun z => h2 z.1), if_neg (fun z => h2 z.1)]
    · rw [if_neg h1]
      by_cases h3 : vis n = some p
      · rw [if_pos h3, if_pos h3]
        by_cases h4 : q = p ∧ e < n + 1
        · rw [if_pos h4]
          show ((n : Nat) : Int) = max ((n : Nat) : Int) _
          omega
        · rw [if_neg h4]
      · rw [if_neg h3, if_neg h3, ih]
        by_cases h4 : q = p ∧ e < n
        · rw [if_pos h4, if_pos ⟨h4.1, by omega⟩]
        · rw [if_neg h4, if_neg (fun z => h4 ⟨z.1, by omega⟩)]
theorem la_set {s : SS} {e q : Nat} (he : s.vis e = none) (p d : Nat) : la (setV s e (some q)) p d = if q = p ∧ e ≤ d then max (la s p d) (e : Int) else la s p d := by
  have := lat_set (q := q) he p (d + 1)
  unfold la
  show oC (lat (fun x => if x = e then some q else s.vis x) p (d + 1)) = _
  rw [this]
  by_cases h : q = p ∧ e ≤ d
  · rw [if_pos ⟨h.1, by omega⟩, if_pos h]
  · rw [if_neg (fun z => h ⟨z.1, by omega⟩), if_neg h]
/-- the latest visit with those of the codes -/
def laL : List Nat → Nat → Nat → Int → Int
  | [], _, _, v => v
  | c :: L, p, d, v => laL L p d (if c % 10 = p ∧ c / 10 ≤ d then max v ((c / 10 : Nat) : Int) else v)
theorem laL_app : ∀ (L M : List Nat) (p d : Nat) (v : Int), laL (L ++ M) p d v = laL M p d (laL L p d v)
  | [], _, _, _, _ => rfl
  | c :: L, M, p, d, v => laL_app L M p d _
theorem laL_ge : ∀ (L : List Nat) (p d : Nat) (v : Int), v ≤ laL L p d v
  | [], _, _, v => Int.le_refl v
  | c :: L, p, d, v => by
    have := laL_ge L p d (if c % 10 = p ∧ c / 10 ≤ d then max v ((c / 10 : Nat) : Int) else v)
    rw [laL]
    split at this <;> (rename_i h; first | rw [if_pos h] | rw [if_neg h]) <;> omega
theorem laL_mono : ∀ (L : List Nat) (p d : Nat) (v u : Int), v ≤ u → laL L p d v ≤ laL L p d u
  | [], _, _, _, _, h => h
  | c :: L, p, d, v, u, h => by
    rw [laL, laL]
    refine laL_mono L p d _ _ ?_
    by_cases q : c % 10 = p ∧ c / 10 ≤ d
    · rw [if_pos q, if_pos q]; omega
    · rw [if_neg q, if_neg q]; exact h
/-- codes of others, or of later days, change nothing -/
theorem laL_far : ∀ (L : List Nat) (p d : Nat) (v : Int), (∀ c ∈ L, ¬ (c % 10 = p ∧ c / 10 ≤ d)) → laL L p d v = v
  | [], _, _, _, _ => rfl
  | c :: L, p, d, v, h => by
    rw [laL, if_neg (h c (by simp))]
    exact laL_far L p d v (fun c' hc => h c' (by simp [hc]))
theorem laL_filter (f : Nat → Bool) : ∀ (L : List Nat) (p d : Nat) (v : Int), (∀ c ∈ L, f c = false → ¬ (c % 10 = p ∧ c / 10 ≤ d)) → laL (L.filter f) p d v = laL L p d v
  | [], _, _, _, _ => rfl
  | c :: L, p, d, v, h => by
    have ih := fun v => laL_filter f L p d v (fun c' hc => h c' (by simp [hc]))
    cases hf : f c with
    | true => rw [List.filter_cons_of_pos (by rw [hf]), laL, laL]; exact ih _
    | false => rw [List.filter_cons_of_neg (by rw [hf]; decide), laL, if_neg (h c (by simp) hf)]; exact ih _
/-- without one code the latest visit is the same, or that code's day was it -/
theorem laL_one (c0 : Nat) : ∀ (L : List Nat) (p d : Nat) (v : Int), laL (L.filter (fun c => decide (c ≠ c0))) p d v = laL L p d v ∨ (c0 % 10 = p ∧ c0 / 10 ≤ d ∧ laL L p d v = ((c0 / 10 : Nat) : Int) ∧ v < ((c0 / 10 : Nat) : Int))
  | [], _, _, _ => Or.inl rfl
  | c :: L, p, d, v => by
    by_cases h : c = c0
    · subst h
      rw [List.filter_cons_of_neg (by simp), laL]
      by_cases q : c % 10 = p ∧ c / 10 ≤ d
      · rw [if_pos q]
        rcases laL_one c L p d v with e | ⟨e1, e2, e3, e4⟩
        · have h1 := laL_ge L p d (max v ((c / 10 : Nat) : Int))
          have h2 := laL_ge L p d v
          -- the two differ only where v is below the day
          by_cases hv : ((c / 10 : Nat) : Int) ≤ v
          · left; rw [e, show max v ((c / 10 : Nat) : Int) = v from by omega]
          · have key : ∀ (M : List Nat) (a b : Int), a ≤ b → laL M p d a = laL M p d b ∨ laL M p d b = b := by
              intro M
              induction M with
              | nil => intro a b _; right; rfl
              | cons x M ih =>
                intro a b hab
                rw [laL, laL]
                by_cases w : x % 10 = p ∧ x / 10 ≤ d
                · rw [if_pos w, if_pos w]
                  by_cases w2 : ((x / 10 : Nat) : Int) ≤ b
                  · rw [show max b ((x / 10 : Nat) : Int) = b from by omega]
                    exact ih _ _ (by omega)
                  · left; rw [show max a ((x / 10 : Nat) : Int) = max b ((x / 10 : Nat) : Int) from by omega]
                · rw [if_neg w, if_neg w]; exact ih _ _ hab
            rcases key L v (max v ((c / 10 : Nat) : Int)) (by omega) with w | w
            · left; rw [e, w]
            · right; exact ⟨q.1, q.2, by rw [w]; omega, by omega⟩
        · right
          refine ⟨e1, e2, ?_, e4⟩
          have h1 := laL_mono L p d v (max v ((c / 10 : Nat) : Int)) (by omega)
          have key : ∀ (M : List Nat) (a b : Int), laL M p d (max a b) ≤ max (laL M p d a) b := by
            intro M
            induction M with
            | nil => intro a b; exact Int.le_refl _
            | cons x M ih =>
              intro a b
              rw [laL, laL]
              by_cases w : x % 10 = p ∧ x / 10 ≤ d
              · rw [if_pos w, if_pos w]
                have := ih (max a ((x / 10 : Nat) : Int)) b
                rw [show max (max a b) ((x / 10 : Nat) : Int) = max (max a ((x / 10 : Nat) : Int)) b from by omega]
                exact this
              · rw [if_neg w, if_neg w]; exact ih a b
          have h3 := key L v ((c / 10 : Nat) : Int)
          omega
      · rw [if_neg q]
        rcases laL_one c L p d v with e | e
        · exact Or.inl e
        · exact absurd ⟨e.1, e.2.1⟩ q
    · rw [List.filter_cons_of_pos (by simp [h]), laL, laL]
      rcases laL_one c0 L p d (if c % 10 = p ∧ c / 10 ≤ d then max v ((c / 10 : Nat) : Int) else v) with e | ⟨e1, e2, e3, e4⟩
      · exact Or.inl e
      · right
        refine ⟨e1, e2, e3, ?_⟩
        split at e4 <;> omega
/-- all wishes hold with the visits of the codes -/
noncomputable def hW (t : TT) (E : List (Nat × Nat × Nat × Nat)) (s : SS) (L : List Nat) : Bool := !exF (fun w => !kw t E w (laL L (t.wp w) (t.wd w) (la s (t.wp w) (t.wd w)))) 0 t.W
theorem hW_t {t : TT} {E : List (Nat × Nat × Nat × Nat)} {s : SS} {L : List Nat} : hW t E s L = true ↔ ∀ w, w < t.W → kw t E w (laL L (t.wp w) (t.wd w) (la s (t.wp w) (t.wd w))) = true := by
  unfold hW
  constructor
  · intro h w hw
    cases e : kw t E w (laL L (t.wp w) (t.wd w) (la s (t.wp w) (t.wd w))) with
    | true => rfl
    | false => rw [exF_t w (by omega) hw (by rw [e]; rfl)] at h; cases h
  · intro h
    rw [exF_f (fun w _ hw => by rw [h w hw]; rfl)]; rfl
def codK (t : TT) (s : SS) (c : Nat) : Prop := c < 300 ∧ c % 10 < t.P ∧ opn t s (c / 10) = true
def asc (L : List Nat) : Prop := L.Pairwise (fun a b => a / 10 < b / 10)
abbrev Sol (t : TT) (E : List (Nat × Nat × Nat × Nat)) (s : SS) (L : List Nat) : Prop :=
  (∀ c ∈ L, codK t s c) ∧ (asc L) ∧ (hW t E s L = true)
theorem Sol.cod {t : TT}{E : List (Nat × Nat × Nat × Nat)}{s : SS}{L : List Nat} (h : Sol t E s L) : ∀ c ∈ L, codK t s c := h.1
theorem Sol.asc {t : TT}{E : List (Nat × Nat × Nat × Nat)}{s : SS}{L : List Nat} (h : Sol t E s L) : asc L := h.2.1
theorem Sol.all {t : TT}{E : List (Nat × Nat × Nat × Nat)}{s : SS}{L : List Nat} (h : Sol t E s L) : hW t E s L = true := h.2.2
def MinS (t : TT) (E : List (Nat × Nat × Nat × Nat)) (s : SS) (n : Nat) : Prop := ∀ L, Sol t E s L → n ≤ L.length
theorem Sol.filter {t : TT} {E : List (Nat × Nat × Nat × Nat)} {s : SS} {L : List Nat} (h : Sol t E s L) (f : Nat → Bool) (hw : hW t E s (L.filter f) = true) : Sol t E s (L.filter f) :=
  ⟨fun c hc => h.cod c (List.mem_filter.1 hc).1, List.Pairwise.sublist List.filter_sublist h.asc, hw⟩
theorem filter_len {f : Nat → Bool} : ∀ {L : List Nat} {c : Nat}, c ∈ L → f c = false → (L.filter f).length < L.length
  | x :: L, c, hc, hf => by
    rcases List.mem_cons.1 hc with e | e
    · subst e
      rw [List.filter_cons_of_neg (by rw [hf]; decide)]
      have := List.length_filter_le f L
      rw [List.length_cons]; omega
    · have ih := filter_len e hf
      cases hx : f x with
      | true => rw [List.filter_cons_of_pos (by rw [hx]), List.length_cons, List.length_cons]; omega
      | false => rw [List.filter_cons_of_neg (by rw [hx]; decide), List.length_cons]; omega
/-- who has a wish that doesn't hold -/
noncomputable def um (t : TT) (E : List (Nat × Nat × Nat × Nat)) (s : SS) (L : List Nat) (p : Nat) : Bool := exF (fun w => decide (t.wp w = p) && !kw t E w (laL L (t.wp w) (t.wd w) (la s (t.wp w) (t.wd w)))) 0 t.W
theorem um_f {t : TT} {E : List (Nat × Nat × Nat × Nat)} {s : SS} {L : List Nat} {p : Nat} (h : um t E s L p = false) {w : Nat} (hw : w < t.W) (hp : t.wp w = p) : kw t E w (laL L (t.wp w) (t.wd w) (la s (t.wp w) (t.wd w))) = true := by
  cases e : kw t E w (laL L (t.wp w) (t.wd w) (la s (t.wp w) (t.wd w))) with
  | true => rfl
  | false =>
    unfold um at h
    rw [exF_t w (by omega) hw (by rw [e, decide_eq_true hp]; rfl)] at h; cases h
theorem need_who {t : TT} {E : List (Nat × Nat × Nat × Nat)} {s : SS} {L : List Nat} (h : Sol t E s L) (hm : MinS t E s L.length) {c : Nat} (hc : c ∈ L) : um t E s [] (c % 10) = true := by
  cases e : um t E s [] (c % 10) with
  | true => rfl
  | false =>
    exfalso
    have hs : hW t E s (L.filter (fun x => decide (x % 10 ≠ c % 10))) = true := by
      rw [hW_t]
      intro w hw
      by_cases q : t.wp w = c % 10
      · rw [laL_far _ _ _ _ (fun x hx => ?_)]
        · exact um_f e hw q
        · have := (List.mem_filter.1 hx).2
          have := of_decide_eq_true this
          omega
      · rw [laL_filter _ _ _ _ _ (fun x hx hf z => ?_)]
        · exact hW_t.1 h.all w hw
        · have := of_decide_eq_false hf
          exact this (fun y => q (by omega))
    have := hm _ (h.filter _ hs)
    have h2 := filter_len (f := fun x => decide (x % 10 ≠ c % 10)) hc (by simp)
    omega
/-- whether a visit helps some wish -/
noncomputable def hlp (t : TT) (E : List (Nat × Nat × Nat × Nat)) (s : SS) (p d : Nat) : Bool := exF (fun w => decide (t.wp w = p ∧ d ≤ t.wd w ∧ la s (t.wp w) (t.wd w) < d) && kw t E w d) 0 t.W
theorem need_help {t : TT} {E : List (Nat × Nat × Nat × Nat)} {s : SS} {L : List Nat} (h : Sol t E s L) (hm : MinS t E s L.length) {c : Nat} (hc : c ∈ L) : hlp t E s (c % 10) (c / 10) = true := by
  cases e : hW t E s (L.filter (fun x => decide (x ≠ c))) with
  | true =>
    exfalso
    have := hm _ (h.filter _ e)
    have h2 := filter_len (f := fun x => decide (x ≠ c)) hc (by simp)
    omega
  | false =>
    unfold hW at e
    have e : exF (fun w => !kw t E w (laL (L.filter (fun x => decide (x ≠ c))) (t.wp w) (t.wd w) (la s (t.wp w) (t.wd w)))) 0 t.W = true := by simpa using e
    obtain ⟨w, -, hw, h2⟩ := exF_iff.1 e
    have h3 := hW_t.1 h.all w hw
    rcases laL_one c L (t.wp w) (t.wd w) (la s (t.wp w) (t.wd w)) with q | ⟨q1, q2, q3, q4⟩
    · rw [q, h3] at h2; cases h2
    · refine exF_t w (by omega) hw ?_
      rw [q3] at h3
      rw [h3, decide_eq_true ⟨q1.symm, q2, q4⟩]; rfl
theorem um_step {t : TT} {E : List (Nat × Nat × Nat × Nat)} {s : SS} {L : List Nat} {c p : Nat} (hp : p ≠ c % 10) : um t E s (L ++ [c]) p = um t E s L p := by
  refine exF_congr (fun w _ hw => ?_)
  by_cases q : t.wp w = p
  · rw [laL_app, laL, laL, if_neg (fun z => hp (by omega))]
  · rw [decide_eq_false q, Bool.false_and, Bool.false_and]
theorem cnt_but {f h : Nat → Bool} {a : Nat} (e : ∀ p, p ≠ a → f p = h p) : ∀ n, cnt f n ≤ cnt h n + 1
  | 0 => Nat.zero_le _
  | n + 1 => by
    by_cases q : n = a
    · subst q
      have : ∀ m, m ≤ n → cnt f m = cnt h m := by
        intro m hm
        exact cnt_congr m (fun i hi => e i (by omega))
      rw [cnt, cnt, this n (Nat.le_refl n)]
      split <;> split <;> omega
    · have := cnt_but e n
      rw [cnt, cnt, e n q]; omega
theorem cnt_um {t : TT} {E : List (Nat × Nat × Nat × Nat)} {s : SS} : ∀ (L pre : List Nat), hW t E s (pre ++ L) = true → cnt (um t E s pre) 5 ≤ L.length
  | [], pre, h => by
    rw [List.append_nil] at h
    have : cnt (um t E s pre) 5 = 0 := by
      rw [cnt_any]
      refine exF_f (fun p _ _ => ?_)
      refine exF_f (fun w _ hw => ?_)
      rw [hW_t.1 h w hw]; simp
    omega
  | c :: L, pre, h => by
    have ih := cnt_um L (pre ++ [c]) (by rw [List.append_assoc]; exact h)
    have := cnt_but (f := um t E s pre) (h := um t E s (pre ++ [c])) (a := c % 10) (fun p hp => (um_step hp).symm) 5
    rw [List.length_cons]; omega
/-- the first of those from 300 - k on -/
def sk1 (f : Nat → Option (List Nat)) : Nat → Option (List Nat)
  | 0 => none
  | k + 1 => match f (300 - (k + 1)) with
    | some L => some L
    | none => sk1 f k
theorem sk1_some {f : Nat → Option (List Nat)} {L : List Nat} : ∀ {k}, k ≤ 300 → sk1 f k = some L → ∃ c, 300 - k ≤ c ∧ c < 300 ∧ f c = some L
  | 0, _, h => by cases h
  | k + 1, hk, h => by
    rw [sk1] at h
    cases e : f (300 - (k + 1)) with
    | some M => rw [e] at h; exact ⟨300 - (k + 1), Nat.le_refl _, by omega, by rw [e]; exact h⟩
    | none =>
      rw [e] at h
      obtain ⟨c, h1, h2, h3⟩ := sk1_some (by omega) h
      exact ⟨c, by omega, h2, h3⟩
theorem sk1_none {f : Nat → Option (List Nat)} : ∀ {k}, k ≤ 300 → sk1 f k = none → ∀ c, 300 - k ≤ c → c < 300 → f c = none
  | 0, _, _, c, h1, h2 => absurd h1 (by omega)
  | k + 1, hk, h, c, h1, h2 => by
    rw [sk1] at h
    cases e : f (300 - (k + 1)) with
    | some M => rw [e] at h; cases h
    | none =>
      rw [e] at h
      rcases Nat.lt_or_ge c (300 - k) with w | w
      · rw [show c = 300 - (k + 1) from by omega]; exact e
      · exact sk1_none (by omega) h c w h2
/-- the first way to complete the codes -/
noncomputable def firstS (t : TT) (E : List (Nat × Nat × Nat × Nat)) (s : SS) : Nat → List Nat → Nat → Option (List Nat)
  | 0, pre, _ => if hW t E s pre = true then some [] else none
  | j + 1, pre, fr => sk1 (fun c => if c % 10 < t.P ∧ opn t s (c / 10) = true then (match firstS t E s j (pre ++ [c]) (10 * (c / 10 + 1)) with | none => none | some L => some (c :: L)) else none) (300 - fr)
theorem firstS_ok {t : TT} {E : List (Nat × Nat × Nat × Nat)} {s : SS} : ∀ {j : Nat} {pre : List Nat} {fr : Nat} {L : List Nat}, firstS t E s j pre fr = some L → L.length = j ∧ (∀ c ∈ L, fr ≤ c ∧ codK t s c) ∧ asc L ∧ hW t E s (pre ++ L) = true
  | 0, pre, fr, L, h => by
    rw [firstS] at h
    split at h
    · rename_i q
      have := Option.some.inj h
      subst this
      exact ⟨rfl, fun c hc => (by cases hc), List.Pairwise.nil, by rw [List.append_nil]; exact q⟩
    · cases h
  | j + 1, pre, fr, L, h => by
    rw [firstS] at h
    obtain ⟨c, h1, h2, h3⟩ := sk1_some (by omega) h
    split at h3
    · rename_i q
      cases e : firstS t E s j (pre ++ [c]) (10 * (c / 10 + 1)) with
      | none => rw [e] at h3; cases h3
      | some M =>
        rw [e] at h3
        have := Option.some.inj h3
        subst this
        obtain ⟨g1, g2, g3, g4⟩ := firstS_ok e
        refine ⟨by rw [List.length_cons, g1], fun x hx => ?_, List.Pairwise.cons (fun x hx => ?_) g3, by rw [List.append_assoc] at g4; exact g4⟩
        · rcases List.mem_cons.1 hx with w | w
          · subst w; exact ⟨by omega, h2, q.1, q.2⟩
          · have := g2 x w; exact ⟨by omega, this.2⟩
        · have := (g2 x hx).1; omega
    · cases h3
theorem firstS_ex {t : TT} {E : List (Nat × Nat × Nat × Nat)} {s : SS} : ∀ (L : List Nat) (pre : List Nat) (fr : Nat), (∀ c ∈ L, fr ≤ c ∧ codK t s c) → asc L → hW t E s (pre ++ L) = true → firstS t E s L.length pre fr ≠ none
  | [], pre, fr, _, _, h => by
    rw [List.append_nil] at h
    rw [List.length_nil, firstS, if_pos h]
    exact fun z => (by cases z)
  | c :: L, pre, fr, h1, h2, h3 => by
    rw [List.length_cons, firstS]
    intro h
    have hc := h1 c (by simp)
    have := sk1_none (by omega) h c (by omega) hc.2.1
    rw [if_pos ⟨hc.2.2.1, hc.2.2.2⟩] at this
    have h2' := List.pairwise_cons.1 h2
    have ih := firstS_ex L (pre ++ [c]) (10 * (c / 10 + 1)) (fun x hx => ⟨by have := h2'.1 x hx; omega, (h1 x (by simp [hx])).2⟩) h2'.2 (by rw [List.append_assoc]; exact h3)
    cases e : firstS t E s L.length (pre ++ [c]) (10 * (c / 10 + 1)) with
    | none => exact ih e
    | some M => rw [e] at this; cases this
/-- a prefix that search may stand behind -/
abbrev PV (t : TT) (s : SS) (pre : List Nat) (fr : Nat) : Prop :=
  (∀ c ∈ pre, codK t s c) ∧ (asc pre) ∧ (∀ c ∈ pre, 10 * (c / 10 + 1) ≤ fr)
theorem PV.cod {t : TT}{s : SS}{pre : List Nat}{fr : Nat} (h : PV t s pre fr) : ∀ c ∈ pre, codK t s c := h.1
theorem PV.asc {t : TT}{s : SS}{pre : List Nat}{fr : Nat} (h : PV t s pre fr) : asc pre := h.2.1
theorem PV.far {t : TT}{s : SS}{pre : List Nat}{fr : Nat} (h : PV t s pre fr) : ∀ c ∈ pre, 10 * (c / 10 + 1) ≤ fr := h.2.2
theorem PV.nil (t : TT) (s : SS) : PV t s [] 0 := ⟨fun c hc => (by cases hc), List.Pairwise.nil, fun c hc => (by cases hc)⟩
theorem PV.snoc {t : TT} {s : SS} {pre : List Nat} {fr c : Nat} (h : PV t s pre fr) (hf : fr ≤ c) (hc : codK t s c) : PV t s (pre ++ [c]) (10 * (c / 10 + 1)) := by
  refine ⟨fun x hx => ?_, ?_, fun x hx => ?_⟩
  · rcases List.mem_append.1 hx with w | w
    · exact h.cod x w
    · rw [List.mem_singleton.1 w]; exact hc
  · refine List.pairwise_append.2 ⟨h.asc, List.pairwise_singleton _ _, fun a ha b hb => ?_⟩
    rw [List.mem_singleton.1 hb]
    have := h.far a ha; omega
  · rcases List.mem_append.1 hx with w | w
    · have := h.far x w; omega
    · rw [List.mem_singleton.1 w]; exact Nat.le_refl _
theorem PV.mono {t : TT} {s : SS} {pre : List Nat} {fr fr' : Nat} (h : PV t s pre fr) (hf : fr ≤ fr') : PV t s pre fr' := ⟨h.cod, h.asc, fun c hc => Nat.le_trans (h.far c hc) hf⟩
theorem first_sol {t : TT} {E : List (Nat × Nat × Nat × Nat)} {s : SS} {j : Nat} {pre : List Nat} {fr : Nat} {L : List Nat} (h : PV t s pre fr) (e : firstS t E s j pre fr = some L) : Sol t E s (pre ++ L) ∧ (pre ++ L).length = pre.length + j := by
  obtain ⟨g1, g2, g3, g4⟩ := firstS_ok e
  refine ⟨⟨fun c hc => ?_, List.pairwise_append.2 ⟨h.asc, g3, fun a ha b hb => ?_⟩, g4⟩, by rw [List.length_append, g1]⟩
  · rcases List.mem_append.1 hc with w | w
    · exact h.cod c w
    · exact (g2 c w).2
  · have := h.far a ha; have := (g2 b hb).1; omega
theorem cut_who {t : TT} {E : List (Nat × Nat × Nat × Nat)} {s : SS} {j : Nat} {pre : List Nat} {fr c : Nat} (h : PV t s pre fr) (hm : MinS t E s (pre.length + (j + 1))) (hf : fr ≤ c) (hc : codK t s c) (hu : um t E s [] (c % 10) = false) : firstS t E s j (pre ++ [c]) (10 * (c / 10 + 1)) = none := by
  cases e : firstS t E s j (pre ++ [c]) (10 * (c / 10 + 1)) with
  | none => rfl
  | some L =>
    obtain ⟨h1, h2⟩ := first_sol (h.snoc hf hc) e
    rw [List.length_append (as := pre)] at h2
    have := need_who h1 (fun L' hL => by have := hm L' hL; rw [h2]; show pre.length + 1 + j ≤ _; omega) (c := c) (by simp)
    rw [hu] at this; cases this
theorem cut_help {t : TT} {E : List (Nat × Nat × Nat × Nat)} {s : SS} {j : Nat} {pre : List Nat} {fr c : Nat} (h : PV t s pre fr) (hm : MinS t E s (pre.length + (j + 1))) (hf : fr ≤ c) (hc : codK t s c) (hu : hlp t E s (c % 10) (c / 10) = false) : firstS t E s j (pre ++ [c]) (10 * (c / 10 + 1)) = none := by
  cases e : firstS t E s j (pre ++ [c]) (10 * (c / 10 + 1)) with
  | none => rfl
  | some L =>
    obtain ⟨h1, h2⟩ := first_sol (h.snoc hf hc) e
    rw [List.length_append (as := pre)] at h2
    have := need_help h1 (fun L' hL => by have := hm L' hL; rw [h2]; show pre.length + 1 + j ≤ _; omega) (c := c) (by simp)
    rw [hu] at this; cases this
theorem cut_cnt {t : TT} {E : List (Nat × Nat × Nat × Nat)} {s : SS} {j : Nat} {pre : List Nat} {fr : Nat} (hu : j < cnt (um t E s pre) 5) : firstS t E s j pre fr = none := by
  cases e : firstS t E s j pre fr with
  | none => rfl
  | some L =>
    obtain ⟨g1, g2, g3, g4⟩ := firstS_ok e
    have := cnt_um L pre g4
    omega
/-- the state with the visits of the codes -/
def vsL : SS → List Nat → SS
  | s, [] => s
  | s, c :: L => vsL (setV s (c / 10) (some (c % 10))) L
theorem vsL_app : ∀ (L : List Nat) (s : SS) (c : Nat), vsL s (L ++ [c]) = setV (vsL s L) (c / 10) (some (c % 10))
  | [], _, _ => rfl
  | x :: L, s, c => vsL_app L _ c
theorem vsL_day : ∀ (L : List Nat) (s : SS), (vsL s L).day = s.day ∧ (vsL s L).sk = s.sk
  | [], _ => ⟨rfl, rfl⟩
  | x :: L, s => vsL_day L _
theorem vsL_vis : ∀ (L : List Nat) (s : SS) (d : Nat), (∀ c ∈ L, c / 10 ≠ d) → (vsL s L).vis d = s.vis d
  | [], _, _, _ => rfl
  | x :: L, s, d, h => by
    rw [vsL, vsL_vis L _ d (fun c hc => h c (by simp [hc])), setV_vis, if_neg (fun z => h x (by simp) z.symm)]
theorem la_vsL : ∀ (L : List Nat) (s : SS), (∀ c ∈ L, s.vis (c / 10) = none) → asc L → ∀ p d, la (vsL s L) p d = laL L p d (la s p d)
  | [], _, _, _, _, _ => rfl
  | x :: L, s, h, ha, p, d => by
    have ha' := List.pairwise_cons.1 ha
    rw [vsL, la_vsL L _ (fun c hc => ?_) ha'.2, la_set (h x (by simp)), laL]
    have := ha'.1 c hc
    rw [setV_vis, if_neg (by omega)]; exact h c (by simp [hc])
theorem SB.vsL {t : TT} : ∀ (L : List Nat) {s : SS}, SB t s → (∀ c ∈ L, c % 10 < t.P) → SB t (vsL s L)
  | [], _, h, _ => h
  | x :: L, s, h, hc => SB.vsL L (h.setV (fun p hp => by have := Option.some.inj hp; have := hc x (by simp); omega)) (fun c hcc => hc c (by simp [hcc]))
theorem PV.vis {t : TT} {s : SS} {pre : List Nat} {fr : Nat} (h : PV t s pre fr) : ∀ c ∈ pre, s.vis (c / 10) = none := fun c hc => (of_decide_eq_true (h.cod c hc).2.2).2.2
theorem PV.opq {t : TT} {s : SS} {pre : List Nat} {fr d : Nat} (h : PV t s pre fr) (hd : fr < 10 * (d + 1)) : opn t (vsL s pre) d = opn t s d := by
  have h1 := vsL_vis pre s d (fun c hc => by have := h.far c hc; omega)
  have h2 := (vsL_day pre s).1
  rw [show opn t (vsL s pre) d = decide ((vsL s pre).day ≤ d ∧ d % 7 ≠ t.sh ∧ (vsL s pre).vis d = none) from rfl, h1, h2]
  rfl
theorem PV.hlw {t : TT} {E : List (Nat × Nat × Nat × Nat)} {s : SS} {pre : List Nat} {fr : Nat} (h : PV t s pre fr) (w : Nat) : hl t E (vsL s pre) w = kw t E w (laL pre (t.wp w) (t.wd w) (la s (t.wp w) (t.wd w))) := by
  rw [hl_kw, la_vsL pre s h.vis h.asc]
theorem bits_add (f : Nat → Bool) {n a : Nat} (ha : a < n) : bits f n ||| 2 ^ a = bits (fun p => f p || decide (p = a)) n := by
  apply Nat.eq_of_testBit_eq
  intro i
  rw [Nat.testBit_or, bits_at, bits_at, Nat.testBit_two_pow]
  by_cases q : i < n
  · rw [decide_eq_true q, Bool.true_and, Bool.true_and]
    congr 1
    exact decide_eq_decide.2 eq_comm
  · rw [decide_eq_false q, Bool.false_and, Bool.false_and, Bool.false_or, decide_eq_false (by omega)]
noncomputable def umN (t : TT) (E : List (Nat × Nat × Nat × Nat)) (s : SS) (L : List Nat) (n p : Nat) : Bool := exF (fun w => decide (t.wp w = p) && !kw t E w (laL L (t.wp w) (t.wd w) (la s (t.wp w) (t.wd w)))) 0 n
theorem m_unmet {σ : Mem} {t : TT} {s : SS} {pre : List Nat} {fr : Nat} (h : MC σ t (vsL s pre)) (hv : PV t s pre fr) : f_X13_unmet σ = some (zI (bits (um t (t.ch ++ s.sk) s pre) 5)) := by
  have hP := h.tb.P
  have hW := h.tb.W
  have a67 : aln 67 = 175 := rfl
  have i7 : ∀ β (k : Option β), ixd 7 (aln 67) k = k := fun β k => by rw [show (7 : Int32) = zI 7 from rfl, ixd_in (by omega)]
  have p7 : σ.1 67 (7 : Int32).toNatClampNeg = zI t.W := h.mr.W
  unfold f_X13_unmet
  simp only [i7, p7]
  refine fx2_run (fun n => zI (bits (umN t (t.ch ++ s.sk) s pre n) 5)) (fun n => zI n) t.W 0 (by omega) ?_ rfl (fun k => ?_) (fun w hw k => ?_)
  · have e0 : bits (umN t (t.ch ++ s.sk) s pre 0) 5 = 0 := bits_0 (fun i _ => exF_end _ 0)
    rw [e0]; rfl
  · rw [if_pos (by rw [zI_le (by omega) (by omega)]; omega)]; rfl
  · have hwp := tbwp h.tb hw
    have hrw := h.mr.wp w hw
    have hh := m_hold h.mr h.mv h.tb h.sb h.nod hw
    rw [(vsL_day pre s).2, hv.hlw] at hh
    rw [if_neg (by rw [zI_le (by omega) (by omega)]; omega), hh, pbd1_s]
    simp only [jn1_e, pnm_e, show zI w + 1 = zI (w + 1 : Nat) from by rw [show (1 : Int32) = zI 1 from rfl, zI_add]; rfl]
    rw [show (90 : Int32) + 2 * zI w = zI (90 + 2 * w : Nat) from by rw [show (90 : Int32) = zI 90 from rfl, show (2 : Int32) = zI 2 from rfl, zI_mul, zI_add]; congr 1, ixd_in (by omega), zI_nat (by omega), show ((90 + 2 * w : Nat) : Int).toNat = 90 + 2 * w from by omega, hrw, show (1 : Int32) <<< (zI (t.wp w) &&& 31) = zI (2 ^ t.wp w : Nat) from one_shl (by omega)]
    cases hk : kw t (t.ch ++ s.sk) w (laL pre (t.wp w) (t.wd w) (la s (t.wp w) (t.wd w))) with
    | true =>
      rw [if_neg (by decide), show (0 : Int32) = zI ((0 : Nat) : Int) from rfl, zI_or, Nat.or_zero]
      rw [bits_congr 5 (fun p _ => ?_)]
      unfold umN
      rw [exF_s, hk]; simp
    | false =>
      rw [if_pos (by rfl), zI_or, bits_add _ hwp]
      rw [bits_congr 5 (fun p _ => ?_)]
      unfold umN
      rw [exF_s, hk, show decide (p = t.wp w) = decide (t.wp w = p) from decide_eq_decide.2 eq_comm]; simp
theorem um_0 {t : TT} {E : List (Nat × Nat × Nat × Nat)} {s : SS} {pre : List Nat} (tb : TB t) : (bits (um t E s pre) 5 = 0) ↔ hW t E s pre = true := by
  rw [bits_zero, hW_t]
  constructor
  · intro h w hw
    exact um_f (h (t.wp w) (tbwp tb hw)) hw rfl
  · intro h p _
    exact exF_f (fun w _ hw => by rw [h w hw]; simp)
theorem um_P {t : TT} {E : List (Nat × Nat × Nat × Nat)} {s : SS} {pre : List Nat} (tb : TB t) {p : Nat} (h : um t E s pre p = true) : p < t.P := by
  obtain ⟨w, -, h1, h2⟩ := exF_iff.1 h
  rw [Bool.and_eq_true] at h2
  have := tb.wp w h1
  have := of_decide_eq_true h2.1
  omega
theorem fx2_fin {A1 A2 β : Type} {F : (A1 → A2 → Option β) → A1 → A2 → Option β} (a : Nat → A1) (Inv : Nat → A2 → Prop) (Fin : β → Prop) (N : Nat) (hN : N < 100000) (he : ∀ k σ, Inv N σ → ∃ υ, Fin υ ∧ F k (a N) σ = some υ) (hs : ∀ i, i < N → ∀ σ, Inv i σ → ∀ k, (∃ υ, Fin υ ∧ F k (a i) σ = some υ) ∨ ∃ σ', Inv (i + 1) σ' ∧ F k (a i) σ = k (a (i + 1)) σ') (i : Nat) (hi : i ≤ N) {x : A1} (hx : x = a i) (σ : A2) (h0 : Inv i σ) : ∃ υ, Fin υ ∧ fx2 FU F x σ = some υ := by
  subst hx
  have key : ∀ n, ∀ i, i + n = N → ∀ m σ, Inv i σ → ∃ υ, Fin υ ∧ fx2 (n + 1 + m) F (a i) σ = some υ := by
    intro n
    induction n with
    | zero =>
      intro i hi m σ h
      have : i = N := by omega
      subst this
      rw [Nat.zero_add, Nat.add_comm]
      exact he _ σ h
    | succ n ih =>
      intro i hi m σ h
      rw [show n + 1 + 1 + m = (n + 1 + m) + 1 from by omega]
      rcases hs i (by omega) σ h (fx2 (n + 1 + m) F) with w | ⟨σ', h1, h2⟩
      · exact w
      · obtain ⟨υ, h3, h4⟩ := ih (i + 1) (by omega) m σ' h1
        exact ⟨υ, h3, h2.trans h4⟩
  have h2 := key (N - i) i (by omega) (99999 - (N - i)) σ h0
  rw [show N - i + 1 + (99999 - (N - i)) = FU from by unfold FU; omega] at h2
  exact h2
/-- cells of a row from o on tell a list -/
def RowL (f : Nat → Int32) (o : Nat) (L : List Nat) : Prop := ∀ i c : Nat, L[i]? = some c → f (o + i) = zI c
theorem RowL.cons {f : Nat → Int32} {o c : Nat} {L : List Nat} (h0 : f o = zI c) (h : RowL f (o + 1) L) : RowL f o (c :: L) := by
  intro i x hx
  cases i with
  | zero =>
    have : c = x := by simpa using hx
    rw [← this]; exact h0
  | succ i =>
    have := h i x (by simpa using hx)
    rw [show o + (i + 1) = o + 1 + i from by omega]; exact this
def stepF (t : TT) (s : SS) (g : Nat → Option (List Nat)) (c : Nat) : Option (List Nat) := if c % 10 < t.P ∧ opn t s (c / 10) = true then (match g c with | none => none | some L => some (c :: L)) else none
theorem firstS_s (t : TT) (E : List (Nat × Nat × Nat × Nat)) (s : SS) (j : Nat) (pre : List Nat) (fr : Nat) : firstS t E s (j + 1) pre fr = sk1 (stepF t s (fun c => firstS t E s j (pre ++ [c]) (10 * (c / 10 + 1)))) (300 - fr) := rfl
theorem stepF_none {t : TT} {s : SS} {g : Nat → Option (List Nat)} {c : Nat} (h : (c % 10 < t.P ∧ opn t s (c / 10) = true) → g c = none) : stepF t s g c = none := by
  unfold stepF
  by_cases q : c % 10 < t.P ∧ opn t s (c / 10) = true
  · rw [if_pos q, h q]
  · rw [if_neg q]
theorem stepF_some {t : TT} {s : SS} {g : Nat → Option (List Nat)} {c : Nat} {L : List Nat} (q : c % 10 < t.P ∧ opn t s (c / 10) = true) (h : g c = some L) : stepF t s g c = some (c :: L) := by
  unfold stepF
  rw [if_pos q, h]
theorem sk1_s (f : Nat → Option (List Nat)) {c : Nat} (hc : c < 300) : sk1 f (300 - c) = match f c with | some L => some L | none => sk1 f (300 - (c + 1)) := by
  obtain ⟨k, hk⟩ : ∃ k, 300 - c = k + 1 := ⟨299 - c, by omega⟩
  rw [hk, sk1, show 300 - (k + 1) = c from by omega, show 300 - (c + 1) = k from by omega]
  try (cases f c <;> rfl)
theorem m_try {t : TT} {s : SS} (tb : TB t) (sb : SB t s) : ∀ (j : Nat) (pre : List Nat) (fr : Nat) (σ : Mem) (fu : Nat), MC σ t (vsL s pre) → PV t s pre fr → MinS t (t.ch ++ s.sk) s (pre.length + j) → fr ≤ 300 → pre.length + j ≤ 3 → j < fu → ∃ σ', f_X13_tryVisits fu σ (zI pre.length) (zI (pre.length + j : Nat)) (zI fr) (zI (bits (um t (t.ch ++ s.sk) s []) 5)) = some (bI (firstS t (t.ch ++ s.sk) s j pre fr).isSome, σ') ∧ (∀ a, a ≠ 74 → σ'.1 a = σ.1 a) ∧ σ'.2 = σ.2 ∧ (∀ i, i < pre.length → σ'.1 74 i = σ.1 74 i) ∧ ∀ L, firstS t (t.ch ++ s.sk) s j pre fr = some L → RowL (σ'.1 74) pre.length L := by
  intro j
  induction j with
  | zero =>
    intro pre fr σ fu hM hv hm hfr h3 hfu
    obtain ⟨fu, rfl⟩ : ∃ n, fu = n + 1 := ⟨fu - 1, by omega⟩
    have hu := m_unmet hM hv
    have hb := bits_256 (um t (t.ch ++ s.sk) s pre) (show 5 ≤ 8 by omega)
    have h0 := um_0 (E := t.ch ++ s.sk) (s := s) (pre := pre) tb
    refine ⟨σ, ?_, fun a _ => rfl, rfl, fun i _ => rfl, fun L hL => ?_⟩
    · show bd1 (f_X13_unmet σ) _ = _
      rw [hu, pbd1_s, jn0_e, firstS]
      cases hh : hW t (t.ch ++ s.sk) s pre with
      | true => rw [if_pos (by rw [h0.2 hh]; rfl), if_pos (by rw [Nat.add_zero]), if_pos rfl]; rfl
      | false =>
        have hne : bits (um t (t.ch ++ s.sk) s pre) 5 ≠ 0 := fun w => by rw [h0.1 w] at hh; cases hh
        have hcn : 0 < cnt (um t (t.ch ++ s.sk) s pre) 5 := by
          rcases Nat.eq_zero_or_pos (cnt (um t (t.ch ++ s.sk) s pre) 5) with w | w
          · have := (cnt_any _ 5).1 w
            exact absurd (bits_zero.2 (fun q hq => by
              cases e : um t (t.ch ++ s.sk) s pre q with
              | false => rfl
              | true => rw [exF_t q (by omega) hq e] at this; cases this)) hne
          · exact w
        have hc5 := cnt_le (um t (t.ch ++ s.sk) s pre) 5
        rw [if_neg (by rw [show (0 : Int32) = zI 0 from rfl, zI_eq (by omega) (by omega)]; omega), m_onesB _ (by omega), pbd1_s, if_pos (by rw [zI_sub, zI_lt (by omega) (by omega)]; omega), if_neg (by decide)]
        rfl
    · rw [firstS] at hL
      split at hL
      · have := Option.some.inj hL
        subst this
        intro i c hc; cases hc
      · cases hL
  | succ j ih =>
    intro pre fr σ fu hM hv hm hfr h3 hfu
    obtain ⟨fu, rfl⟩ : ∃ n, fu = n + 1 := ⟨fu - 1, by omega⟩
    have hu := m_unmet hM hv
    have hb := bits_256 (um t (t.ch ++ s.sk) s pre) (show 5 ≤ 8 by omega)
    have hb0 := bits_256 (um t (t.ch ++ s.sk) s []) (show 5 ≤ 8 by omega)
    have h0 := um_0 (E := t.ch ++ s.sk) (s := s) (pre := pre) tb
    have a69 : aln 69 = 80 := rfl
    have a74 : aln 74 = 3 := rfl
    have hP := tb.P
    -- not all wishes hold: the prefix would be shorter
    have hne : bits (um t (t.ch ++ s.sk) s pre) 5 ≠ 0 := fun w => by
      have := hm pre ⟨hv.cod, hv.asc, h0.1 w⟩
      omega
    have hc5 := cnt_le (um t (t.ch ++ s.sk) s pre) 5
    by_cases hcut : j + 1 < cnt (um t (t.ch ++ s.sk) s pre) 5
    · refine ⟨σ, ?_, fun a _ => rfl, rfl, fun i _ => rfl, fun L hL => by rw [cut_cnt hcut] at hL; cases hL⟩
      show bd1 (f_X13_unmet σ) _ = _
      rw [hu, pbd1_s, jn0_e, if_neg (by rw [show (0 : Int32) = zI 0 from rfl, zI_eq (by omega) (by omega)]; omega), m_onesB _ (by omega), pbd1_s, if_pos (by rw [zI_sub, zI_lt (by omega) (by omega)]; omega), cut_cnt hcut]
      rfl
    · let g : Nat → Option (List Nat) := fun c => firstS t (t.ch ++ s.sk) s j (pre ++ [c]) (10 * (c / 10 + 1))
      have hfs : firstS t (t.ch ++ s.sk) s (j + 1) pre fr = sk1 (stepF t s g) (300 - fr) := rfl
      let Inv : Nat → Mem → Prop := fun i τ => (∀ a, a ≠ 74 → τ.1 a = σ.1 a) ∧ τ.2 = σ.2 ∧ (∀ i, i < pre.length → τ.1 74 i = σ.1 74 i) ∧ sk1 (stepF t s g) (300 - fr) = sk1 (stepF t s g) (300 - (fr + i))
      let Fin : Int32 × Mem → Prop := fun υ => υ.1 = bI (sk1 (stepF t s g) (300 - fr)).isSome ∧ (∀ a, a ≠ 74 → υ.2.1 a = σ.1 a) ∧ υ.2.2 = σ.2 ∧ (∀ i, i < pre.length → υ.2.1 74 i = σ.1 74 i) ∧ ∀ L, sk1 (stepF t s g) (300 - fr) = some L → RowL (υ.2.1 74) pre.length L
      have hh := fx2_fin (F := fun k_6 (i_4 : Int32) (σ_5 : Mem) => (if 300 ≤ i_4 then some (0, σ_5) else dvd 10 (nm (i_4 / 10) (fun (x_7 : Int32) => dvd 10 (nm (i_4 - i_4 / 10 * 10) (fun (x_8 : Int32) => bd1 (f_X13_hasBit (zI (bits (um t (t.ch ++ s.sk) s []) 5)) x_8) (fun (r_9 : Int32) => jn1 (fun (σ_10 : Mem) => nm (i_4 + 1) (fun (x_12 : Int32) => k_6 x_12 σ_10)) (fun k_11 => (if r_9 = 0 then k_11 σ_5 else bd1 (f_X13_isOpen σ_5 x_7) (fun (r_14 : Int32) => (if r_14 = 0 then k_11 σ_5 else ixd x_7 (aln 69) (nm (sI σ_5 69 x_7.toNatClampNeg (x_8 + 1)) (fun (σ_15 : Mem) => ixd (zI pre.length) (aln 74) (nm (sI σ_15 74 (zI pre.length).toNatClampNeg i_4) (fun (σ_16 : Mem) => bd2 (f_X13_tryVisits fu σ_16 ((zI pre.length) + 1) (zI (pre.length + (j + 1) : Nat)) (10 * (x_7 + 1)) (zI (bits (um t (t.ch ++ s.sk) s []) 5))) (fun (r_17 : Int32) (σ_18 : Mem) => ixd x_7 (aln 69) (nm (sI σ_18 69 x_7.toNatClampNeg 0) (fun (σ_19 : Mem) => (if r_17 = 0 then k_11 σ_19 else some (1, σ_19)))))))))))))))))))) (fun i => zI (fr + i : Nat)) Inv Fin (300 - fr) (by omega) ?_ ?_ 0 (by omega) (x := zI fr) rfl σ ⟨fun a _ => rfl, rfl, fun i _ => rfl, rfl⟩
      · obtain ⟨υ, ⟨w1, w2, w3, w4, w5⟩, w6⟩ := hh
        refine ⟨υ.2, ?_, w2, w3, w4, by rw [hfs]; exact w5⟩
        show bd1 (f_X13_unmet σ) _ = _
        rw [hu, pbd1_s, jn0_e, if_neg (by rw [show (0 : Int32) = zI 0 from rfl, zI_eq (by omega) (by omega)]; omega), m_onesB _ (by omega), pbd1_s, if_neg (by rw [zI_sub, zI_lt (by omega) (by omega)]; omega), if_neg (by rw [zI_eq (by omega) (by omega)]; omega), hfs, ← w1]
        exact w6
      · rintro k τ ⟨w1, w2, w3, w4⟩
        rw [show 300 - (fr + (300 - fr)) = 0 from by omega] at w4
        refine ⟨(0, τ), ⟨by rw [w4]; rfl, w1, w2, w3, fun L hL => by rw [w4] at hL; cases hL⟩, ?_⟩
        rw [show fr + (300 - fr) = 300 from by omega, if_pos (by decide)]
      · rintro i hi τ ⟨w1, w2, w3, w4⟩ k
        obtain ⟨c, hc⟩ : ∃ c, c = fr + i := ⟨_, rfl⟩
        rw [← hc] at w4 ⊢
        have hc300 : c < 300 := by omega
        have hstep := sk1_s (stepF t s g) hc300
        rw [show fr + (i + 1) = c + 1 from by omega] at *
        have hd30 : c / 10 < 30 := by omega
        have hopq := hv.opq (d := c / 10) (by omega)
        have hMt : MC τ t (vsL s pre) := hM.of (w1 67 (by omega)) (w1 69 (by omega)) (by rw [w1 64 (by omega)]) (by rw [w1 64 (by omega)])
        have ho := m_open hMt.mr hMt.mv tb hMt.sb hd30
        rw [hopq] at ho
        have hrem : zI c - zI c / 10 * 10 = zI (c % 10 : Nat) := by rw [show (10 : Int32) = zI (10 : Nat) from rfl]; exact zI_rem (by omega)
        have hdiv : zI c / 10 = zI (c / 10 : Nat) := by rw [show (10 : Int32) = zI (10 : Nat) from rfl]; exact zI_div_nat c 10 (by omega)
        have hbit : f_X13_hasBit (zI (bits (um t (t.ch ++ s.sk) s []) 5)) (zI (c % 10 : Nat)) = some (bI (um t (t.ch ++ s.sk) s [] (c % 10))) := by
          rw [m_hasBit (by omega) (by omega), bits_at]
          by_cases q : c % 10 < 5
          · rw [decide_eq_true q, Bool.true_and]
          · rw [decide_eq_false q, Bool.false_and]
            cases e : um t (t.ch ++ s.sk) s [] (c % 10) with
            | false => rfl
            | true => have := um_P tb e; omega
        rw [if_neg (by rw [show (300 : Int32) = zI 300 from rfl, zI_le (by omega) (by omega)]; omega), show (10 : Int32) = zI 10 from rfl, dvd_ne (by omega), pnm_e, dvd_ne (by omega), pnm_e, show zI 10 = (10 : Int32) from rfl, hrem, hdiv, hbit, pbd1_s, ho]
        simp only [pbd1_s, jn1_e, pnm_e, show zI c + 1 = zI (c + 1 : Nat) from by rw [show (1 : Int32) = zI 1 from rfl, zI_add]; rfl]
        have skip : stepF t s g c = none → ∃ σ', Inv (i + 1) σ' ∧ k (zI (c + 1 : Nat)) τ = k (zI (c + 1 : Nat)) σ' := fun hn => ⟨τ, ⟨w1, w2, w3, by rw [w4, hstep, hn, show fr + (i + 1) = c + 1 from by omega]⟩, rfl⟩
        cases hwho : um t (t.ch ++ s.sk) s [] (c % 10) with
        | false =>
          right
          rw [if_pos (by rfl)]
          refine skip (stepF_none (fun q => ?_))
          exact cut_who hv hm (by omega) ⟨hc300, q.1, q.2⟩ hwho
        | true =>
          have hcP := um_P tb hwho
          rw [if_neg (by decide)]
          cases hop : opn t s (c / 10) with
          | false =>
            right
            rw [if_pos (by rfl)]
            exact skip (stepF_none (fun q => by rw [hop] at q; cases q.2))
          | true =>
            have hck : codK t s c := ⟨hc300, hcP, hop⟩
            have hv' := hv.snoc (by omega : fr ≤ c) hck
            have hvis0 : (vsL s pre).vis (c / 10) = none := by
              have := of_decide_eq_true (hopq.trans hop)
              exact this.2.2
            have h69 : τ.1 69 (c / 10) = zI (oM none) := by
              have := hMt.mv.vis (c / 10) hd30
              rw [hvis0, Nat.zero_add] at this
              exact this
            obtain ⟨τ1, hτ1⟩ : ∃ τ1, τ1 = sI (sI τ 69 (c / 10) (zI (oM (some (c % 10))))) 74 pre.length (zI c) := ⟨_, rfl⟩
            have hM1 : MC τ1 t (vsL s (pre ++ [c])) := by
              rw [vsL_app]
              exact (hMt.setV hd30 (v := some (c % 10)) (fun p hp => by have := Option.some.inj hp; omega)).of (by rw [hτ1, sI_o _ _ _ _ (by decide)]) (by rw [hτ1, sI_o _ _ _ _ (by decide)]) (by rw [hτ1, sI_o _ _ _ _ (by decide)]) (by rw [hτ1, sI_o _ _ _ _ (by decide)])
            have hlen : (pre ++ [c]).length = pre.length + 1 := by rw [List.length_append]; rfl
            obtain ⟨τ2, e1, e2, e3, e4, e5⟩ := ih (pre ++ [c]) (10 * (c / 10 + 1)) τ1 fu hM1 hv' (by rw [hlen, show pre.length + 1 + j = pre.length + (j + 1) from by omega]; exact hm) (by omega) (by omega) (by omega)
            rw [hlen] at e1 e4 e5
            rw [if_neg (by decide), ixd_in (by omega), ixd_in (by omega), zI_nat (by omega), zI_nat (by omega), show ((c / 10 : Nat) : Int).toNat = c / 10 from by omega, show ((pre.length : Nat) : Int).toNat = pre.length from by omega, show zI (c % 10 : Nat) + 1 = zI (oM (some (c % 10))) from by rw [show (1 : Int32) = zI 1 from rfl, zI_add]; rfl, ← hτ1, show zI pre.length + 1 = zI (pre.length + 1 : Nat) from by rw [show (1 : Int32) = zI 1 from rfl, zI_add]; rfl, show pre.length + (j + 1) = pre.length + 1 + j from by omega, show (10 : Int32) * (zI (c / 10 : Nat) + 1) = zI (10 * (c / 10 + 1) : Nat) from by rw [show (1 : Int32) = zI 1 from rfl, show (10 : Int32) = zI 10 from rfl, zI_add, zI_mul]; congr 1, e1, pbd2_s, ixd_in (by omega)]
            have r69 : (sI τ2 69 (c / 10) 0).1 69 = σ.1 69 := by
              rw [sI_at, e2 69 (by omega), hτ1, sI_o _ _ _ _ (by decide), sI_at, ← w1 69 (by omega)]
              funext z
              unfold upd
              by_cases q : z = c / 10
              · rw [if_pos q, q, h69]; rfl
              · rw [if_neg q, if_neg q]
            have r1 : ∀ a, a ≠ 74 → (sI τ2 69 (c / 10) 0).1 a = σ.1 a := fun a ha => by
              by_cases q : a = 69
              · rw [q]; exact r69
              · rw [sI_o _ _ _ _ q, e2 a ha, hτ1, sI_o _ _ _ _ ha, sI_o _ _ _ _ q, w1 a ha]
            have r2 : (sI τ2 69 (c / 10) 0).2 = σ.2 := by rw [sI_2, e3, hτ1]; exact w2
            have r3 : ∀ z, z < pre.length → (sI τ2 69 (c / 10) 0).1 74 z = σ.1 74 z := fun z hz => by
              rw [sI_o _ _ _ _ (by decide), e4 z (by omega), hτ1, sI_1, if_neg (by omega), sI_o _ _ _ _ (by decide), w3 z hz]
            cases hgc : g c with
            | none =>
              right
              have hgc' : firstS t (t.ch ++ s.sk) s j (pre ++ [c]) (10 * (c / 10 + 1)) = none := hgc
              rw [hgc', if_pos (by rfl)]
              exact ⟨_, ⟨r1, r2, r3, by rw [w4, hstep, stepF_none (fun _ => hgc), show fr + (i + 1) = c + 1 from by omega]⟩, rfl⟩
            | some L =>
              left
              have hgc' : firstS t (t.ch ++ s.sk) s j (pre ++ [c]) (10 * (c / 10 + 1)) = some L := hgc
              have hsk : sk1 (stepF t s g) (300 - fr) = some (c :: L) := by rw [w4, hstep, stepF_some ⟨hcP, hop⟩ hgc]
              rw [hgc', show bI (some L).isSome = bI true from rfl, if_neg (show ¬ bI true = 0 by decide)]
              refine ⟨_, ⟨by rw [hsk]; rfl, r1, r2, r3, fun M hM => ?_⟩, rfl⟩
              rw [hsk] at hM
              have := Option.some.inj hM
              subst this
              refine RowL.cons ?_ ?_
              · show (sI τ2 69 (c / 10) 0).1 74 pre.length = zI c
                rw [sI_o _ _ _ _ (by decide), e4 _ (by omega), hτ1, sI_1, if_pos ⟨rfl, rfl⟩]
              · have := e5 L hgc'
                show RowL ((sI τ2 69 (c / 10) 0).1 74) (pre.length + 1) L
                rw [sI_o _ _ _ _ (by decide)]; exact this
theorem laL_le : ∀ (L : List Nat) (p d : Nat) (v : Int), v ≤ d → laL L p d v ≤ d
  | [], _, _, _, h => h
  | c :: L, p, d, v, h => by
    rw [laL]
    refine laL_le L p d _ ?_
    split <;> omega
theorem laL_two : ∀ (L : List Nat) (p d : Nat) (v : Int), (v = -2 ∨ 0 ≤ v) → laL L p d v = -2 ∨ 0 ≤ laL L p d v
  | [], _, _, _, h => h
  | c :: L, p, d, v, h => by
    rw [laL]
    refine laL_two L p d _ ?_
    split <;> omega
theorem la_two (s : SS) (p d : Nat) : la s p d = -2 ∨ 0 ≤ la s p d := by
  unfold la
  cases lat s.vis p (d + 1) with
  | none => left; rfl
  | some e => right; simp only [oC]; omega
/-- what the class's search reads: the visits now, the wishes' visits, the count -/
abbrev FS (σ : Mem) (T : Nat) (t : TT) (s : SS) (n : Nat) (Lc : List Nat) : Prop :=
  (CS σ 28 T t (t.ch ++ s.sk) s) ∧ (CT σ T t) ∧ (∀ w, w < t.W → σ.1 53 w = zI (la s (t.wp w) (t.wd w))) ∧ (σ.1 51 3 = zI Lc.length) ∧ (∀ i c : Nat, Lc[i]? = some c → σ.1 52 i = zI c) ∧ (Lc.length ≤ 150) ∧ (σ.1 51 4 = zI n)
theorem FS.cs {σ : Mem}{T : Nat}{t : TT}{s : SS}{n : Nat}{Lc : List Nat} (h : FS σ T t s n Lc) : CS σ 28 T t (t.ch ++ s.sk) s := h.1
theorem FS.ct {σ : Mem}{T : Nat}{t : TT}{s : SS}{n : Nat}{Lc : List Nat} (h : FS σ T t s n Lc) : CT σ T t := h.2.1
theorem FS.pv {σ : Mem}{T : Nat}{t : TT}{s : SS}{n : Nat}{Lc : List Nat} (h : FS σ T t s n Lc) : ∀ w, w < t.W → σ.1 53 w = zI (la s (t.wp w) (t.wd w)) := h.2.2.1
theorem FS.cn {σ : Mem}{T : Nat}{t : TT}{s : SS}{n : Nat}{Lc : List Nat} (h : FS σ T t s n Lc) : σ.1 51 3 = zI Lc.length := h.2.2.2.1
theorem FS.cd {σ : Mem}{T : Nat}{t : TT}{s : SS}{n : Nat}{Lc : List Nat} (h : FS σ T t s n Lc) : ∀ i c : Nat, Lc[i]? = some c → σ.1 52 i = zI c := h.2.2.2.2.1
theorem FS.len {σ : Mem}{T : Nat}{t : TT}{s : SS}{n : Nat}{Lc : List Nat} (h : FS σ T t s n Lc) : Lc.length ≤ 150 := h.2.2.2.2.2.1
theorem FS.cnt {σ : Mem}{T : Nat}{t : TT}{s : SS}{n : Nat}{Lc : List Nat} (h : FS σ T t s n Lc) : σ.1 51 4 = zI n := h.2.2.2.2.2.2
theorem FS.of {σ τ : Mem} {T : Nat} {t : TT} {s : SS} {n : Nat} {Lc : List Nat} (h : FS σ T t s n Lc) (e : ∀ a, a ≠ 54 → τ.1 a = σ.1 a) (e2 : τ.2 = σ.2) : FS τ T t s n Lc :=
  ⟨h.cs.of (fun a h1 h2 => e a (by omega)) (by rw [e2]), h.ct.of (fun a h1 h2 => e a (by have := h.ct.at_; omega)), fun w hw => by rw [e 53 (by omega)]; exact h.pv w hw, by rw [e 51 (by omega)]; exact h.cn, fun i c hc => by rw [e 52 (by omega)]; exact h.cd i c hc, h.len, by rw [e 51 (by omega)]; exact h.cnt⟩
theorem c_vw {σ : Mem} {t : TT} {s : SS} (tb : TB t) {pre : List Nat} (hpv : ∀ w, w < t.W → σ.1 53 w = zI (la s (t.wp w) (t.wd w))) (h54 : ∀ i c : Nat, pre[i]? = some c → σ.1 54 i = zI c) (hc : ∀ c ∈ pre, c < 300) (hl : pre.length ≤ 3) {w : Nat} (hw : w < t.W) : f_X3_visitWith σ (zI w) (zI (t.wp w)) (zI (t.wd w)) (zI pre.length) = some (zI (laL pre (t.wp w) (t.wd w) (la s (t.wp w) (t.wd w)))) := by
  have hW := tb.W
  have hwp := tbwp tb hw
  have hwd := tb.wd w hw
  have a53 : aln (51 + 2) = 5 := rfl
  have a54 : aln (51 + 3) = 3 := rfl
  unfold f_X3_visitWith
  rw [g_get (a := 51 + 2) (hpv w hw) (by omega) (by omega), pbd1_s]
  refine fx2_run (fun i => zI (laL (pre.take i) (t.wp w) (t.wd w) (la s (t.wp w) (t.wd w)))) (fun i => zI i) pre.length 0 (by omega) rfl rfl (fun k => ?_) (fun i hi k => ?_)
  · rw [if_pos (by rw [zI_le (by omega) (by omega)]; omega), List.take_length]
  · obtain ⟨c, hc1, hc2⟩ := get_some pre hi
    have h300 := hc c hc2
    have hb := la_b s (t.wp w) (t.wd w)
    have h1 := laL_le (pre.take i) (t.wp w) (t.wd w) _ hb.2
    have h2 := laL_ge (pre.take i) (t.wp w) (t.wd w) (la s (t.wp w) (t.wd w))
    have hrem : zI c - zI c / 10 * 10 = zI (c % 10 : Nat) := by rw [show (10 : Int32) = zI (10 : Nat) from rfl]; exact zI_rem (by omega)
    have hdiv : zI c / 10 = zI (c / 10 : Nat) := by rw [show (10 : Int32) = zI (10 : Nat) from rfl]; exact zI_div_nat c 10 (by omega)
    rw [if_neg (by rw [zI_le (by omega) (by omega)]; omega), g_get (a := 51 + 3) (h54 i c hc1) (by omega) (by omega), pbd1_s, show (10 : Int32) = zI 10 from rfl, dvd_ne (by omega), pnm_e, pbd1_s, dvd_ne (by omega), show zI 10 = (10 : Int32) from rfl, hrem, hdiv, tk_s pre hc1, laL_app, laL, laL]
    simp only [jn1_e, pnm_e, show zI i + 1 = zI (i + 1 : Nat) from by rw [show (1 : Int32) = zI 1 from rfl, zI_add]; rfl]
    by_cases q1 : c % 10 = t.wp w
    · rw [if_pos (by rw [q1])]
      by_cases q2 : c / 10 ≤ t.wd w
      · have qq : c % 10 = t.wp w ∧ c / 10 ≤ t.wd w := ⟨q1, q2⟩
        rw [if_pos qq, if_neg (by rw [zI_lt (by omega) (by omega)]; omega)]
        by_cases q3 : laL (pre.take i) (t.wp w) (t.wd w) (la s (t.wp w) (t.wd w)) < ((c / 10 : Nat) : Int)
        · rw [if_pos (by rw [zI_lt (by omega) (by omega)]; exact q3), Int.max_eq_right (by omega)]
        · rw [if_neg (by rw [zI_lt (by omega) (by omega)]; exact q3), Int.max_eq_left (by omega)]
      · have qq : ¬ (c % 10 = t.wp w ∧ c / 10 ≤ t.wd w) := fun z => q2 z.2
        rw [if_neg qq, if_pos (by rw [zI_lt (by omega) (by omega)]; omega)]
    · have qq : ¬ (c % 10 = t.wp w ∧ c / 10 ≤ t.wd w) := fun z => q1 z.1
      rw [if_neg qq, if_neg (by rw [zI_eq (by omega) (by omega)]; omega)]
theorem c_kw {σ : Mem} {T : Nat} {t : TT} {s : SS} {n : Nat} {Lc : List Nat} (tb : TB t) (h : FS σ T t s n Lc) {w : Nat} (hw : w < t.W) {v : Int} (hv : v = -2 ∨ 0 ≤ v) (hv2 : v < 30) : f_X9_knowsBy σ 28 (zI (t.wp w)) (zI (t.wd w)) (zI v) = some (bI (kw t (t.ch ++ s.sk) w v)) := by
  have hwp := tb.wp w hw
  have hwd := tb.wd w hw
  have e : zI v = zI (oC (if v < 0 then none else some v.toNat)) := by
    rcases hv with hv | hv
    · rw [hv]; rfl
    · rw [if_neg (by omega)]
      show zI v = zI ((v.toNat : Nat) : Int)
      congr 1; omega
  rw [e, c_knowsBy h.cs h.ct tb hwp hwd (fun d hd => ?_)]
  · rfl
  · split at hd
    · cases hd
    · have := Option.some.inj hd; omega
/-- the first day of a wish that doesn't hold -/
noncomputable def due (t : TT) (E : List (Nat × Nat × Nat × Nat)) (s : SS) (L : List Nat) : Nat → Nat
  | 0 => 30
  | w + 1 => if kw t E w (laL L (t.wp w) (t.wd w) (la s (t.wp w) (t.wd w))) = true then due t E s L w else min (t.wd w) (due t E s L w)
theorem due_le {t : TT} {E : List (Nat × Nat × Nat × Nat)} {s : SS} {L : List Nat} : ∀ n, due t E s L n ≤ 30
  | 0 => Nat.le_refl _
  | w + 1 => by have := due_le (t := t) (E := E) (s := s) (L := L) w; rw [due]; split <;> omega
theorem due_30 {t : TT} {E : List (Nat × Nat × Nat × Nat)} {s : SS} {L : List Nat} (tb : TB t) : (due t E s L t.W = 30) ↔ hW t E s L = true := by
  rw [hW_t]
  have key : ∀ n, n ≤ t.W → ((due t E s L n = 30) ↔ ∀ w, w < n → kw t E w (laL L (t.wp w) (t.wd w) (la s (t.wp w) (t.wd w))) = true) := by
    intro n
    induction n with
    | zero => intro _; exact ⟨fun _ w hw => absurd hw (by omega), fun _ => rfl⟩
    | succ n ih =>
      intro hn
      have hwd := tb.wd n (by omega)
      have ih := ih (by omega)
      rw [due]
      by_cases q : kw t E n (laL L (t.wp n) (t.wd n) (la s (t.wp n) (t.wd n))) = true
      · rw [if_pos q, ih]
        constructor
        · intro h w hw
          rcases Nat.lt_or_ge w n with z | z
          · exact h w z
          · rw [show w = n from by omega]; exact q
        · intro h w hw; exact h w (by omega)
      · rw [if_neg q]
        constructor
        · intro h; omega
        · intro h; exact absurd (h n (by omega)) q
  exact key t.W (Nat.le_refl _)
theorem due_ex {t : TT} {E : List (Nat × Nat × Nat × Nat)} {s : SS} {L : List Nat} : ∀ {n}, due t E s L n ≠ 30 → ∃ w, w < n ∧ t.wd w = due t E s L n ∧ kw t E w (laL L (t.wp w) (t.wd w) (la s (t.wp w) (t.wd w))) = false
  | 0, h => absurd rfl h
  | n + 1, h => by
    rw [due] at h ⊢
    by_cases q : kw t E n (laL L (t.wp n) (t.wd n) (la s (t.wp n) (t.wd n))) = true
    · rw [if_pos q] at h ⊢
      obtain ⟨w, h1, h2, h3⟩ := due_ex h
      exact ⟨w, by omega, h2, h3⟩
    · rw [if_neg q] at h ⊢
      by_cases q2 : t.wd n ≤ due t E s L n
      · exact ⟨n, by omega, by omega, by simpa using q⟩
      · have hle := due_le (t := t) (E := E) (s := s) (L := L) n
        by_cases q3 : due t E s L n = 30
        · exact ⟨n, by omega, by omega, by simpa using q⟩
        · obtain ⟨w, h1, h2, h3⟩ := due_ex q3
          exact ⟨w, by omega, by omega, h3⟩
theorem cut_due {t : TT} {E : List (Nat × Nat × Nat × Nat)} {s : SS} {j : Nat} {pre : List Nat} {fr c : Nat} (h : PV t s pre fr) (hf : fr ≤ c) (hc : codK t s c) (hd : due t E s pre t.W < c / 10) : firstS t E s j (pre ++ [c]) (10 * (c / 10 + 1)) = none := by
  cases e : firstS t E s j (pre ++ [c]) (10 * (c / 10 + 1)) with
  | none => rfl
  | some L =>
    have hc30 : c / 10 < 30 := by have := hc.1; omega
    obtain ⟨w, h1, h2, h3⟩ := due_ex (t := t) (E := E) (s := s) (L := pre) (n := t.W) (by omega)
    obtain ⟨g1, g2, g3, g4⟩ := firstS_ok e
    have := hW_t.1 g4 w h1
    rw [laL_app, laL_app, laL_far L _ _ _ (fun x hx z => ?_), laL_far [c] _ _ _ (fun x hx z => ?_), h3] at this
    · cases this
    · rw [List.mem_singleton.1 hx] at z; omega
    · have := (g2 x hx).1; omega
theorem c_due {σ : Mem} {T : Nat} {t : TT} {s : SS} {n : Nat} {Lc : List Nat} (tb : TB t) (h : FS σ T t s n Lc) {pre : List Nat} (h54 : ∀ i c : Nat, pre[i]? = some c → σ.1 54 i = zI c) (hc : ∀ c ∈ pre, c < 300) (hl : pre.length ≤ 3) : f_X3_firstBroken σ 28 (zI pre.length) = some (zI (due t (t.ch ++ s.sk) s pre t.W)) := by
  have hW := tb.W
  obtain ⟨a1, a2, a3, a4, a5, a6, a7, a8, a9, a10⟩ := ct_aln h.ct.at_
  unfold f_X3_firstBroken
  refine fx2_run (fun w => zI (due t (t.ch ++ s.sk) s pre w)) (fun w => zI w) t.W 0 (by omega) rfl rfl (fun k => ?_) (fun w hw k => ?_)
  · rw [h.cs.town, prfc_s, ct_wishes h.ct, pbd1_s, if_pos (by rw [zI_le (by omega) (by omega)]; omega)]
  · have hwd := tb.wd w hw
    have hwp := tbwp tb hw
    have hb := la_b s (t.wp w) (t.wd w)
    have h1 := laL_le pre (t.wp w) (t.wd w) _ hb.2
    have h2 := laL_two pre (t.wp w) (t.wd w) _ (la_two s (t.wp w) (t.wd w))
    have hdl := due_le (t := t) (E := t.ch ++ s.sk) (s := s) (L := pre) w
    rw [h.cs.town, prfc_s, ct_wishes h.ct, pbd1_s, if_neg (by rw [zI_le (by omega) (by omega)]; omega), prfc_s, g_get (h.ct.wp w hw) (by omega) (by omega), pbd1_s, prfc_s, g_get (h.ct.wd w hw) (by omega) (by omega), pbd1_s, c_vw tb h.pv h54 hc hl hw, pbd1_s, c_kw tb h hw h2 (by omega), pbd1_s, due]
    simp only [jn1_e, pnm_e, show zI w + 1 = zI (w + 1 : Nat) from by rw [show (1 : Int32) = zI 1 from rfl, zI_add]; rfl]
    by_cases q : kw t (t.ch ++ s.sk) w (laL pre (t.wp w) (t.wd w) (la s (t.wp w) (t.wd w))) = true
    · rw [if_neg (by rw [q]; decide), if_pos q]
    · rw [if_pos (by rw [show kw t (t.ch ++ s.sk) w (laL pre (t.wp w) (t.wd w) (la s (t.wp w) (t.wd w))) = false from by simpa using q]; rfl), if_neg q]
      by_cases q2 : t.wd w < due t (t.ch ++ s.sk) s pre w
      · rw [if_pos (by rw [zI_lt (by omega) (by omega)]; omega), Nat.min_eq_left (by omega)]
      · rw [if_neg (by rw [zI_lt (by omega) (by omega)]; omega), Nat.min_eq_right (by omega)]
theorem c_helps {σ : Mem} {T : Nat} {t : TT} {s : SS} (tb : TB t) (cs : CS σ 28 T t (t.ch ++ s.sk) s) (ct : CT σ T t) (hpv : ∀ w, w < t.W → σ.1 53 w = zI (la s (t.wp w) (t.wd w))) {p d : Nat} (hp : p < t.P) (hd : d < 30) : f_X3_helps σ 28 (zI p) (zI d) = some (bI (hlp t (t.ch ++ s.sk) s p d)) := by
  have hW := tb.W
  have hP := tb.P
  have a53 : aln (51 + 2) = 5 := rfl
  obtain ⟨a1, a2, a3, a4, a5, a6, a7, a8, a9, a10⟩ := ct_aln ct.at_
  have hFS : ∀ w, w < t.W → t.wp w = p → f_X9_knowsBy σ 28 (zI p) (zI (t.wd w)) (zI d) = some (bI (kw t (t.ch ++ s.sk) w d)) := by
    intro w hw hwp
    have hwd := tb.wd w hw
    have := c_knowsBy cs ct tb hp hwd (v := some d) (fun x hx => by have := Option.some.inj hx; omega)
    rw [show zI (oC (some d)) = zI d from rfl] at this
    rw [this]
    unfold kw
    rw [hwp, if_neg (by omega)]; rfl
  unfold f_X3_helps
  refine (fx1_ex (fun w => decide (t.wp w = p ∧ d ≤ t.wd w ∧ la s (t.wp w) (t.wd w) < d) && kw t (t.ch ++ s.sk) w d) t.W 0 (some 1) (some 0) (by omega) rfl (fun k => ?_) (fun w hw k => ?_)).trans ?_
  · rw [cs.town, prfc_s, ct_wishes ct, pbd1_s, if_pos (by rw [zI_le (by omega) (by omega)]; omega)]
  · have hwd := tb.wd w hw
    have hwp := tbwp tb hw
    have hb := la_b s (t.wp w) (t.wd w)
    rw [cs.town, prfc_s, ct_wishes ct, pbd1_s, if_neg (by rw [zI_le (by omega) (by omega)]; omega), prfc_s, g_get (ct.wd w hw) (by omega) (by omega), pbd1_s, prfc_s, g_get (ct.wp w hw) (by omega) (by omega), pbd1_s, jn0_e, g_get (a := 51 + 2) (hpv w hw) (by omega) (by omega), pnm_e, show zI w + 1 = zI (w + 1 : Nat) from by rw [show (1 : Int32) = zI 1 from rfl, zI_add]; rfl]
    by_cases q1 : t.wp w = p
    · rw [if_pos (by rw [q1])]
      by_cases q2 : d ≤ t.wd w
      · rw [if_neg (by rw [zI_lt (by omega) (by omega)]; omega), pbd1_s]
        by_cases q3 : la s (t.wp w) (t.wd w) < d
        · rw [if_neg (by rw [zI_le (by omega) (by omega)]; omega), hFS w hw q1, pbd1_s, decide_eq_true ⟨q1, q2, q3⟩, Bool.true_and]
          cases kw t (t.ch ++ s.sk) w d with
          | true => rw [if_neg (by decide), if_pos rfl]
          | false => rw [if_pos (by rfl), if_neg (by decide)]
        · rw [if_pos (by rw [zI_le (by omega) (by omega)]; omega), decide_eq_false (fun z => q3 z.2.2), Bool.false_and, if_neg (by decide)]
      · rw [if_pos (by rw [zI_lt (by omega) (by omega)]; omega), decide_eq_false (fun z => q2 z.2.1), Bool.false_and, if_neg (by decide)]
    · rw [if_neg (by rw [zI_eq (by omega) (by omega)]; omega), decide_eq_false (fun z => q1 z.1), Bool.false_and, if_neg (by decide)]
  · unfold hlp
    cases exF (fun w => decide (t.wp w = p ∧ d ≤ t.wd w ∧ la s (t.wp w) (t.wd w) < d) && kw t (t.ch ++ s.sk) w d) 0 t.W <;> rfl
/-- whether a code is a candidate -/
noncomputable def canB (t : TT) (E : List (Nat × Nat × Nat × Nat)) (s : SS) (c : Nat) : Bool := decide (c % 10 < t.P) && opn t s (c / 10) && hlp t E s (c % 10) (c / 10)
noncomputable def cnL (t : TT) (E : List (Nat × Nat × Nat × Nat)) (s : SS) (n : Nat) : List Nat := (List.range n).filter (canB t E s)
theorem cnL_s (t : TT) (E : List (Nat × Nat × Nat × Nat)) (s : SS) (n : Nat) : cnL t E s (n + 1) = if canB t E s n = true then cnL t E s n ++ [n] else cnL t E s n := by
  unfold cnL
  rw [List.range_succ, List.filter_append]
  by_cases q : canB t E s n = true
  · rw [if_pos q, List.filter_cons_of_pos (by rw [q])]; rfl
  · rw [if_neg q, List.filter_cons_of_neg (by simpa using q)]; simp
theorem cnL_len {t : TT} (tb : TB t) (E : List (Nat × Nat × Nat × Nat)) (s : SS) : ∀ n, (cnL t E s n).length ≤ 5 * (n / 10) + min (n % 10) 5
  | 0 => Nat.le_refl _
  | n + 1 => by
    have ih := cnL_len tb E s n
    have hP := tb.P
    rw [cnL_s]
    by_cases q : canB t E s n = true
    · rw [if_pos q, List.length_append, List.length_singleton]
      unfold canB at q
      rw [Bool.and_eq_true, Bool.and_eq_true] at q
      have := of_decide_eq_true q.1.1
      omega
    · rw [if_neg q]; omega
theorem cnL_mem {t : TT} {E : List (Nat × Nat × Nat × Nat)} {s : SS} {n c : Nat} : c ∈ cnL t E s n ↔ c < n ∧ canB t E s c = true := by
  unfold cnL
  rw [List.mem_filter, List.mem_range]
theorem cnL_asc (t : TT) (E : List (Nat × Nat × Nat × Nat)) (s : SS) (n : Nat) : (cnL t E s n).Pairwise (· < ·) := List.Pairwise.sublist List.filter_sublist List.pairwise_lt_range
/-- rows of candidates -/
abbrev Cds (σ : Mem) (L : List Nat) : Prop :=
  (σ.1 51 3 = zI L.length) ∧ (∀ j x : Nat, L[j]? = some x → σ.1 52 j = zI x)
theorem Cds.n {σ : Mem}{L : List Nat} (h : Cds σ L) : σ.1 51 3 = zI L.length := h.1
theorem Cds.at_ {σ : Mem}{L : List Nat} (h : Cds σ L) : ∀ j x : Nat, L[j]? = some x → σ.1 52 j = zI x := h.2
theorem Cds.add {σ : Mem} {L : List Nat} (h : Cds σ L) (x : Nat) : Cds (sI (sI σ 52 L.length (zI x)) 51 3 (zI (L.length + 1 : Nat))) (L ++ [x]) := by
  refine ⟨?_, fun j y hj => ?_⟩
  · rw [sI_1, if_pos ⟨rfl, rfl⟩, List.length_append]; rfl
  · rw [sI_o _ _ _ _ (by omega), sI_1]
    rcases sk_get hj with ⟨q1, q2⟩ | ⟨q1, q2⟩
    · rw [if_neg (by omega)]; exact h.at_ j y q2
    · rw [if_pos ⟨rfl, q1⟩, q2]
theorem c_cands {σ : Mem} {T : Nat} {t : TT} {s : SS} (tb : TB t) (sb : SB t s) (cs : CS σ 28 T t (t.ch ++ s.sk) s) (ct : CT σ T t) (hpv : ∀ w, w < t.W → σ.1 53 w = zI (la s (t.wp w) (t.wd w))) : ∃ τ, f_X3_listCandidates σ 28 = some τ ∧ (∀ a, a ≠ 51 → a ≠ 52 → τ.1 a = σ.1 a) ∧ τ.2 = σ.2 ∧ Cds τ (cnL t (t.ch ++ s.sk) s 300) := by
  have hP := tb.P
  have a52 : aln (51 + 1) = 150 := rfl
  let Inv : Nat → Mem → Prop := fun n τ => (∀ a, a ≠ 51 → a ≠ 52 → τ.1 a = σ.1 a) ∧ τ.2 = σ.2 ∧ Cds τ (cnL t (t.ch ++ s.sk) s n)
  have hq : ∀ τ : Mem, (∀ a, a ≠ 51 → a ≠ 52 → τ.1 a = σ.1 a) → τ.2 = σ.2 → CS τ 28 T t (t.ch ++ s.sk) s ∧ CT τ T t ∧ ∀ w, w < t.W → τ.1 53 w = zI (la s (t.wp w) (t.wd w)) := fun τ h1 h2 => ⟨cs.of (fun a h3 h4 => h1 a (by omega) (by omega)) (by rw [h2]), ct.of (fun a h3 h4 => h1 a (by have := ct.at_; omega) (by have := ct.at_; omega)), fun w hw => by rw [h1 53 (by omega) (by omega)]; exact hpv w hw⟩
  have skip : ∀ n k, (∀ c, n ≤ c → c < n + k → canB t (t.ch ++ s.sk) s c = false) → cnL t (t.ch ++ s.sk) s (n + k) = cnL t (t.ch ++ s.sk) s n := by
    intro n k
    induction k with
    | zero => intro _; rfl
    | succ k ih =>
      intro h
      rw [← Nat.add_assoc, cnL_s, if_neg (by rw [h (n + k) (by omega) (by omega)]; decide), ih (fun c h1 h2 => h c h1 (by omega))]
  unfold f_X3_listCandidates
  rw [pnm_e]
  have hh := fx2_inv (F := fun k_4 (i_2 : Int32) (σ_3 : Mem) => (if 30 ≤ i_2 then some σ_3 else fx2 FU (fun k_7 (i_5 : Int32) (σ_6 : Mem) => rfc (σ_6.2.2 28 0) (fun (T_8 : Nat) => bd1 (f_X11_people σ_6 T_8) (fun (r_9 : Int32) => (if r_9 ≤ i_5 then nm (i_2 + 1) (fun (x_10 : Int32) => k_4 x_10 σ_6) else bd1 (f_X9_isFree σ_6 28 i_2) (fun (r_12 : Int32) => jn1 (fun (σ_13 : Mem) => nm (i_5 + 1) (fun (x_15 : Int32) => k_7 x_15 σ_13)) (fun k_14 => (if r_12 = 0 then k_14 σ_6 else bd1 (f_X3_helps σ_6 28 i_5 i_2) (fun (r_17 : Int32) => (if r_17 = 0 then k_14 σ_6 else bd1 (f_X12_set σ_6 (51 + 1) (σ_6.1 51 3) ((10 * i_2) + i_5)) (fun (σ_18 : Mem) => nm (sI σ_18 51 3 ((σ_18.1 51 3) + 1)) (fun (σ_19 : Mem) => k_14 σ_19))))))))))) 0 σ_3)) (fun d => zI d) (fun d τ => Inv (10 * d) τ) (fun τ => some τ) 30 (by omega) ?_ ?_ 0 (by omega) (x := 0) rfl (sI σ 51 3 0) ⟨fun a h1 h2 => sI_o _ _ _ _ h1, rfl, ⟨by rw [sI_1, if_pos ⟨rfl, rfl⟩]; rfl, fun j x hj => (by cases hj)⟩⟩
  · obtain ⟨τ, ⟨w1, w2, w3⟩, w4⟩ := hh
    exact ⟨τ, w4, w1, w2, w3⟩
  · rintro k τ w
    rw [if_pos (by decide)]
  · rintro d hd τ ⟨w1, w2, w3⟩ k
    rw [if_neg (by rw [show (30 : Int32) = zI 30 from rfl, zI_le (by omega) (by omega)]; omega)]
    have inner := fx2_inv (F := fun k_7 (i_5 : Int32) (σ_6 : Mem) => rfc (σ_6.2.2 28 0) (fun (T_8 : Nat) => bd1 (f_X11_people σ_6 T_8) (fun (r_9 : Int32) => (if r_9 ≤ i_5 then nm (zI d + 1) (fun (x_10 : Int32) => k x_10 σ_6) else bd1 (f_X9_isFree σ_6 28 (zI d)) (fun (r_12 : Int32) => jn1 (fun (σ_13 : Mem) => nm (i_5 + 1) (fun (x_15 : Int32) => k_7 x_15 σ_13)) (fun k_14 => (if r_12 = 0 then k_14 σ_6 else bd1 (f_X3_helps σ_6 28 i_5 (zI d)) (fun (r_17 : Int32) => (if r_17 = 0 then k_14 σ_6 else bd1 (f_X12_set σ_6 (51 + 1) (σ_6.1 51 3) ((10 * (zI d)) + i_5)) (fun (σ_18 : Mem) => nm (sI σ_18 51 3 ((σ_18.1 51 3) + 1)) (fun (σ_19 : Mem) => k_14 σ_19))))))))))) (fun p => zI p) (fun p τ => Inv (10 * d + p) τ) (fun υ => k (zI (d + 1 : Nat)) υ) t.P (by omega) ?_ ?_ 0 (by omega) (x := 0) rfl τ ⟨w1, w2, w3⟩
    · obtain ⟨υ, ⟨v1, v2, v3⟩, v4⟩ := inner
      refine ⟨υ, ⟨v1, v2, ?_⟩, v4⟩
      have := skip (10 * d + t.P) (10 - t.P) (fun c h1 h2 => by unfold canB; rw [decide_eq_false (by omega)]; rfl)
      rw [show 10 * d + t.P + (10 - t.P) = 10 * (d + 1) from by omega] at this
      rw [this]; exact v3
    · rintro k2 υ ⟨v1, v2, v3⟩
      obtain ⟨g1, g2, g3⟩ := hq υ v1 v2
      rw [g1.town, prfc_s, ct_people g2, pbd1_s, if_pos (by rw [zI_le (by omega) (by omega)]; omega), pnm_e, show zI d + 1 = zI (d + 1 : Nat) from by rw [show (1 : Int32) = zI 1 from rfl, zI_add]; rfl]
    · rintro p hp υ ⟨v1, v2, v3⟩ k2
      obtain ⟨g1, g2, g3⟩ := hq υ v1 v2
      have hmod : (10 * d + p) % 10 = p := by omega
      have hdiv : (10 * d + p) / 10 = d := by omega
      have hlen := cnL_len tb (t.ch ++ s.sk) s (10 * d + p)
      have hst := cnL_s t (t.ch ++ s.sk) s (10 * d + p)
      have hcan : canB t (t.ch ++ s.sk) s (10 * d + p) = (opn t s d && hlp t (t.ch ++ s.sk) s p d) := by
        unfold canB
        rw [hmod, hdiv, decide_eq_true hp, Bool.true_and]
      rw [g1.town, prfc_s, ct_people g2, pbd1_s, if_neg (by rw [zI_le (by omega) (by omega)]; omega), c_free g1 g2 tb sb hd, pbd1_s]
      simp only [jn1_e, pnm_e, show zI p + 1 = zI (p + 1 : Nat) from by rw [show (1 : Int32) = zI 1 from rfl, zI_add]; rfl]
      cases ho : opn t s d with
      | false =>
        rw [if_pos (by rfl)]
        refine ⟨υ, ⟨v1, v2, ?_⟩, rfl⟩
        show Cds υ (cnL t (t.ch ++ s.sk) s (10 * d + p + 1))
        rw [hst, if_neg (by rw [hcan, ho, Bool.false_and]; decide)]; exact v3
      | true =>
        rw [if_neg (by decide), c_helps tb g1 g2 g3 hp hd, pbd1_s]
        cases hh : hlp t (t.ch ++ s.sk) s p d with
        | false =>
          rw [if_pos (by rfl)]
          refine ⟨υ, ⟨v1, v2, ?_⟩, rfl⟩
          show Cds υ (cnL t (t.ch ++ s.sk) s (10 * d + p + 1))
          rw [hst, if_neg (by rw [hcan, hh, Bool.and_false]; decide)]; exact v3
        | true =>
          rw [if_neg (by decide), v3.n, f_setN (by omega) (by omega), pbd1_s, sI_o _ _ _ _ (by decide), v3.n, show zI (cnL t (t.ch ++ s.sk) s (10 * d + p)).length + 1 = zI ((cnL t (t.ch ++ s.sk) s (10 * d + p)).length + 1 : Nat) from by rw [show (1 : Int32) = zI 1 from rfl, zI_add]; rfl, show (10 : Int32) * zI d + zI p = zI (10 * d + p : Nat) from by rw [show (10 : Int32) = zI 10 from rfl, zI_mul, zI_add]; congr 1]
          refine ⟨_, ⟨fun a x1 x2 => by rw [sI_o _ _ _ _ x1, sI_o _ _ _ _ x2, v1 a x1 x2], by rw [sI_2, sI_2]; exact v2, ?_⟩, rfl⟩
          show Cds _ (cnL t (t.ch ++ s.sk) s (10 * d + p + 1))
          rw [hst, if_pos (by rw [hcan, ho, hh]; rfl)]
          exact v3.add _
theorem sk1_all {f : Nat → Option (List Nat)} : ∀ {k}, k ≤ 300 → (∀ c, 300 - k ≤ c → c < 300 → f c = none) → sk1 f k = none
  | 0, _, _ => rfl
  | k + 1, hk, h => by
    rw [sk1, h (300 - (k + 1)) (Nat.le_refl _) (by omega)]
    exact sk1_all (by omega) (fun c h1 h2 => h c (by omega) h2)
theorem sk1_fst {f : Nat → Option (List Nat)} {c : Nat} {L : List Nat} (hc : c < 300) (hL : f c = some L) : ∀ {k}, k ≤ 300 → 300 - k ≤ c → (∀ x, 300 - k ≤ x → x < c → f x = none) → sk1 f k = some L
  | 0, _, h, _ => absurd h (by omega)
  | k + 1, hk, h, hn => by
    rw [sk1]
    rcases Nat.lt_or_ge (300 - (k + 1)) c with w | w
    · rw [hn _ (Nat.le_refl _) w]
      exact sk1_fst hc hL (by omega) (by omega) (fun x h1 h2 => hn x (by omega) h2)
    · rw [show 300 - (k + 1) = c from by omega, hL]
/-- cells 0 .. of the row of chosen -/
def Cho (σ : Mem) (pre : List Nat) : Prop := ∀ i c : Nat, pre[i]? = some c → σ.1 54 i = zI c
/-- from place i of the candidates on stand all that may come next -/
abbrev CI (t : TT) (E : List (Nat × Nat × Nat × Nat)) (s : SS) (pre : List Nat) (fr i : Nat) : Prop :=
  (∀ k c : Nat, (cnL t E s 300)[k]? = some c → k < i → c < fr) ∧ (∀ k c : Nat, (cnL t E s 300)[k]? = some c → i ≤ k → fr ≤ c ∨ ∃ m x : Nat, pre.length = m + 1 ∧ pre[m]? = some x ∧ x / 10 = c / 10) ∧ (pre = [] → fr = 0)
theorem CI.lo {t : TT}{E : List (Nat × Nat × Nat × Nat)}{s : SS}{pre : List Nat}{fr i : Nat} (h : CI t E s pre fr i) : ∀ k c : Nat, (cnL t E s 300)[k]? = some c → k < i → c < fr := h.1
theorem CI.hi {t : TT}{E : List (Nat × Nat × Nat × Nat)}{s : SS}{pre : List Nat}{fr i : Nat} (h : CI t E s pre fr i) : ∀ k c : Nat, (cnL t E s 300)[k]? = some c → i ≤ k → fr ≤ c ∨ ∃ m x : Nat, pre.length = m + 1 ∧ pre[m]? = some x ∧ x / 10 = c / 10 := h.2.1
theorem CI.z {t : TT}{E : List (Nat × Nat × Nat × Nat)}{s : SS}{pre : List Nat}{fr i : Nat} (h : CI t E s pre fr i) : pre = [] → fr = 0 := h.2.2
theorem CI.sep {t : TT} {E : List (Nat × Nat × Nat × Nat)} {s : SS} {k l a b : Nat} (ha : (cnL t E s 300)[k]? = some a) (hb : (cnL t E s 300)[l]? = some b) (h : k < l) : a < b := by
  have hl : l < (cnL t E s 300).length := by
    rcases Nat.lt_or_ge l (cnL t E s 300).length with q | q
    · exact q
    · rw [List.getElem?_eq_none q] at hb; cases hb
  rw [List.getElem?_eq_getElem (by omega)] at ha hb
  have := (List.pairwise_iff_getElem.1 (cnL_asc t E s 300)) k l (by omega) hl h
  rw [← Option.some.inj ha, ← Option.some.inj hb]; exact this
theorem cn_not {t : TT} {E : List (Nat × Nat × Nat × Nat)} {s : SS} {j : Nat} {pre : List Nat} {fr c : Nat} (hv : PV t s pre fr) (hm : MinS t E s (pre.length + (j + 1))) (hf : fr ≤ c) (hc : c < 300) (h : canB t E s c = false) : stepF t s (fun c => firstS t E s j (pre ++ [c]) (10 * (c / 10 + 1))) c = none := by
  refine stepF_none (fun q => ?_)
  refine cut_help hv hm hf ⟨hc, q.1, q.2⟩ ?_
  unfold canB at h
  rw [decide_eq_true q.1, q.2] at h
  simpa using h
theorem c_comp {T : Nat} {t : TT} {s : SS} (tb : TB t) (sb : SB t s) {n : Nat} (hn : n ≤ 3) (hm : MinS t (t.ch ++ s.sk) s n) : ∀ (j : Nat) (pre : List Nat) (fr i : Nat) (σ : Mem) (fu : Nat), FS σ T t s n (cnL t (t.ch ++ s.sk) s 300) → Cho σ pre → PV t s pre fr → CI t (t.ch ++ s.sk) s pre fr i → pre.length + j = n → fr ≤ 300 → i ≤ (cnL t (t.ch ++ s.sk) s 300).length → j < fu → ∃ σ', f_X3_completes fu σ 28 (zI pre.length) (zI i) = some (bI (firstS t (t.ch ++ s.sk) s j pre fr).isSome, σ') ∧ (∀ a, a ≠ 54 → σ'.1 a = σ.1 a) ∧ σ'.2 = σ.2 ∧ (∀ z, z < pre.length → σ'.1 54 z = σ.1 54 z) ∧ ∀ L, firstS t (t.ch ++ s.sk) s j pre fr = some L → RowL (σ'.1 54) pre.length L := by
  intro j
  induction j with
  | zero =>
    intro pre fr i σ fu hF hC hv hI hl hfr hil hfu
    obtain ⟨fu, rfl⟩ : ∃ m, fu = m + 1 := ⟨fu - 1, by omega⟩
    have hd := c_due tb hF hC (fun c hc => (hv.cod c hc).1) (by omega)
    have hd30 := due_30 (t := t) (E := t.ch ++ s.sk) (s := s) (L := pre) tb
    have hdl := due_le (t := t) (E := t.ch ++ s.sk) (s := s) (L := pre) t.W
    refine ⟨σ, ?_, fun a _ => rfl, rfl, fun i _ => rfl, fun L hL => ?_⟩
    · show bd1 (f_X3_firstBroken σ 28 _) _ = _
      rw [hd, pbd1_s, jn0_e, hF.cnt, if_pos (by rw [zI_le (by omega) (by omega)]; omega), jn0_e, if_pos (by rw [zI_eq (by omega) (by omega)]; omega), firstS]
      cases hh : hW t (t.ch ++ s.sk) s pre with
      | true => rw [if_pos (by rw [hd30.2 hh]; rfl), if_pos rfl]; rfl
      | false =>
        have : due t (t.ch ++ s.sk) s pre t.W ≠ 30 := fun w => by rw [hd30.1 w] at hh; cases hh
        rw [if_neg (by rw [show (30 : Int32) = zI 30 from rfl, zI_eq (by omega) (by omega)]; omega), if_neg (by decide)]; rfl
    · rw [firstS] at hL
      split at hL
      · have := Option.some.inj hL
        subst this
        intro i c hc; cases hc
      · cases hL
  | succ j ih =>
    intro pre fr i σ fu hF hC hv hI hl hfr hil hfu
    obtain ⟨fu, rfl⟩ : ∃ m, fu = m + 1 := ⟨fu - 1, by omega⟩
    have hd := c_due tb hF hC (fun c hc => (hv.cod c hc).1) (by omega)
    have hd30 := due_30 (t := t) (E := t.ch ++ s.sk) (s := s) (L := pre) tb
    have hdl := due_le (t := t) (E := t.ch ++ s.sk) (s := s) (L := pre) t.W
    have hlen := hF.len
    have a52 : aln (51 + 1) = 150 := rfl
    have a54 : aln (51 + 3) = 3 := rfl
    have hm' : MinS t (t.ch ++ s.sk) s (pre.length + (j + 1)) := by rw [hl]; exact hm
    have hdn : due t (t.ch ++ s.sk) s pre t.W ≠ 30 := fun w => by
      have := hm' pre ⟨hv.cod, hv.asc, hd30.1 w⟩
      omega
    let g : Nat → Option (List Nat) := fun c => firstS t (t.ch ++ s.sk) s j (pre ++ [c]) (10 * (c / 10 + 1))
    have hfs : firstS t (t.ch ++ s.sk) s (j + 1) pre fr = sk1 (stepF t s g) (300 - fr) := rfl
    let Inv : Nat → Mem → Prop := fun k τ => (∀ a, a ≠ 54 → τ.1 a = σ.1 a) ∧ τ.2 = σ.2 ∧ (∀ z, z < pre.length → τ.1 54 z = σ.1 54 z) ∧ ∀ m c : Nat, (cnL t (t.ch ++ s.sk) s 300)[m]? = some c → m < i + k → fr ≤ c → stepF t s g c = none
    let Fin : Int32 × Mem → Prop := fun υ => υ.1 = bI (sk1 (stepF t s g) (300 - fr)).isSome ∧ (∀ a, a ≠ 54 → υ.2.1 a = σ.1 a) ∧ υ.2.2 = σ.2 ∧ (∀ z, z < pre.length → υ.2.1 54 z = σ.1 54 z) ∧ ∀ L, sk1 (stepF t s g) (300 - fr) = some L → RowL (υ.2.1 54) pre.length L
    -- codes that aren't candidates are none
    have hnc : ∀ c : Nat, fr ≤ c → c < 300 → (∀ m : Nat, (cnL t (t.ch ++ s.sk) s 300)[m]? ≠ some c) → stepF t s g c = none := by
      intro c h1 h2 h3
      refine cn_not hv hm' h1 h2 ?_
      cases e : canB t (t.ch ++ s.sk) s c with
      | false => rfl
      | true =>
        obtain ⟨m, hm1, hm2⟩ := List.mem_iff_getElem.1 (cnL_mem.2 ⟨h2, e⟩)
        exact absurd (by rw [List.getElem?_eq_getElem hm1, hm2]) (h3 m)
    have hh := fx2_fin (F := fun k_6 (i_4 : Int32) (σ_5 : Mem) => (if (σ_5.1 51 3) ≤ i_4 then some (0, σ_5) else bd1 (f_X12_get σ_5 (51 + 1) i_4) (fun (r_7 : Int32) => dvd 10 ((if (r_7 / 10) ≤ zI (due t (t.ch ++ s.sk) s pre t.W) then bd2 (f_X3_completesBy (f_X3_completes fu) σ_5 28 (zI pre.length) i_4) (fun (r_8 : Int32) (σ_9 : Mem) => (if r_8 = 0 then nm (i_4 + 1) (fun (x_10 : Int32) => k_6 x_10 σ_9) else some (1, σ_9))) else some (0, σ_5)))))) (fun k => zI (i + k : Nat)) Inv Fin ((cnL t (t.ch ++ s.sk) s 300).length - i) (by omega) ?_ ?_ 0 (by omega) (x := zI i) rfl σ ⟨fun a _ => rfl, rfl, fun z _ => rfl, fun m c h1 h2 h3 => absurd (hI.lo m c h1 (by omega)) (by omega)⟩
    · obtain ⟨υ, ⟨w1, w2, w3, w4, w5⟩, w6⟩ := hh
      refine ⟨υ.2, ?_, w2, w3, w4, by rw [hfs]; exact w5⟩
      show bd1 (f_X3_firstBroken σ 28 _) _ = _
      rw [hd, pbd1_s, jn0_e, hF.cnt, if_neg (by rw [zI_le (by omega) (by omega)]; omega), if_neg (by rw [show (30 : Int32) = zI 30 from rfl, zI_eq (by omega) (by omega)]; omega), hfs, ← w1]
      exact w6
    · rintro k τ ⟨w1, w2, w3, w4⟩
      have hall : sk1 (stepF t s g) (300 - fr) = none := sk1_all (by omega) (fun c h1 h2 => by
        by_cases q : ∃ m : Nat, (cnL t (t.ch ++ s.sk) s 300)[m]? = some c
        · obtain ⟨m, hmm⟩ := q
          have hml : m < (cnL t (t.ch ++ s.sk) s 300).length := by
            rcases Nat.lt_or_ge m (cnL t (t.ch ++ s.sk) s 300).length with q | q
            · exact q
            · rw [List.getElem?_eq_none q] at hmm; cases hmm
          exact w4 m c hmm (by omega) (by omega)
        · exact hnc c (by omega) h2 (fun m hmm => q ⟨m, hmm⟩))
      refine ⟨(0, τ), ⟨by rw [hall]; rfl, w1, w2, w3, fun L hL => by rw [hall] at hL; cases hL⟩, ?_⟩
      rw [show i + ((cnL t (t.ch ++ s.sk) s 300).length - i) = (cnL t (t.ch ++ s.sk) s 300).length from by omega, w1 51 (by omega), hF.cn, if_pos (by rw [zI_le (by omega) (by omega)]; omega)]
    · rintro k hk τ ⟨w1, w2, w3, w4⟩ kk
      obtain ⟨q, hq⟩ : ∃ q, q = i + k := ⟨_, rfl⟩
      rw [← hq] at w4 ⊢
      rw [show i + (k + 1) = q + 1 from by omega]
      have hql : q < (cnL t (t.ch ++ s.sk) s 300).length := by omega
      obtain ⟨c, hc, hcm⟩ := get_some (cnL t (t.ch ++ s.sk) s 300) hql
      obtain ⟨hc300, hcan⟩ := cnL_mem.1 hcm
      have hF1 : FS τ T t s n (cnL t (t.ch ++ s.sk) s 300) := hF.of w1 w2
      have hck : codK t s c := by
        unfold canB at hcan
        rw [Bool.and_eq_true, Bool.and_eq_true] at hcan
        exact ⟨hc300, of_decide_eq_true hcan.1.1, hcan.1.2⟩
      have hdiv : zI c / 10 = zI (c / 10 : Nat) := by rw [show (10 : Int32) = zI (10 : Nat) from rfl]; exact zI_div_nat c 10 (by omega)
      rw [hF1.cn, if_neg (by rw [zI_le (by omega) (by omega)]; omega), g_get (a := 51 + 1) (hF1.cd q c hc) (by omega) (by omega), pbd1_s, show (10 : Int32) = zI 10 from rfl, dvd_ne (by omega), show zI 10 = (10 : Int32) from rfl, hdiv]
      by_cases hdue : c / 10 ≤ due t (t.ch ++ s.sk) s pre t.W
      · rw [if_pos (by rw [zI_le (by omega) (by omega)]; omega)]
        unfold f_X3_completesBy
        rw [g_get (a := 51 + 1) (hF1.cd q c hc) (by omega) (by omega), pbd1_s, if_neg (by rw [show (3 : Int32) = zI 3 from rfl, zI_le (by omega) (by omega)]; omega), jn0_e]
        -- taking c
        have take : fr ≤ c → (∃ υ, Fin υ ∧ bd2 (bd1 (f_X12_set τ (51 + 3) (zI pre.length) (zI c)) (fun (σ_3 : Mem) => bd2 (f_X3_completes fu σ_3 28 ((zI pre.length) + 1) ((zI q) + 1)) (fun (r_4 : Int32) (σ_5 : Mem) => zrm r_4 σ_5))) (fun (r_8 : Int32) (σ_9 : Mem) => (if r_8 = 0 then nm (zI q + 1) (fun (x_10 : Int32) => kk x_10 σ_9) else some (1, σ_9))) = some υ) ∨ ∃ σ', Inv (k + 1) σ' ∧ bd2 (bd1 (f_X12_set τ (51 + 3) (zI pre.length) (zI c)) (fun (σ_3 : Mem) => bd2 (f_X3_completes fu σ_3 28 ((zI pre.length) + 1) ((zI q) + 1)) (fun (r_4 : Int32) (σ_5 : Mem) => zrm r_4 σ_5))) (fun (r_8 : Int32) (σ_9 : Mem) => (if r_8 = 0 then nm (zI q + 1) (fun (x_10 : Int32) => kk x_10 σ_9) else some (1, σ_9))) = kk (zI (q + 1 : Nat)) σ' := by
          intro hfc
          have hv' := hv.snoc hfc hck
          have hlen2 : (pre ++ [c]).length = pre.length + 1 := by rw [List.length_append]; rfl
          have hF2 : FS (sI τ 54 pre.length (zI c)) T t s n (cnL t (t.ch ++ s.sk) s 300) := hF1.of (fun a ha => sI_o _ _ _ _ ha) rfl
          have hC2 : Cho (sI τ 54 pre.length (zI c)) (pre ++ [c]) := by
            intro m x hx
            rw [sI_1]
            rcases sk_get hx with ⟨q1, q2⟩ | ⟨q1, q2⟩
            · rw [if_neg (by omega), w3 m q1]; exact hC m x q2
            · rw [if_pos ⟨rfl, q1⟩, q2]
          have hI2 : CI t (t.ch ++ s.sk) s (pre ++ [c]) (10 * (c / 10 + 1)) (q + 1) := by
            refine ⟨fun m x hx hmq => ?_, fun m x hx hmq => ?_, fun h => by simp at h⟩
            · rcases Nat.lt_or_ge m q with z | z
              · have := CI.sep hx hc z; omega
              · rw [show m = q from by omega, hc] at hx
                have := Option.some.inj hx; omega
            · have := CI.sep hc hx (by omega)
              by_cases z : x / 10 = c / 10
              · right
                exact ⟨pre.length, c, hlen2, by rw [List.getElem?_append_right (Nat.le_refl _), Nat.sub_self]; rfl, z.symm⟩
              · left; omega
          obtain ⟨τ2, e1, e2, e3, e4, e5⟩ := ih (pre ++ [c]) (10 * (c / 10 + 1)) (q + 1) (sI τ 54 pre.length (zI c)) fu hF2 hC2 hv' hI2 (by omega) (by omega) (by omega) (by omega)
          rw [hlen2] at e1 e4 e5
          rw [f_setN (by omega) (by omega), pbd1_s, show zI pre.length + 1 = zI (pre.length + 1 : Nat) from by rw [show (1 : Int32) = zI 1 from rfl, zI_add]; rfl, show zI q + 1 = zI (q + 1 : Nat) from by rw [show (1 : Int32) = zI 1 from rfl, zI_add]; rfl]
          have r1 : ∀ a, a ≠ 54 → τ2.1 a = σ.1 a := fun a ha => by rw [e2 a ha, sI_o _ _ _ _ ha, w1 a ha]
          have r2 : τ2.2 = σ.2 := by rw [e3, sI_2]; exact w2
          have r3 : ∀ z, z < pre.length → τ2.1 54 z = σ.1 54 z := fun z hz => by rw [e4 z (by omega), sI_1, if_neg (by omega), w3 z hz]
          have e1' : f_X3_completes fu (sI τ (51 + 3) pre.length (zI c)) 28 (zI (pre.length + 1 : Nat)) (zI (q + 1 : Nat)) = some (bI (firstS t (t.ch ++ s.sk) s j (pre ++ [c]) (10 * (c / 10 + 1))).isSome, τ2) := e1
          rw [e1']
          cases hgc : g c with
          | none =>
            right
            have hgc' : firstS t (t.ch ++ s.sk) s j (pre ++ [c]) (10 * (c / 10 + 1)) = none := hgc
            rw [hgc']
            refine ⟨τ2, ⟨r1, r2, r3, fun m x hx hmq hfx => ?_⟩, rfl⟩
            rcases Nat.lt_or_ge m q with z | z
            · exact w4 m x hx z hfx
            · rw [show m = q from by omega, hc] at hx
              rw [← Option.some.inj hx]; exact stepF_none (fun _ => hgc)
          | some L =>
            left
            have hgc' : firstS t (t.ch ++ s.sk) s j (pre ++ [c]) (10 * (c / 10 + 1)) = some L := hgc
            have hsk : sk1 (stepF t s g) (300 - fr) = some (c :: L) := by
              refine sk1_fst hc300 (stepF_some ⟨hck.2.1, hck.2.2⟩ hgc) (by omega) (by omega) (fun x h1 h2 => ?_)
              by_cases z : ∃ m : Nat, (cnL t (t.ch ++ s.sk) s 300)[m]? = some x
              · obtain ⟨m, hx⟩ := z
                have hmq : m < q := by
                  rcases Nat.lt_or_ge m q with y | y
                  · exact y
                  · rcases Nat.eq_or_lt_of_le y with y | y
                    · rw [← y, hc] at hx; have := Option.some.inj hx; omega
                    · have := CI.sep hc hx y; omega
                exact w4 m x hx hmq (by omega)
              · exact hnc x (by omega) (by omega) (fun m hx => z ⟨m, hx⟩)
            rw [hgc']
            refine ⟨(1, τ2), ⟨by rw [hsk]; rfl, r1, r2, r3, fun M hM => ?_⟩, rfl⟩
            rw [hsk] at hM
            have := Option.some.inj hM
            subst this
            refine RowL.cons ?_ (e5 L hgc')
            show τ2.1 54 pre.length = zI c
            rw [e4 _ (by omega), sI_1, if_pos ⟨rfl, rfl⟩]
        by_cases hz : pre.length = 0
        · rw [if_pos (by rw [hz]; decide)]
          refine take ?_
          have := hI.z (List.length_eq_zero_iff.1 hz)
          omega
        · obtain ⟨m, hmm⟩ : ∃ m, pre.length = m + 1 := ⟨pre.length - 1, by omega⟩
          obtain ⟨x, hx, hxm⟩ := get_some pre (show m < pre.length by omega)
          have hx300 := (hv.cod x hxm).1
          have hxf := hv.far x hxm
          have hdivx : zI x / 10 = zI (x / 10 : Nat) := by rw [show (10 : Int32) = zI (10 : Nat) from rfl]; exact zI_div_nat x 10 (by omega)
          rw [if_neg (by rw [show (0 : Int32) = zI 0 from rfl, zI_le (by omega) (by omega)]; omega), show zI pre.length - 1 = zI m from by rw [show (1 : Int32) = zI 1 from rfl, zI_sub]; congr 1; omega, g_get (a := 51 + 3) (v := zI x) (by rw [w3 m (by omega)]; exact hC m x hx) (by omega) (by omega), pbd1_s, show (10 : Int32) = zI 10 from rfl, dvd_ne (by omega), dvd_ne (by omega), show zI 10 = (10 : Int32) from rfl, hdivx, hdiv]
          by_cases he : x / 10 = c / 10
          · right
            rw [if_pos (by rw [he]), pbd2_s, if_pos rfl, pnm_e, show zI q + 1 = zI (q + 1 : Nat) from by rw [show (1 : Int32) = zI 1 from rfl, zI_add]; rfl]
            refine ⟨τ, ⟨w1, w2, w3, fun m' y hy hmq hfy => ?_⟩, rfl⟩
            rcases Nat.lt_or_ge m' q with z | z
            · exact w4 m' y hy z hfy
            · rw [show m' = q from by omega, hc] at hy
              have := Option.some.inj hy; omega
          · rw [if_neg (by rw [zI_eq (by omega) (by omega)]; omega)]
            refine take ?_
            rcases hI.hi q c hc (by omega) with z | ⟨m', y, y1, y2, y3⟩
            · exact z
            · rw [show m' = m from by omega, hx] at y2
              have := Option.some.inj y2
              subst this; exact absurd y3 he
      · left
        rw [if_neg (by rw [zI_le (by omega) (by omega)]; omega)]
        have hall : sk1 (stepF t s g) (300 - fr) = none := sk1_all (by omega) (fun x h1 h2 => by
          by_cases z : ∃ m : Nat, (cnL t (t.ch ++ s.sk) s 300)[m]? = some x
          · obtain ⟨m, hx⟩ := z
            rcases Nat.lt_or_ge m q with y | y
            · exact w4 m x hx y (by omega)
            · have hcx : c ≤ x := by
                rcases Nat.eq_or_lt_of_le y with y | y
                · rw [← y, hc] at hx; have := Option.some.inj hx; omega
                · have := CI.sep hc hx y; omega
              exact stepF_none (fun q => cut_due hv (by omega) ⟨h2, q.1, q.2⟩ (by omega))
          · exact hnc x (by omega) h2 (fun m hx => z ⟨m, hx⟩))
        exact ⟨(0, τ), ⟨by rw [hall]; rfl, w1, w2, w3, fun L hL => by rw [hall] at hL; cases hL⟩, rfl⟩
/-- the first of the fewest, of the last k numbers of visits -/
noncomputable def fwS (t : TT) (E : List (Nat × Nat × Nat × Nat)) (s : SS) : Nat → Option (List Nat)
  | 0 => none
  | k + 1 => match firstS t E s (4 - (k + 1)) [] 0 with
    | some L => some L
    | none => fwS t E s k
theorem fwS_s (t : TT) (E : List (Nat × Nat × Nat × Nat)) (s : SS) {n : Nat} (hn : n ≤ 3) : fwS t E s (4 - n) = match firstS t E s n [] 0 with | some L => some L | none => fwS t E s (4 - (n + 1)) := by
  obtain ⟨k, hk⟩ : ∃ k, 4 - n = k + 1 := ⟨3 - n, by omega⟩
  rw [hk, fwS, show 4 - (k + 1) = n from by omega, show 4 - (n + 1) = k from by omega]
theorem min_of {t : TT} {E : List (Nat × Nat × Nat × Nat)} {s : SS} {n : Nat} (h : ∀ m, m < n → firstS t E s m [] 0 = none) : MinS t E s n := by
  intro L hL
  rcases Nat.lt_or_ge L.length n with q | q
  · exact absurd (h L.length q) (firstS_ex L [] 0 (fun c hc => ⟨Nat.zero_le c, hL.cod c hc⟩) hL.asc hL.all)
  · exact q
noncomputable def fwV (t : TT) (E : List (Nat × Nat × Nat × Nat)) (s : SS) : Int := match fwS t E s 4 with | none => -2 | some L => L.length
theorem c_search {σ : Mem} {T : Nat} {t : TT} {s : SS} (hc : RC σ T t s) : ∃ τ, f_X3_search σ 28 = some τ ∧ Ev σ τ ∧ τ.1 51 4 = zI (fwV t (t.ch ++ s.sk) s) ∧ ∀ L, fwS t (t.ch ++ s.sk) s 4 = some L → L.length ≤ 3 ∧ RowL (τ.1 54) 0 L := by
  have hW := hc.tb.W
  have a53 : aln (51 + 2) = 5 := rfl
  obtain ⟨a1, a2, a3, a4, a5, a6, a7, a8, a9, a10⟩ := ct_aln hc.ct.at_
  have hq : ∀ τ : Mem, (∀ a, a ≠ 51 → a ≠ 52 → a ≠ 53 → a ≠ 54 → τ.1 a = σ.1 a) → τ.2 = σ.2 → CS τ 28 T t (t.ch ++ s.sk) s ∧ CT τ T t := fun τ h1 h2 => ⟨hc.cs.of (fun a h3 h4 => h1 a (by omega) (by omega) (by omega) (by omega)) (by rw [h2]), hc.ct.of (fun a h3 h4 => by have := hc.ct.at_; exact h1 a (by omega) (by omega) (by omega) (by omega))⟩
  let Fin : Mem → Prop := fun υ => (∀ a, a ≠ 51 → a ≠ 52 → a ≠ 53 → a ≠ 54 → υ.1 a = σ.1 a) ∧ υ.2 = σ.2 ∧ υ.1 51 4 = zI (fwV t (t.ch ++ s.sk) s) ∧ ∀ L, fwS t (t.ch ++ s.sk) s 4 = some L → L.length ≤ 3 ∧ RowL (υ.1 54) 0 L
  -- the rounds
  have rounds : ∀ τ : Mem, (∀ a, a ≠ 51 → a ≠ 52 → a ≠ 53 → a ≠ 54 → τ.1 a = σ.1 a) → τ.2 = σ.2 → (∀ w, w < t.W → τ.1 53 w = zI (la s (t.wp w) (t.wd w))) → Cds τ (cnL t (t.ch ++ s.sk) s 300) → ∃ υ, Fin υ ∧ fx2 FU (fun k_9 (i_7 : Int32) (σ_8 : Mem) => (if 3 < i_7 then nm (sI σ_8 51 4 (-2)) (fun (σ_10 : Mem) => some σ_10) else nm (sI σ_8 51 4 i_7) (fun (σ_11 : Mem) => bd2 (f_X3_completes 10 σ_11 28 0 0) (fun (r_12 : Int32) (σ_13 : Mem) => (if r_12 = 0 then nm (i_7 + 1) (fun (x_14 : Int32) => k_9 x_14 σ_13) else some σ_13))))) 0 τ = some υ := by
    intro τ h1 h2 h3 h4
    have hlen := cnL_len hc.tb (t.ch ++ s.sk) s 300
    refine fx2_fin (fun n => zI n) (fun n υ => (∀ a, a ≠ 51 → a ≠ 54 → υ.1 a = τ.1 a) ∧ υ.2 = τ.2 ∧ υ.1 51 3 = τ.1 51 3 ∧ (∀ m, m < n → firstS t (t.ch ++ s.sk) s m [] 0 = none) ∧ fwS t (t.ch ++ s.sk) s 4 = fwS t (t.ch ++ s.sk) s (4 - n)) Fin 4 (by omega) (fun k υ w => ?_) (fun n hn υ w k => ?_) 0 (by omega) rfl τ ⟨fun a _ _ => rfl, rfl, rfl, fun m hm => absurd hm (by omega), rfl⟩
    · obtain ⟨w1, w2, w3, w4, w5⟩ := w
      rw [if_pos (by decide), pnm_e]
      have e : fwS t (t.ch ++ s.sk) s 4 = none := w5
      refine ⟨_, ⟨fun a x1 x2 x3 x4 => by rw [sI_o _ _ _ _ x1, w1 a x1 x4, h1 a x1 x2 x3 x4], by rw [sI_2, w2, h2], ?_, fun L hL => by rw [e] at hL; cases hL⟩, rfl⟩
      rw [sI_1, if_pos ⟨rfl, rfl⟩, fwV, e]; rfl
    · obtain ⟨w1, w2, w3, w4, w5⟩ := w
      have hst := fwS_s t (t.ch ++ s.sk) s (n := n) (by omega)
      have hF : FS (sI υ 51 4 (zI n)) T t s n (cnL t (t.ch ++ s.sk) s 300) := by
        have hx : ∀ a, a ≠ 51 → a ≠ 54 → (sI υ 51 4 (zI n)).1 a = τ.1 a := fun a x1 x2 => by rw [sI_o _ _ _ _ x1, w1 a x1 x2]
        obtain ⟨g1, g2⟩ := hq (sI υ 51 4 (zI n)) (fun a x1 x2 x3 x4 => by rw [hx a x1 x4, h1 a x1 x2 x3 x4]) (by rw [sI_2, w2, h2])
        refine ⟨g1, g2, fun w hw => by rw [hx 53 (by omega) (by omega)]; exact h3 w hw, ?_, fun i c hci => by rw [hx 52 (by omega) (by omega)]; exact h4.at_ i c hci, by omega, by rw [sI_1, if_pos ⟨rfl, rfl⟩]⟩
        rw [sI_1, if_neg (by omega), w3]; exact h4.n
      obtain ⟨ω, e1, e2, e3, e4, e5⟩ := c_comp hc.tb hc.sb (show n ≤ 3 by omega) (min_of w4) n [] 0 0 (sI υ 51 4 (zI n)) 10 hF (fun i c hci => (by cases hci)) (PV.nil t s) ⟨fun k c _ hk => absurd hk (by omega), fun k c _ _ => Or.inl (Nat.zero_le c), fun _ => rfl⟩ (by rw [List.length_nil]; omega) (by omega) (by omega) (by omega)
      have e1' : f_X3_completes 10 (sI υ 51 4 (zI n)) 28 0 0 = _ := e1
      rw [if_neg (by rw [show (3 : Int32) = zI 3 from rfl, zI_lt (by omega) (by omega)]; omega), pnm_e, e1', pbd2_s]
      cases hf : firstS t (t.ch ++ s.sk) s n [] 0 with
      | none =>
        right
        rw [hf] at hst
        rw [if_pos (by rfl), pnm_e, show zI n + 1 = zI (n + 1 : Nat) from by rw [show (1 : Int32) = zI 1 from rfl, zI_add]; rfl]
        refine ⟨ω, ⟨fun a x1 x2 => by rw [e2 a x2, sI_o _ _ _ _ x1, w1 a x1 x2], by rw [e3, sI_2, w2], by rw [e2 51 (by omega), sI_1, if_neg (by omega), w3], fun m hm => ?_, by rw [w5, hst]⟩, rfl⟩
        rcases Nat.lt_or_ge m n with q | q
        · exact w4 m q
        · rw [show m = n from by omega]; exact hf
      | some L =>
        left
        rw [hf] at hst
        have hfw : fwS t (t.ch ++ s.sk) s 4 = some L := by rw [w5, hst]
        have hL := (firstS_ok hf).1
        rw [show bI (some L).isSome = bI true from rfl, if_neg (show ¬ bI true = 0 by decide)]
        refine ⟨ω, ⟨fun a x1 x2 x3 x4 => by rw [e2 a x4, sI_o _ _ _ _ x1, w1 a x1 x4, h1 a x1 x2 x3 x4], by rw [e3, sI_2, w2, h2], ?_, fun M hM => ?_⟩, rfl⟩
        · rw [e2 51 (by omega), sI_1, if_pos ⟨rfl, rfl⟩, fwV, hfw, ← hL]
        · rw [hfw] at hM
          have := Option.some.inj hM
          subst this
          exact ⟨by omega, e5 L hf⟩
  unfold f_X3_search
  have hh := fx2_inv (F := fun k_3 (i_1 : Int32) (σ_2 : Mem) => rfc (σ_2.2.2 28 0) (fun (T_4 : Nat) => bd1 (f_X11_wishes σ_2 T_4) (fun (r_5 : Int32) => (if r_5 ≤ i_1 then bd1 (f_X3_listCandidates σ_2 28) (fun (σ_6 : Mem) => fx2 FU (fun k_9 (i_7 : Int32) (σ_8 : Mem) => (if 3 < i_7 then nm (sI σ_8 51 4 (-2)) (fun (σ_10 : Mem) => some σ_10) else nm (sI σ_8 51 4 i_7) (fun (σ_11 : Mem) => bd2 (f_X3_completes 10 σ_11 28 0 0) (fun (r_12 : Int32) (σ_13 : Mem) => (if r_12 = 0 then nm (i_7 + 1) (fun (x_14 : Int32) => k_9 x_14 σ_13) else some σ_13))))) 0 σ_6) else rfc (σ_2.2.2 28 0) (fun (T_16 : Nat) => bd1 (f_X12_get σ_2 (T_16 + 8) i_1) (fun (r_17 : Int32) => rfc (σ_2.2.2 28 0) (fun (T_18 : Nat) => bd1 (f_X12_get σ_2 (T_18 + 9) i_1) (fun (r_19 : Int32) => bd1 (f_X9_latestVisit σ_2 28 r_17 r_19) (fun (r_20 : Int32) => bd1 (f_X12_set σ_2 (51 + 2) i_1 r_20) (fun (σ_21 : Mem) => nm (i_1 + 1) (fun (x_22 : Int32) => k_3 x_22 σ_21))))))))))) (fun w => zI w) (fun n τ => (∀ a, a ≠ 53 → τ.1 a = σ.1 a) ∧ τ.2 = σ.2 ∧ ∀ w, w < n → τ.1 53 w = zI (la s (t.wp w) (t.wd w))) (fun τ => bd1 (f_X3_listCandidates τ 28) (fun (σ_6 : Mem) => fx2 FU (fun k_9 (i_7 : Int32) (σ_8 : Mem) => (if 3 < i_7 then nm (sI σ_8 51 4 (-2)) (fun (σ_10 : Mem) => some σ_10) else nm (sI σ_8 51 4 i_7) (fun (σ_11 : Mem) => bd2 (f_X3_completes 10 σ_11 28 0 0) (fun (r_12 : Int32) (σ_13 : Mem) => (if r_12 = 0 then nm (i_7 + 1) (fun (x_14 : Int32) => k_9 x_14 σ_13) else some σ_13))))) 0 σ_6)) t.W (by omega) ?_ ?_ 0 (by omega) (x := 0) rfl σ ⟨fun a _ => rfl, rfl, fun w hw => absurd hw (by omega)⟩
  · obtain ⟨τ, ⟨w1, w2, w3⟩, w4⟩ := hh
    obtain ⟨g1, g2⟩ := hq τ (fun a x1 x2 x3 x4 => w1 a x3) w2
    obtain ⟨τ1, e1, e2, e3, e4⟩ := c_cands hc.tb hc.sb g1 g2 w3
    obtain ⟨υ, ⟨u1, u2, u3, u4⟩, u5⟩ := rounds τ1 (fun a x1 x2 x3 x4 => by rw [e2 a x1 x2, w1 a x3]) (by rw [e3, w2]) (fun w hw => by rw [e2 53 (by omega) (by omega)]; exact w3 w hw) e4
    refine ⟨υ, ?_, Ev.of (fun a h => u1 a (by omega) (by omega) (by omega) (by omega)) (fun a h => by rw [u2]) (by rw [u2]) (u1 0 (by omega) (by omega) (by omega) (by omega)) (u1 1 (by omega) (by omega) (by omega) (by omega)) (fun j _ => by rw [u1 64 (by omega) (by omega) (by omega) (by omega)]), u3, u4⟩
    rw [w4, e1, pbd1_s]; exact u5
  · rintro k τ ⟨w1, w2, w3⟩
    obtain ⟨g1, g2⟩ := hq τ (fun a x1 x2 x3 x4 => w1 a x3) w2
    rw [g1.town, prfc_s, ct_wishes g2, pbd1_s, if_pos (by rw [zI_le (by omega) (by omega)]; omega)]
  · rintro w hw τ ⟨w1, w2, w3⟩ k
    obtain ⟨g1, g2⟩ := hq τ (fun a x1 x2 x3 x4 => w1 a x3) w2
    have hwp := tbwp hc.tb hw
    have hwd := hc.tb.wd w hw
    rw [g1.town, prfc_s, ct_wishes g2, pbd1_s, if_neg (by rw [zI_le (by omega) (by omega)]; omega), prfc_s, g_get (g2.wp w hw) (by omega) (by omega), pbd1_s, prfc_s, g_get (g2.wd w hw) (by omega) (by omega), pbd1_s, c_lat g1 (sb_5 hc.tb hc.sb) hwp hwd, pbd1_s, f_setN (by omega) (by omega), pbd1_s, pnm_e, show zI w + 1 = zI (w + 1 : Nat) from by rw [show (1 : Int32) = zI 1 from rfl, zI_add]; rfl]
    refine ⟨sI τ 53 w (zI (la s (t.wp w) (t.wd w))), ⟨fun a x => by rw [sI_o _ _ _ _ x, w1 a x], w2, fun v hv => ?_⟩, rfl⟩
    rw [sI_1]
    by_cases q : v = w
    · rw [if_pos ⟨rfl, q⟩, q]
    · rw [if_neg (fun z => q z.2)]; exact w3 v (by omega)
theorem m_seekV {σ : Mem} {T : Nat} {t : TT} {s : SS} (hc : RC σ T t s) : ∃ τ, f_X13_seekVisits σ = some (zI (fwV t (t.ch ++ s.sk) s), τ) ∧ Ev σ τ ∧ ∀ L, fwS t (t.ch ++ s.sk) s 4 = some L → L.length ≤ 3 ∧ RowL (τ.1 75) 0 L := by
  have a74 : aln 74 = 3 := rfl
  have a75 : aln 75 = 3 := rfl
  have hu := m_unmet (pre := []) hc.mc (PV.nil t s)
  unfold f_X13_seekVisits
  rw [hu, pbd1_s]
  have hh := fx2_fin (F := fun k_4 (i_2 : Int32) (σ_3 : Mem) => (if 3 < i_2 then some ((-2), σ_3) else bd2 (f_X13_tryVisits 10 σ_3 0 i_2 0 (zI (bits (um t (t.ch ++ s.sk) s []) 5))) (fun (r_5 : Int32) (σ_6 : Mem) => (if r_5 = 0 then nm (i_2 + 1) (fun (x_8 : Int32) => k_4 x_8 σ_6) else bd1 (f_X13_copy σ_6 74 0 75 0 i_2) (fun (σ_7 : Mem) => some (i_2, σ_7)))))) (fun n => zI n) (fun n υ => (∀ a, a ≠ 74 → υ.1 a = σ.1 a) ∧ υ.2 = σ.2 ∧ (∀ m, m < n → firstS t (t.ch ++ s.sk) s m [] 0 = none) ∧ fwS t (t.ch ++ s.sk) s 4 = fwS t (t.ch ++ s.sk) s (4 - n)) (fun υ => υ.1 = zI (fwV t (t.ch ++ s.sk) s) ∧ (∀ a, a ≠ 74 → a ≠ 75 → υ.2.1 a = σ.1 a) ∧ υ.2.2 = σ.2 ∧ ∀ L, fwS t (t.ch ++ s.sk) s 4 = some L → L.length ≤ 3 ∧ RowL (υ.2.1 75) 0 L) 4 (by omega) ?_ ?_ 0 (by omega) (x := 0) rfl σ ⟨fun a _ => rfl, rfl, fun m hm => absurd hm (by omega), rfl⟩
  · obtain ⟨υ, ⟨w1, w2, w3, w4⟩, w5⟩ := hh
    refine ⟨υ.2, by rw [w5, ← w1], Ev.of (fun a h => w2 a (by omega) (by omega)) (fun a h => by rw [w3]) (by rw [w3]) (w2 0 (by omega) (by omega)) (w2 1 (by omega) (by omega)) (fun j _ => by rw [w2 64 (by omega) (by omega)]), w4⟩
  · rintro k υ ⟨w1, w2, w4, w5⟩
    have e : fwS t (t.ch ++ s.sk) s 4 = none := w5
    refine ⟨(-2, υ), ⟨by unfold fwV; rw [e]; rfl, fun a x1 x2 => w1 a x1, w2, fun L hL => by rw [e] at hL; cases hL⟩, ?_⟩
    rw [if_pos (by decide)]
  · rintro n hn υ ⟨w1, w2, w4, w5⟩ k
    have hst := fwS_s t (t.ch ++ s.sk) s (n := n) (by omega)
    have hM : MC υ t (vsL s []) := hc.mc.of (w1 67 (by omega)) (w1 69 (by omega)) (by rw [w1 64 (by omega)]) (by rw [w1 64 (by omega)])
    obtain ⟨ω, e1, e2, e3, e4, e5⟩ := m_try hc.tb hc.sb n [] 0 υ 10 hM (PV.nil t s) (by rw [List.length_nil, Nat.zero_add]; exact min_of w4) (by omega) (by rw [List.length_nil]; omega) (by omega)
    have e1' : f_X13_tryVisits 10 υ 0 (zI n) 0 (zI (bits (um t (t.ch ++ s.sk) s []) 5)) = some (bI (firstS t (t.ch ++ s.sk) s n [] 0).isSome, ω) := by
      rw [← e1, List.length_nil, Nat.zero_add]; rfl
    rw [if_neg (by rw [show (3 : Int32) = zI 3 from rfl, zI_lt (by omega) (by omega)]; omega), e1', pbd2_s]
    cases hf : firstS t (t.ch ++ s.sk) s n [] 0 with
    | none =>
      right
      rw [hf] at hst
      rw [if_pos (by rfl), pnm_e, show zI n + 1 = zI (n + 1 : Nat) from by rw [show (1 : Int32) = zI 1 from rfl, zI_add]; rfl]
      refine ⟨ω, ⟨fun a x => by rw [e2 a x, w1 a x], by rw [e3, w2], fun m hm => ?_, by rw [w5, hst]⟩, rfl⟩
      rcases Nat.lt_or_ge m n with q | q
      · exact w4 m q
      · rw [show m = n from by omega]; exact hf
    | some L =>
      left
      rw [hf] at hst
      have hfw : fwS t (t.ch ++ s.sk) s 4 = some L := by rw [w5, hst]
      have hL := (firstS_ok hf).1
      have hcp := m_copy (σ := ω) (a := 74) (b := 75) (x := 0) (y := 0) (n := n) (by omega) (by omega) (by omega) (by omega) (by omega)
      have hcp' : f_X13_copy ω 74 0 75 0 (zI n) = _ := hcp
      rw [show bI (some L).isSome = bI true from rfl, if_neg (show ¬ bI true = 0 by decide), hcp', pbd1_s]
      refine ⟨_, ⟨by unfold fwV; rw [hfw, ← hL], fun a x1 x2 => by rw [sA_o _ _ _ x2, e2 a x1, w1 a x1], by rw [sA_2, e3, w2], fun M hM => ?_⟩, rfl⟩
      rw [hfw] at hM
      have := Option.some.inj hM
      subst this
      refine ⟨by omega, fun i c hc => ?_⟩
      have hi : i < L.length := by
        rcases Nat.lt_or_ge i L.length with q | q
        · exact q
        · rw [List.getElem?_eq_none q] at hc; cases hc
      show (sA ω 75 _).1 75 (0 + i) = zI c
      rw [sA_at, Nat.zero_add, va_0 (by omega)]
      have := e5 L hf i c hc
      rw [List.length_nil, Nat.zero_add] at this
      exact this
theorem rel_fewest (σ : Mem) (h : RLq σ) : ∃ r σ1 σ2, f_X12_fewest σ = some (r, σ1) ∧ f_X13_fewest σ1 = some (r, σ2) ∧ RLq σ2 := by
  unfold f_X12_fewest f_X13_fewest
  refine rel_tE (fun t s => zI (fwV t (t.ch ++ s.sk) s)) (fun σ T t s hc hp => ⟨?_, ?_⟩) h
  · obtain ⟨τ, e1, e2, e3, e4⟩ := c_search hc
    exact ⟨τ, by rw [e1, pbd1_s, e3], e2⟩
  · obtain ⟨τ, e1, e2, e3⟩ := m_seekV hc
    exact ⟨τ, by rw [e1, pbd2_s], e2⟩
theorem fwV_e {t : TT} {E : List (Nat × Nat × Nat × Nat)} {s : SS} : (fwS t E s 4 = none ∧ fwV t E s = -2) ∨ ∃ L, fwS t E s 4 = some L ∧ fwV t E s = L.length := by
  unfold fwV
  cases e : fwS t E s 4 with
  | none => exact Or.inl ⟨rfl, rfl⟩
  | some L => exact Or.inr ⟨L, rfl, rfl⟩
theorem rel_fewestAt (σ : Mem) (h : RLq σ) (x : Int32) : ∃ r σ1 σ2, f_X12_fewestAt σ x = some (r, σ1) ∧ f_X13_fewestAt σ1 x = some (r, σ2) ∧ RLq σ2 := by
  obtain ⟨T, t, s, hc, ht, hp⟩ := h
  have ha := zI_rng x
  have a54 : aln (51 + 3) = 3 := rfl
  have a75 : aln 75 = 3 := rfl
  rw [zI_all x]
  generalize x.toInt = a at ha
  unfold f_X12_fewestAt f_X13_fewestAt
  rw [c_ofTown hc, pbd1_s]
  simp only [m_good, pbd1_s]
  by_cases q : 0 < t.P
  · have hc0 := RC_c hc 0
    obtain ⟨τ, e1, e2, e3, e4⟩ := c_search hc0
    rw [decide_eq_false (by omega), show bI false = 0 from rfl, refu_0, pbd2_s, if_pos rfl, e1, pbd1_s, jn1_e, e3]
    have hfin : ∀ v : Int32, v ≠ zI 4 → RC (gd (sI τ 0 13 v)) T t s ∧ Eqv σ (gd (sI τ 0 13 v)) := by
      intro v _
      have g : Eqv σ (gd (sI τ 0 13 v)) := gd_e ((((Eqv.rfl' σ).sI 0 13 0 rfl).trans e2.e).sI 0 13 v rfl)
      exact ⟨hc.eqv g, g⟩
    rcases fwV_e (t := t) (E := t.ch ++ s.sk) (s := s) with ⟨f1, f2⟩ | ⟨L, f1, f2⟩
    · obtain ⟨hc2, g2⟩ := hfin 6 (by decide)
      obtain ⟨υ, u1, u2, u3⟩ := m_seekV hc2
      rw [f2, if_neg (by decide)]
      dsimp only
      rw [show f_X12_refused τ 6 = some (1, sI τ 0 13 6) from rfl, pbd2_s, if_neg (by decide)]
      refine ⟨_, _, sI υ 64 11 6, rfl, ?_, RL_of hc ((g2.trans u2.e).sI 64 11 6 rfl) 6 ?_ ?_ (by decide)⟩
      · rw [if_neg (by rw [hc2.has, decide_eq_true q]; decide), u1, pbd2_s, f2, if_neg (by decide), m_no]; rfl
      · rw [sI_o _ _ _ _ (by decide), u2.a, gd_o _ (by decide), sI_1, if_pos ⟨rfl, rfl⟩]
      · rw [sI_1, if_pos ⟨rfl, rfl⟩]
    · have hL := (e4 L f1).1
      rw [f2, if_pos (by rw [show (0 : Int32) = zI 0 from rfl, zI_le (by omega) (by omega)]; omega), f_inside _ _ ha (by omega), pbd1_s]
      by_cases q2 : 0 ≤ a ∧ a < (L.length : Int)
      · obtain ⟨i, rfl⟩ : ∃ i : Nat, a = i := ⟨a.toNat, by omega⟩
        obtain ⟨c, hci, -⟩ := get_some L (show i < L.length by omega)
        obtain ⟨hc2, g2⟩ := hfin 0 (by decide)
        obtain ⟨υ, u1, u2, u3⟩ := m_seekV hc2
        have r1 := (e4 L f1).2 i c hci
        have r2 := (u3 L f1).2 i c hci
        rw [Nat.zero_add] at r1 r2
        rw [decide_eq_true q2, if_neg (by decide)]
        dsimp only
        rw [show f_X12_refused τ 0 = some (0, sI τ 0 13 0) from rfl, pbd2_s, if_pos rfl, g_get (a := 51 + 3) (v := zI c) (by rw [sI_o _ _ _ _ (by decide)]; exact r1) (by omega) (by omega), pbd1_s]
        refine ⟨_, _, υ, rfl, ?_, RL_of hc (g2.trans u2.e) 0 ?_ ?_ (by decide)⟩
        · rw [if_neg (by rw [hc2.has, decide_eq_true q]; decide), u1, pbd2_s, f2, if_pos (by rw [show (0 : Int32) = zI 0 from rfl, zI_le (by omega) (by omega)]; omega), show (0 : Int32) = zI 0 from rfl, show (1 : Int32) = zI 1 from rfl, zI_sub, f_in _ _ _ ha (by omega) (by omega), decide_eq_true (by omega), pbd1_s, if_neg (by decide), ixd_in (by omega), zI_nat (by omega), show (i : Int).toNat = i from by omega, r2]
        · rw [u2.a, gd_o _ (by decide), sI_1, if_pos ⟨rfl, rfl⟩]
        · rw [u2.b, gd_11]
      · obtain ⟨hc2, g2⟩ := hfin 1 (by decide)
        obtain ⟨υ, u1, u2, u3⟩ := m_seekV hc2
        rw [decide_eq_false q2, if_pos (by rfl)]
        dsimp only
        rw [show f_X12_refused τ 1 = some (1, sI τ 0 13 1) from rfl, pbd2_s, if_neg (by decide)]
        refine ⟨_, _, sI υ 64 11 1, rfl, ?_, RL_of hc ((g2.trans u2.e).sI 64 11 1 rfl) 1 ?_ ?_ (by decide)⟩
        · rw [if_neg (by rw [hc2.has, decide_eq_true q]; decide), u1, pbd2_s, f2, if_pos (by rw [show (0 : Int32) = zI 0 from rfl, zI_le (by omega) (by omega)]; omega), show zI (L.length : Int) - 1 = zI ((L.length : Int) - 1) from by rw [show (1 : Int32) = zI 1 from rfl, zI_sub], show (0 : Int32) = zI 0 from rfl, f_in _ _ _ ha (by omega) (by omega), decide_eq_false (by omega), pbd1_s, if_pos (by rfl), m_no]; rfl
        · rw [sI_o _ _ _ _ (by decide), u2.a, gd_o _ (by decide), sI_1, if_pos ⟨rfl, rfl⟩]
        · rw [sI_1, if_pos ⟨rfl, rfl⟩]
  · have hc2 := RC_m hc 1
    rw [decide_eq_true (by omega), show bI true = 1 from rfl, refu_1, pbd2_s, if_neg (by decide)]
    refine ⟨_, _, _, rfl, ?_, RL_no hc 1 (by decide)⟩
    rw [if_pos (by rw [hc2.has, decide_eq_false q]; rfl), m_no]
    rfl
