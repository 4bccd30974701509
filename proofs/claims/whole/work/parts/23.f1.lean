theorem fx2_fin {A1 A2 β : Type} {F : (A1 → A2 → Option β) → A1 → A2 → Option β} (a : Nat → A1) (Inv : Nat → A2 → Prop) (Fin : β → Prop) (N : Nat) (hN : N < 100000) (he : ∀ k σ, Inv N σ → ∃ υ, Fin υ ∧ F k (a N) σ = some υ) (hs : ∀ i, i < N → ∀ σ, Inv i σ → ∀ k, (∃ υ, Fin υ ∧ F k (a i) σ = some υ) ∨ ∃ σ', Inv (i + 1) σ' ∧ F k (a i) σ = k (a (i + 1)) σ') (i : Nat) (hi : i ≤ N) {x : A1} (hx : x = a i) (σ : A2) (h0 : Inv i σ) : ∃ υ, Fin υ ∧ fx2 FU F x σ = some υ := by
  subst hx
  have key : ∀ n, ∀ i, i + n = N → ∀ m σ, Inv i σ → ∃ υ, Fin υ ∧ fx2 (n + 1 + m) F (a i) σ = some υ := by
    intro n
    induction n with
    | zero =>
      intro i hi m σ h
      have : i = N := by omega
      subst this
      rw [Nat.zero_add, Nat.add_comm]
      exact he _ σ h
    | succ n ih =>
      intro i hi m σ h
      rw [show n + 1 + 1 + m = (n + 1 + m) + 1 from by omega]
      rcases hs i (by omega) σ h (fx2 (n + 1 + m) F) with w | ⟨σ', h1, h2⟩
      · exact w
      · obtain ⟨υ, h3, h4⟩ := ih (i + 1) (by omega) m σ' h1
        exact ⟨υ, h3, h2.trans h4⟩
  have h2 := key (N - i) i (by omega) (99999 - (N - i)) σ h0
  rw [show N - i + 1 + (99999 - (N - i)) = FU from by unfold FU; omega] at h2
  exact h2
/-- cells of a row from o on tell a list -/
def RowL (f : Nat → Int32) (o : Nat) (L : List Nat) : Prop := ∀ i c : Nat, L[i]? = some c → f (o + i) = zI c
theorem RowL.cons {f : Nat → Int32} {o c : Nat} {L : List Nat} (h0 : f o = zI c) (h : RowL f (o + 1) L) : RowL f o (c :: L) := by
  intro i x hx
  cases i with
  | zero =>
    have : c = x := by simpa using hx
    rw [← this]; exact h0
  | succ i =>
    have := h i x (by simpa using hx)
    rw [show o + (i + 1) = o + 1 + i from by omega]; exact this
def stepF (t : TT) (s : SS) (g : Nat → Option (List Nat)) (c : Nat) : Option (List Nat) := if c % 10 < t.P ∧ opn t s (c / 10) = true then (match g c with | none => none | some L => some (c :: L)) else none
theorem firstS_s (t : TT) (E : List (Nat × Nat × Nat × Nat)) (s : SS) (j : Nat) (pre : List Nat) (fr : Nat) : firstS t E s (j + 1) pre fr = sk1 (stepF t s (fun c => firstS t E s j (pre ++ [c]) (10 * (c / 10 + 1)))) (300 - fr) := rfl
theorem stepF_none {t : TT} {s : SS} {g : Nat → Option (List Nat)} {c : Nat} (h : (c % 10 < t.P ∧ opn t s (c / 10) = true) → g c = none) : stepF t s g c = none := by
  unfold stepF
  by_cases q : c % 10 < t.P ∧ opn t s (c / 10) = true
  · rw [if_pos q, h q]
  · rw [if_neg q]
theorem stepF_some {t : TT} {s : SS} {g : Nat → Option (List Nat)} {c : Nat} {L : List Nat} (q : c % 10 < t.P ∧ opn t s (c / 10) = true) (h : g c = some L) : stepF t s g c = some (c :: L) := by
  unfold stepF
  rw [if_pos q, h]
theorem sk1_s (f : Nat → Option (List Nat)) {c : Nat} (hc : c < 300) : sk1 f (300 - c) = match f c with | some L => some L | none => sk1 f (300 - (c + 1)) := by
  obtain ⟨k, hk⟩ : ∃ k, 300 - c = k + 1 := ⟨299 - c, by omega⟩
  rw [hk, sk1, show 300 - (k + 1) = c from by omega, show 300 - (c + 1) = k from by omega]
  try (cases f c <;> rfl)
theorem m_try {t : TT} {s : SS} (tb : TB t) (sb : SB t s) : ∀ (j : Nat) (pre : List Nat) (fr : Nat) (σ : Mem) (fu : Nat), MC σ t (vsL s pre) → PV t s pre fr → MinS t (t.ch ++ s.sk) s (pre.length + j) → fr ≤ 300 → pre.length + j ≤ 3 → j < fu → ∃ σ', f_X13_tryVisits fu σ (zI pre.length) (zI (pre.length + j : Nat)) (zI fr) (zI (bits (um t (t.ch ++ s.sk) s []) 5)) = some (bI (firstS t (t.ch ++ s.sk) s j pre fr).isSome, σ') ∧ (∀ a, a ≠ 74 → σ'.1 a = σ.1 a) ∧ σ'.2 = σ.2 ∧ (∀ i, i < pre.length → σ'.1 74 i = σ.1 74 i) ∧ ∀ L, firstS t (t.ch ++ s.sk) s j pre fr = some L → RowL (σ'.1 74) pre.length L := by
  intro j
  induction j with
  | zero =>
    intro pre fr σ fu hM hv hm hfr h3 hfu
    obtain ⟨fu, rfl⟩ : ∃ n, fu = n + 1 := ⟨fu - 1, by omega⟩
    have hu := m_unmet hM hv
    have hb := bits_256 (um t (t.ch ++ s.sk) s pre) (show 5 ≤ 8 by omega)
    have h0 := um_0 (E := t.ch ++ s.sk) (s := s) (pre := pre) tb
    refine ⟨σ, ?_, fun a _ => rfl, rfl, fun i _ => rfl, fun L hL => ?_⟩
    · show bd1 (f_X13_unmet σ) _ = _
      rw [hu, pbd1_s, jn0_e, firstS]
      cases hh : hW t (t.ch ++ s.sk) s pre with
      | true => rw [if_pos (by rw [h0.2 hh]; rfl), if_pos (by rw [Nat.add_zero]), if_pos rfl]; rfl
      | false =>
        have hne : bits (um t (t.ch ++ s.sk) s pre) 5 ≠ 0 := fun w => by rw [h0.1 w] at hh; cases hh
        have hcn : 0 < cnt (um t (t.ch ++ s.sk) s pre) 5 := by
          rcases Nat.eq_zero_or_pos (cnt (um t (t.ch ++ s.sk) s pre) 5) with w | w
          · have := (cnt_any _ 5).1 w
            exact absurd (bits_zero.2 (fun q hq => by
              cases e : um t (t.ch ++ s.sk) s pre q with
              | false => rfl
              | true => rw [exF_t q (by omega) hq e] at this; cases this)) hne
          · exact w
        have hc5 := cnt_le (um t (t.ch ++ s.sk) s pre) 5
        rw [if_neg (by rw [show (0 : Int32) = zI 0 from rfl, zI_eq (by omega) (by omega)]; omega), m_onesB _ (by omega), pbd1_s, if_pos (by rw [zI_sub, zI_lt (by omega) (by omega)]; omega), if_neg (by decide)]
        rfl
    · rw [firstS] at hL
      split at hL
      · have := Option.some.inj hL
        subst this
        intro i c hc; cases hc
      · cases hL
  | succ j ih =>
    intro pre fr σ fu hM hv hm hfr h3 hfu
    obtain ⟨fu, rfl⟩ : ∃ n, fu = n + 1 := ⟨fu - 1, by omega⟩
    have hu := m_unmet hM hv
    have hb := bits_256 (um t (t.ch ++ s.sk) s pre) (show 5 ≤ 8 by omega)
    have hb0 := bits_256 (um t (t.ch ++ s.sk) s []) (show 5 ≤ 8 by omega)
    have h0 := um_0 (E := t.ch ++ s.sk) (s := s) (pre := pre) tb
    have a69 : aln 69 = 80 := rfl
    have a74 : aln 74 = 3 := rfl
    have hP := tb.P
    -- not all wishes hold: the prefix would be shorter
    have hne : bits (um t (t.ch ++ s.sk) s pre) 5 ≠ 0 := fun w => by
      have := hm pre ⟨hv.cod, hv.asc, h0.1 w⟩
      omega
    have hc5 := cnt_le (um t (t.ch ++ s.sk) s pre) 5
    by_cases hcut : j + 1 < cnt (um t (t.ch ++ s.sk) s pre) 5
    · refine ⟨σ, ?_, fun a _ => rfl, rfl, fun i _ => rfl, fun L hL => by rw [cut_cnt hcut] at hL; cases hL⟩
      show bd1 (f_X13_unmet σ) _ = _
      rw [hu, pbd1_s, jn0_e, if_neg (by rw [show (0 : Int32) = zI 0 from rfl, zI_eq (by omega) (by omega)]; omega), m_onesB _ (by omega), pbd1_s, if_pos (by rw [zI_sub, zI_lt (by omega) (by omega)]; omega), cut_cnt hcut]
      rfl
    · let g : Nat → Option (List Nat) := fun c => firstS t (t.ch ++ s.sk) s j (pre ++ [c]) (10 * (c / 10 + 1))
      have hfs : firstS t (t.ch ++ s.sk) s (j + 1) pre fr = sk1 (stepF t s g) (300 - fr) := rfl
      let Inv : Nat → Mem → Prop := fun i τ => (∀ a, a ≠ 74 → τ.1 a = σ.1 a) ∧ τ.2 = σ.2 ∧ (∀ i, i < pre.length → τ.1 74 i = σ.1 74 i) ∧ sk1 (stepF t s g) (300 - fr) = sk1 (stepF t s g) (300 - (fr + i))
      let Fin : Int32 × Mem → Prop := fun υ => υ.1 = bI (sk1 (stepF t s g) (300 - fr)).isSome ∧ (∀ a, a ≠ 74 → υ.2.1 a = σ.1 a) ∧ υ.2.2 = σ.2 ∧ (∀ i, i < pre.length → υ.2.1 74 i = σ.1 74 i) ∧ ∀ L, sk1 (stepF t s g) (300 - fr) = some L → RowL (υ.2.1 74) pre.length L
      have hh := fx2_fin (F := fun k_6 (i_4 : Int32) (σ_5 : Mem) => (if 300 ≤ i_4 then some (0, σ_5) else dvd 10 (nm (i_4 / 10) (fun (x_7 : Int32) => dvd 10 (nm (i_4 - i_4 / 10 * 10) (fun (x_8 : Int32) => bd1 (f_X13_hasBit (zI (bits (um t (t.ch ++ s.sk) s []) 5)) x_8) (fun (r_9 : Int32) => jn1 (fun (σ_10 : Mem) => nm (i_4 + 1) (fun (x_12 : Int32) => k_6 x_12 σ_10)) (fun k_11 => (if r_9 = 0 then k_11 σ_5 else bd1 (f_X13_isOpen σ_5 x_7) (fun (r_14 : Int32) => (if r_14 = 0 then k_11 σ_5 else ixd x_7 (aln 69) (nm (sI σ_5 69 x_7.toNatClampNeg (x_8 + 1)) (fun (σ_15 : Mem) => ixd (zI pre.length) (aln 74) (nm (sI σ_15 74 (zI pre.length).toNatClampNeg i_4) (fun (σ_16 : Mem) => bd2 (f_X13_tryVisits fu σ_16 ((zI pre.length) + 1) (zI (pre.length + (j + 1) : Nat)) (10 * (x_7 + 1)) (zI (bits (um t (t.ch ++ s.sk) s []) 5))) (fun (r_17 : Int32) (σ_18 : Mem) => ixd x_7 (aln 69) (nm (sI σ_18 69 x_7.toNatClampNeg 0) (fun (σ_19 : Mem) => (if r_17 = 0 then k_11 σ_19 else some (1, σ_19)))))))))))))))))))) (fun i => zI (fr + i : Nat)) Inv Fin (300 - fr) (by omega) ?_ ?_ 0 (by omega) (x := zI fr) rfl σ ⟨fun a _ => rfl, rfl, fun i _ => rfl, rfl⟩
      · obtain ⟨υ, ⟨w1, w2, w3, w4, w5⟩, w6⟩ := hh
        refine ⟨υ.2, ?_, w2, w3, w4, by rw [hfs]; exact w5⟩
        show bd1 (f_X13_unmet σ) _ = _
        rw [hu, pbd1_s, jn0_e, if_neg (by rw [show (0 : Int32) = zI 0 from rfl, zI_eq (by omega) (by omega)]; omega), m_onesB _ (by omega), pbd1_s, if_neg (by rw [zI_sub, zI_lt (by omega) (by omega)]; omega), if_neg (by rw [zI_eq (by omega) (by omega)]; omega), hfs, ← w1]
        exact w6
      · rintro k τ ⟨w1, w2, w3, w4⟩
        rw [show 300 - (fr + (300 - fr)) = 0 from by omega] at w4
        refine ⟨(0, τ), ⟨by rw [w4]; rfl, w1, w2, w3, fun L hL => by rw [w4] at hL; cases hL⟩, ?_⟩
        rw [show fr + (300 - fr) = 300 from by omega, if_pos (by decide)]
      · rintro i hi τ ⟨w1, w2, w3, w4⟩ k
        obtain ⟨c, hc⟩ : ∃ c, c = fr + i := ⟨_, rfl⟩
        rw [← hc] at w4 ⊢
        have hc300 : c < 300 := by omega
        have hstep := sk1_s (stepF t s g) hc300
        rw [show fr + (i + 1) = c + 1 from by omega] at *
        have hd30 : c / 10 < 30 := by omega
        have hopq := hv.opq (d := c / 10) (by omega)
        have hMt : MC τ t (vsL s pre) := hM.of (w1 67 (by omega)) (w1 69 (by omega)) (by rw [w1 64 (by omega)]) (by rw [w1 64 (by omega)])
        have ho := m_open hMt.mr hMt.mv tb hMt.sb hd30
        rw [hopq] at ho
        have hrem : zI c - zI c / 10 * 10 = zI (c % 10 : Nat) := by rw [show (10 : Int32) = zI (10 : Nat) from rfl]; exact zI_rem (by omega)
        have hdiv : zI c / 10 = zI (c / 10 : Nat) := by rw [show (10 : Int32) = zI (10 : Nat) from rfl]; exact zI_div_nat c 10 (by omega)
        have hbit : f_X13_hasBit (zI (bits (um t (t.ch ++ s.sk) s []) 5)) (zI (c % 10 : Nat)) = some (bI (um t (t.ch ++ s.sk) s [] (c % 10))) := by
          rw [m_hasBit (by omega) (by omega), bits_at]
          by_cases q : c % 10 < 5
          · rw [decide_eq_true q, Bool.true_and]
          · rw [decide_eq_false q, Bool.false_and]
            cases e : um t (t.ch ++ s.sk) s [] (c % 10) with
            | false => rfl
            | true => have := um_P tb e; omega
        rw [if_neg (by rw [show (300 : Int32) = zI 300 from rfl, zI_le (by omega) (by omega)]; omega), show (10 : Int32) = zI 10 from rfl, dvd_ne (by omega), pnm_e, dvd_ne (by omega), pnm_e, show zI 10 = (10 : Int32) from rfl, hrem, hdiv, hbit, pbd1_s, ho]
        simp only [pbd1_s, jn1_e, pnm_e, show zI c + 1 = zI (c + 1 : Nat) from by rw [show (1 : Int32) = zI 1 from rfl, zI_add]; rfl]
        have skip : stepF t s g c = none → ∃ σ', Inv (i + 1) σ' ∧ k (zI (c + 1 : Nat)) τ = k (zI (c + 1 : Nat)) σ' := fun hn => ⟨τ, ⟨w1, w2, w3, by rw [w4, hstep, hn, show fr + (i + 1) = c + 1 from by omega]⟩, rfl⟩
        cases hwho : um t (t.ch ++ s.sk) s [] (c % 10) with
        | false =>
          right
          rw [if_pos (by rfl)]
          refine skip (stepF_none (fun q => ?_))
          exact cut_who hv hm (by omega) ⟨hc300, q.1, q.2⟩ hwho
        | true =>
          have hcP := um_P tb hwho
          rw [if_neg (by decide)]
          cases hop : opn t s (c / 10) with
          | false =>
            right
            rw [if_pos (by rfl)]
            exact skip (stepF_none (fun q => by rw [hop] at q; cases q.2))
          | true =>
            have hck : codK t s c := ⟨hc300, hcP, hop⟩
            have hv' := hv.snoc (by omega : fr ≤ c) hck
            have hvis0 : (vsL s pre).vis (c / 10) = none := by
              have := of_decide_eq_true (hopq.trans hop)
              exact this.2.2
            have h69 : τ.1 69 (c / 10) = zI (oM none) := by
              have := hMt.mv.vis (c / 10) hd30
              rw [hvis0, Nat.zero_add] at this
              exact this
            obtain ⟨τ1, hτ1⟩ : ∃ τ1, τ1 = sI (sI τ 69 (c / 10) (zI (oM (some (c % 10))))) 74 pre.length (zI c) := ⟨_, rfl⟩
            have hM1 : MC τ1 t (vsL s (pre ++ [c])) := by
              rw [vsL_app]
              exact (hMt.setV hd30 (v := some (c % 10)) (fun p hp => by have := Option.some.inj hp; omega)).of (by rw [hτ1, sI_o _ _ _ _ (by decide)]) (by rw [hτ1, sI_o _ _ _ _ (by decide)]) (by rw [hτ1, sI_o _ _ _ _ (by decide)]) (by rw [hτ1, sI_o _ _ _ _ (by decide)])
            have hlen : (pre ++ [c]).length = pre.length + 1 := by rw [List.length_append]; rfl
            obtain ⟨τ2, e1, e2, e3, e4, e5⟩ := ih (pre ++ [c]) (10 * (c / 10 + 1)) τ1 fu hM1 hv' (by rw [hlen, show pre.length + 1 + j = pre.length + (j + 1) from by omega]; exact hm) (by omega) (by omega) (by omega)
            rw [hlen] at e1 e4 e5
            rw [if_neg (by decide), ixd_in (by omega), ixd_in (by omega), zI_nat (by omega), zI_nat (by omega), show ((c / 10 : Nat) : Int).toNat = c / 10 from by omega, show ((pre.length : Nat) : Int).toNat = pre.length from by omega, show zI (c % 10 : Nat) + 1 = zI (oM (some (c % 10))) from by rw [show (1 : Int32) = zI 1 from rfl, zI_add]; rfl, ← hτ1, show zI pre.length + 1 = zI (pre.length + 1 : Nat) from by rw [show (1 : Int32) = zI 1 from rfl, zI_add]; rfl, show pre.length + (j + 1) = pre.length + 1 + j from by omega, show (10 : Int32) * (zI (c / 10 : Nat) + 1) = zI (10 * (c / 10 + 1) : Nat) from by rw [show (1 : Int32) = zI 1 from rfl, show (10 : Int32) = zI 10 from rfl, zI_add, zI_mul]; congr 1, e1, pbd2_s, ixd_in (by omega)]
            have r69 : (sI τ2 69 (c / 10) 0).1 69 = σ.1 69 := by
              rw [sI_at, e2 69 (by omega), hτ1, sI_o _ _ _ _ (by decide), sI_at, ← w1 69 (by omega)]
              funext z
              unfold upd
              by_cases q : z = c / 10
              · rw [if_pos q, q, h69]; rfl
              · rw [if_neg q, if_neg q]
            have r1 : ∀ a, a ≠ 74 → (sI τ2 69 (c / 10) 0).1 a = σ.1 a := fun a ha => by
              by_cases q : a = 69
              · rw [q]; exact r69
              · rw [sI_o _ _ _ _ q, e2 a ha, hτ1, sI_o _ _ _ _ ha, sI_o _ _ _ _ q, w1 a ha]
            have r2 : (sI τ2 69 (c / 10) 0).2 = σ.2 := by rw [sI_2, e3, hτ1]; exact w2
            have r3 : ∀ z, z < pre.length → (sI τ2 69 (c / 10) 0).1 74 z = σ.1 74 z := fun z hz => by
              rw [sI_o _ _ _ _ (by decide), e4 z (by omega), hτ1, sI_1, if_neg (by omega), sI_o _ _ _ _ (by decide), w3 z hz]
            cases hgc : g c with
            | none =>
              right
              have hgc' : firstS t (t.ch ++ s.sk) s j (pre ++ [c]) (10 * (c / 10 + 1)) = none := hgc
              rw [hgc', if_pos (by rfl)]
              exact ⟨_, ⟨r1, r2, r3, by rw [w4, hstep, stepF_none (fun _ => hgc), show fr + (i + 1) = c + 1 from by omega]⟩, rfl⟩
            | some L =>
              left
              have hgc' : firstS t (t.ch ++ s.sk) s j (pre ++ [c]) (10 * (c / 10 + 1)) = some L := hgc
              have hsk : sk1 (stepF t s g) (300 - fr) = some (c :: L) := by rw [w4, hstep, stepF_some ⟨hcP, hop⟩ hgc]
              rw [hgc', show bI (some L).isSome = bI true from rfl, if_neg (show ¬ bI true = 0 by decide)]
              refine ⟨_, ⟨by rw [hsk]; rfl, r1, r2, r3, fun M hM => ?_⟩, rfl⟩
              rw [hsk] at hM
              have := Option.some.inj hM
              subst this
              refine RowL.cons ?_ ?_
              · show (sI τ2 69 (c / 10) 0).1 74 pre.length = zI c
                rw [sI_o _ _ _ _ (by decide), e4 _ (by omega), hτ1, sI_1, if_pos ⟨rfl, rfl⟩]
              · have := e5 L hgc'
                show RowL ((sI τ2 69 (c / 10) 0).1 74) (pre.length + 1) L
                rw [sI_o _ _ _ _ (by decide)]; exact this
theorem laL_le : ∀ (L : List Nat) (p d : Nat) (v : Int), v ≤ d → laL L p d v ≤ d
  | [], _, _, _, h => h
  | c :: L, p, d, v, h => by
    rw [laL]
    refine laL_le L p d _ ?_
    split <;> omega
theorem laL_two : ∀ (L : List Nat) (p d : Nat) (v : Int), (v = -2 ∨ 0 ≤ v) → laL L p d v = -2 ∨ 0 ≤ laL L p d v
  | [], _, _, _, h => h
  | c :: L, p, d, v, h => by
    rw [laL]
    refine laL_two L p d _ ?_
    split <;> omega
theorem la_two (s : SS) (p d : Nat) : la s p d = -2 ∨ 0 ≤ la s p d := by
  unfold la
  cases lat s.vis p (d + 1) with
  | none => left; rfl
  | some e => right; simp only [oC]; omega
/-- what the class's search reads: the visits now, the wishes' visits, the count -/
abbrev FS (σ : Mem) (T : Nat) (t : TT) (s : SS) (n : Nat) (Lc : List Nat) : Prop :=
  (CS σ 28 T t (t.ch ++ s.sk) s) ∧ (CT σ T t) ∧ (∀ w, w < t.W → σ.1 53 w = zI (la s (t.wp w) (t.wd w))) ∧ (σ.1 51 3 = zI Lc.length) ∧ (∀ i c : Nat, Lc[i]? = some c → σ.1 52 i = zI c) ∧ (Lc.length ≤ 150) ∧ (σ.1 51 4 = zI n)
theorem FS.cs {σ : Mem}{T : Nat}{t : TT}{s : SS}{n : Nat}{Lc : List Nat} (h : FS σ T t s n Lc) : CS σ 28 T t (t.ch ++ s.sk) s := h.1
theorem FS.ct {σ : Mem}{T : Nat}{t : TT}{s : SS}{n : Nat}{Lc : List Nat} (h : FS σ T t s n Lc) : CT σ T t := h.2.1
theorem FS.pv {σ : Mem}{T : Nat}{t : TT}{s : SS}{n : Nat}{Lc : List Nat} (h : FS σ T t s n Lc) : ∀ w, w < t.W → σ.1 53 w = zI (la s (t.wp w) (t.wd w)) := h.2.2.1
theorem FS.cn {σ : Mem}{T : Nat}{t : TT}{s : SS}{n : Nat}{Lc : List Nat} (h : FS σ T t s n Lc) : σ.1 51 3 = zI Lc.length := h.2.2.2.1
theorem FS.cd {σ : Mem}{T : Nat}{t : TT}{s : SS}{n : Nat}{Lc : List Nat} (h : FS σ T t s n Lc) : ∀ i c : Nat, Lc[i]? = some c → σ.1 52 i = zI c := h.2.2.2.2.1
theorem FS.len {σ : Mem}{T : Nat}{t : TT}{s : SS}{n : Nat}{Lc : List Nat} (h : FS σ T t s n Lc) : Lc.length ≤ 150 := h.2.2.2.2.2.1
theorem FS.cnt {σ : Mem}{T : Nat}{t : TT}{s : SS}{n : Nat}{Lc : List Nat} (h : FS σ T t s n Lc) : σ.1 51 4 = zI n := h.2.2.2.2.2.2
/-- what stays while the search runs: all but what is due, who waits, and the chosen -/
abbrev frq (σ τ : Mem) : Prop := (∀ a, a ≠ 51 → a ≠ 54 → τ.1 a = σ.1 a) ∧ τ.1 51 3 = σ.1 51 3 ∧ τ.1 51 4 = σ.1 51 4 ∧ τ.2 = σ.2
theorem frq.me (σ : Mem) : frq σ σ := ⟨fun _ _ _ => rfl, rfl, rfl, rfl⟩
theorem frq.on {σ τ υ : Mem} (h : frq σ τ) (k : frq τ υ) : frq σ υ := ⟨fun a x y => (k.1 a x y).trans (h.1 a x y), k.2.1.trans h.2.1, k.2.2.1.trans h.2.2.1, k.2.2.2.trans h.2.2.2⟩
theorem frq.c54 (σ : Mem) (i : Nat) (v : Int32) : frq σ (sI σ 54 i v) := ⟨fun a _ y => sI_o _ _ _ _ y, by rw [sI_o _ _ _ _ (by decide)], by rw [sI_o _ _ _ _ (by decide)], rfl⟩
theorem FS.of {σ τ : Mem} {T : Nat} {t : TT} {s : SS} {n : Nat} {Lc : List Nat} (h : FS σ T t s n Lc) (e : frq σ τ) : FS τ T t s n Lc :=
  ⟨h.cs.of (fun a h1 h2 => e.1 a (by omega) (by omega)) (by rw [e.2.2.2]), h.ct.of (fun a h1 h2 => e.1 a (by have := h.ct.at_; omega) (by have := h.ct.at_; omega)), fun w hw => by rw [e.1 53 (by omega) (by omega)]; exact h.pv w hw, by rw [e.2.1]; exact h.cn, fun i c hc => by rw [e.1 52 (by omega) (by omega)]; exact h.cd i c hc, h.len, by rw [e.2.2.1]; exact h.cnt⟩
theorem c_vw {σ : Mem} {t : TT} {s : SS} (tb : TB t) {pre : List Nat} (hpv : ∀ w, w < t.W → σ.1 53 w = zI (la s (t.wp w) (t.wd w))) (h54 : ∀ i c : Nat, pre[i]? = some c → σ.1 54 i = zI c) (hc : ∀ c ∈ pre, c < 300) (hl : pre.length ≤ 3) {w : Nat} (hw : w < t.W) : f_X3_visitWith σ (zI w) (zI (t.wp w)) (zI (t.wd w)) (zI pre.length) = some (zI (laL pre (t.wp w) (t.wd w) (la s (t.wp w) (t.wd w)))) := by
  have hW := tb.W
  have hwp := tbwp tb hw
  have hwd := tb.wd w hw
  have a53 : aln (51 + 2) = 5 := rfl
  have a54 : aln (51 + 3) = 3 := rfl
  unfold f_X3_visitWith
  rw [g_get (a := 51 + 2) (hpv w hw) (by omega) (by omega), pbd1_s]
  refine fx2_run (fun i => zI (laL (pre.take i) (t.wp w) (t.wd w) (la s (t.wp w) (t.wd w)))) (fun i => zI i) pre.length 0 (by omega) rfl rfl (fun k => ?_) (fun i hi k => ?_)
  · rw [if_pos (by rw [zI_le (by omega) (by omega)]; omega), List.take_length]
  · obtain ⟨c, hc1, hc2⟩ := get_some pre hi
    have h300 := hc c hc2
    have hb := la_b s (t.wp w) (t.wd w)
    have h1 := laL_le (pre.take i) (t.wp w) (t.wd w) _ hb.2
    have h2 := laL_ge (pre.take i) (t.wp w) (t.wd w) (la s (t.wp w) (t.wd w))
    have hrem : zI c - zI c / 10 * 10 = zI (c % 10 : Nat) := by rw [show (10 : Int32) = zI (10 : Nat) from rfl]; exact zI_rem (by omega)
    have hdiv : zI c / 10 = zI (c / 10 : Nat) := by rw [show (10 : Int32) = zI (10 : Nat) from rfl]; exact zI_div_nat c 10 (by omega)
    rw [if_neg (by rw [zI_le (by omega) (by omega)]; omega), g_get (a := 51 + 3) (h54 i c hc1) (by omega) (by omega), pbd1_s, show (10 : Int32) = zI 10 from rfl, dvd_ne (by omega), pnm_e, pbd1_s, dvd_ne (by omega), show zI 10 = (10 : Int32) from rfl, hrem, hdiv, tk_s pre hc1, laL_app, laL, laL]
    simp only [jn1_e, pnm_e, show zI i + 1 = zI (i + 1 : Nat) from by rw [show (1 : Int32) = zI 1 from rfl, zI_add]; rfl]
    by_cases q1 : c % 10 = t.wp w
    · rw [if_pos (by rw [q1])]
      by_cases q2 : c / 10 ≤ t.wd w
      · have qq : c % 10 = t.wp w ∧ c / 10 ≤ t.wd w := ⟨q1, q2⟩
        rw [if_pos qq, if_neg (by rw [zI_lt (by omega) (by omega)]; omega)]
        by_cases q3 : laL (pre.take i) (t.wp w) (t.wd w) (la s (t.wp w) (t.wd w)) < ((c / 10 : Nat) : Int)
        · rw [if_pos (by rw [zI_lt (by omega) (by omega)]; exact q3), Int.max_eq_right (by omega)]
        · rw [if_neg (by rw [zI_lt (by omega) (by omega)]; exact q3), Int.max_eq_left (by omega)]
      · have qq : ¬ (c % 10 = t.wp w ∧ c / 10 ≤ t.wd w) := fun z => q2 z.2
        rw [if_neg qq, if_pos (by rw [zI_lt (by omega) (by omega)]; omega)]
    · have qq : ¬ (c % 10 = t.wp w ∧ c / 10 ≤ t.wd w) := fun z => q1 z.1
      rw [if_neg qq, if_neg (by rw [zI_eq (by omega) (by omega)]; omega)]
theorem c_kw {σ : Mem} {T : Nat} {t : TT} {s : SS} {n : Nat} {Lc : List Nat} (tb : TB t) (h : FS σ T t s n Lc) {w : Nat} (hw : w < t.W) {v : Int} (hv : v = -2 ∨ 0 ≤ v) (hv2 : v < 30) : f_X9_knowsBy σ 28 (zI (t.wp w)) (zI (t.wd w)) (zI v) = some (bI (kw t (t.ch ++ s.sk) w v)) := by
  have hwp := tb.wp w hw
  have hwd := tb.wd w hw
  have e : zI v = zI (oC (if v < 0 then none else some v.toNat)) := by
    rcases hv with hv | hv
    · rw [hv]; rfl
    · rw [if_neg (by omega)]
      show zI v = zI ((v.toNat : Nat) : Int)
      congr 1; omega
  rw [e, c_knowsBy h.cs h.ct tb hwp hwd (fun d hd => ?_)]
  · rfl
  · split at hd
    · cases hd
    · have := Option.some.inj hd; omega
/-- the first day of a wish that doesn't hold -/
noncomputable def due (t : TT) (E : List (Nat × Nat × Nat × Nat)) (s : SS) (L : List Nat) : Nat → Nat
  | 0 => 30
  | w + 1 => if kw t E w (laL L (t.wp w) (t.wd w) (la s (t.wp w) (t.wd w))) = true then due t E s L w else min (t.wd w) (due t E s L w)
theorem due_le {t : TT} {E : List (Nat × Nat × Nat × Nat)} {s : SS} {L : List Nat} : ∀ n, due t E s L n ≤ 30
  | 0 => Nat.le_refl _
  | w + 1 => by have := due_le (t := t) (E := E) (s := s) (L := L) w; rw [due]; split <;> omega
theorem due_30 {t : TT} {E : List (Nat × Nat × Nat × Nat)} {s : SS} {L : List Nat} (tb : TB t) : (due t E s L t.W = 30) ↔ hW t E s L = true := by
  rw [hW_t]
  have key : ∀ n, n ≤ t.W → ((due t E s L n = 30) ↔ ∀ w, w < n → kw t E w (laL L (t.wp w) (t.wd w) (la s (t.wp w) (t.wd w))) = true) := by
    intro n
    induction n with
    | zero => intro _; exact ⟨fun _ w hw => absurd hw (by omega), fun _ => rfl⟩
    | succ n ih =>
      intro hn
      have hwd := tb.wd n (by omega)
      have ih := ih (by omega)
      rw [due]
      by_cases q : kw t E n (laL L (t.wp n) (t.wd n) (la s (t.wp n) (t.wd n))) = true
      · rw [if_pos q, ih]
        constructor
        · intro h w hw
          rcases Nat.lt_or_ge w n with z | z
          · exact h w z
          · rw [show w = n from by omega]; exact q
        · intro h w hw; exact h w (by omega)
      · rw [if_neg q]
        constructor
        · intro h; omega
        · intro h; exact absurd (h n (by omega)) q
  exact key t.W (Nat.le_refl _)
theorem due_ex {t : TT} {E : List (Nat × Nat × Nat × Nat)} {s : SS} {L : List Nat} : ∀ {n}, due t E s L n ≠ 30 → ∃ w, w < n ∧ t.wd w = due t E s L n ∧ kw t E w (laL L (t.wp w) (t.wd w) (la s (t.wp w) (t.wd w))) = false
  | 0, h => absurd rfl h
  | n + 1, h => by
    rw [due] at h ⊢
    by_cases q : kw t E n (laL L (t.wp n) (t.wd n) (la s (t.wp n) (t.wd n))) = true
    · rw [if_pos q] at h ⊢
      obtain ⟨w, h1, h2, h3⟩ := due_ex h
      exact ⟨w, by omega, h2, h3⟩
    · rw [if_neg q] at h ⊢
      by_cases q2 : t.wd n ≤ due t E s L n
      · exact ⟨n, by omega, by omega, by simpa using q⟩
      · have hle := due_le (t := t) (E := E) (s := s) (L := L) n
        by_cases q3 : due t E s L n = 30
        · exact ⟨n, by omega, by omega, by simpa using q⟩
        · obtain ⟨w, h1, h2, h3⟩ := due_ex q3
          exact ⟨w, by omega, by omega, h3⟩
theorem cut_due {t : TT} {E : List (Nat × Nat × Nat × Nat)} {s : SS} {j : Nat} {pre : List Nat} {fr c : Nat} (h : PV t s pre fr) (hf : fr ≤ c) (hc : codK t s c) (hd : due t E s pre t.W < c / 10) : firstS t E s j (pre ++ [c]) (10 * (c / 10 + 1)) = none := by
  cases e : firstS t E s j (pre ++ [c]) (10 * (c / 10 + 1)) with
  | none => rfl
  | some L =>
    have hc30 : c / 10 < 30 := by have := hc.1; omega
    obtain ⟨w, h1, h2, h3⟩ := due_ex (t := t) (E := E) (s := s) (L := pre) (n := t.W) (by omega)
    obtain ⟨g1, g2, g3, g4⟩ := firstS_ok e
    have := hW_t.1 g4 w h1
    rw [laL_app, laL_app, laL_far L _ _ _ (fun x hx z => ?_), laL_far [c] _ _ _ (fun x hx z => ?_), h3] at this
    · cases this
    · rw [List.mem_singleton.1 hx] at z; omega
    · have := (g2 x hx).1; omega
theorem c_lookq {σ : Mem} {T : Nat} {t : TT} {s : SS} {n : Nat} {Lc : List Nat} (tb : TB t) (h : FS σ T t s n Lc) {pre : List Nat} (h54 : ∀ i c : Nat, pre[i]? = some c → σ.1 54 i = zI c) (hc : ∀ c ∈ pre, c < 300) (hl : pre.length ≤ 3) : ∃ τ, f_X3_lookAtWishes σ 28 (zI pre.length) = some τ ∧ frq σ τ ∧ τ.1 54 = σ.1 54 ∧ τ.1 51 5 = zI (due t (t.ch ++ s.sk) s pre t.W) ∧ τ.1 51 6 = zI (bits (um t (t.ch ++ s.sk) s pre) 5) := by
  have hW := tb.W
  obtain ⟨a1, a2, a3, a4, a5, a6, a7, a8, a9, a10⟩ := ct_aln h.ct.at_
  let Inv : Nat → Mem → Prop := fun w τ => frq σ τ ∧ τ.1 54 = σ.1 54 ∧ τ.1 51 5 = zI (due t (t.ch ++ s.sk) s pre w) ∧ τ.1 51 6 = zI (bits (umN t (t.ch ++ s.sk) s pre w) 5)
  have b0 : bits (umN t (t.ch ++ s.sk) s pre 0) 5 = 0 := bits_0 (fun i _ => exF_end _ 0)
  unfold f_X3_lookAtWishes
  rw [pnm_e, pnm_e]
  have hh := fx2_inv (F := fun k_5 (i_3 : Int32) (σ_4 : Mem) => rfc (σ_4.2.2 28 0) (fun (T_6 : Nat) => bd1 (f_X11_wishes σ_4 T_6) (fun (r_7 : Int32) => (if r_7 ≤ i_3 then some σ_4 else rfc (σ_4.2.2 28 0) (fun (T_8 : Nat) => bd1 (f_X12_get σ_4 (T_8 + 8) i_3) (fun (r_9 : Int32) => rfc (σ_4.2.2 28 0) (fun (T_10 : Nat) => bd1 (f_X12_get σ_4 (T_10 + 9) i_3) (fun (r_11 : Int32) => bd1 (f_X3_visitWith σ_4 i_3 r_9 r_11 (zI pre.length)) (fun (r_12 : Int32) => bd1 (f_X9_knowsBy σ_4 28 r_9 r_11 r_12) (fun (r_13 : Int32) => jn1 (fun (σ_14 : Mem) => nm (i_3 + 1) (fun (x_16 : Int32) => k_5 x_16 σ_14)) (fun k_15 => (if r_13 = 0 then nm (if r_11 < (σ_4.1 51 5) then r_11 else (σ_4.1 51 5)) (fun (x_18 : Int32) => nm (sI σ_4 51 5 x_18) (fun (σ_19 : Mem) => nm (sI σ_19 51 6 ((σ_19.1 51 6) ||| (1 <<< (r_9 &&& 31)))) (fun (σ_20 : Mem) => k_15 σ_20))) else k_15 σ_4)))))))))))) (fun w => zI w) Inv (fun τ => some τ) t.W (by omega) ?_ ?_ 0 (by omega) (x := 0) rfl (sI (sI σ 51 5 30) 51 6 0) ⟨⟨fun a x y => by rw [sI_o _ _ _ _ x, sI_o _ _ _ _ x], by rw [sI_1, if_neg (by omega), sI_1, if_neg (by omega)], by rw [sI_1, if_neg (by omega), sI_1, if_neg (by omega)], by rw [sI_2, sI_2]⟩, by rw [sI_o _ _ _ _ (by decide), sI_o _ _ _ _ (by decide)], by rw [sI_1, if_neg (by omega), sI_1, if_pos ⟨rfl, rfl⟩]; rfl, by rw [sI_1, if_pos ⟨rfl, rfl⟩, b0]; rfl⟩
  · obtain ⟨τ, ⟨w1, w2, w3, w4⟩, w5⟩ := hh
    exact ⟨τ, w5, w1, w2, w3, w4⟩
  · rintro k τ ⟨w1, w2, w3, w4⟩
    have hF := h.of w1
    rw [hF.cs.town, prfc_s, ct_wishes hF.ct, pbd1_s, if_pos (by rw [zI_le (by omega) (by omega)]; omega)]
  · rintro w hw τ ⟨w1, w2, w3, w4⟩ k
    have hF := h.of w1
    have hwd := tb.wd w hw
    have hwp := tbwp tb hw
    have hb := la_b s (t.wp w) (t.wd w)
    have h1 := laL_le pre (t.wp w) (t.wd w) _ hb.2
    have h2 := laL_two pre (t.wp w) (t.wd w) _ (la_two s (t.wp w) (t.wd w))
    have hdl := due_le (t := t) (E := t.ch ++ s.sk) (s := s) (L := pre) w
    have hC : ∀ i c : Nat, pre[i]? = some c → τ.1 54 i = zI c := fun i c hi => by rw [w2]; exact h54 i c hi
    rw [hF.cs.town, prfc_s, ct_wishes hF.ct, pbd1_s, if_neg (by rw [zI_le (by omega) (by omega)]; omega), prfc_s, g_get (hF.ct.wp w hw) (by omega) (by omega), pbd1_s, prfc_s, g_get (hF.ct.wd w hw) (by omega) (by omega), pbd1_s, c_vw tb hF.pv hC hc hl hw, pbd1_s, c_kw tb hF hw h2 (by omega), pbd1_s]
    simp only [jn1_e, pnm_e, show zI w + 1 = zI (w + 1 : Nat) from by rw [show (1 : Int32) = zI 1 from rfl, zI_add]; rfl]
    cases q : kw t (t.ch ++ s.sk) w (laL pre (t.wp w) (t.wd w) (la s (t.wp w) (t.wd w))) with
    | true =>
      have e6 : bits (umN t (t.ch ++ s.sk) s pre (w + 1)) 5 = bits (umN t (t.ch ++ s.sk) s pre w) 5 := bits_congr 5 (fun p _ => by
        show umN t (t.ch ++ s.sk) s pre (w + 1) p = umN t (t.ch ++ s.sk) s pre w p
        unfold umN
        rw [exF_s, q]; simp)
      rw [if_neg (by decide)]
      exact ⟨τ, ⟨w1, w2, by rw [w3, due, if_pos q], by rw [w4, e6]⟩, rfl⟩
    | false =>
      have e6 : bits (umN t (t.ch ++ s.sk) s pre (w + 1)) 5 = bits (fun p => umN t (t.ch ++ s.sk) s pre w p || decide (p = t.wp w)) 5 := bits_congr 5 (fun p _ => by
        show umN t (t.ch ++ s.sk) s pre (w + 1) p = (umN t (t.ch ++ s.sk) s pre w p || decide (p = t.wp w))
        unfold umN
        rw [exF_s, q, show decide (p = t.wp w) = decide (t.wp w = p) from decide_eq_decide.2 eq_comm]; simp)
      have e5 : (if zI (t.wd w) < τ.1 51 5 then zI (t.wd w) else τ.1 51 5) = zI (min (t.wd w) (due t (t.ch ++ s.sk) s pre w) : Nat) := by
        rw [w3]
        by_cases q2 : t.wd w < due t (t.ch ++ s.sk) s pre w
        · rw [if_pos (by rw [zI_lt (by omega) (by omega)]; omega), Nat.min_eq_left (by omega)]
        · rw [if_neg (by rw [zI_lt (by omega) (by omega)]; omega), Nat.min_eq_right (by omega)]
      have e7 : ∀ v : Int32, (sI τ 51 5 v).1 51 6 = zI (bits (umN t (t.ch ++ s.sk) s pre w) 5) := fun v => by rw [sI_1, if_neg (by omega)]; exact w4
      rw [if_pos (by rfl), e5, e7, show (1 : Int32) <<< (zI (t.wp w) &&& 31) = zI (2 ^ t.wp w : Nat) from one_shl (by omega), zI_or, bits_add _ hwp]
      refine ⟨_, ⟨⟨fun a x y => by rw [sI_o _ _ _ _ x, sI_o _ _ _ _ x, w1.1 a x y], by rw [sI_1, if_neg (by omega), sI_1, if_neg (by omega), w1.2.1], by rw [sI_1, if_neg (by omega), sI_1, if_neg (by omega), w1.2.2.1], by rw [sI_2, sI_2, w1.2.2.2]⟩, by rw [sI_o _ _ _ _ (by decide), sI_o _ _ _ _ (by decide), w2], ?_, ?_⟩, rfl⟩
      · rw [sI_1, if_neg (by omega), sI_1, if_pos ⟨rfl, rfl⟩, due, if_neg (by rw [q]; decide)]
      · rw [sI_1, if_pos ⟨rfl, rfl⟩, e6]
/-- the wishes that a visit helps -/
noncomputable def hlwq (t : TT) (E : List (Nat × Nat × Nat × Nat)) (s : SS) (p d w : Nat) : Bool := decide (t.wp w = p ∧ d ≤ t.wd w ∧ la s (t.wp w) (t.wd w) < d) && kw t E w d
theorem hlp_bits {t : TT} {E : List (Nat × Nat × Nat × Nat)} {s : SS} {p d : Nat} : (bits (hlwq t E s p d) t.W = 0) ↔ hlp t E s p d = false := by
  rw [bits_zero]
  constructor
  · intro h
    exact exF_f (fun w _ hw => h w hw)
  · intro h w hw
    cases e : hlwq t E s p d w with
    | false => rfl
    | true =>
      have : hlp t E s p d = true := exF_t w (by omega) hw e
      rw [h] at this; cases this
theorem c_helpedBy {σ : Mem} {T : Nat} {t : TT} {s : SS} (tb : TB t) (cs : CS σ 28 T t (t.ch ++ s.sk) s) (ct : CT σ T t) (hpv : ∀ w, w < t.W → σ.1 53 w = zI (la s (t.wp w) (t.wd w))) {p d : Nat} (hp : p < t.P) (hd : d < 30) : f_X3_helpedBy σ 28 (zI p) (zI d) = some (zI (bits (hlwq t (t.ch ++ s.sk) s p d) t.W)) := by
  have hW := tb.W
  have hP := tb.P
  have a53 : aln (51 + 2) = 5 := rfl
  obtain ⟨a1, a2, a3, a4, a5, a6, a7, a8, a9, a10⟩ := ct_aln ct.at_
  have hFS : ∀ w, w < t.W → t.wp w = p → f_X9_knowsBy σ 28 (zI p) (zI (t.wd w)) (zI d) = some (bI (kw t (t.ch ++ s.sk) w d)) := by
    intro w hw hwp
    have hwd := tb.wd w hw
    have := c_knowsBy cs ct tb hp hwd (v := some d) (fun x hx => by have := Option.some.inj hx; omega)
    rw [show zI (oC (some d)) = zI d from rfl] at this
    rw [this]
    unfold kw
    rw [hwp, if_neg (by omega)]; rfl
  unfold f_X3_helpedBy
  refine fx2_run (fun w => zI (bits (hlwq t (t.ch ++ s.sk) s p d) w)) (fun w => zI w) t.W 0 (by omega) rfl rfl (fun k => ?_) (fun w hw k => ?_)
  · rw [cs.town, prfc_s, ct_wishes ct, pbd1_s, if_pos (by rw [zI_le (by omega) (by omega)]; omega)]
  · have hwd := tb.wd w hw
    have hwp := tbwp tb hw
    have hb := la_b s (t.wp w) (t.wd w)
    have no : hlwq t (t.ch ++ s.sk) s p d w = false → bits (hlwq t (t.ch ++ s.sk) s p d) (w + 1) = bits (hlwq t (t.ch ++ s.sk) s p d) w := fun e => by rw [bits, e]; simp
    have ye : hlwq t (t.ch ++ s.sk) s p d w = true → bits (hlwq t (t.ch ++ s.sk) s p d) (w + 1) = bits (hlwq t (t.ch ++ s.sk) s p d) w ||| 2 ^ w := fun e => by rw [bits, e]; simp
    rw [cs.town, prfc_s, ct_wishes ct, pbd1_s, if_neg (by rw [zI_le (by omega) (by omega)]; omega), prfc_s, g_get (ct.wd w hw) (by omega) (by omega), pbd1_s, prfc_s, g_get (ct.wp w hw) (by omega) (by omega), pbd1_s]
    simp only [jn1_e, pnm_e, show zI w + 1 = zI (w + 1 : Nat) from by rw [show (1 : Int32) = zI 1 from rfl, zI_add]; rfl]
    by_cases q1 : t.wp w = p
    · rw [if_pos (by rw [q1])]
      by_cases q2 : d ≤ t.wd w
      · rw [if_neg (by rw [zI_lt (by omega) (by omega)]; omega), g_get (a := 51 + 2) (hpv w hw) (by omega) (by omega), pbd1_s]
        by_cases q3 : la s (t.wp w) (t.wd w) < d
        · rw [if_neg (by rw [zI_le (by omega) (by omega)]; omega), hFS w hw q1, pbd1_s]
          cases q4 : kw t (t.ch ++ s.sk) w d with
          | true => rw [if_neg (by decide), show (1 : Int32) <<< (zI w &&& 31) = zI (2 ^ w : Nat) from one_shl (by omega), zI_or, ye (by unfold hlwq; rw [decide_eq_true ⟨q1, q2, q3⟩, q4]; rfl)]
          | false => rw [if_pos (by rfl), no (by unfold hlwq; rw [q4, Bool.and_false])]
        · rw [if_pos (by rw [zI_le (by omega) (by omega)]; omega), no (by unfold hlwq; rw [decide_eq_false (fun z => q3 z.2.2), Bool.false_and])]
      · rw [if_pos (by rw [zI_lt (by omega) (by omega)]; omega), no (by unfold hlwq; rw [decide_eq_false (fun z => q2 z.2.1), Bool.false_and])]
    · rw [if_neg (by rw [zI_eq (by omega) (by omega)]; omega), no (by unfold hlwq; rw [decide_eq_false (fun z => q1 z.1), Bool.false_and])]
