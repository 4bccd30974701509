/-- the first of the fewest, of the last k numbers of visits -/
noncomputable def fwS (t : TT) (E : List (Nat × Nat × Nat × Nat)) (s : SS) : Nat → Option (List Nat)
  | 0 => none
  | k + 1 => match firstS t E s (4 - (k + 1)) [] 0 with
    | some L => some L
    | none => fwS t E s k
theorem fwS_s (t : TT) (E : List (Nat × Nat × Nat × Nat)) (s : SS) {n : Nat} (hn : n ≤ 3) : fwS t E s (4 - n) = match firstS t E s n [] 0 with | some L => some L | none => fwS t E s (4 - (n + 1)) := by
  obtain ⟨k, hk⟩ : ∃ k, 4 - n = k + 1 := ⟨3 - n, by omega⟩
  rw [hk, fwS, show 4 - (k + 1) = n from by omega, show 4 - (n + 1) = k from by omega]
theorem min_of {t : TT} {E : List (Nat × Nat × Nat × Nat)} {s : SS} {n : Nat} (h : ∀ m, m < n → firstS t E s m [] 0 = none) : MinS t E s n := by
  intro L hL
  rcases Nat.lt_or_ge L.length n with q | q
  · exact absurd (h L.length q) (firstS_ex L [] 0 (fun c hc => ⟨Nat.zero_le c, hL.cod c hc⟩) hL.asc hL.all)
  · exact q
noncomputable def fwV (t : TT) (E : List (Nat × Nat × Nat × Nat)) (s : SS) : Int := match fwS t E s 4 with | none => -2 | some L => L.length
theorem fwS_none {t : TT} {E : List (Nat × Nat × Nat × Nat)} {s : SS} (h : ∀ n, n ≤ 3 → firstS t E s n [] 0 = none) : ∀ k, k ≤ 4 → fwS t E s k = none
  | 0, _ => rfl
  | k + 1, hk => by
    rw [fwS, h (4 - (k + 1)) (by omega)]
    exact fwS_none h k (by omega)
theorem shl_less {i : Nat} (h : i < 31) : (1 : Int32) <<< (zI i &&& 31) - 1 = zI (2 ^ i - 1 : Nat) := by
  have e : (1 : Int32) <<< (zI i &&& 31) = zI (2 ^ i : Nat) := one_shl h
  have h1 : 0 < 2 ^ i := Nat.two_pow_pos i
  rw [e]
  generalize 2 ^ i = m at h1 ⊢
  rw [show (1 : Int32) = zI 1 from rfl, zI_sub]
  congr 1
  omega
theorem c_search {σ : Mem} {T : Nat} {t : TT} {s : SS} (hc : RC σ T t s) : ∃ τ, f_X3_search σ 28 = some τ ∧ Ev σ τ ∧ τ.1 51 4 = zI (fwV t (t.ch ++ s.sk) s) ∧ ∀ L, fwS t (t.ch ++ s.sk) s 4 = some L → L.length ≤ 3 ∧ RowL (τ.1 54) 0 L := by
  have hW := hc.tb.W
  have a53 : aln (51 + 2) = 5 := rfl
  obtain ⟨a1, a2, a3, a4, a5, a6, a7, a8, a9, a10⟩ := ct_aln hc.ct.at_
  have hq : ∀ τ : Mem, (∀ a, a ≠ 51 → a ≠ 52 → a ≠ 53 → a ≠ 54 → τ.1 a = σ.1 a) → τ.2 = σ.2 → CS τ 28 T t (t.ch ++ s.sk) s ∧ CT τ T t := fun τ h1 h2 => ⟨hc.cs.of (fun a h3 h4 => h1 a (by omega) (by omega) (by omega) (by omega)) (by rw [h2]), hc.ct.of (fun a h3 h4 => by have := hc.ct.at_; exact h1 a (by omega) (by omega) (by omega) (by omega))⟩
  let Fin : Mem → Prop := fun υ => (∀ a, a ≠ 51 → a ≠ 52 → a ≠ 53 → a ≠ 54 → υ.1 a = σ.1 a) ∧ υ.2 = σ.2 ∧ υ.1 51 4 = zI (fwV t (t.ch ++ s.sk) s) ∧ ∀ L, fwS t (t.ch ++ s.sk) s 4 = some L → L.length ≤ 3 ∧ RowL (υ.1 54) 0 L
  -- the rounds
  have rounds : ∀ τ : Mem, (∀ a, a ≠ 51 → a ≠ 52 → a ≠ 53 → a ≠ 54 → τ.1 a = σ.1 a) → τ.2 = σ.2 → (∀ w, w < t.W → τ.1 53 w = zI (la s (t.wp w) (t.wd w))) → Cds τ (cnL t (t.ch ++ s.sk) s 300) → ∃ υ, Fin υ ∧ fx2 FU (fun k_16 (i_14 : Int32) (σ_15 : Mem) => jn0 (nm (sI σ_15 51 4 (-2)) (fun (σ_18 : Mem) => some σ_18)) (fun k_17 => (if 3 < i_14 then k_17 else (if (1 : Int32) = 0 then k_17 else nm (sI σ_15 51 4 i_14) (fun (σ_19 : Mem) => bd2 (f_X3_completes 10 σ_19 28 0 0) (fun (r_20 : Int32) (σ_21 : Mem) => (if r_20 = 0 then nm (i_14 + 1) (fun (x_22 : Int32) => k_16 x_22 σ_21) else some σ_21))))))) 0 τ = some υ := by
    intro τ h1 h2 h3 h4
    have hlen := cnL_len hc.tb (t.ch ++ s.sk) s 300
    refine fx2_fin (fun n => zI n) (fun n υ => (∀ a, a ≠ 51 → a ≠ 54 → υ.1 a = τ.1 a) ∧ υ.2 = τ.2 ∧ υ.1 51 3 = τ.1 51 3 ∧ (∀ m, m < n → firstS t (t.ch ++ s.sk) s m [] 0 = none) ∧ fwS t (t.ch ++ s.sk) s 4 = fwS t (t.ch ++ s.sk) s (4 - n)) Fin 4 (by omega) (fun k υ w => ?_) (fun n hn υ w k => ?_) 0 (by omega) rfl τ ⟨fun a _ _ => rfl, rfl, rfl, fun m hm => absurd hm (by omega), rfl⟩
    · obtain ⟨w1, w2, w3, w4, w5⟩ := w
      rw [jn0_e, if_pos (by decide), pnm_e]
      have e : fwS t (t.ch ++ s.sk) s 4 = none := w5
      refine ⟨_, ⟨fun a x1 x2 x3 x4 => by rw [sI_o _ _ _ _ x1, w1 a x1 x4, h1 a x1 x2 x3 x4], by rw [sI_2, w2, h2], ?_, fun L hL => by rw [e] at hL; cases hL⟩, rfl⟩
      rw [sI_1, if_pos ⟨rfl, rfl⟩, fwV, e]; rfl
    · obtain ⟨w1, w2, w3, w4, w5⟩ := w
      have hst := fwS_s t (t.ch ++ s.sk) s (n := n) (by omega)
      have hF : FS (sI υ 51 4 (zI n)) T t s n (cnL t (t.ch ++ s.sk) s 300) := by
        have hx : ∀ a, a ≠ 51 → a ≠ 54 → (sI υ 51 4 (zI n)).1 a = τ.1 a := fun a x1 x2 => by rw [sI_o _ _ _ _ x1, w1 a x1 x2]
        obtain ⟨g1, g2⟩ := hq (sI υ 51 4 (zI n)) (fun a x1 x2 x3 x4 => by rw [hx a x1 x4, h1 a x1 x2 x3 x4]) (by rw [sI_2, w2, h2])
        refine ⟨g1, g2, fun w hw => by rw [hx 53 (by omega) (by omega)]; exact h3 w hw, ?_, fun i c hci => by rw [hx 52 (by omega) (by omega)]; exact h4.at_ i c hci, by omega, by rw [sI_1, if_pos ⟨rfl, rfl⟩]⟩
        rw [sI_1, if_neg (by omega), w3]; exact h4.n
      obtain ⟨ω, e1, e2, e4, e5⟩ := c_comp hc.tb hc.sb (show n ≤ 3 by omega) (min_of w4) n [] 0 0 (sI υ 51 4 (zI n)) 10 hF (fun i c hci => (by cases hci)) (PV.nil t s) ⟨fun k c _ hk => absurd hk (by omega), fun k c _ _ => Or.inl (Nat.zero_le c), fun _ => rfl⟩ (by rw [List.length_nil]; omega) (by omega) (by omega) (by omega)
      have e1' : f_X3_completes 10 (sI υ 51 4 (zI n)) 28 0 0 = _ := e1
      rw [jn0_e, if_neg (by rw [show (3 : Int32) = zI 3 from rfl, zI_lt (by omega) (by omega)]; omega), if_neg (by decide), pnm_e, e1', pbd2_s]
      cases hf : firstS t (t.ch ++ s.sk) s n [] 0 with
      | none =>
        right
        rw [hf] at hst
        rw [if_pos (by rfl), pnm_e, show zI n + 1 = zI (n + 1 : Nat) from by rw [show (1 : Int32) = zI 1 from rfl, zI_add]; rfl]
        refine ⟨ω, ⟨fun a x1 x2 => by rw [e2.1 a x1 x2, sI_o _ _ _ _ x1, w1 a x1 x2], by rw [e2.2.2.2, sI_2, w2], by rw [e2.2.1, sI_1, if_neg (by omega), w3], fun m hm => ?_, by rw [w5, hst]⟩, rfl⟩
        rcases Nat.lt_or_ge m n with q | q
        · exact w4 m q
        · rw [show m = n from by omega]; exact hf
      | some L =>
        left
        rw [hf] at hst
        have hfw : fwS t (t.ch ++ s.sk) s 4 = some L := by rw [w5, hst]
        have hL := (firstS_ok hf).1
        rw [show bI (some L).isSome = bI true from rfl, if_neg (show ¬ bI true = 0 by decide)]
        refine ⟨ω, ⟨fun a x1 x2 x3 x4 => by rw [e2.1 a x1 x4, sI_o _ _ _ _ x1, w1 a x1 x4, h1 a x1 x2 x3 x4], by rw [e2.2.2.2, sI_2, w2, h2], ?_, fun M hM => ?_⟩, rfl⟩
        · rw [e2.2.2.1, sI_1, if_pos ⟨rfl, rfl⟩, fwV, hfw, ← hL]
        · rw [hfw] at hM
          have := Option.some.inj hM
          subst this
          exact ⟨by omega, e5 L hf⟩
  -- no way without hope
  have lost : ∀ τ : Mem, (∀ a, a ≠ 51 → a ≠ 52 → a ≠ 53 → a ≠ 54 → τ.1 a = σ.1 a) → τ.2 = σ.2 → fwS t (t.ch ++ s.sk) s 4 = none → ∃ υ, Fin υ ∧ fx2 FU (fun k_16 (i_14 : Int32) (σ_15 : Mem) => jn0 (nm (sI σ_15 51 4 (-2)) (fun (σ_18 : Mem) => some σ_18)) (fun k_17 => (if 3 < i_14 then k_17 else (if (0 : Int32) = 0 then k_17 else nm (sI σ_15 51 4 i_14) (fun (σ_19 : Mem) => bd2 (f_X3_completes 10 σ_19 28 0 0) (fun (r_20 : Int32) (σ_21 : Mem) => (if r_20 = 0 then nm (i_14 + 1) (fun (x_22 : Int32) => k_16 x_22 σ_21) else some σ_21))))))) 0 τ = some υ := by
    intro τ h1 h2 e
    refine fx2_fin (fun n => zI n) (fun _ υ => υ = τ) Fin 0 (by omega) (fun k υ w => ?_) (fun n hn => absurd hn (by omega)) 0 (by omega) rfl τ rfl
    have w : υ = τ := w
    subst w
    rw [jn0_e, if_neg (by decide), if_pos rfl, pnm_e]
    refine ⟨_, ⟨fun a x1 x2 x3 x4 => by rw [sI_o _ _ _ _ x1, h1 a x1 x2 x3 x4], by rw [sI_2, h2], ?_, fun L hL => by rw [e] at hL; cases hL⟩, rfl⟩
    rw [sI_1, if_pos ⟨rfl, rfl⟩, fwV, e]; rfl
  unfold f_X3_search
  have hh := fx2_inv (F := fun k_3 (i_1 : Int32) (σ_2 : Mem) => rfc (σ_2.2.2 28 0) (fun (T_4 : Nat) => bd1 (f_X11_wishes σ_2 T_4) (fun (r_5 : Int32) => (if r_5 ≤ i_1 then bd2 (f_X3_listCandidates σ_2 28) (fun (r_6 : Int32) (σ_7 : Mem) => bd1 (f_X9_wishesHeld σ_7 28) (fun (r_8 : Int32) => nm (r_6 ||| r_8) (fun (x_9 : Int32) => rfc (σ_7.2.2 28 0) (fun (T_10 : Nat) => bd1 (f_X11_wishes σ_7 T_10) (fun (r_11 : Int32) => jn1 (fun (i_12 : Int32) => fx2 FU (fun k_16 (i_14 : Int32) (σ_15 : Mem) => jn0 (nm (sI σ_15 51 4 (-2)) (fun (σ_18 : Mem) => some σ_18)) (fun k_17 => (if 3 < i_14 then k_17 else (if i_12 = 0 then k_17 else nm (sI σ_15 51 4 i_14) (fun (σ_19 : Mem) => bd2 (f_X3_completes 10 σ_19 28 0 0) (fun (r_20 : Int32) (σ_21 : Mem) => (if r_20 = 0 then nm (i_14 + 1) (fun (x_22 : Int32) => k_16 x_22 σ_21) else some σ_21))))))) 0 σ_7) (fun k_13 => (if x_9 = ((1 <<< (r_11 &&& 31)) - 1) then k_13 1 else k_13 0))))))) else rfc (σ_2.2.2 28 0) (fun (T_24 : Nat) => bd1 (f_X12_get σ_2 (T_24 + 8) i_1) (fun (r_25 : Int32) => rfc (σ_2.2.2 28 0) (fun (T_26 : Nat) => bd1 (f_X12_get σ_2 (T_26 + 9) i_1) (fun (r_27 : Int32) => bd1 (f_X9_latestVisit σ_2 28 r_25 r_27) (fun (r_28 : Int32) => bd1 (f_X12_set σ_2 (51 + 2) i_1 r_28) (fun (σ_29 : Mem) => nm (i_1 + 1) (fun (x_30 : Int32) => k_3 x_30 σ_29))))))))))) (fun w => zI w) (fun n τ => (∀ a, a ≠ 53 → τ.1 a = σ.1 a) ∧ τ.2 = σ.2 ∧ ∀ w, w < n → τ.1 53 w = zI (la s (t.wp w) (t.wd w))) (fun τ => bd2 (f_X3_listCandidates τ 28) (fun (r_6 : Int32) (σ_7 : Mem) => bd1 (f_X9_wishesHeld σ_7 28) (fun (r_8 : Int32) => nm (r_6 ||| r_8) (fun (x_9 : Int32) => rfc (σ_7.2.2 28 0) (fun (T_10 : Nat) => bd1 (f_X11_wishes σ_7 T_10) (fun (r_11 : Int32) => jn1 (fun (i_12 : Int32) => fx2 FU (fun k_16 (i_14 : Int32) (σ_15 : Mem) => jn0 (nm (sI σ_15 51 4 (-2)) (fun (σ_18 : Mem) => some σ_18)) (fun k_17 => (if 3 < i_14 then k_17 else (if i_12 = 0 then k_17 else nm (sI σ_15 51 4 i_14) (fun (σ_19 : Mem) => bd2 (f_X3_completes 10 σ_19 28 0 0) (fun (r_20 : Int32) (σ_21 : Mem) => (if r_20 = 0 then nm (i_14 + 1) (fun (x_22 : Int32) => k_16 x_22 σ_21) else some σ_21))))))) 0 σ_7) (fun k_13 => (if x_9 = ((1 <<< (r_11 &&& 31)) - 1) then k_13 1 else k_13 0)))))))) t.W (by omega) ?_ ?_ 0 (by omega) (x := 0) rfl σ ⟨fun a _ => rfl, rfl, fun w hw => absurd hw (by omega)⟩
  · obtain ⟨τ, ⟨w1, w2, w3⟩, w4⟩ := hh
    obtain ⟨g1, g2⟩ := hq τ (fun a x1 x2 x3 x4 => w1 a x3) w2
    obtain ⟨τ1, e1, e2, e3, e4⟩ := c_cands hc.tb hc.sb g1 g2 w3
    have y1 : ∀ a, a ≠ 51 → a ≠ 52 → a ≠ 53 → a ≠ 54 → τ1.1 a = σ.1 a := fun a x1 x2 x3 x4 => by rw [e2 a x1 x2, w1 a x3]
    have y2 : τ1.2 = σ.2 := by rw [e3, w2]
    obtain ⟨q1, q2⟩ := hq τ1 y1 y2
    have hp2 : 2 ^ t.W ≤ 32 := Nat.pow_le_pow_right (by omega) hW
    have hbb := bits_256 (fun w => alwq t (t.ch ++ s.sk) s 300 w || hl t (t.ch ++ s.sk) s w) (show t.W ≤ 8 by omega)
    have fin : ∀ υ, Fin υ → Ev σ υ ∧ υ.1 51 4 = zI (fwV t (t.ch ++ s.sk) s) ∧ ∀ L, fwS t (t.ch ++ s.sk) s 4 = some L → L.length ≤ 3 ∧ RowL (υ.1 54) 0 L := fun υ ⟨u1, u2, u3, u4⟩ => ⟨Ev.of (fun a h => u1 a (by omega) (by omega) (by omega) (by omega)) (fun a h => by rw [u2]) (by rw [u2]) (u1 0 (by omega) (by omega) (by omega) (by omega)) (u1 1 (by omega) (by omega) (by omega) (by omega)) (fun j _ => by rw [u1 64 (by omega) (by omega) (by omega) (by omega)]), u3, u4⟩
    have hM2 : 2 ^ t.W - 1 ≤ 31 := Nat.sub_le_sub_right hp2 1
    obtain ⟨M, hM⟩ : ∃ M, M = 2 ^ t.W - 1 := ⟨_, rfl⟩
    rw [← hM] at hM2
    by_cases hope : bits (fun w => alwq t (t.ch ++ s.sk) s 300 w || hl t (t.ch ++ s.sk) s w) t.W = M
    · obtain ⟨υ, u, u5⟩ := rounds τ1 y1 y2 (fun w hw => by rw [e2 53 (by omega) (by omega)]; exact w3 w hw) e4
      refine ⟨υ, ?_, fin υ u⟩
      rw [w4, e1, pbd2_s, c_held q1 q2 hc.tb hc.sb, pbd1_s, pnm_e, zI_or, bits_orq, q1.town, prfc_s, ct_wishes q2, pbd1_s, jn1_e, shl_less (by omega), ← hM, if_pos (by rw [hope])]
      exact u5
    · have hno : fwS t (t.ch ++ s.sk) s 4 = none := fwS_none (fun n _ => by
        cases e : firstS t (t.ch ++ s.sk) s n [] 0 with
        | none => rfl
        | some L =>
          have hall : bits (fun w => alwq t (t.ch ++ s.sk) s 300 w || hl t (t.ch ++ s.sk) s w) t.W = 2 ^ t.W - 1 := (bits_all _ _).2 (exF_f (fun w _ hw => by
            show (!(alwq t (t.ch ++ s.sk) s 300 w || hl t (t.ch ++ s.sk) s w)) = false
            rw [hope_of e hw]; rfl))
          exact absurd (hall.trans hM.symm) hope) 4 (by omega)
      obtain ⟨υ, u, u5⟩ := lost τ1 y1 y2 hno
      refine ⟨υ, ?_, fin υ u⟩
      rw [w4, e1, pbd2_s, c_held q1 q2 hc.tb hc.sb, pbd1_s, pnm_e, zI_or, bits_orq, q1.town, prfc_s, ct_wishes q2, pbd1_s, jn1_e, shl_less (by omega), ← hM, if_neg (by rw [zI_eq (by omega) (by omega)]; omega)]
      exact u5
  · rintro k τ ⟨w1, w2, w3⟩
    obtain ⟨g1, g2⟩ := hq τ (fun a x1 x2 x3 x4 => w1 a x3) w2
    rw [g1.town, prfc_s, ct_wishes g2, pbd1_s, if_pos (by rw [zI_le (by omega) (by omega)]; omega)]
  · rintro w hw τ ⟨w1, w2, w3⟩ k
    obtain ⟨g1, g2⟩ := hq τ (fun a x1 x2 x3 x4 => w1 a x3) w2
    have hwp := tbwp hc.tb hw
    have hwd := hc.tb.wd w hw
    rw [g1.town, prfc_s, ct_wishes g2, pbd1_s, if_neg (by rw [zI_le (by omega) (by omega)]; omega), prfc_s, g_get (g2.wp w hw) (by omega) (by omega), pbd1_s, prfc_s, g_get (g2.wd w hw) (by omega) (by omega), pbd1_s, c_lat g1 (sb_5 hc.tb hc.sb) hwp hwd, pbd1_s, f_setN (by omega) (by omega), pbd1_s, pnm_e, show zI w + 1 = zI (w + 1 : Nat) from by rw [show (1 : Int32) = zI 1 from rfl, zI_add]; rfl]
    refine ⟨sI τ 53 w (zI (la s (t.wp w) (t.wd w))), ⟨fun a x => by rw [sI_o _ _ _ _ x, w1 a x], w2, fun v hv => ?_⟩, rfl⟩
    rw [sI_1]
    by_cases q : v = w
    · rw [if_pos ⟨rfl, q⟩, q]
    · rw [if_neg (fun z => q z.2)]; exact w3 v (by omega)
theorem m_seekV {σ : Mem} {T : Nat} {t : TT} {s : SS} (hc : RC σ T t s) : ∃ τ, f_X13_seekVisits σ = some (zI (fwV t (t.ch ++ s.sk) s), τ) ∧ Ev σ τ ∧ ∀ L, fwS t (t.ch ++ s.sk) s 4 = some L → L.length ≤ 3 ∧ RowL (τ.1 75) 0 L := by
  have a74 : aln 74 = 3 := rfl
  have a75 : aln 75 = 3 := rfl
  have hu := m_unmet (pre := []) hc.mc (PV.nil t s)
  unfold f_X13_seekVisits
  rw [hu, pbd1_s]
  have hh := fx2_fin (F := fun k_4 (i_2 : Int32) (σ_3 : Mem) => (if 3 < i_2 then some ((-2), σ_3) else bd2 (f_X13_tryVisits 10 σ_3 0 i_2 0 (zI (bits (um t (t.ch ++ s.sk) s []) 5))) (fun (r_5 : Int32) (σ_6 : Mem) => (if r_5 = 0 then nm (i_2 + 1) (fun (x_8 : Int32) => k_4 x_8 σ_6) else bd1 (f_X13_copy σ_6 74 0 75 0 i_2) (fun (σ_7 : Mem) => some (i_2, σ_7)))))) (fun n => zI n) (fun n υ => (∀ a, a ≠ 74 → υ.1 a = σ.1 a) ∧ υ.2 = σ.2 ∧ (∀ m, m < n → firstS t (t.ch ++ s.sk) s m [] 0 = none) ∧ fwS t (t.ch ++ s.sk) s 4 = fwS t (t.ch ++ s.sk) s (4 - n)) (fun υ => υ.1 = zI (fwV t (t.ch ++ s.sk) s) ∧ (∀ a, a ≠ 74 → a ≠ 75 → υ.2.1 a = σ.1 a) ∧ υ.2.2 = σ.2 ∧ ∀ L, fwS t (t.ch ++ s.sk) s 4 = some L → L.length ≤ 3 ∧ RowL (υ.2.1 75) 0 L) 4 (by omega) ?_ ?_ 0 (by omega) (x := 0) rfl σ ⟨fun a _ => rfl, rfl, fun m hm => absurd hm (by omega), rfl⟩
  · obtain ⟨υ, ⟨w1, w2, w3, w4⟩, w5⟩ := hh
    refine ⟨υ.2, by rw [w5, ← w1], Ev.of (fun a h => w2 a (by omega) (by omega)) (fun a h => by rw [w3]) (by rw [w3]) (w2 0 (by omega) (by omega)) (w2 1 (by omega) (by omega)) (fun j _ => by rw [w2 64 (by omega) (by omega)]), w4⟩
  · rintro k υ ⟨w1, w2, w4, w5⟩
    have e : fwS t (t.ch ++ s.sk) s 4 = none := w5
    refine ⟨(-2, υ), ⟨by unfold fwV; rw [e]; rfl, fun a x1 x2 => w1 a x1, w2, fun L hL => by rw [e] at hL; cases hL⟩, ?_⟩
    rw [if_pos (by decide)]
  · rintro n hn υ ⟨w1, w2, w4, w5⟩ k
    have hst := fwS_s t (t.ch ++ s.sk) s (n := n) (by omega)
    have hM : MC υ t (vsL s []) := hc.mc.of (w1 67 (by omega)) (w1 69 (by omega)) (by rw [w1 64 (by omega)]) (by rw [w1 64 (by omega)])
    obtain ⟨ω, e1, e2, e3, e4, e5⟩ := m_try hc.tb hc.sb n [] 0 υ 10 hM (PV.nil t s) (by rw [List.length_nil, Nat.zero_add]; exact min_of w4) (by omega) (by rw [List.length_nil]; omega) (by omega)
    have e1' : f_X13_tryVisits 10 υ 0 (zI n) 0 (zI (bits (um t (t.ch ++ s.sk) s []) 5)) = some (bI (firstS t (t.ch ++ s.sk) s n [] 0).isSome, ω) := by
      rw [← e1, List.length_nil, Nat.zero_add]; rfl
    rw [if_neg (by rw [show (3 : Int32) = zI 3 from rfl, zI_lt (by omega) (by omega)]; omega), e1', pbd2_s]
    cases hf : firstS t (t.ch ++ s.sk) s n [] 0 with
    | none =>
      right
      rw [hf] at hst
      rw [if_pos (by rfl), pnm_e, show zI n + 1 = zI (n + 1 : Nat) from by rw [show (1 : Int32) = zI 1 from rfl, zI_add]; rfl]
      refine ⟨ω, ⟨fun a x => by rw [e2 a x, w1 a x], by rw [e3, w2], fun m hm => ?_, by rw [w5, hst]⟩, rfl⟩
      rcases Nat.lt_or_ge m n with q | q
      · exact w4 m q
      · rw [show m = n from by omega]; exact hf
    | some L =>
      left
      rw [hf] at hst
      have hfw : fwS t (t.ch ++ s.sk) s 4 = some L := by rw [w5, hst]
      have hL := (firstS_ok hf).1
      have hcp := m_copy (σ := ω) (a := 74) (b := 75) (x := 0) (y := 0) (n := n) (by omega) (by omega) (by omega) (by omega) (by omega)
      have hcp' : f_X13_copy ω 74 0 75 0 (zI n) = _ := hcp
      rw [show bI (some L).isSome = bI true from rfl, if_neg (show ¬ bI true = 0 by decide), hcp', pbd1_s]
      refine ⟨_, ⟨by unfold fwV; rw [hfw, ← hL], fun a x1 x2 => by rw [sA_o _ _ _ x2, e2 a x1, w1 a x1], by rw [sA_2, e3, w2], fun M hM => ?_⟩, rfl⟩
      rw [hfw] at hM
      have := Option.some.inj hM
      subst this
      refine ⟨by omega, fun i c hc => ?_⟩
      have hi : i < L.length := by
        rcases Nat.lt_or_ge i L.length with q | q
        · exact q
        · rw [List.getElem?_eq_none q] at hc; cases hc
      show (sA ω 75 _).1 75 (0 + i) = zI c
      rw [sA_at, Nat.zero_add, va_0 (by omega)]
      have := e5 L hf i c hc
      rw [List.length_nil, Nat.zero_add] at this
      exact this
theorem rel_fewest (σ : Mem) (h : RLq σ) : ∃ r σ1 σ2, f_X12_fewest σ = some (r, σ1) ∧ f_X13_fewest σ1 = some (r, σ2) ∧ RLq σ2 := by
  unfold f_X12_fewest f_X13_fewest
  refine rel_tE (fun t s => zI (fwV t (t.ch ++ s.sk) s)) (fun σ T t s hc hp => ⟨?_, ?_⟩) h
  · obtain ⟨τ, e1, e2, e3, e4⟩ := c_search hc
    exact ⟨τ, by rw [e1, pbd1_s, e3], e2⟩
  · obtain ⟨τ, e1, e2, e3⟩ := m_seekV hc
    exact ⟨τ, by rw [e1, pbd2_s], e2⟩
theorem fwV_e {t : TT} {E : List (Nat × Nat × Nat × Nat)} {s : SS} : (fwS t E s 4 = none ∧ fwV t E s = -2) ∨ ∃ L, fwS t E s 4 = some L ∧ fwV t E s = L.length := by
  unfold fwV
  cases e : fwS t E s 4 with
  | none => exact Or.inl ⟨rfl, rfl⟩
  | some L => exact Or.inr ⟨L, rfl, rfl⟩
theorem rel_fewestAt (σ : Mem) (h : RLq σ) (x : Int32) : ∃ r σ1 σ2, f_X12_fewestAt σ x = some (r, σ1) ∧ f_X13_fewestAt σ1 x = some (r, σ2) ∧ RLq σ2 := by
  obtain ⟨T, t, s, hc, ht, hp⟩ := h
  have ha := zI_rng x
  have a54 : aln (51 + 3) = 3 := rfl
  have a75 : aln 75 = 3 := rfl
  rw [zI_all x]
  generalize x.toInt = a at ha
  unfold f_X12_fewestAt f_X13_fewestAt
  rw [c_ofTown hc, pbd1_s]
  simp only [m_good, pbd1_s]
  by_cases q : 0 < t.P
  · have hc0 := RC_c hc 0
    obtain ⟨τ, e1, e2, e3, e4⟩ := c_search hc0
    rw [decide_eq_false (by omega), show bI false = 0 from rfl, refu_0, pbd2_s, if_pos rfl, e1, pbd1_s, jn1_e, e3]
    have hfin : ∀ v : Int32, v ≠ zI 4 → RC (gd (sI τ 0 13 v)) T t s ∧ Eqv σ (gd (sI τ 0 13 v)) := by
      intro v _
      have g : Eqv σ (gd (sI τ 0 13 v)) := gd_e ((((Eqv.rfl' σ).sI 0 13 0 rfl).trans e2.e).sI 0 13 v rfl)
      exact ⟨hc.eqv g, g⟩
    rcases fwV_e (t := t) (E := t.ch ++ s.sk) (s := s) with ⟨f1, f2⟩ | ⟨L, f1, f2⟩
    · obtain ⟨hc2, g2⟩ := hfin 6 (by decide)
      obtain ⟨υ, u1, u2, u3⟩ := m_seekV hc2
      rw [f2, if_neg (by decide)]
      dsimp only
      rw [show f_X12_refused τ 6 = some (1, sI τ 0 13 6) from rfl, pbd2_s, if_neg (by decide)]
      refine ⟨_, _, sI υ 64 11 6, rfl, ?_, RL_of hc ((g2.trans u2.e).sI 64 11 6 rfl) 6 ?_ ?_ (by decide)⟩
      · rw [if_neg (by rw [hc2.has, decide_eq_true q]; decide), u1, pbd2_s, f2, if_neg (by decide), m_no]; rfl
      · rw [sI_o _ _ _ _ (by decide), u2.a, gd_o _ (by decide), sI_1, if_pos ⟨rfl, rfl⟩]
      · rw [sI_1, if_pos ⟨rfl, rfl⟩]
    · have hL := (e4 L f1).1
      rw [f2, if_pos (by rw [show (0 : Int32) = zI 0 from rfl, zI_le (by omega) (by omega)]; omega), f_inside _ _ ha (by omega), pbd1_s]
      by_cases q2 : 0 ≤ a ∧ a < (L.length : Int)
      · obtain ⟨i, rfl⟩ : ∃ i : Nat, a = i := ⟨a.toNat, by omega⟩
        obtain ⟨c, hci, -⟩ := get_some L (show i < L.length by omega)
        obtain ⟨hc2, g2⟩ := hfin 0 (by decide)
        obtain ⟨υ, u1, u2, u3⟩ := m_seekV hc2
        have r1 := (e4 L f1).2 i c hci
        have r2 := (u3 L f1).2 i c hci
        rw [Nat.zero_add] at r1 r2
        rw [decide_eq_true q2, if_neg (by decide)]
        dsimp only
        rw [show f_X12_refused τ 0 = some (0, sI τ 0 13 0) from rfl, pbd2_s, if_pos rfl, g_get (a := 51 + 3) (v := zI c) (by rw [sI_o _ _ _ _ (by decide)]; exact r1) (by omega) (by omega), pbd1_s]
        refine ⟨_, _, υ, rfl, ?_, RL_of hc (g2.trans u2.e) 0 ?_ ?_ (by decide)⟩
        · rw [if_neg (by rw [hc2.has, decide_eq_true q]; decide), u1, pbd2_s, f2, if_pos (by rw [show (0 : Int32) = zI 0 from rfl, zI_le (by omega) (by omega)]; omega), show (0 : Int32) = zI 0 from rfl, show (1 : Int32) = zI 1 from rfl, zI_sub, f_in _ _ _ ha (by omega) (by omega), decide_eq_true (by omega), pbd1_s, if_neg (by decide), ixd_in (by omega), zI_nat (by omega), show (i : Int).toNat = i from by omega, r2]
        · rw [u2.a, gd_o _ (by decide), sI_1, if_pos ⟨rfl, rfl⟩]
        · rw [u2.b, gd_11]
      · obtain ⟨hc2, g2⟩ := hfin 1 (by decide)
        obtain ⟨υ, u1, u2, u3⟩ := m_seekV hc2
        rw [decide_eq_false q2, if_pos (by rfl)]
        dsimp only
        rw [show f_X12_refused τ 1 = some (1, sI τ 0 13 1) from rfl, pbd2_s, if_neg (by decide)]
        refine ⟨_, _, sI υ 64 11 1, rfl, ?_, RL_of hc ((g2.trans u2.e).sI 64 11 1 rfl) 1 ?_ ?_ (by decide)⟩
        · rw [if_neg (by rw [hc2.has, decide_eq_true q]; decide), u1, pbd2_s, f2, if_pos (by rw [show (0 : Int32) = zI 0 from rfl, zI_le (by omega) (by omega)]; omega), show zI (L.length : Int) - 1 = zI ((L.length : Int) - 1) from by rw [show (1 : Int32) = zI 1 from rfl, zI_sub], show (0 : Int32) = zI 0 from rfl, f_in _ _ _ ha (by omega) (by omega), decide_eq_false (by omega), pbd1_s, if_pos (by rfl), m_no]; rfl
        · rw [sI_o _ _ _ _ (by decide), u2.a, gd_o _ (by decide), sI_1, if_pos ⟨rfl, rfl⟩]
        · rw [sI_1, if_pos ⟨rfl, rfl⟩]
  · have hc2 := RC_m hc 1
    rw [decide_eq_true (by omega), show bI true = 1 from rfl, refu_1, pbd2_s, if_neg (by decide)]
    refine ⟨_, _, _, rfl, ?_, RL_no hc 1 (by decide)⟩
    rw [if_pos (by rw [hc2.has, decide_eq_false q]; rfl), m_no]
    rfl
