/-- how many lines of a sort there are, and may be -/
def cntT (t : TT) (s : Nat) : Nat := if s = 0 then (if 0 < t.ms then 1 else 0) else if s = 1 then t.P else if s = 2 then t.ch.length else if s = 3 then t.V else if s = 4 then t.W else if s = 5 then t.A else t.S
def romT (s : Nat) : Nat := if s = 0 then 1 else if s = 1 then 5 else if s = 2 then 10 else if s = 3 then 10 else if s = 4 then 5 else if s = 5 then 8 else 5
/-- what a line tells behind its first word -/
noncomputable def pBhd (b : Nat → Nat) (n : Nat) (t : TT) (N : Nat → Nat × (Nat → Nat)) (s i : Nat) : LR := if s = 0 then pTown b n t N i else if s = 1 then pPer b n t N i else if s = 2 then pChg b n t N i else if s = 3 then pVis b n t N i else if s = 4 then pWish b n t N i else if s = 5 then pAsk b n t N i else pStar b n t N i
noncomputable def pLine (b : Nat → Nat) (n : Nat) (t : TT) (N : Nat → Nat × (Nat → Nat)) (i : Nat) : LR := if lin b n i = 7 then .inl (1, tpl b n i) else if lin b n i ≠ 0 ∧ t.ms = 0 then .inl (6, tpl b n i) else if romT (lin b n i) ≤ cntT t (lin b n i) then .inl (if lin b n i = 0 then 3 else 5, tpl b n i) else pBhd b n t N (lin b n i) (ten b n i)
/-- the class's answer to a line -/
def cN (σ : Mem) (T : Nat) (b : Nat → Nat) (n : Nat) (r : LR) (o : Option (Int32 × Mem)) : Prop :=
  (∀ f p, r = Sum.inl (f, p) → ∃ τ, o = some (0, τ) ∧ FrW T σ τ ∧ τ.1 27 4 = zI f ∧ τ.1 27 3 = zI p) ∧
  (∀ x j, r = Sum.inr (x, j) → ∃ τ, o = some (1, τ) ∧ FrW T σ τ ∧ CTk τ b n j ∧ τ.1 27 4 = σ.1 27 4 ∧ CTI τ T x.1 x.2)
theorem cN_fr {σ τ : Mem} {T : Nat} {b : Nat → Nat} {n : Nat} {r : LR} {o : Option (Int32 × Mem)} (f : FrW T σ τ) (e : τ.1 27 4 = σ.1 27 4) (h : cN τ T b n r o) : cN σ T b n r o := by
  refine ⟨fun f' p' q => ?_, fun x j q => ?_⟩
  · obtain ⟨υ, u1, u2, u3⟩ := h.1 f' p' q
    exact ⟨υ, u1, f.trans u2, u3⟩
  · obtain ⟨υ, u1, u2, u3, u4, u5⟩ := h.2 x j q
    exact ⟨υ, u1, f.trans u2, u3, u4.trans e, u5⟩
theorem cN_fail {σ : Mem} {T : Nat} {b : Nat → Nat} {n f p : Nat} (e : σ.1 27 3 = zI p) : cN σ T b n (.inl (f, p)) (bd2 (f_X6_fail σ (zI f)) (fun (r_6 : Int32) (σ_7 : Mem) => zrm r_6 σ_7)) := by
  refine ⟨fun f' p' q => ?_, fun x j q => by cases q⟩
  cases q
  exact ⟨sI σ 27 4 (zI f), rfl, ((FrC.refl σ).s7 _ _ (by omega)).toW T, by rw [sI_1, if_pos ⟨rfl, rfl⟩], by rw [sI_1, if_neg (by omega)]; exact e⟩
theorem c_cOn {σ : Mem} {T s : Nat} (hT : T = 3 ∨ T = 15) (hs : s < 7) : f_X11_countOn σ T s = some (sI σ (T + 1) s (σ.1 (T + 1) s + 1)) := by
  have aa := ct_aln hT
  have e : lnNum.getD s 0 = zI (s : Nat) := by
    have : s = 0 ∨ s = 1 ∨ s = 2 ∨ s = 3 ∨ s = 4 ∨ s = 5 ∨ s = 6 := by omega
    rcases this with rfl | rfl | rfl | rfl | rfl | rfl | rfl <;> rfl
  unfold f_X11_countOn f_X11_count
  rw [e, g_get rfl (by omega) (by omega), pbd1_s, pbd1_s, f_setN (by omega) (by omega), pbd1_s]
theorem c_cnt {σ : Mem} {T s : Nat} {t : TT} {N : Nat → Nat × (Nat → Nat)} (h : CTI σ T t N) (hs : s < 7) : f_X11_count σ T s = some (zI (cntT t s : Nat)) := by
  have aa := ct_aln h.ct.at_
  unfold f_X11_count
  have : s = 0 ∨ s = 1 ∨ s = 2 ∨ s = 3 ∨ s = 4 ∨ s = 5 ∨ s = 6 := by omega
  rcases this with rfl | rfl | rfl | rfl | rfl | rfl | rfl
  · have e : σ.1 (T + 1) 0 = zI (cntT t 0 : Nat) := by
      rw [h.c0]
      show bI (decide (0 < t.ms)) = zI ((if 0 < t.ms then 1 else 0 : Nat) : Int)
      by_cases w : 0 < t.ms
      · rw [decide_eq_true w, if_pos w]; rfl
      · rw [decide_eq_false w, if_neg w]; rfl
    rw [show lnNum.getD 0 0 = zI (0 : Nat) from rfl, g_get e (by omega) (by omega)]; rfl
  · rw [show lnNum.getD 1 0 = zI (1 : Nat) from rfl, g_get h.ct.P (by omega) (by omega)]; rfl
  · rw [show lnNum.getD 2 0 = zI (2 : Nat) from rfl, g_get h.ct.C (by omega) (by omega)]; rfl
  · rw [show lnNum.getD 3 0 = zI (3 : Nat) from rfl, g_get h.ct.V (by omega) (by omega)]; rfl
  · rw [show lnNum.getD 4 0 = zI (4 : Nat) from rfl, g_get h.ct.W (by omega) (by omega)]; rfl
  · rw [show lnNum.getD 5 0 = zI (5 : Nat) from rfl, g_get h.ct.A (by omega) (by omega)]; rfl
  · rw [show lnNum.getD 6 0 = zI (6 : Nat) from rfl, g_get h.ct.S (by omega) (by omega)]; rfl
theorem c_tail {σ : Mem} {T : Nat} {b : Nat → Nat} {n s : Nat} {r : LR} {o : Option (Int32 × Mem)} (hs : s < 7) (hT : T = 3 ∨ T = 15) (ht : σ.2.2 27 1 = some T) (h : cL σ T b n s r o) : cN σ T b n r (bd2 o (fun (i_12 : Int32) (σ_13 : Mem) => (if i_12 = 0 then zrm i_12 σ_13 else rfc (σ_13.2.2 27 1) (fun (T_15 : Nat) => bd1 (f_X11_countOn σ_13 T_15 s) (fun (σ_16 : Mem) => zrm i_12 σ_16))))) := by
  refine ⟨fun f p e => ?_, fun x j e => ?_⟩
  · obtain ⟨τ, t1, t2, t3⟩ := h.1 f p e
    exact ⟨τ, by rw [t1, pbd2_s, if_pos rfl]; rfl, t2, t3⟩
  · obtain ⟨τ, t1, t2, t3, t4, t5⟩ := h.2 x j e
    refine ⟨sI τ (T + 1) s (τ.1 (T + 1) s + 1), ?_, t2.sT _ _ _ (by omega), t3.sT hT _ _ _ (by omega), by rw [sI_1, if_neg (by omega)]; exact t4, t5⟩
    rw [t1, pbd2_s, if_neg (by decide), t2.2.2, ht, prfc_s, c_cOn hT hs, pbd1_s]; rfl
theorem cnt_b {t : TT} (ti : TI t) {s : Nat} (hs : s < 7) : cntT t s ≤ 10 := by
  have b := ti.tb
  have h1 := b.P
  have h2 := b.C
  have h3 := b.V
  have h4 := b.W
  have h5 := b.A
  have h6 := b.S
  unfold cntT
  repeat' split
  all_goals omega
theorem cn_line {σ : Mem} {T : Nat} {b : Nat → Nat} {n i : Nat} {t : TT} {N : Nat → Nat × (Nat → Nat)} (h : CTI σ T t N) (ti : TI t) (hc : TKc σ b n) (hi : i ≤ n) (ht : CTk σ b n i) : cN σ T b n (pLine b n t N i) (f_X6_line σ) := by
  have at_ := h.ct.at_
  unfold f_X6_line
  rw [pnm_e]
  have ht1 := ht.s7 3 (σ.1 1 4)
  have f1 : FrC σ (sI σ 27 3 (σ.1 1 4)) := (FrC.refl σ).s7 _ _ (by omega)
  have h1 := h.fc f1
  have hc1 := hc.fc f1
  have s1 : (sI σ 27 3 (σ.1 1 4)).1 27 3 = zI (tpl b n i) := by rw [sI_1, if_pos ⟨rfl, rfl⟩]; exact ht.at_
  have q1 : (sI σ 27 3 (σ.1 1 4)).1 27 4 = σ.1 27 4 := by rw [sI_1, if_neg (by omega)]
  refine cN_fr (f1.toW T) q1 ?_
  revert ht1 f1 hc1 s1 q1 h1
  generalize sI σ 27 3 (σ.1 1 4) = σ1
  intro ht1 f1 h1 hc1 s1 q1
  rw [c_line hc1 hi ht1, pbd1_s]
  unfold pLine
  have l7 : lin b n i ≤ 7 := sc_le _ (by omega)
  by_cases l : lin b n i = 7
  · rw [if_neg (show ¬ (lin b n i < 7) from by omega), onm_nn, if_pos l]
    exact cN_fail s1
  rw [if_pos (show lin b n i < 7 from by omega), onm_sm, if_neg l, jn0_e]
  have rest : ∀ s, s < 7 → s = lin b n i → (s ≠ 0 → t.ms ≠ 0) → cN σ1 T b n (if romT s ≤ cntT t s then .inl (if s = 0 then 3 else 5, tpl b n i) else pBhd b n t N s (ten b n i)) (rfc (σ1.2.2 27 1) (fun (T_7 : Nat) => bd1 (f_X11_count σ1 T_7 s) (fun (r_8 : Int32) => (if r_8 < (lnRoom.getD s 0) then bd1 (f_X10_step σ1) (fun (σ_9 : Mem) => bd1 (f_Jx29ce0_ordinal_8abf5 s) (fun (r_10 : Int32) => ixd r_10 7 (nm (swl.getD r_10.toNatClampNeg 0) (fun (x_11 : Int32) => jn2 (fun (i_12 : Int32) (σ_13 : Mem) => (if i_12 = 0 then zrm i_12 σ_13 else rfc (σ_13.2.2 27 1) (fun (T_15 : Nat) => bd1 (f_X11_countOn σ_13 T_15 s) (fun (σ_16 : Mem) => zrm i_12 σ_16)))) (fun k_14 => (if x_11 = 1 then bd2 (f_X6_townLine σ_9) (fun (r_29 : Int32) (σ_30 : Mem) => k_14 r_29 σ_30) else (if x_11 = 2 then bd2 (f_X6_personLine σ_9) (fun (r_27 : Int32) (σ_28 : Mem) => k_14 r_27 σ_28) else (if x_11 = 3 then bd2 (f_X6_changeLine σ_9) (fun (r_25 : Int32) (σ_26 : Mem) => k_14 r_25 σ_26) else (if x_11 = 4 then bd2 (f_X6_visitLine σ_9) (fun (r_23 : Int32) (σ_24 : Mem) => k_14 r_23 σ_24) else (if x_11 = 5 then bd2 (f_X6_wishLine σ_9) (fun (r_21 : Int32) (σ_22 : Mem) => k_14 r_21 σ_22) else (if x_11 = 6 then bd2 (f_X6_asksLine σ_9) (fun (r_19 : Int32) (σ_20 : Mem) => k_14 r_19 σ_20) else bd2 (f_X6_stareLine σ_9) (fun (r_17 : Int32) (σ_18 : Mem) => k_14 r_17 σ_18)))))))))))) else (if s = 0 then bd2 (f_X6_fail σ1 3) (fun (r_33 : Int32) (σ_34 : Mem) => zrm r_33 σ_34) else bd2 (f_X6_fail σ1 5) (fun (r_31 : Int32) (σ_32 : Mem) => zrm r_31 σ_32)))))) := by
    intro s hs hl hm
    have cb := cnt_b ti hs
    have rm : lnRoom.getD s 0 = zI (romT s : Nat) ∧ romT s ≤ 10 ∧ f_Jx29ce0_ordinal_8abf5 s = some (zI (s : Nat)) ∧ swl.getD s 0 = zI ((s + 1) % 7 : Nat) := by
      have : s = 0 ∨ s = 1 ∨ s = 2 ∨ s = 3 ∨ s = 4 ∨ s = 5 ∨ s = 6 := by omega
      rcases this with rfl | rfl | rfl | rfl | rfl | rfl | rfl <;> exact ⟨rfl, by decide, rfl, rfl⟩
    rw [h1.town, prfc_s, c_cnt h1 hs, pbd1_s, rm.1]
    by_cases c : romT s ≤ cntT t s
    · rw [if_pos c, if_neg (show ¬ (zI (cntT t s : Nat) < zI (romT s : Nat)) from by rw [zI_lt (by omega) (by omega)]; omega)]
      by_cases z : s = 0
      · rw [if_pos z, if_pos z]; exact cN_fail s1
      · rw [if_neg z, if_neg z]; exact cN_fail s1
    · obtain ⟨υ, u1, u2, u3, u4, u5⟩ := c_step hc1 ten_le ht1.end_
      have hcu := hc1.fc u2.toC
      have hu := h1.fc u2.toC
      have htu : CTk υ b n (ten b n i) := ⟨u4, u3, u5⟩
      rw [if_neg c, if_pos (show zI (cntT t s : Nat) < zI (romT s : Nat) from by rw [zI_lt (by omega) (by omega)]; omega), u1, pbd1_s, rm.2.2.1, pbd1_s, ixd_in (by omega), pnm_e, tnI _ (by omega), rm.2.2.2, jn2_e]
      dsimp only
      refine cN_fr (u2.toC.toW T) (by rw [u2.1 _ _ (by omega)]) ?_
      have : s = 0 ∨ s = 1 ∨ s = 2 ∨ s = 3 ∨ s = 4 ∨ s = 5 ∨ s = 6 := by omega
      rcases this with rfl | rfl | rfl | rfl | rfl | rfl | rfl
      · have m0 : t.ms = 0 := by
          have : ¬ (1 ≤ if 0 < t.ms then 1 else 0) := c
          by_cases w : 0 < t.ms
          · rw [if_pos w] at this; omega
          · omega
        exact c_tail (by omega) at_ hu.town (cl_Town hu hcu ten_le htu m0)
      · have c : ¬ 5 ≤ t.P := c
        exact c_tail (by omega) at_ hu.town (cl_Per hu ti (by omega) hcu ten_le htu)
      · exact c_tail (by omega) at_ hu.town (cl_Chg hu ti hcu ten_le htu)
      · exact c_tail (by omega) at_ hu.town (cl_Vis hu ti hcu ten_le htu)
      · have c : ¬ 5 ≤ t.W := c
        exact c_tail (by omega) at_ hu.town (cl_Wish hu ti (by omega) hcu ten_le htu)
      · exact c_tail (by omega) at_ hu.town (cl_Ask hu ti hcu ten_le htu)
      · exact c_tail (by omega) at_ hu.town (cl_Star hu ti hcu ten_le htu)
  by_cases l0 : lin b n i = 0
  · have hr := rest _ (by omega) rfl (fun c => absurd l0 c)
    rw [if_neg (show ¬ (lin b n i ≠ 0 ∧ t.ms = 0) from fun c => c.1 l0)]
    revert hr
    generalize (if romT (lin b n i) ≤ cntT t (lin b n i) then (Sum.inl (if lin b n i = 0 then 3 else 5, tpl b n i) : LR) else pBhd b n t N (lin b n i) (ten b n i)) = R
    intro hr
    rw [if_pos l0]
    exact hr
  · by_cases m0 : t.ms = 0
    · rw [if_pos (show lin b n i ≠ 0 ∧ t.ms = 0 from ⟨l0, m0⟩), if_neg l0, h1.town, prfc_s, c_cnt h1 (by omega), pbd1_s, if_pos (show zI (cntT t 0 : Nat) = 0 from by
        show zI ((if 0 < t.ms then 1 else 0 : Nat) : Int) = 0
        rw [if_neg (by omega)]; rfl)]
      exact cN_fail s1
    · have hr := rest _ (by omega) rfl (fun _ => m0)
      rw [if_neg (show ¬ (lin b n i ≠ 0 ∧ t.ms = 0) from fun c => m0 c.2)]
      revert hr
      generalize (if romT (lin b n i) ≤ cntT t (lin b n i) then (Sum.inl (if lin b n i = 0 then 3 else 5, tpl b n i) : LR) else pBhd b n t N (lin b n i) (ten b n i)) = R
      intro hr
      rw [h1.town] at hr
      rw [if_neg l0, h1.town, prfc_s, c_cnt h1 (by omega), pbd1_s, if_neg (show ¬ zI (cntT t 0 : Nat) = 0 from by
        show ¬ zI ((if 0 < t.ms then 1 else 0 : Nat) : Int) = 0
        rw [if_pos (by omega)]; decide)]
      exact hr
theorem m_beg0 {σ : Mem} {b : Nat → Nat} {n i s : Nat} (n8 : n ≤ 800) (hi : i ≤ n) (ht : MTk σ b n i) (hs : s < 19) (hf : σ.1 64 13 = 0) (h0 : isw b n i s = false) (v : Int32) : f_X13_begins σ s v = some (0, σ) := by
  unfold f_X13_begins
  rw [m_isWord n8 hi ht hs hf, pbd1_s, h0, if_pos (show bI false = 0 from rfl)]
theorem m_lv {σ : Mem} {b : Nat → Nat} {n i s : Nat} {c : Prop} [Decidable c] {K : Int32 → Mem → Option Mem} (n8 : n ≤ 800) (hi : i ≤ n) (ht : MTk σ b n i) (hs : s < 19) (hf : σ.1 64 13 = 0) (h0 : isw b n i s = false) : jn1 (fun (i_2 : Int32) => bd2 (f_X13_begins σ s i_2) K) (fun k_3 => if c then k_3 0 else k_3 1) = K 0 σ := by
  rw [jn1_e]
  dsimp only
  rw [m_beg0 n8 hi ht hs hf h0, m_beg0 n8 hi ht hs hf h0, pbd2_s, ite_self]
theorem m_lvT {σ : Mem} {b : Nat → Nat} {n i s : Nat} {t : TT} {N : Nat → Nat × (Nat → Nat)} {c : Prop} [Decidable c] {K : Int32 → Mem → Option Mem} {L : Mem → Option Mem} {r0 : LR} (h : MI σ t N) (ti : TI t) (hk : TKm σ b n) (hi : i ≤ n) (ht : MTk σ b n i) (hs : s < 19) (hf : σ.1 64 13 = 0) (h1 : isw b n i s = true) (hK : ∀ y, K 1 y = bd1 (L y) (fun (σ_2 : Mem) => some σ_2)) (hL : ∀ y, y.1 64 13 = 1 → L y = some y) (hc : t.ms = 0 → ¬ c) (hg : t.ms ≠ 0 → ¬ c → ∀ y, FrM σ y → MTk y b n (ten b n i) → y.1 64 13 = 0 → mL y b n r0 (L y)) : mL σ b n (if t.ms = 0 then .inl (6, tpl b n i) else if c then .inl (5, tpl b n i) else r0) (jn1 (fun (i_2 : Int32) => bd2 (f_X13_begins σ s i_2) K) (fun k_3 => if c then k_3 0 else k_3 1)) := by
  have tms := ti.tb.ms
  have m0 : ∀ τ : Mem, τ.1 68 = σ.1 68 → τ.1 68 (0 : Int32).toNatClampNeg = zI t.ms := fun τ e => by rw [e]; exact h.mr.ms
  have wF : ∀ f p : Nat, mL σ b n (.inl (f, p)) (bd2 (some ((1 : Int32), wr σ (zI f) (zI p))) K) := fun f p => by
    rw [pbd2_s, hK, hL _ (wr_13 _ _ _), pbd1_s]
    exact mL_w (mF_s (wr_13 _ _ _)) (FrV.refl _)
  rw [jn1_e]
  dsimp only
  by_cases cc : c
  · have ms : t.ms ≠ 0 := fun e => hc e cc
    have e : f_X13_begins σ s 0 = some (1, wr σ (zI (5 : Nat)) (zI (tpl b n i : Nat))) := by
      unfold f_X13_begins
      rw [m_isWord hk.n8 hi ht hs hf, pbd1_s, h1, if_neg (show ¬ bI true = 0 from by decide), jn1_e]
      dsimp only
      rw [if_pos (show (0 : Int32) = 0 from rfl), ht.at_, show f_X13_wrong σ 5 (zI (tpl b n i : Nat)) = some (wr σ (zI (5 : Nat)) (zI (tpl b n i : Nat))) from m_wrong hf _ _, pbd1_s, x68_l (by decide), jn1_e]
      dsimp only
      rw [m0 _ (funext fun j => wr_o _ _ _ (by omega)), if_neg (show ¬ zI (t.ms : Nat) = 0 from by rw [show (0 : Int32) = zI 0 from rfl, zI_eq (by omega) (by omega)]; omega), if_neg (by rw [wr_13]; decide)]
    rw [if_neg ms, if_pos cc, if_pos cc, e]
    exact wF 5 _
  · by_cases ms : t.ms = 0
    · have e : f_X13_begins σ s 1 = some (1, wr σ (zI (6 : Nat)) (zI (tpl b n i : Nat))) := by
        unfold f_X13_begins
        rw [m_isWord hk.n8 hi ht hs hf, pbd1_s, h1, if_neg (show ¬ bI true = 0 from by decide), jn1_e]
        dsimp only
        rw [if_neg (show ¬ (1 : Int32) = 0 from by decide), x68_l (by decide), jn1_e]
        dsimp only
        rw [m0 σ rfl, if_pos (show zI (t.ms : Nat) = 0 from by rw [ms]; rfl), ht.at_, show f_X13_wrong σ 6 (zI (tpl b n i : Nat)) = some (wr σ (zI (6 : Nat)) (zI (tpl b n i : Nat))) from m_wrong hf _ _, pbd1_s, if_neg (by rw [wr_13]; decide)]
      rw [if_pos ms, if_neg cc, e]
      exact wF 6 _
    · obtain ⟨y, y1, y2, y3⟩ := m_next hk (i := ten b n i) ten_le ht.end_
      have e : f_X13_begins σ s 1 = some (1, y) := by
        unfold f_X13_begins
        rw [m_isWord hk.n8 hi ht hs hf, pbd1_s, h1, if_neg (show ¬ bI true = 0 from by decide), jn1_e]
        dsimp only
        rw [if_neg (show ¬ (1 : Int32) = 0 from by decide), x68_l (by decide), jn1_e]
        dsimp only
        rw [m0 σ rfl, if_neg (show ¬ zI (t.ms : Nat) = 0 from by rw [show (0 : Int32) = zI 0 from rfl, zI_eq (by omega) (by omega)]; omega), if_pos hf, y1, pbd1_s]
      rw [if_neg ms, if_neg cc, if_neg cc, e, pbd2_s, hK]
      refine mL_fr y2.toM.toV ?_
      have g := hg ms cc y y2.toM y3 (by rw [y2.1 _ _ (by omega) (by omega)]; exact hf)
      refine ⟨fun f p q => ?_, fun x j q => ?_⟩
      · obtain ⟨τ, t1, t2⟩ := g.1 f p q
        exact ⟨τ, by rw [t1, pbd1_s], t2⟩
      · obtain ⟨τ, t1, t2⟩ := g.2 x j q
        exact ⟨τ, by rw [t1, pbd1_s], t2⟩
theorem if_F {σ : Mem} {a b : Option Mem} (h : σ.1 64 13 = 1) : (if σ.1 64 13 = 0 then a else b) = b := if_neg (by rw [h]; decide)
theorem ml_line {σ : Mem} {b : Nat → Nat} {n i : Nat} {t : TT} {N : Nat → Nat × (Nat → Nat)} (h : MI σ t N) (ti : TI t) (hk : TKm σ b n) (hi : i ≤ n) (ht : MTk σ b n i) (hf : σ.1 64 13 = 0) : mL σ b n (pLine b n t N i) (f_X13_readLine σ) := by
  have tb := ti.tb
  have b1 := tb.P
  have b2 := tb.C
  have b3 := tb.V
  have b4 := tb.W
  have b5 := tb.A
  have b6 := tb.S
  have n8 := hk.n8
  have l7 : lin b n i ≤ 7 := sc_le _ (by omega)
  have no : ∀ s, s < lin b n i → isw b n i s = false := fun s hs => by
    have := sc_p (fun s => !isw b n i s) 7 0 s (Nat.zero_le _) hs
    simpa using this
  have yes : lin b n i < 7 → isw b n i (lin b n i) = true := fun l => (lin_w l).1
  -- a level's word: the bound as the model asks it
  have lvl : ∀ (k m : Nat) (x : Nat), m < 100 → x < 100 → σ.1 68 k = zI (x : Nat) → ((zI (m : Nat) ≤ σ.1 68 k) ↔ m ≤ x) := fun k m x hm hx e => by rw [e, zI_le (by omega) (by omega)]; omega
  have spec : ∀ s (c : Prop) [Decidable c], lin b n i = s → 0 < s → s < 7 → (c ↔ romT s ≤ cntT t s) → pLine b n t N i = (if t.ms = 0 then .inl (6, tpl b n i) else if c then .inl (5, tpl b n i) else pBhd b n t N s (ten b n i)) := by
    intro s c _ hl h0 h7 hc
    unfold pLine
    rw [hl, if_neg (show ¬ s = 7 from by omega)]
    by_cases ms : t.ms = 0
    · rw [if_pos (show s ≠ 0 ∧ t.ms = 0 from ⟨by omega, ms⟩), if_pos ms]
    · rw [if_neg (show ¬ (s ≠ 0 ∧ t.ms = 0) from fun x => ms x.2), if_neg ms, if_neg (show ¬ s = 0 from by omega)]
      by_cases cc : c
      · rw [if_pos cc, if_pos (hc.1 cc)]
      · rw [if_neg cc, if_neg (fun x => cc (hc.2 x))]
  unfold f_X13_readLine
  rw [m_isWord n8 hi ht (by omega) hf, pbd1_s]
  have cases8 : lin b n i = 0 ∨ lin b n i = 1 ∨ lin b n i = 2 ∨ lin b n i = 3 ∨ lin b n i = 4 ∨ lin b n i = 5 ∨ lin b n i = 6 ∨ lin b n i = 7 := by omega
  have tl : ∀ {r : LR} {o : Option Mem}, mL σ b n r o → mL σ b n r (bd1 o (fun (σ_33 : Mem) => some σ_33)) := fun {r o} g => by
    refine ⟨fun f p q => ?_, fun x j q => ?_⟩
    · obtain ⟨τ, t1, t2⟩ := g.1 f p q
      exact ⟨τ, by rw [t1, pbd1_s], t2⟩
    · obtain ⟨τ, t1, t2⟩ := g.2 x j q
      exact ⟨τ, by rw [t1, pbd1_s], t2⟩
  rcases cases8 with l | l | l | l | l | l | l | l
  · have w := yes (by omega)
    rw [l] at w
    rw [w, if_neg (show ¬ bI true = 0 from by decide)]
    refine tl ?_
    unfold pLine
    rw [l, if_neg (show ¬ (0 : Nat) = 7 from by omega), if_neg (show ¬ ((0 : Nat) ≠ 0 ∧ t.ms = 0) from fun c => c.1 rfl)]
    by_cases ms : t.ms = 0
    · rw [if_neg (show ¬ (romT 0 ≤ cntT t 0) from by
        show ¬ (1 ≤ if 0 < t.ms then 1 else 0)
        rw [if_neg (by omega)]; omega)]
      exact ml_Town h ti hk ht hf ms
    · rw [if_pos (show romT 0 ≤ cntT t 0 from by
        show 1 ≤ if 0 < t.ms then 1 else 0
        rw [if_pos (by omega)]; omega), if_pos rfl]
      exact ml_TownA h ti ht hf ms
  · have w := yes (by omega)
    rw [l] at w
    rw [no 0 (by omega), if_pos (show bI false = 0 from rfl), x68_l (by decide), spec 1 (5 ≤ (σ.1 68 (4 : Int32).toNatClampNeg)) l (by omega) (by omega) (lvl 4 5 t.P (by omega) (by omega) h.mr.P)]
    refine m_lvT (L := f_X13_personLine) h ti hk hi ht (by omega) hf w (fun y => if_neg (by decide)) (fun y hy => if_F hy) (fun e c => ?_) (fun ms c y fy ty zy => ?_)
    · have := (ti.no e).1; have := (lvl 4 5 t.P (by omega) (by omega) h.mr.P).1 c; omega
    · have : ¬ 5 ≤ t.P := fun x => c ((lvl 4 5 t.P (by omega) (by omega) h.mr.P).2 x)
      exact ml_Per (h.fm fy) ti (by omega) (ti.ms.resolve_left ms) (hk.fm fy) ten_le ty zy
  · have w := yes (by omega)
    rw [l] at w
    rw [no 0 (by omega), if_pos (show bI false = 0 from rfl), x68_l (by decide), m_lv n8 hi ht (by omega) hf (no 1 (by omega)), if_pos rfl, x68_l (by decide), spec 2 (10 ≤ (σ.1 68 (5 : Int32).toNatClampNeg)) l (by omega) (by omega) (lvl 5 10 t.ch.length (by omega) (by omega) h.mr.C)]
    refine m_lvT (L := f_X13_changeLine) h ti hk hi ht (by omega) hf w (fun y => if_neg (by decide)) (fun y hy => if_F hy) (fun e c => ?_) (fun ms c y fy ty zy => ?_)
    · have := (ti.no e).2.1; have := (lvl 5 10 t.ch.length (by omega) (by omega) h.mr.C).1 c; omega
    · have : ¬ 10 ≤ t.ch.length := fun x => c ((lvl 5 10 t.ch.length (by omega) (by omega) h.mr.C).2 x)
      exact ml_Chg (h.fm fy) ti (by omega) (hk.fm fy) ten_le ty zy
  · have w := yes (by omega)
    rw [l] at w
    rw [no 0 (by omega), if_pos (show bI false = 0 from rfl), x68_l (by decide), m_lv n8 hi ht (by omega) hf (no 1 (by omega)), if_pos rfl, x68_l (by decide), m_lv n8 hi ht (by omega) hf (no 2 (by omega)), if_pos rfl, x68_l (by decide), spec 3 (10 ≤ (σ.1 68 (6 : Int32).toNatClampNeg)) l (by omega) (by omega) (lvl 6 10 t.V (by omega) (by omega) h.mr.V)]
    refine m_lvT (L := f_X13_visitLine) h ti hk hi ht (by omega) hf w (fun y => if_neg (by decide)) (fun y hy => if_F hy) (fun e c => ?_) (fun ms c y fy ty zy => ?_)
    · have := (ti.no e).2.2.1; have := (lvl 6 10 t.V (by omega) (by omega) h.mr.V).1 c; omega
    · exact ml_Vis (h.fm fy) ti (hk.fm fy) ten_le ty zy
  · have w := yes (by omega)
    rw [l] at w
    rw [no 0 (by omega), if_pos (show bI false = 0 from rfl), x68_l (by decide), m_lv n8 hi ht (by omega) hf (no 1 (by omega)), if_pos rfl, x68_l (by decide), m_lv n8 hi ht (by omega) hf (no 2 (by omega)), if_pos rfl, x68_l (by decide), m_lv n8 hi ht (by omega) hf (no 3 (by omega)), if_pos rfl, x68_l (by decide), spec 4 (5 ≤ (σ.1 68 (7 : Int32).toNatClampNeg)) l (by omega) (by omega) (lvl 7 5 t.W (by omega) (by omega) h.mr.W)]
    refine m_lvT (L := f_X13_wishLine) h ti hk hi ht (by omega) hf w (fun y => if_neg (by decide)) (fun y hy => if_F hy) (fun e c => ?_) (fun ms c y fy ty zy => ?_)
    · have := (ti.no e).2.2.2.1; have := (lvl 7 5 t.W (by omega) (by omega) h.mr.W).1 c; omega
    · have : ¬ 5 ≤ t.W := fun x => c ((lvl 7 5 t.W (by omega) (by omega) h.mr.W).2 x)
      exact ml_Wish (h.fm fy) ti (by omega) (hk.fm fy) ten_le ty zy
  · have w := yes (by omega)
    rw [l] at w
    rw [no 0 (by omega), if_pos (show bI false = 0 from rfl), x68_l (by decide), m_lv n8 hi ht (by omega) hf (no 1 (by omega)), if_pos rfl, x68_l (by decide), m_lv n8 hi ht (by omega) hf (no 2 (by omega)), if_pos rfl, x68_l (by decide), m_lv n8 hi ht (by omega) hf (no 3 (by omega)), if_pos rfl, x68_l (by decide), m_lv n8 hi ht (by omega) hf (no 4 (by omega)), if_pos rfl, x68_l (by decide), spec 5 (8 ≤ (σ.1 68 (8 : Int32).toNatClampNeg)) l (by omega) (by omega) (lvl 8 8 t.A (by omega) (by omega) h.mr.A)]
    refine m_lvT (L := f_X13_asksLine) h ti hk hi ht (by omega) hf w (fun y => if_neg (by decide)) (fun y hy => if_F hy) (fun e c => ?_) (fun ms c y fy ty zy => ?_)
    · have := (ti.no e).2.2.2.2.1; have := (lvl 8 8 t.A (by omega) (by omega) h.mr.A).1 c; omega
    · exact ml_Ask (h.fm fy) ti (hk.fm fy) ten_le ty zy
  · have w := yes (by omega)
    rw [l] at w
    rw [no 0 (by omega), if_pos (show bI false = 0 from rfl), x68_l (by decide), m_lv n8 hi ht (by omega) hf (no 1 (by omega)), if_pos rfl, x68_l (by decide), m_lv n8 hi ht (by omega) hf (no 2 (by omega)), if_pos rfl, x68_l (by decide), m_lv n8 hi ht (by omega) hf (no 3 (by omega)), if_pos rfl, x68_l (by decide), m_lv n8 hi ht (by omega) hf (no 4 (by omega)), if_pos rfl, x68_l (by decide), m_lv n8 hi ht (by omega) hf (no 5 (by omega)), if_pos rfl, x68_l (by decide), spec 6 (5 ≤ (σ.1 68 (9 : Int32).toNatClampNeg)) l (by omega) (by omega) (lvl 9 5 t.S (by omega) (by omega) h.mr.S)]
    refine m_lvT (L := f_X13_stareLine) h ti hk hi ht (by omega) hf w (fun y => if_neg (by decide)) (fun y hy => if_F hy) (fun e c => ?_) (fun ms c y fy ty zy => ?_)
    · have := (ti.no e).2.2.2.2.2; have := (lvl 9 5 t.S (by omega) (by omega) h.mr.S).1 c; omega
    · exact ml_Star (h.fm fy) ti (hk.fm fy) ten_le ty zy
  · rw [no 0 (by omega), if_pos (show bI false = 0 from rfl), x68_l (by decide), m_lv n8 hi ht (by omega) hf (no 1 (by omega)), if_pos rfl, x68_l (by decide), m_lv n8 hi ht (by omega) hf (no 2 (by omega)), if_pos rfl, x68_l (by decide), m_lv n8 hi ht (by omega) hf (no 3 (by omega)), if_pos rfl, x68_l (by decide), m_lv n8 hi ht (by omega) hf (no 4 (by omega)), if_pos rfl, x68_l (by decide), m_lv n8 hi ht (by omega) hf (no 5 (by omega)), if_pos rfl, x68_l (by decide), m_lv n8 hi ht (by omega) hf (no 6 (by omega)), if_pos rfl, ht.at_, show f_X13_wrong σ 1 (zI (tpl b n i : Nat)) = some (wr σ (zI (1 : Nat)) (zI (tpl b n i : Nat))) from m_wrong hf _ _, pbd1_s]
    unfold pLine
    rw [if_pos l]
    exact mL_w (mF_s (wr_13 _ _ _)) (FrV.refl _)
/-- a piece's answer, a line's answer, in bounds -/
def okP (n i : Nat) (r : Sum (Nat × Nat) (Nat × Nat)) : Prop := (∀ f p, r = .inl (f, p) → 1 ≤ f ∧ f ≤ 8) ∧ (∀ v q, r = .inr (v, q) → i ≤ q ∧ q ≤ n)
def okR (n i : Nat) (r : LR) : Prop := (∀ f p, r = .inl (f, p) → 1 ≤ f ∧ f ≤ 8) ∧ (∀ x j, r = .inr (x, j) → TI x.1 ∧ i ≤ j ∧ j ≤ n)
theorem okP_l {n i f p : Nat} (h : 1 ≤ f ∧ f ≤ 8) : okP n i (.inl (f, p)) := ⟨fun f' p' e => (by cases e; exact h), fun v q e => by cases e⟩
theorem okP_r {n i v q : Nat} (h : i ≤ q ∧ q ≤ n) : okP n i (.inr (v, q)) := ⟨fun f' p' e => (by cases e), fun v' q' e => by cases e; exact h⟩
theorem okR_l {n i f p : Nat} (h : 1 ≤ f ∧ f ≤ 8) : okR n i (.inl (f, p)) := ⟨fun f' p' e => (by cases e; exact h), fun v q e => by cases e⟩
theorem okR_r {n i j : Nat} {x : TT × (Nat → Nat × (Nat → Nat))} (h : TI x.1 ∧ i ≤ j ∧ j ≤ n) : okR n i (.inr (x, j)) := ⟨fun f' p' e => (by cases e), fun v' q' e => by cases e; exact h⟩
theorem ok_bd {n i : Nat} {r : Sum (Nat × Nat) (Nat × Nat)} {k : Nat → Nat → LR} (h : okP n i r) (h1 : ∀ v q, r = .inr (v, q) → i ≤ q → q ≤ n → okR n i (k v q)) : okR n i (sbd r k) := by
  rcases r with ⟨f, p⟩ | ⟨v, q⟩
  · rw [sbd_l]; exact okR_l (h.1 f p rfl)
  · rw [sbd_r]
    have := h.2 v q rfl
    exact h1 v q rfl this.1 this.2
theorem ten_go {b : Nat → Nat} {n i j : Nat} (h : i ≤ j) (hn : j ≤ n) : i ≤ ten b n j := by
  have := ten_ge (b := b) hn
  have := tpl_ge b n j
  omega
theorem okP_wh {b : Nat → Nat} {n lo hi i j : Nat} (h : i ≤ j) (hn : j ≤ n) : okP n i (pWh b n lo hi j) := by
  unfold pWh
  split
  · split
    · exact okP_r ⟨h, hn⟩
    · exact okP_l (by omega)
  · exact okP_l (by omega)
theorem okP_wb {b : Nat → Nat} {n s lo hi i j : Nat} (h : i ≤ j) (hn : j ≤ n) : okP n i (pWb b n s lo hi j) := by
  unfold pWb
  split
  · exact okP_wh (ten_go h hn) ten_le
  · exact okP_l (by omega)
theorem okP_pp {b : Nat → Nat} {n P i j : Nat} {N : Nat → Nat × (Nat → Nat)} (h : i ≤ j) (hn : j ≤ n) : okP n i (pPp b n N P j) := by
  unfold pPp
  split
  · split
    · exact okP_r ⟨h, hn⟩
    · exact okP_l (by omega)
  · exact okP_l (by omega)
theorem okP_kd {b : Nat → Nat} {n i j : Nat} (h : i ≤ j) (hn : j ≤ n) : okP n i (pKd b n j) := by
  unfold pKd
  split
  · exact okP_r ⟨h, hn⟩
  · split
    · exact okP_r ⟨h, hn⟩
    · split
      · exact okP_r ⟨h, hn⟩
      · split
        · exact okP_r ⟨h, hn⟩
        · exact okP_l (by omega)
theorem okP_lk {b : Nat → Nat} {n ms i j : Nat} (h : i ≤ j) (hn : j ≤ n) : okP n i (pLk b n ms j) := by
  unfold pLk
  split
  · split
    · exact okP_r ⟨h, hn⟩
    · exact okP_l (by omega)
  · exact okP_l (by omega)
theorem ok_By {b : Nat → Nat} {n i s : Nat} {t : TT} {N : Nat → Nat × (Nat → Nat)} (ti : TI t) (hi : i ≤ n) (hm : s ≠ 0 → t.ms ≠ 0) (hc : ¬ romT s ≤ cntT t s) (hs : s < 7) : okR n i (pBhd b n t N s i) := by
  have tms := ti.tb.ms
  have h3 : s ≠ 0 → 3 ≤ t.ms := fun c => ti.ms.resolve_left (hm c)
  have d : s = 0 ∨ s = 1 ∨ s = 2 ∨ s = 3 ∨ s = 4 ∨ s = 5 ∨ s = 6 := by omega
  rcases d with rfl | rfl | rfl | rfl | rfl | rfl | rfl
  · have m0 : t.ms = 0 := by
      have hc : ¬ (1 ≤ if 0 < t.ms then 1 else 0) := hc
      by_cases w : 0 < t.ms
      · rw [if_pos w] at hc; omega
      · omega
    show okR n i (pTown b n t N i)
    unfold pTown
    refine ok_bd (okP_wb (Nat.le_refl _) hi) (fun v1 q1 e1 a1 b1 => ok_bd (okP_wb (ten_go a1 b1) ten_le) (fun v2 q2 e2 a2 b2 => ok_bd (okP_wb (ten_go a2 b2) ten_le) (fun v3 q3 e3 a3 b3 => ok_bd (okP_wb (ten_go a3 b3) ten_le) (fun v4 q4 e4 a4 b4 => okR_r ⟨?_, ten_go a4 b4, ten_le⟩))))
    have c1 := pWb_b e1
    have c2 := pWb_b e2
    have c3 := pWb_b e3
    have c4 := pWb_b e4
    exact TI_Town ti m0 ⟨c1.1, c1.2.1, c2.2.1, c3.2.1, c4.2.1⟩
  · have hc : ¬ 5 ≤ t.P := hc
    show okR n i (pPer b n t N i)
    unfold pPer
    split
    · split
      · exact okR_l (by omega)
      · refine ok_bd (okP_kd (ten_go (Nat.le_refl _) hi) ten_le) (fun v1 q1 e1 a1 b1 => ok_bd (okP_lk (ten_go a1 b1) ten_le) (fun v2 q2 e2 a2 b2 => okR_r ⟨?_, ten_go a2 b2, ten_le⟩))
        exact TI_Per ti (pKd_b e1).1 (by omega) (h3 (by omega)) (lokf_lt _ _ _ _) (fun m hm => lokf_z hm)
    · exact okR_l (by omega)
  · have hc : ¬ 10 ≤ t.ch.length := hc
    show okR n i (pChg b n t N i)
    unfold pChg
    refine ok_bd (okP_pp (Nat.le_refl _) hi) (fun v1 q1 e1 a1 b1 => ok_bd (okP_wb (ten_go a1 b1) ten_le) (fun v2 q2 e2 a2 b2 => ok_bd (okP_wb (ten_go a2 b2) ten_le) (fun v3 q3 e3 a3 b3 => ok_bd (okP_wb (ten_go a3 b3) ten_le) (fun v4 q4 e4 a4 b4 => okR_r ⟨?_, ten_go a4 b4, ten_le⟩))))
    have c1 := pPp_b e1
    have c2 := pWb_b e2
    have c3 := pWb_b e3
    have c4 := pWb_b e4
    have := h3 (by omega)
    exact TI_Chg ti (c := (v1, v2, v3, v4)) ⟨c1.1, by show v2 < 30; omega, by show v3 < t.ms; omega, c4.1, c4.2.1⟩ (by omega)
  · have hc : ¬ 10 ≤ t.V := hc
    show okR n i (pVis b n t N i)
    unfold pVis
    refine ok_bd (okP_pp (Nat.le_refl _) hi) (fun v1 q1 e1 a1 b1 => ok_bd (okP_wb (ten_go a1 b1) ten_le) (fun v2 q2 e2 a2 b2 => ?_))
    split
    · exact okR_l (by omega)
    · split
      · exact okR_l (by omega)
      · exact okR_r ⟨TI_Vis ti (pPp_b e1).1 (by omega), ten_go a2 b2, ten_le⟩
  · have hc : ¬ 5 ≤ t.W := hc
    show okR n i (pWish b n t N i)
    unfold pWish
    refine ok_bd (okP_pp (Nat.le_refl _) hi) (fun v1 q1 e1 a1 b1 => ok_bd (okP_wb (ten_go a1 b1) ten_le) (fun v2 q2 e2 a2 b2 => ?_))
    have c2 := pWb_b e2
    split
    · exact okR_l (by omega)
    · exact okR_r ⟨TI_Wish ti (pPp_b e1).1 (by omega) (by omega), ten_go a2 b2, ten_le⟩
  · have hc : ¬ 8 ≤ t.A := hc
    show okR n i (pAsk b n t N i)
    unfold pAsk
    refine ok_bd (okP_pp (Nat.le_refl _) hi) (fun v1 q1 e1 a1 b1 => ok_bd (okP_pp (ten_go a1 b1) ten_le) (fun v2 q2 e2 a2 b2 => ?_))
    split
    · exact okR_l (by omega)
    · rename_i c
      refine ok_bd (okP_wb (ten_go a2 b2) ten_le) (fun v3 q3 e3 a3 b3 => okR_r ⟨?_, ten_go a3 b3, ten_le⟩)
      have c3 := pWb_b e3
      exact TI_Ask ti ⟨(pPp_b e1).1, (pPp_b e2).1, fun x => c (Or.inl x), c3.2.1⟩ (by omega)
  · have hc : ¬ 5 ≤ t.S := hc
    show okR n i (pStar b n t N i)
    unfold pStar
    refine ok_bd (okP_pp (Nat.le_refl _) hi) (fun v1 q1 e1 a1 b1 => ?_)
    split
    · exact okR_l (by omega)
    · refine ok_bd (okP_wh (ten_go a1 b1) ten_le) (fun v2 q2 e2 a2 b2 => okR_r ⟨?_, ten_go a2 b2, ten_le⟩)
      have c2 := pWh_b e2
      exact TI_Star ti ⟨(pPp_b e1).1, c2.2.1⟩ (by omega)
theorem ok_line {b : Nat → Nat} {n i : Nat} {t : TT} {N : Nat → Nat × (Nat → Nat)} (ti : TI t) (hi : i ≤ n) : okR n (i + 1) (pLine b n t N i) := by
  have l7 : lin b n i ≤ 7 := sc_le _ (by omega)
  unfold pLine
  split
  · exact okR_l (by omega)
  · split
    · exact okR_l (by omega)
    · split
      · refine okR_l ?_
        split <;> omega
      · rename_i h1 h2 h3
        have w := (lin_w (b := b) (n := n) (i := i) (by omega)).1
        have w2 : tkd b n i = 2 := (of_decide_eq_true w).1
        obtain ⟨p1, p2, -⟩ := tk_w hi w2
        have := tpl_ge b n i
        have g := ok_By (b := b) (n := n) (i := ten b n i) (N := N) ti ten_le (s := lin b n i) (fun c e => h2 ⟨c, e⟩) h3 (by omega)
        refine ⟨g.1, fun x j e => ?_⟩
        have := g.2 x j e
        exact ⟨this.1, by omega, this.2.2⟩
/-- behind a line -/
def pEnd (b : Nat → Nat) (n : Nat) (k : TT → (Nat → Nat × (Nat → Nat)) → Nat → Sum (Nat × Nat) (TT × (Nat → Nat × (Nat → Nat)))) (t : TT) (N : Nat → Nat × (Nat → Nat)) (j : Nat) : Sum (Nat × Nat) (TT × (Nat → Nat × (Nat → Nat))) := if tkd b n j = 4 then k t N (ten b n j) else if tkd b n j = 0 then (if t.P = 0 then .inl (6, tpl b n j) else .inr (t, N)) else .inl (1, tpl b n j)
/-- a text's lines from i on -/
noncomputable def pAll (b : Nat → Nat) (n : Nat) : Nat → TT → (Nat → Nat × (Nat → Nat)) → Nat → Sum (Nat × Nat) (TT × (Nat → Nat × (Nat → Nat)))
  | 0, _, _, _ => .inl (1, 0)
  | f + 1, t, N, i =>
    match pLine b n t N i with
    | .inl e => .inl e
    | .inr x => pEnd b n (pAll b n f) x.1.1 x.1.2 x.2
theorem pAll_l {b : Nat → Nat} {n f i : Nat} {t : TT} {N : Nat → Nat × (Nat → Nat)} {e : Nat × Nat} (h : pLine b n t N i = .inl e) : pAll b n (f + 1) t N i = .inl e := by rw [pAll, h]
theorem pAll_r {b : Nat → Nat} {n f i j : Nat} {t : TT} {N : Nat → Nat × (Nat → Nat)} {x : TT × (Nat → Nat × (Nat → Nat))} (h : pLine b n t N i = .inr (x, j)) : pAll b n (f + 1) t N i = pEnd b n (pAll b n f) x.1 x.2 j := by rw [pAll, h]
theorem pAll_ok {b : Nat → Nat} {n : Nat} : ∀ f (t : TT) (N : Nat → Nat × (Nat → Nat)) (i : Nat), TI t → i ≤ n → (∀ g p, pAll b n f t N i = .inl (g, p) → 1 ≤ g ∧ g ≤ 8) ∧ (∀ t' N', pAll b n f t N i = .inr (t', N') → TI t' ∧ 0 < t'.P)
  | 0, _, _, _, _, _ => ⟨fun g p e => (by rw [pAll] at e; cases e; omega), fun t' N' e => by rw [pAll] at e; cases e⟩
  | f + 1, t, N, i, ti, hi => by
    have hl := ok_line (b := b) (n := n) (i := i) (N := N) ti hi
    rcases e : pLine b n t N i with ⟨g, p⟩ | ⟨x, j⟩
    · rw [pAll_l e]
      exact ⟨fun g' p' q => (by cases q; exact hl.1 g p e), fun t' N' q => by cases q⟩
    · rw [pAll_r e]
      obtain ⟨tx, j1, j2⟩ := hl.2 x j e
      unfold pEnd
      split
      · exact pAll_ok f x.1 x.2 (ten b n j) tx ten_le
      · split
        · split
          · exact ⟨fun g' p' q => (by cases q; omega), fun t' N' q => by cases q⟩
          · rename_i c
            exact ⟨fun g' p' q => (by cases q), fun t' N' q => (by cases q; exact ⟨tx, Nat.pos_of_ne_zero c⟩)⟩
        · exact ⟨fun g' p' q => (by cases q; omega), fun t' N' q => by cases q⟩
theorem tk_4 {b : Nat → Nat} {n j : Nat} (hj : j ≤ n) (h : tkd b n j = 4) : j < ten b n j := by
  have hp : tpl b n j < n := by
    rcases Nat.lt_or_ge (tpl b n j) n with w | w
    · exact w
    · unfold tkd at h
      split at h
      · unfold srt at h; rw [if_pos w] at h; omega
      · omega
  have := ten_gt hp
  have := tpl_ge b n j
  omega
/-- the class's answer to a text -/
def cA (σ : Mem) (T : Nat) (R : Sum (Nat × Nat) (TT × (Nat → Nat × (Nat → Nat)))) (o : Option (Int32 × Mem)) : Prop :=
  (∀ f p, R = .inl (f, p) → ∃ τ, o = some (zI f, τ) ∧ FrW T σ τ ∧ τ.1 27 3 = zI p) ∧
  (∀ t N, R = .inr (t, N) → ∃ τ, o = some (0, τ) ∧ FrW T σ τ ∧ CTI τ T t N)
theorem ca_all {σ : Mem} {T : Nat} {b : Nat → Nat} {n f : Nat} {t : TT} {N : Nat → Nat × (Nat → Nat)} (hT : T = 3 ∨ T = 15) (h : CTI σ T t N) (ti : TI t) (hc : TKc σ b n) (ht : CTk σ b n 0) (hz : σ.1 27 4 = 0) (hf : n < f) : cA σ T (pAll b n f t N 0) (fx3 FU (fun k_9 (i_6 : Int32) (i_7 : Int32) (σ_8 : Mem) => jn0 (jn1 (fun (σ_11 : Mem) => some (σ_11.1 27 4, σ_11)) (fun k_12 => (if (σ_8.1 27 4) = 0 then nm (sI σ_8 27 3 (σ_8.1 1 4)) (fun (σ_13 : Mem) => jn1 (fun (i_14 : Int32) => nm (sI σ_13 27 4 i_14) (fun (σ_16 : Mem) => k_12 σ_16)) (fun k_15 => (if (σ_13.1 1 5) = 0 then rfc (σ_13.2.2 27 1) (fun (T_17 : Nat) => bd1 (f_X11_people σ_13 T_17) (fun (r_18 : Int32) => (if r_18 = 0 then k_15 6 else k_15 0))) else k_15 1))) else k_12 σ_8))) (fun k_10 => (if 800 < i_7 then k_10 else (if i_6 = 0 then k_10 else bd2 (f_X6_line σ_8) (fun (r_19 : Int32) (σ_20 : Mem) => jn1 (fun (i_21 : Int32) => jn1 (fun (σ_23 : Mem) => nm (i_7 + 1) (fun (x_25 : Int32) => k_9 i_21 x_25 σ_23)) (fun k_24 => (if i_21 = 0 then k_24 σ_20 else bd1 (f_X10_step σ_20) (fun (σ_27 : Mem) => k_24 σ_27)))) (fun k_22 => jn0 (k_22 0) (fun k_28 => (if r_19 = 0 then k_28 else (if (σ_20.1 1 5) = 4 then k_22 1 else k_28))))))))) 1 0 σ) := by
  have n8 := hc.n8
  obtain ⟨R, hR⟩ : ∃ R, R = pAll b n f t N 0 := ⟨_, rfl⟩
  have R8 := (pAll_ok f t N 0 ti (Nat.zero_le _) (b := b) (n := n)).1
  rw [← hR] at R8 ⊢
  let FIN : Mem → Prop := fun z => (∃ g p, R = .inl (g, p) ∧ z.1 27 4 = zI (g : Nat) ∧ z.1 27 3 = zI (p : Nat)) ∨ (z.1 27 4 = 0 ∧ ∃ t N j k, CTI z T t N ∧ CTk z b n j ∧ t.P ≤ 5 ∧ tkd b n j ≠ 4 ∧ pEnd b n k t N j = R)
  have fin : ∀ z, FrW T σ z → FIN z → cA σ T R (jn1 (fun (σ_11 : Mem) => some (σ_11.1 27 4, σ_11)) (fun k_12 => (if (z.1 27 4) = 0 then nm (sI z 27 3 (z.1 1 4)) (fun (σ_13 : Mem) => jn1 (fun (i_14 : Int32) => nm (sI σ_13 27 4 i_14) (fun (σ_16 : Mem) => k_12 σ_16)) (fun k_15 => (if (σ_13.1 1 5) = 0 then rfc (σ_13.2.2 27 1) (fun (T_17 : Nat) => bd1 (f_X11_people σ_13 T_17) (fun (r_18 : Int32) => (if r_18 = 0 then k_15 6 else k_15 0))) else k_15 1))) else k_12 z))) := by
    intro z fz hz
    rw [jn1_e]
    dsimp only
    rcases hz with ⟨g, p, e1, e2, e3⟩ | ⟨e2, t', N', j, k, c1, c2, c3, c4, c5⟩
    · have g8 := R8 g p e1
      rw [if_neg (show ¬ z.1 27 4 = 0 from by rw [e2, show (0 : Int32) = zI 0 from rfl, zI_eq (by omega) (by omega)]; omega), e1]
      refine ⟨fun f' p' q => ?_, fun t' N' q => by cases q⟩
      cases q
      exact ⟨z, by rw [e2], fz, e3⟩
    · have k5 := tkd_5 b n j
      have k1 := tkd_1 (b := b) (n := n) (i := j)
      have fr1 : FrC z (sI z 27 3 (z.1 1 4)) := (FrC.refl z).s7 _ _ (by omega)
      have c1' := c1.fc fr1
      have c2' := c2.s7 3 (z.1 1 4)
      have s3 : (sI z 27 3 (z.1 1 4)).1 27 3 = zI (tpl b n j : Nat) := by rw [sI_1, if_pos ⟨rfl, rfl⟩]; exact c2.at_
      have fr2 := fz.trans (fr1.toW T)
      rw [if_pos e2, pnm_e]
      revert c1' c2' s3 fr2
      generalize sI z 27 3 (z.1 1 4) = y
      intro c1' c2' s3 fr2
      rw [jn1_e, c2'.tok]
      dsimp only
      have put : ∀ v : Int32, FrW T σ (sI y 27 4 v) ∧ (sI y 27 4 v).1 27 4 = v ∧ (sI y 27 4 v).1 27 3 = zI (tpl b n j : Nat) ∧ CTI (sI y 27 4 v) T t' N' := fun v => ⟨fr2.trans (((FrC.refl y).s7 4 v (by omega)).toW T), by rw [sI_1, if_pos ⟨rfl, rfl⟩], by rw [sI_1, if_neg (by omega)]; exact s3, c1'.fc ((FrC.refl y).s7 4 v (by omega))⟩
      unfold pEnd at c5
      rw [if_neg c4] at c5
      by_cases t0 : tkd b n j = 0
      · rw [if_pos t0] at c5
        rw [if_pos (show zI (tkd b n j : Nat) = 0 from by rw [t0]; rfl), c1'.town, prfc_s, ct_people c1'.ct, pbd1_s]
        by_cases p0 : t'.P = 0
        · rw [if_pos p0] at c5
          rw [if_pos (show zI (t'.P : Nat) = 0 from by rw [p0]; rfl), pnm_e, ← c5]
          obtain ⟨q1, q2, q3, q4⟩ := put 6
          refine ⟨fun f' p' q => ?_, fun t' N' q => by cases q⟩
          cases q
          exact ⟨_, by rw [q2]; rfl, q1, q3⟩
        · rw [if_neg p0] at c5
          rw [if_neg (show ¬ zI (t'.P : Nat) = 0 from by rw [show (0 : Int32) = zI 0 from rfl, zI_eq (by omega) (by omega)]; omega), pnm_e, ← c5]
          obtain ⟨q1, q2, q3, q4⟩ := put 0
          refine ⟨fun f' p' q => (by cases q), fun t' N' q => ?_⟩
          cases q
          exact ⟨_, by rw [q2], q1, q4⟩
      · rw [if_neg t0] at c5
        rw [if_neg (show ¬ zI (tkd b n j : Nat) = 0 from by rw [show (0 : Int32) = zI 0 from rfl, zI_eq (by omega) (by omega)]; omega), pnm_e, ← c5]
        obtain ⟨q1, q2, q3, q4⟩ := put 1
        refine ⟨fun f' p' q => ?_, fun t' N' q => by cases q⟩
        cases q
        exact ⟨_, by rw [q2]; rfl, q1, q3⟩
  refine fx3_pg (fun m x y z => y = zI (m : Nat) ∧ FrW T σ z ∧ ((x = 1 ∧ z.1 27 4 = 0 ∧ ∃ t N i g, m ≤ i ∧ i ≤ n ∧ n - i < g ∧ TI t ∧ CTI z T t N ∧ CTk z b n i ∧ pAll b n g t N i = R) ∨ (x = 0 ∧ FIN z))) (fun o => cA σ T R o) 801 (by omega) (fun k x y z hh => ?_) (fun m hm x y z hh k => ?_) 1 0 σ ⟨rfl, FrW.refl T σ, Or.inl ⟨rfl, hz, t, N, 0, f, Nat.le_refl _, Nat.zero_le _, by omega, ti, h, ht, hR.symm⟩⟩
  · obtain ⟨rfl, fz, hh⟩ := hh
    rcases hh with ⟨-, -, t, N, i, g, h1, h2, -⟩ | ⟨rfl, hh⟩
    · omega
    · show cA σ T R (jn0 _ _)
      rw [jn0_e, if_pos (by decide)]
      exact fin z fz hh
  · obtain ⟨rfl, fz, hh⟩ := hh
    rcases hh with ⟨rfl, z4, t, N, i, g, h1, h2, h3, ti', cti, ctk, hr⟩ | ⟨rfl, hh⟩
    · right
      rw [jn0_e, if_neg (show ¬ ((800 : Int32) < zI (m : Nat)) from by rw [show (800 : Int32) = zI 800 from rfl, zI_lt (by omega) (by omega)]; omega), if_neg (show ¬ (1 : Int32) = 0 from by decide)]
      obtain ⟨g', rfl⟩ : ∃ g', g = g' + 1 := ⟨g - 1, by omega⟩
      have cl := cn_line cti ti' (hc.fw hT fz) h2 ctk
      have ok := ok_line (b := b) (n := n) (i := i) (N := N) ti' h2
      rcases e : pLine b n t N i with ⟨f1, p1⟩ | ⟨x1, j⟩
      · obtain ⟨τ, t1, t2, t3, t4⟩ := cl.1 f1 p1 e
        rw [pAll_l e] at hr
        refine ⟨0, zI (m + 1 : Nat), τ, ⟨rfl, fz.trans t2, Or.inr ⟨rfl, Or.inl ⟨f1, p1, hr.symm, t3, t4⟩⟩⟩, ?_⟩
        rw [t1, pbd2_s, jn1_e, jn0_e, if_pos rfl]
        dsimp only
        rw [jn1_e, if_pos rfl]
        dsimp only
        rw [pnm_e, zI_sc]
      · obtain ⟨τ, t1, t2, t3, t4, t5⟩ := cl.2 x1 j e
        obtain ⟨o1, o2, o3⟩ := ok.2 x1 j e
        rw [pAll_r e] at hr
        have k5 := tkd_5 b n j
        have oP := o1.tb.P
        rw [t1, pbd2_s, jn1_e, jn0_e, if_neg (show ¬ (1 : Int32) = 0 from by decide), t3.tok]
        by_cases c : tkd b n j = 4
        · obtain ⟨υ, u1, u2, u3, u4, u5⟩ := c_step (hc.fw hT (fz.trans t2)) ten_le t3.end_
          have jg := tk_4 o3 c
          have jn : ten b n j ≤ n := ten_le
          unfold pEnd at hr
          rw [if_pos c] at hr
          refine ⟨1, zI (m + 1 : Nat), υ, ⟨rfl, (fz.trans t2).trans (u2.toC.toW T), Or.inl ⟨rfl, ?_, x1.1, x1.2, ten b n j, g', by omega, jn, by omega, o1, t5.fc u2.toC, ⟨u4, u3, u5⟩, hr⟩⟩, ?_⟩
          · rw [u2.1 _ _ (by omega), t4]; exact z4
          · rw [if_pos (show zI (tkd b n j : Nat) = 4 from by rw [c]; rfl)]
            dsimp only
            rw [jn1_e, if_neg (show ¬ (1 : Int32) = 0 from by decide), u1, pbd1_s]
            dsimp only
            rw [pnm_e, zI_sc]
        · refine ⟨0, zI (m + 1 : Nat), τ, ⟨rfl, fz.trans t2, Or.inr ⟨rfl, Or.inr ⟨t4.trans z4, x1.1, x1.2, j, _, t5, t3, oP, c, hr⟩⟩⟩, ?_⟩
          rw [if_neg (show ¬ zI (tkd b n j : Nat) = 4 from by rw [show (4 : Int32) = zI 4 from rfl, zI_eq (by omega) (by omega)]; omega)]
          dsimp only
          rw [jn1_e, if_pos rfl]
          dsimp only
          rw [pnm_e, zI_sc]
    · left
      show cA σ T R (jn0 _ _)
      rw [jn0_e, if_neg (show ¬ ((800 : Int32) < zI (m : Nat)) from by rw [show (800 : Int32) = zI 800 from rfl, zI_lt (by omega) (by omega)]; omega), if_pos rfl]
      exact fin z fz hh
/-- the model's answer to a text -/
def mA {β : Type} (σ : Mem) (R : Sum (Nat × Nat) (TT × (Nat → Nat × (Nat → Nat)))) (E : Mem → Option β) (o : Option β) : Prop :=
  ∃ τ, o = E τ ∧ FrV σ τ ∧ (∀ f p, R = .inl (f, p) → τ.1 64 13 = 1 ∧ τ.1 64 9 = zI f ∧ τ.1 64 10 = zI p) ∧ (∀ t N, R = .inr (t, N) → τ.1 64 13 = 0 ∧ MI τ t N)
theorem ma_all {β : Type} {σ : Mem} {b : Nat → Nat} {n f : Nat} {t : TT} {N : Nat → Nat × (Nat → Nat)} (E : Mem → Option β) (h : MI σ t N) (ti : TI t) (hk : TKm σ b n) (ht : MTk σ b n 0) (hz : σ.1 64 13 = 0) (hf : n < f) : mA σ (pAll b n f t N 0) E (bd1 (f_X13_readLine σ) (fun (σ_12 : Mem) => fx1 FU (fun k_14 (σ_13 : Mem) => jn0 (jn1 (fun (σ_16 : Mem) => jn1 E (fun k_19 => (if (σ_16.1 64 13) = 0 then ixd 0 (aln 68) (jn0 (bd1 (f_X13_wrong σ_16 6 (σ_16.1 64 4)) (fun (σ_35 : Mem) => k_19 σ_35)) (fun k_34 => (if (σ_16.1 68 (0 : Int32).toNatClampNeg) = 0 then k_34 else ixd 4 (aln 68) ((if (σ_16.1 68 (4 : Int32).toNatClampNeg) = 0 then k_34 else k_19 σ_16))))) else k_19 σ_16))) (fun k_17 => (if (σ_13.1 64 13) = 0 then (if (σ_13.1 64 6) = 0 then k_17 σ_13 else bd1 (f_X13_wrong σ_13 1 (σ_13.1 64 4)) (fun (σ_36 : Mem) => k_17 σ_36)) else k_17 σ_13))) (fun k_15 => (if (σ_13.1 64 13) = 0 then (if (σ_13.1 64 6) = 59 then bd1 (f_X13_next σ_13) (fun (σ_37 : Mem) => bd1 (f_X13_readLine σ_37) (fun (σ_38 : Mem) => k_14 σ_38)) else k_15) else k_15))) σ_12)) := by
  have n8 := hk.n8
  obtain ⟨R, hR⟩ : ∃ R, R = pAll b n f t N 0 := ⟨_, rfl⟩
  rw [← hR]
  let Inv : Nat → Mem → Prop := fun m x => FrV σ x ∧ ((x.1 64 13 = 1 ∧ ∃ g p, R = .inl (g, p) ∧ x.1 64 9 = zI (g : Nat) ∧ x.1 64 10 = zI (p : Nat)) ∨ (x.1 64 13 = 0 ∧ ∃ t N j k, TI t ∧ MI x t N ∧ MTk x b n j ∧ m ≤ j ∧ j ≤ n ∧ n - j ≤ k ∧ pEnd b n (pAll b n k) t N j = R))
  -- a line read
  have line : ∀ (m : Nat) (x : Mem) (t : TT) (N : Nat → Nat × (Nat → Nat)) (i g : Nat), FrV σ x → x.1 64 13 = 0 → TI t → MI x t N → MTk x b n i → m ≤ i → i ≤ n → n - i < g → pAll b n g t N i = R → ∃ y, f_X13_readLine x = some y ∧ Inv (m + 1) y := by
    intro m x t N i g fx zx ti mi mt h1 h2 h3 hr
    obtain ⟨g', rfl⟩ : ∃ g', g = g' + 1 := ⟨g - 1, by omega⟩
    have ml := ml_line mi ti (hk.fv fx) h2 mt zx
    have ok := ok_line (b := b) (n := n) (i := i) (N := N) ti h2
    rcases e : pLine b n t N i with ⟨f1, p1⟩ | ⟨x1, j⟩
    · obtain ⟨τ, t1, t2, t3, t4, t5⟩ := ml.1 f1 p1 e
      rw [pAll_l e] at hr
      exact ⟨τ, t1, fx.trans t2, Or.inl ⟨t3, f1, p1, hr.symm, t4, t5⟩⟩
    · obtain ⟨τ, t1, t2, t3, t4, t5⟩ := ml.2 x1 j e
      obtain ⟨o1, o2, o3⟩ := ok.2 x1 j e
      rw [pAll_r e] at hr
      exact ⟨τ, t1, fx.trans t2, Or.inr ⟨t4, x1.1, x1.2, j, g', o1, t5, t3, by omega, o3, by omega, hr⟩⟩
  obtain ⟨y, y1, y2⟩ := line 0 σ t N 0 f (FrV.refl σ) hz ti h ht (Nat.le_refl _) (Nat.zero_le _) (by omega) hR.symm
  rw [y1, pbd1_s]
  -- the end
  have nofail : ∀ x : Mem, FrV σ x → x.1 64 13 = 1 → (∃ g p, R = .inl (g, p) ∧ x.1 64 9 = zI (g : Nat) ∧ x.1 64 10 = zI (p : Nat)) → mA σ R E (E x) := by
    intro x fx x13 ⟨g, p, e1, e2, e3⟩
    refine ⟨x, rfl, fx, fun f' p' q => ?_, fun t' N' q => ?_⟩
    · rw [e1] at q; cases q; exact ⟨x13, e2, e3⟩
    · rw [e1] at q; cases q
  have wfail : ∀ (x : Mem) (g p : Nat), FrV σ x → R = .inl (g, p) → mA σ R E (E (wr x (zI (g : Nat)) (zI (p : Nat)))) := fun x g p fx e => nofail _ (fx.trans (wr_fr (FrM.refl x) _ _).toV) (wr_13 _ _ _) ⟨g, p, e, wr_9 _ _ _, wr_10 _ _ _⟩
  refine fx1_pi Inv (fun o => mA σ R E o) 801 (by omega) (fun k x hx => ?_) (fun m hm x hx k => ?_) 1 (by omega) y y2
  · obtain ⟨fx, hx⟩ := hx
    show mA σ R E (jn0 _ _)
    rcases hx with ⟨x13, hx⟩ | ⟨-, t, N, j, g, -, -, -, h1, h2, -⟩
    · have nz : ¬ x.1 64 13 = 0 := by rw [x13]; decide
      rw [jn0_e, if_neg nz, jn1_e, if_neg nz]
      dsimp only
      rw [jn1_e, if_neg nz]
      exact nofail x fx x13 hx
    · omega
  · obtain ⟨fx, hx⟩ := hx
    rcases hx with ⟨x13, hx⟩ | ⟨x13, t, N, j, g, ti', mi, mt, h1, h2, h3, hr⟩
    · left
      show mA σ R E (jn0 _ _)
      have nz : ¬ x.1 64 13 = 0 := by rw [x13]; decide
      rw [jn0_e, if_neg nz, jn1_e, if_neg nz]
      dsimp only
      rw [jn1_e, if_neg nz]
      exact nofail x fx x13 hx
    · have k5 := tkd_5 b n j
      have k1 := tkd_1 (b := b) (n := n) (i := j)
      have tP := ti'.tb.P
      have tms := ti'.tb.ms
      unfold pEnd at hr
      by_cases c : tkd b n j = 4
      · right
        rw [if_pos c] at hr
        have jg := tk_4 h2 c
        have jn : ten b n j ≤ n := ten_le
        obtain ⟨u, u1, u2, u3⟩ := m_next (hk.fv fx) (i := ten b n j) jn mt.end_
        obtain ⟨v, v1, v2⟩ := line m u t N (ten b n j) g (fx.trans u2.toM.toV) (by rw [u2.1 _ _ (by omega) (by omega)]; exact x13) ti' (mi.fm u2.toM) u3 (by omega) jn (by omega) hr
        refine ⟨v, v2, ?_⟩
        rw [jn0_e, if_pos x13, if_pos (show x.1 64 6 = 59 from by rw [mt.tok]; exact (tk4_4 _ k5).2 c), u1, pbd1_s, v1, pbd1_s]
      · left
        rw [if_neg c] at hr
        show mA σ R E (jn0 _ _)
        rw [jn0_e, if_pos x13, if_neg (show ¬ x.1 64 6 = 59 from by rw [mt.tok]; exact fun q => c ((tk4_4 _ k5).1 q)), jn1_e, if_pos x13]
        by_cases t0 : tkd b n j = 0
        · rw [if_pos t0] at hr
          rw [if_pos (show x.1 64 6 = 0 from by rw [mt.tok]; exact (tk4_0 _ k5 k1).2 t0)]
          dsimp only
          rw [jn1_e, if_pos x13, x68_l (by decide), jn0_e, x68_l (by decide), show x.1 68 (0 : Int32).toNatClampNeg = zI t.ms from mi.mr.ms, show x.1 68 (4 : Int32).toNatClampNeg = zI t.P from mi.mr.P, mt.at_, show f_X13_wrong x 6 (zI (tpl b n j : Nat)) = some (wr x (zI (6 : Nat)) (zI (tpl b n j : Nat))) from m_wrong x13 _ _, pbd1_s]
          by_cases p0 : t.P = 0
          · rw [if_pos p0] at hr
            rw [if_pos (show zI (t.P : Nat) = 0 from by rw [p0]; rfl), ite_self]
            exact wfail x 6 _ fx hr.symm
          · rw [if_neg p0] at hr
            have ms0 : t.ms ≠ 0 := fun e => p0 (ti'.no e).1
            rw [if_neg (show ¬ zI (t.P : Nat) = 0 from by rw [show (0 : Int32) = zI 0 from rfl, zI_eq (by omega) (by omega)]; omega), if_neg (show ¬ zI (t.ms : Nat) = 0 from by rw [show (0 : Int32) = zI 0 from rfl, zI_eq (by omega) (by omega)]; omega)]
            refine ⟨x, rfl, fx, fun f' p' q => ?_, fun t' N' q => ?_⟩
            · rw [← hr] at q; cases q
            · rw [← hr] at q; cases q; exact ⟨x13, mi⟩
        · rw [if_neg t0] at hr
          rw [if_neg (show ¬ x.1 64 6 = 0 from by rw [mt.tok]; exact fun q => t0 ((tk4_0 _ k5 k1).1 q)), mt.at_, show f_X13_wrong x 1 (zI (tpl b n j : Nat)) = some (wr x (zI (1 : Nat)) (zI (tpl b n j : Nat))) from m_wrong x13 _ _, pbd1_s]
          dsimp only
          rw [jn1_e, if_neg (by rw [wr_13]; decide)]
          exact wfail x 1 _ fx hr.symm
/-- a town of nobody -/
def tZ : TT := TT.mk 0 0 0 0 0 0 0 0 0 [] (fun _ => 0) (fun _ _ => 0) (fun _ => none) (fun _ => 0) (fun _ => 0) (fun _ _ => none) (fun _ => none)
def nZ : Nat → Nat × (Nat → Nat) := fun _ => (0, fun _ => 0)
theorem TI_Z : TI tZ := by
  refine ⟨⟨by decide, fun c => absurd c (Nat.lt_irrefl 0), by decide, by decide, by decide, by decide, by decide, by decide, by decide, by decide, by decide, fun c hc => (by cases hc), fun p hp => absurd hp (Nat.not_lt_zero p), fun p m => (by show 0 < 4; omega), fun p m hm => rfl, fun d p e => (by cases e), fun w hw => absurd hw (Nat.not_lt_zero w), fun w hw => absurd hw (Nat.not_lt_zero w), fun p q o e => (by cases e), fun p n e => (by cases e)⟩, Or.inl rfl, fun _ => ⟨rfl, rfl, rfl, rfl, rfl, rfl⟩⟩
theorem c_fgt0 {σ : Mem} {T : Nat} (hT : T = 3 ∨ T = 15) : ∃ τ, f_X11_forget σ T = some τ ∧ τ.2 = σ.2 ∧ (∀ a, ¬ (T ≤ a ∧ a ≤ T + 11) → τ.1 a = σ.1 a) ∧ CT τ T tZ ∧ τ.1 (T + 1) 0 = 0 := by
  have aa := ct_aln hT
  let y1 : Mem := sI (sI (sI (sI σ T 0 0) T 1 0) T 2 0) T 3 0
  let y2 : Mem := sA y1 (T + 1) (fun j => if j < 7 then 0 else y1.1 (T + 1) j)
  let y3 : Mem := sA y2 (T + 7) (fun j => if j < 30 then -2 else y2.1 (T + 7) j)
  let y4 : Mem := sA y3 (T + 10) (fun j => if j < 25 then -2 else y3.1 (T + 10) j)
  let y5 : Mem := sA y4 (T + 11) (fun j => if j < 5 then -2 else y4.1 (T + 11) j)
  have e : f_X11_forget σ T = some y5 := by
    unfold f_X11_forget
    rw [pnm_e, pnm_e, pnm_e, pnm_e, c_fill aa.1 (by omega), pbd1_s, c_fill aa.2.2.2.2.2.1 (by omega), pbd1_s, c_fill aa.2.2.2.2.2.2.2.2.1 (by omega), pbd1_s, c_fill aa.2.2.2.2.2.2.2.2.2 (by omega), pbd1_s]
  have o1 : ∀ a, a ≠ T → y1.1 a = σ.1 a := fun a h => by
    show (sI (sI (sI (sI σ T 0 0) T 1 0) T 2 0) T 3 0).1 a = _
    rw [sI_o _ _ _ _ h, sI_o _ _ _ _ h, sI_o _ _ _ _ h, sI_o _ _ _ _ h]
  have o5 : ∀ a, a ≠ T + 1 → a ≠ T + 7 → a ≠ T + 10 → a ≠ T + 11 → y5.1 a = y1.1 a := fun a h1 h2 h3 h4 => by
    show (sA y4 (T + 11) _).1 a = _
    rw [sA_o _ _ _ h4]
    show (sA y3 (T + 10) _).1 a = _
    rw [sA_o _ _ _ h3]
    show (sA y2 (T + 7) _).1 a = _
    rw [sA_o _ _ _ h2]
    show (sA y1 (T + 1) _).1 a = _
    rw [sA_o _ _ _ h1]
  have v0 : ∀ j, j < 4 → y5.1 T j = 0 := fun j hj => by
    rw [o5 T (by omega) (by omega) (by omega) (by omega)]
    show (sI (sI (sI (sI σ T 0 0) T 1 0) T 2 0) T 3 0).1 T j = 0
    rw [sI_1, sI_1, sI_1, sI_1]
    have : j = 0 ∨ j = 1 ∨ j = 2 ∨ j = 3 := by omega
    rcases this with rfl | rfl | rfl | rfl <;> simp
  have v1 : ∀ j, j < 7 → y5.1 (T + 1) j = 0 := fun j hj => by
    show (sA y4 (T + 11) _).1 (T + 1) j = _
    rw [sA_o _ _ _ (by omega)]
    show (sA y3 (T + 10) _).1 (T + 1) j = _
    rw [sA_o _ _ _ (by omega)]
    show (sA y2 (T + 7) _).1 (T + 1) j = _
    rw [sA_o _ _ _ (by omega)]
    show (sA y1 (T + 1) _).1 (T + 1) j = _
    rw [sA_at]; exact if_pos hj
  have v7 : ∀ j, j < 30 → y5.1 (T + 7) j = -2 := fun j hj => by
    show (sA y4 (T + 11) _).1 (T + 7) j = _
    rw [sA_o _ _ _ (by omega)]
    show (sA y3 (T + 10) _).1 (T + 7) j = _
    rw [sA_o _ _ _ (by omega)]
    show (sA y2 (T + 7) _).1 (T + 7) j = _
    rw [sA_at]; exact if_pos hj
  have v10 : ∀ j, j < 25 → y5.1 (T + 10) j = -2 := fun j hj => by
    show (sA y4 (T + 11) _).1 (T + 10) j = _
    rw [sA_o _ _ _ (by omega)]
    show (sA y3 (T + 10) _).1 (T + 10) j = _
    rw [sA_at]; exact if_pos hj
  have v11 : ∀ j, j < 5 → y5.1 (T + 11) j = -2 := fun j hj => by
    show (sA y4 (T + 11) _).1 (T + 11) j = _
    rw [sA_at]; exact if_pos hj
  refine ⟨y5, e, rfl, fun a ha => (o5 a (by omega) (by omega) (by omega) (by omega)).trans (o1 a (by omega)), ?_⟩
  exact ⟨⟨hT, v0 0 (by omega), v0 1 (by omega), v0 2 (by omega), v0 3 (by omega), v1 1 (by omega), v1 2 (by omega), v1 3 (by omega), v1 4 (by omega), v1 5 (by omega), v1 6 (by omega), fun p hp => absurd hp (Nat.not_lt_zero p), fun p hp => absurd hp (Nat.not_lt_zero p), fun d hd => v7 d hd, fun w hw => absurd hw (Nat.not_lt_zero w), fun w hw => absurd hw (Nat.not_lt_zero w), fun p q hp hq => v10 _ (by omega), fun p hp => v11 p hp⟩, v1 0 (by omega)⟩
theorem c_fgt {σ : Mem} {T : Nat} (hT : T = 3 ∨ T = 15) (h7 : σ.2.2 27 1 = some T) : ∃ τ, f_X11_forget σ T = some τ ∧ τ.2 = σ.2 ∧ (∀ a, ¬ (T ≤ a ∧ a ≤ T + 11) → τ.1 a = σ.1 a) ∧ CTI τ T tZ nZ := by
  obtain ⟨τ, h1, h2, h3, h4, h5⟩ := c_fgt0 (σ := σ) hT
  exact ⟨τ, h1, h2, h3, h4, ⟨hT, by decide, fun p hp => absurd hp (Nat.not_lt_zero p), fun p hp => absurd hp (Nat.not_lt_zero p)⟩, h5, fun p d hp _ => absurd hp (Nat.not_lt_zero p), by rw [h2]; exact h7⟩
/-- cells that reading a town changes -/
def FrX (T : Nat) (σ τ : Mem) : Prop := (∀ a j, ¬ (a = 1 ∧ 2 ≤ j ∧ j ≤ 5) → ¬ (a = 27 ∧ 2 ≤ j ∧ j ≤ 4) → ¬ (T ≤ a ∧ a ≤ T + 11) → τ.1 a j = σ.1 a j) ∧ (∀ a j, ¬ (a = 27 ∧ j = 1) → τ.2.2 a j = σ.2.2 a j) ∧ τ.2.2 27 1 = some T
theorem c_text {σ : Mem} {T : Nat} {b : Nat → Nat} {n : Nat} (hT : T = 3 ∨ T = 15) (n8 : n ≤ 800) (b8 : ∀ i, i < n → b i < 256) (hb : ∀ i, i < n → σ.1 2 i = zI (if b i < 128 then (b i : Int) else (b i : Int) - 256)) : (∀ f p, pAll b n (n + 1) tZ nZ 0 = .inl (f, p) → ∃ τ, f_X6_read σ T (zI n) = some (zI f, τ) ∧ FrX T σ τ ∧ τ.1 27 3 = zI p) ∧ (∀ t N, pAll b n (n + 1) tZ nZ 0 = .inr (t, N) → ∃ τ, f_X6_read σ T (zI n) = some (0, τ) ∧ FrX T σ τ ∧ CTI τ T t N) := by
  obtain ⟨y1, e1, e2, e3, e4⟩ := c_fgt (σ := sR σ 27 1 (some T)) hT (by rw [sR_2, if_pos ⟨rfl, rfl⟩])
  let y2 : Mem := sI (sI (sI y1 27 4 0) 1 2 (zI n)) 1 3 0
  have o2 : ∀ a j, ¬ (a = 27 ∧ j = 4) → ¬ (a = 1 ∧ j = 2) → ¬ (a = 1 ∧ j = 3) → y2.1 a j = y1.1 a j := fun a j h1 h2 h3 => by
    show (sI (sI (sI y1 27 4 0) 1 2 (zI n)) 1 3 0).1 a j = _
    rw [sI_1, if_neg h3, sI_1, if_neg h2, sI_1, if_neg h1]
  have hc2 : TKc y2 b n := ⟨n8, b8, by
    show (sI (sI (sI y1 27 4 0) 1 2 (zI n)) 1 3 0).1 1 2 = _
    rw [sI_1, if_neg (by omega), sI_1, if_pos ⟨rfl, rfl⟩], fun i hi => by
    rw [o2 _ _ (by omega) (by omega) (by omega), e3 2 (by omega)]; exact hb i hi⟩
  have p3 : y2.1 1 3 = zI (0 : Nat) := by
    show (sI (sI (sI y1 27 4 0) 1 2 (zI n)) 1 3 0).1 1 3 = _
    rw [sI_1, if_pos ⟨rfl, rfl⟩]; rfl
  obtain ⟨y3, u1, u2, u3, u4, u5⟩ := c_step hc2 (Nat.zero_le _) p3
  have h2 : CTI y2 T tZ nZ := ⟨e4.ct.of (fun a h1 h2 => funext fun j => o2 a j (by omega) (by omega) (by omega)), ⟨e4.cn.at_, e4.cn.P5, e4.cn.ok, e4.cn.cls⟩, (o2 _ _ (by omega) (by omega) (by omega)).trans e4.c0, fun p d hp hd => absurd hp (Nat.not_lt_zero p), e4.town⟩
  have h3 := h2.fc u2.toC
  have z4 : y3.1 27 4 = 0 := by
    rw [u2.1 _ _ (by omega)]
    show (sI (sI (sI y1 27 4 0) 1 2 (zI n)) 1 3 0).1 27 4 = 0
    rw [sI_1, if_neg (by omega), sI_1, if_neg (by omega), sI_1, if_pos ⟨rfl, rfl⟩]
  have all := ca_all (f := n + 1) hT h3 TI_Z (hc2.fc u2.toC) (⟨u4, u3, u5⟩ : CTk y3 b n 0) z4 (by omega)
  have fr : ∀ τ, FrW T y3 τ → FrX T σ τ := fun τ f => by
    refine ⟨fun a j h1 h2 h3 => ?_, fun a j h1 => ?_, by rw [f.2.2]; exact h3.town⟩
    · rw [f.1 a j (by omega) h2 h3, u2.1 a j (by omega), o2 a j (by omega) (by omega) (by omega), e3 a h3]; rfl
    · rw [f.2.2, u2.2]
      show y1.2.2 a j = _
      rw [e2, sR_2, if_neg h1]
  have e : f_X6_read σ T (zI n) = fx3 FU (fun k_9 (i_6 : Int32) (i_7 : Int32) (σ_8 : Mem) => jn0 (jn1 (fun (σ_11 : Mem) => some (σ_11.1 27 4, σ_11)) (fun k_12 => (if (σ_8.1 27 4) = 0 then nm (sI σ_8 27 3 (σ_8.1 1 4)) (fun (σ_13 : Mem) => jn1 (fun (i_14 : Int32) => nm (sI σ_13 27 4 i_14) (fun (σ_16 : Mem) => k_12 σ_16)) (fun k_15 => (if (σ_13.1 1 5) = 0 then rfc (σ_13.2.2 27 1) (fun (T_17 : Nat) => bd1 (f_X11_people σ_13 T_17) (fun (r_18 : Int32) => (if r_18 = 0 then k_15 6 else k_15 0))) else k_15 1))) else k_12 σ_8))) (fun k_10 => (if 800 < i_7 then k_10 else (if i_6 = 0 then k_10 else bd2 (f_X6_line σ_8) (fun (r_19 : Int32) (σ_20 : Mem) => jn1 (fun (i_21 : Int32) => jn1 (fun (σ_23 : Mem) => nm (i_7 + 1) (fun (x_25 : Int32) => k_9 i_21 x_25 σ_23)) (fun k_24 => (if i_21 = 0 then k_24 σ_20 else bd1 (f_X10_step σ_20) (fun (σ_27 : Mem) => k_24 σ_27)))) (fun k_22 => jn0 (k_22 0) (fun k_28 => (if r_19 = 0 then k_28 else (if (σ_20.1 1 5) = 4 then k_22 1 else k_28))))))))) 1 0 y3 := by
    unfold f_X6_read f_X10_begin
    rw [pnm_e, show (sR σ 27 1 (some T)).2.2 27 1 = some T from by rw [sR_2, if_pos ⟨rfl, rfl⟩], prfc_s, e1, pbd1_s, pnm_e, pnm_e, pnm_e, show f_X10_step (sI (sI (sI y1 27 4 0) 1 2 (zI (n : Nat))) 1 3 0) = some y3 from u1, pbd1_s, pbd1_s]
  rw [e]
  refine ⟨fun f p q => ?_, fun t N q => ?_⟩
  · obtain ⟨τ, t1, t2, t3⟩ := all.1 f p q
    exact ⟨τ, t1, fr τ t2, t3⟩
  · obtain ⟨τ, t1, t2, t3⟩ := all.2 t N q
    exact ⟨τ, t1, fr τ t2, t3⟩
theorem MR.cut {f g : Nat → Int32} {t : TT} (h : MR f t) (tb : TB t) (e : ∀ j, j < 175 → g j = f j) : MR g t := by
  have b1 := tb.P
  have b2 := tb.C
  have b3 := tb.W
  refine ⟨(e _ (by omega)).trans h.ms, (e _ (by omega)).trans h.wi, (e _ (by omega)).trans h.la, (e _ (by omega)).trans h.sh, (e _ (by omega)).trans h.P, (e _ (by omega)).trans h.C, (e _ (by omega)).trans h.V, (e _ (by omega)).trans h.W, (e _ (by omega)).trans h.A, (e _ (by omega)).trans h.S, fun p hp => (e _ (by omega)).trans (h.kind p hp), fun p hp => (e _ (by omega)).trans (h.told p hp), fun k c hc => ?_, fun d hd => (e _ (by omega)).trans (h.vis d hd), fun w hw => (e _ (by omega)).trans (h.wp w hw), fun w hw => (e _ (by omega)).trans (h.wd w hw), fun p q hp hq => (e _ (by omega)).trans (h.odds p q hp hq), fun p hp => (e _ (by omega)).trans (h.st p hp)⟩
  have hk : k < t.ch.length := (List.getElem?_eq_some_iff.1 hc).1
  obtain ⟨c1, c2, c3, c4⟩ := h.ch k c hc
  exact ⟨(e _ (by omega)).trans c1, (e _ (by omega)).trans c2, (e _ (by omega)).trans c3, (e _ (by omega)).trans c4⟩
/-- the state that a town begins with -/
def sZ (t : TT) : SS := SS.mk t.vis 0 []
/-- the model reads a town -/
theorem m_text {σ : Mem} {b : Nat → Nat} {n c : Nat} (c8 : c ≤ 800) (hn : n ≤ c) (h2 : σ.1 64 2 = zI c) (b8 : ∀ i, i < n → b i < 256) (hb : ∀ i, i < n → σ.1 65 i = zI (b i)) : (∀ f p, pAll b n (n + 1) tZ nZ 0 = .inl (f, p) → ∃ τ, f_X13_town σ (zI n) = some (-1, τ) ∧ (∀ a j, a ≠ 66 → a ≠ 68 → ¬ (a = 64 ∧ j ≤ 13) → τ.1 a j = σ.1 a j) ∧ τ.2 = σ.2 ∧ τ.1 64 2 = 0 ∧ τ.1 64 9 = zI f ∧ τ.1 64 10 = zI p ∧ τ.1 64 11 = 4) ∧ (∀ t N, pAll b n (n + 1) tZ nZ 0 = .inr (t, N) → ∃ τ, f_X13_town σ (zI n) = some (zI t.P, τ) ∧ (∀ a j, a ≠ 66 → a ≠ 67 → a ≠ 68 → a ≠ 69 → ¬ (a = 64 ∧ j ≤ 21) → τ.1 a j = σ.1 a j) ∧ τ.2 = σ.2 ∧ τ.1 64 2 = 0 ∧ τ.1 64 9 = 0 ∧ τ.1 64 11 = 0 ∧ τ.1 64 14 = 1 ∧ τ.1 64 20 = 0 ∧ τ.1 64 21 = 0 ∧ MR (τ.1 67) t ∧ MV (τ.1 69) 0 (sZ t)) := by
  have n8 : n ≤ 800 := by omega
  let y0 : Mem := sI (sI (sI (gd σ) 64 2 0) 64 9 0) 64 13 0
  let y1 : Mem := sA y0 68 (fun j => if j < 175 then 0 else y0.1 68 j)
  let y2 : Mem := sI (sI y1 64 3 (zI n)) 64 5 0
  have g64 : ∀ j, j ≠ 0 → j ≠ 2 → j ≠ 3 → j ≠ 5 → j ≠ 9 → j ≠ 11 → j ≠ 13 → y2.1 64 j = σ.1 64 j := fun j h0 h2 h3 h5 h9 h11 h13 => by
    show (sI (sI y1 64 3 (zI n)) 64 5 0).1 64 j = _
    rw [sI_1, if_neg (by omega), sI_1, if_neg (by omega)]
    show (sA y0 68 _).1 64 j = _
    rw [sA_o _ _ _ (by omega)]
    show (sI (sI (sI (gd σ) 64 2 0) 64 9 0) 64 13 0).1 64 j = _
    rw [sI_1, if_neg (by omega), sI_1, if_neg (by omega), sI_1, if_neg (by omega), gd_64 _ h0 h11]
  have w64 : ∀ j v, (sI (sI (sI (gd σ) 64 2 0) 64 9 0) 64 13 0).1 64 j = v → j ≠ 3 → j ≠ 5 → y2.1 64 j = v := fun j v e h3 h5 => by
    show (sI (sI y1 64 3 (zI n)) 64 5 0).1 64 j = _
    rw [sI_1, if_neg (by omega), sI_1, if_neg (by omega)]
    show (sA y0 68 _).1 64 j = _
    rw [sA_o _ _ _ (by omega)]; exact e
  have v2 : y2.1 64 2 = 0 := w64 2 0 (by rw [sI_1, if_neg (by omega), sI_1, if_neg (by omega), sI_1, if_pos ⟨rfl, rfl⟩]) (by omega) (by omega)
  have v9 : y2.1 64 9 = 0 := w64 9 0 (by rw [sI_1, if_neg (by omega), sI_1, if_pos ⟨rfl, rfl⟩]) (by omega) (by omega)
  have v13 : y2.1 64 13 = 0 := w64 13 0 (by rw [sI_1, if_pos ⟨rfl, rfl⟩]) (by omega) (by omega)
  have v11 : y2.1 64 11 = 0 := w64 11 0 (by rw [sI_1, if_neg (by omega), sI_1, if_neg (by omega), sI_1, if_neg (by omega)]; exact gd_11 σ) (by omega) (by omega)
  have v3 : y2.1 64 3 = zI n := by
    show (sI (sI y1 64 3 (zI n)) 64 5 0).1 64 3 = _
    rw [sI_1, if_neg (by omega), sI_1, if_pos ⟨rfl, rfl⟩]
  have v5 : y2.1 64 5 = zI (0 : Nat) := by
    show (sI (sI y1 64 3 (zI n)) 64 5 0).1 64 5 = _
    rw [sI_1, if_pos ⟨rfl, rfl⟩]; rfl
  have o2 : ∀ a, a ≠ 64 → a ≠ 68 → y2.1 a = σ.1 a := fun a h h8 => by
    show (sI (sI y1 64 3 (zI n)) 64 5 0).1 a = _
    rw [sI_o _ _ _ _ h, sI_o _ _ _ _ h]
    show (sA y0 68 _).1 a = _
    rw [sA_o _ _ _ h8]
    show (sI (sI (sI (gd σ) 64 2 0) 64 9 0) 64 13 0).1 a = _
    rw [sI_o _ _ _ _ h, sI_o _ _ _ _ h, sI_o _ _ _ _ h, gd_o _ h]
  have v68 : ∀ j, j < 175 → y2.1 68 j = 0 := fun j hj => by
    show (sI (sI y1 64 3 (zI n)) 64 5 0).1 68 j = _
    rw [sI_o _ _ _ _ (by omega), sI_o _ _ _ _ (by omega)]
    show (sA y0 68 _).1 68 j = _
    rw [sA_at]; exact if_pos hj
  have hk2 : TKm y2 b n := ⟨n8, b8, v3, fun i hi => by rw [o2 65 (by omega) (by omega)]; exact hb i hi⟩
  have mi2 : MI y2 tZ nZ := ⟨⟨v68 _ (by omega), v68 _ (by omega), v68 _ (by omega), v68 _ (by omega), v68 _ (by omega), v68 _ (by omega), v68 _ (by omega), v68 _ (by omega), v68 _ (by omega), v68 _ (by omega), fun p hp => absurd hp (Nat.not_lt_zero p), fun p hp => absurd hp (Nat.not_lt_zero p), fun k c hc => (by cases hc), fun d hd => v68 _ (by omega), fun w hw => absurd hw (Nat.not_lt_zero w), fun w hw => absurd hw (Nat.not_lt_zero w), fun p q hp hq => v68 _ (by omega), fun p hp => v68 _ (by omega)⟩, ⟨by decide, fun p hp => absurd hp (Nat.not_lt_zero p), fun p hp => absurd hp (Nat.not_lt_zero p), fun p hp => absurd hp (Nat.not_lt_zero p), fun p _ hp => v68 _ (by omega)⟩⟩
  obtain ⟨y3, u1, u2, u3⟩ := m_next hk2 (Nat.zero_le _) v5
  have z3 : y3.1 64 13 = 0 := by rw [u2.1 _ _ (by omega) (by omega)]; exact v13
  let E : Mem → Option (Int32 × Mem) := fun (σ_18 : Mem) => (if (σ_18.1 64 13) = 0 then bd1 (f_X13_copy σ_18 68 0 67 0 175) (fun (σ_20 : Mem) => fx2 FU (fun k_23 (i_21 : Int32) (σ_22 : Mem) => (if 80 ≤ i_21 then nm (sI σ_22 64 14 1) (fun (σ_24 : Mem) => nm (sI σ_24 64 20 0) (fun (σ_25 : Mem) => nm (sI σ_25 64 21 0) (fun (σ_26 : Mem) => ixd 4 (aln 67) (some (σ_26.1 67 (4 : Int32).toNatClampNeg, σ_26))))) else jn1 (fun (i_27 : Int32) => ixd i_21 (aln 69) (nm (sI σ_22 69 i_21.toNatClampNeg i_27) (fun (σ_29 : Mem) => nm (i_21 + 1) (fun (x_30 : Int32) => k_23 x_30 σ_29)))) (fun k_28 => (if 30 ≤ i_21 then k_28 0 else ixd (60 + i_21) (aln 67) (k_28 (σ_22.1 67 (60 + i_21).toNatClampNeg)))))) 0 σ_20) else bd2 (f_X13_no σ_18 4) (fun (r_32 : Int32) (σ_33 : Mem) => some (r_32, σ_33)))
  have all := ma_all (f := n + 1) E (mi2.fm u2.toM) TI_Z (hk2.fm u2.toM) u3 z3 (by omega)
  obtain ⟨τ, t1, t2, t3, t4⟩ := all
  have e : f_X13_town σ (zI n) = E τ := by
    rw [← t1]
    unfold f_X13_town
    rw [m_good, pbd1_s, show (gd σ).1 64 2 = zI (c : Nat) from (gd_64 σ (by omega) (by omega)).trans h2, show f_X13_in (zI (n : Nat)) 0 (zI (c : Nat)) = some (bI (decide (0 ≤ n ∧ n ≤ c))) from m_in n 0 c (by omega), pbd1_s, decide_eq_true (show 0 ≤ n ∧ n ≤ c from ⟨Nat.zero_le _, hn⟩), if_neg (show ¬ bI true = 0 from by decide), pnm_e, pnm_e, pnm_e]
    refine fx2_run (fun m => zI (m : Nat)) (fun m => sA y0 68 (fun j => if j < m then 0 else y0.1 68 j)) 175 0 (by omega) rfl ?_ (fun k => ?_) (fun m hm k => ?_)
    · show y0 = sA y0 68 (fun j => if j < 0 then 0 else y0.1 68 j)
      rw [show (fun j => if j < 0 then (0 : Int32) else y0.1 68 j) = y0.1 68 from funext fun j => if_neg (Nat.not_lt_zero j), sA_self]
    · rw [if_pos (by decide), pnm_e, pnm_e]
      show bd1 (f_X13_next y2) _ = _
      rw [u1, pbd1_s]
    · rw [if_neg (show ¬ ((175 : Int32) ≤ zI (m : Nat)) from by rw [show (175 : Int32) = zI 175 from rfl, zI_le (by omega) (by omega)]; omega), x68 (by omega), pnm_e, tnI _ (by omega), sI_sA, pnm_e, zI_sc]
      refine congrArg (k (zI (m + 1 : Nat))) (congrArg _ (funext fun j => ?_))
      unfold upd
      show (if j = m then 0 else (if j < m then 0 else y0.1 68 j)) = (if j < m + 1 then 0 else y0.1 68 j)
      by_cases q : j = m
      · rw [if_pos q, if_pos (by omega)]
      · rw [if_neg q]
        by_cases q2 : j < m
        · rw [if_pos q2, if_pos (by omega)]
        · rw [if_neg q2, if_neg (by omega)]
  have fr : ∀ a j, a ≠ 66 → a ≠ 68 → ¬ (a = 64 ∧ j ≤ 13) → τ.1 a j = σ.1 a j := fun a j h1 h2 h3 => by
    rw [t2.1 a j h1 h2 (by omega), u2.1 a j h1 (by omega)]
    by_cases w : a = 64
    · rw [w]; exact g64 j (by omega) (by omega) (by omega) (by omega) (by omega) (by omega) (by omega)
    · rw [o2 a w h2]
  have fr2 : τ.2 = σ.2 := t2.2.1.trans u2.2
  have k11 : τ.1 64 11 = 0 := by rw [t2.1 _ _ (by omega) (by omega) (by omega), u2.1 _ _ (by omega) (by omega)]; exact v11
  have k2 : τ.1 64 2 = 0 := by rw [t2.1 _ _ (by omega) (by omega) (by omega), u2.1 _ _ (by omega) (by omega)]; exact v2
  rw [e]
  refine ⟨fun f p q => ?_, fun t N q => ?_⟩
  · obtain ⟨a1, a2, a3⟩ := t3 f p q
    refine ⟨sI τ 64 11 4, ?_, fun a j h1 h2 h3 => ?_, fr2, ?_, ?_, ?_, ?_⟩
    · show (if τ.1 64 13 = 0 then _ else _) = _
      rw [if_neg (by rw [a1]; decide)]; rfl
    · rw [sI_1, if_neg (by omega)]; exact fr a j h1 h2 h3
    · rw [sI_1, if_neg (by omega)]; exact k2
    · rw [sI_1, if_neg (by omega)]; exact a2
    · rw [sI_1, if_neg (by omega)]; exact a3
    · rw [sI_1, if_pos ⟨rfl, rfl⟩]
  · obtain ⟨a1, a2⟩ := t4 t N q
    have tP := ((pAll_ok (b := b) (n := n) (n + 1) tZ nZ 0 TI_Z (Nat.zero_le _)).2 t N q).1.tb
    let y4 : Mem := sA τ 67 (va_cpy (τ.1 68) (τ.1 67) 0 0 175)
    let g : Nat → Nat → Int32 := fun m j => if j < m then (if j < 30 then y4.1 67 (60 + j) else 0) else y4.1 69 j
    let y5 : Mem := sA y4 69 (g 80)
    let y6 : Mem := sI (sI (sI y5 64 14 1) 64 20 0) 64 21 0
    have c67 : ∀ j, j < 175 → y4.1 67 j = τ.1 68 j := fun j hj => by
      show (sA τ 67 _).1 67 j = _
      rw [sA_at]; exact va_0 hj
    have o6 : ∀ a, a ≠ 64 → a ≠ 67 → a ≠ 69 → y6.1 a = τ.1 a := fun a h1 h2 h3 => by
      show (sI (sI (sI y5 64 14 1) 64 20 0) 64 21 0).1 a = _
      rw [sI_o _ _ _ _ h1, sI_o _ _ _ _ h1, sI_o _ _ _ _ h1]
      show (sA y4 69 _).1 a = _
      rw [sA_o _ _ _ h3]
      show (sA τ 67 _).1 a = _
      rw [sA_o _ _ _ h2]
    have e64 : ∀ j, y5.1 64 j = τ.1 64 j := fun j => by
      show (sA y4 69 _).1 64 j = _
      rw [sA_o _ _ _ (by omega)]
      show (sA τ 67 _).1 64 j = _
      rw [sA_o _ _ _ (by omega)]
    have p64 : ∀ j, j ≠ 14 → j ≠ 20 → j ≠ 21 → y6.1 64 j = τ.1 64 j := fun j h1 h2 h3 => by
      show (sI (sI (sI y5 64 14 1) 64 20 0) 64 21 0).1 64 j = _
      rw [sI_1, if_neg (by omega), sI_1, if_neg (by omega), sI_1, if_neg (by omega)]; exact e64 j
    have e67 : y6.1 67 = y4.1 67 := by
      show (sI (sI (sI y5 64 14 1) 64 20 0) 64 21 0).1 67 = _
      rw [sI_o _ _ _ _ (by omega), sI_o _ _ _ _ (by omega), sI_o _ _ _ _ (by omega)]
      show (sA y4 69 _).1 67 = _
      rw [sA_o _ _ _ (by omega)]
    have e69 : y6.1 69 = g 80 := by
      show (sI (sI (sI y5 64 14 1) 64 20 0) 64 21 0).1 69 = _
      rw [sI_o _ _ _ _ (by omega), sI_o _ _ _ _ (by omega), sI_o _ _ _ _ (by omega)]
      show (sA y4 69 _).1 69 = _
      rw [sA_at]
    have mr : MR (y6.1 67) t := a2.mr.cut tP (fun j hj => by rw [e67]; exact c67 j hj)
    have ex : E τ = some (zI t.P, y6) := by
      show (if τ.1 64 13 = 0 then _ else _) = _
      rw [if_pos a1, show f_X13_copy τ 68 0 67 0 175 = some y4 from m_copy (x := 0) (y := 0) (n := 175) (by omega) (by decide) (by decide) (by decide) (by decide), pbd1_s]
      refine fx2_run (fun m => zI (m : Nat)) (fun m => sA y4 69 (g m)) 80 0 (by omega) rfl ?_ (fun k => ?_) (fun m hm k => ?_)
      · show y4 = sA y4 69 (g 0)
        rw [show g 0 = y4.1 69 from funext fun j => if_neg (Nat.not_lt_zero j), sA_self]
      · rw [if_pos (by decide), pnm_e, pnm_e, pnm_e]
        show ixd 4 (aln 67) (some (y6.1 67 4, y6)) = _
        rw [show ixd 4 (aln 67) (some (y6.1 67 4, y6)) = some (y6.1 67 4, y6) from ixd_in (i := 4) (n := aln 67) (by decide), mr.P]
      · rw [if_neg (show ¬ ((80 : Int32) ≤ zI (m : Nat)) from by rw [show (80 : Int32) = zI 80 from rfl, zI_le (by omega) (by omega)]; omega), jn1_e]
        dsimp only
        have put : ∀ v : Int32, v = (if m < 30 then y4.1 67 (60 + m) else 0) → ixd (zI (m : Nat)) (aln 69) (nm (sI (sA y4 69 (g m)) 69 (zI (m : Nat)).toNatClampNeg v) (fun (σ_29 : Mem) => nm (zI (m : Nat) + 1) (fun (x_30 : Int32) => k x_30 σ_29))) = k (zI (m + 1 : Nat)) (sA y4 69 (g (m + 1))) := fun v hv => by
          rw [ixd_in (by show 0 ≤ (m : Int) ∧ (m : Int) < 80 ∧ 80 ≤ 2000000; omega), pnm_e, pnm_e, zI_sc, tnI _ (by omega), sI_sA]
          refine congrArg (k (zI (m + 1 : Nat))) (congrArg _ (funext fun j => ?_))
          unfold upd
          show (if j = m then v else (if j < m then (if j < 30 then y4.1 67 (60 + j) else 0) else y4.1 69 j)) = (if j < m + 1 then (if j < 30 then y4.1 67 (60 + j) else 0) else y4.1 69 j)
          by_cases q : j = m
          · rw [if_pos q, if_pos (show j < m + 1 from by omega), hv, q]
          · rw [if_neg q]
            by_cases q2 : j < m
            · rw [if_pos q2, if_pos (show j < m + 1 from by omega)]
            · rw [if_neg q2, if_neg (show ¬ j < m + 1 from by omega)]
        by_cases w : m < 30
        · rw [if_neg (show ¬ ((30 : Int32) ≤ zI (m : Nat)) from by rw [show (30 : Int32) = zI 30 from rfl, zI_le (by omega) (by omega)]; omega), show (60 : Int32) + zI (m : Nat) = zI (60 + m : Nat) from by show zI 60 + _ = _; rw [zI_add]; congr 1, ixd_in (by show 0 ≤ ((60 + m : Nat) : Int) ∧ ((60 + m : Nat) : Int) < 175 ∧ 175 ≤ 2000000; omega), tnI _ (show 60 + m < 1000 by omega), sA_o _ _ _ (show 67 ≠ 69 by omega)]
          exact put _ (by rw [if_pos w])
        · rw [if_pos (show (30 : Int32) ≤ zI (m : Nat) from by rw [show (30 : Int32) = zI 30 from rfl, zI_le (by omega) (by omega)]; omega)]
          exact put _ (by rw [if_neg w])
    refine ⟨y6, ex, fun a j h1 h2 h3 h4 h5 => ?_, fr2, (p64 2 (by omega) (by omega) (by omega)).trans k2, ?_, ?_, ?_, ?_, ?_, mr, ?_⟩
    · by_cases w : a = 64
      · subst w
        rw [p64 j (by omega) (by omega) (by omega)]; exact fr 64 j (by omega) (by omega) (by omega)
      · rw [o6 a w h2 h4]; exact fr a j h1 h3 (by omega)
    · rw [p64 9 (by omega) (by omega) (by omega)]; rw [(t2.2.2 a1).2, u2.1 _ _ (by omega) (by omega)]; exact v9
    · rw [p64 11 (by omega) (by omega) (by omega)]; exact k11
    · show (sI (sI (sI y5 64 14 1) 64 20 0) 64 21 0).1 64 14 = _
      rw [sI_1, if_neg (by omega), sI_1, if_neg (by omega), sI_1, if_pos ⟨rfl, rfl⟩]
    · show (sI (sI (sI y5 64 14 1) 64 20 0) 64 21 0).1 64 20 = _
      rw [sI_1, if_neg (by omega), sI_1, if_pos ⟨rfl, rfl⟩]
    · show (sI (sI (sI y5 64 14 1) 64 20 0) 64 21 0).1 64 21 = _
      rw [sI_1, if_pos ⟨rfl, rfl⟩]
    · rw [e69]
      have hz : ∀ j, 30 ≤ j → j < 80 → g 80 j = 0 := fun j h1 h2 => by
        show (if j < 80 then (if j < 30 then y4.1 67 (60 + j) else 0) else y4.1 69 j) = 0
        rw [if_pos h2, if_neg (by omega)]
      refine ⟨fun d hd => ?_, fun k c hc => (by cases hc), ?_, ?_⟩
      · rw [Nat.zero_add]
        show (if d < 80 then (if d < 30 then y4.1 67 (60 + d) else 0) else y4.1 69 d) = _
        rw [if_pos (by omega), if_pos hd, c67 _ (by omega)]
        exact a2.mr.vis d hd
      · exact hz 78 (by omega) (by omega)
      · exact hz 79 (by omega) (by omega)
theorem rel_town (σ : Mem) (h : RLq σ) (a : Int32) : ∃ r σ1 σ2, f_X12_town σ a = some (r, σ1) ∧ f_X13_town σ1 a = some (r, σ2) ∧ RLq σ2 := by
  obtain ⟨T, t, s, hc, -, -⟩ := h
  obtain ⟨n0, b, hS⟩ := hc.tape
  have at_ := hc.ct.at_
  have n800 := hS.n800
  have za := zI_all a
  have ra := zI_rng a
  revert za ra
  generalize a.toInt = v
  intro za ra
  subst za
  by_cases q : v < 0 ∨ (n0 : Int) < v
  · -- refused
    have e1 : f_X12_town σ (zI v) = some (-1, sI σ 0 13 2) := by
      unfold f_X12_town
      rw [jn1_e, jn0_e]
      rw [hS.cnt]
      rcases q with q | q
      · rw [if_pos (show zI v < 0 from by rw [show (0 : Int32) = zI 0 from rfl, zI_lt ra (by omega)]; exact q)]
        dsimp only
        rw [refu_2, pbd2_s, if_neg (by decide)]
      · rw [if_neg (show ¬ (zI v < 0) from by rw [show (0 : Int32) = zI 0 from rfl, zI_lt ra (by omega)]; omega), if_neg (show ¬ (zI v ≤ zI (n0 : Nat)) from by rw [zI_le ra (by omega)]; omega)]
        dsimp only
        rw [refu_2, pbd2_s, if_neg (by decide)]
    refine ⟨_, _, _, e1, ?_, RL_no hc 2 (by decide)⟩
    unfold f_X13_town
    have c2 : (gd (sI σ 0 13 2)).1 64 2 = zI (n0 : Nat) := by rw [gd_64 _ (by omega) (by omega), sI_1, if_neg (by omega)]; exact hS.cnm
    have e2 : f_X13_in (zI v) 0 (zI (n0 : Nat)) = some 0 := by
      unfold f_X13_in
      rw [jn0_e]
      rcases q with q | q
      · rw [if_pos (show zI v < 0 from by rw [show (0 : Int32) = zI 0 from rfl, zI_lt ra (by omega)]; exact q)]
      · rw [if_neg (show ¬ (zI v < 0) from by rw [show (0 : Int32) = zI 0 from rfl, zI_lt ra (by omega)]; omega), if_pos (show zI (n0 : Nat) < zI v from by rw [zI_lt (by omega) ra]; exact q)]
    rw [m_good, pbd1_s, c2, e2, pbd1_s, if_pos rfl, m_no]
    rfl
  obtain ⟨n, rfl⟩ : ∃ n : Nat, v = n := ⟨v.toNat, by omega⟩
  have hn : n ≤ n0 := by omega
  have hT2 : 18 - T = 3 ∨ 18 - T = 15 := by omega
  let σ4 : Mem := sI σ 0 13 0
  have ct := c_text (σ := σ4) (T := 18 - T) (b := b) (n := n) hT2 (by omega) (fun i _ => hS.byte i) (fun i hi => by
    show (sI σ 0 13 0).1 2 i = _
    rw [sI_1, if_neg (by omega)]; exact hS.cls i (by omega))
  have f4 : ∀ a j, ¬ (a = 0 ∧ j = 13) → σ4.1 a j = σ.1 a j := fun a j h => by
    show (sI σ 0 13 0).1 a j = _
    rw [sI_1, if_neg h]
  -- the class's call up to its answer
  have start : ∀ (r : Int32) (τ : Mem), f_X6_read σ4 (18 - T) (zI (n : Nat)) = some (r, τ) → f_X12_town σ (zI (n : Nat)) = bd2 (f_X12_refused (sI (sI (sI τ 0 14 r) 0 15 (τ.1 27 3)) 1 1 0) (if r = 0 then 0 else 4)) (fun (r_13 : Int32) (σ_14 : Mem) => (if r_13 = 0 then rfc (σ_14.2.2 0 10) (fun (T_15 : Nat) => rfc (σ_14.2.2 0 11) (fun (T_16 : Nat) => nm (sR σ_14 0 10 (some T_16)) (fun (σ_17 : Mem) => nm (sR σ_17 0 11 (some T_15)) (fun (σ_18 : Mem) => rfc (σ_18.2.2 0 10) (fun (T_19 : Nat) => bd1 (f_X9_begin σ_18 28 T_19) (fun (σ_20 : Mem) => bd1 (f_X1_forget σ_20) (fun (σ_21 : Mem) => nm (sI σ_21 0 12 0) (fun (σ_22 : Mem) => rfc (σ_22.2.2 0 10) (fun (T_23 : Nat) => bd1 (f_X11_people σ_22 T_23) (fun (r_24 : Int32) => some (r_24, σ_22))))))))))) else some ((-1), σ_14))) := by
    intro r τ e
    unfold f_X12_town
    rw [jn1_e, jn0_e, hS.cnt, if_neg (show ¬ (zI (n : Nat) < 0) from by rw [show (0 : Int32) = zI 0 from rfl, zI_lt (by omega) (by omega)]; omega), if_pos (show zI (n : Nat) ≤ zI (n0 : Nat) from by rw [zI_le (by omega) (by omega)]; omega)]
    dsimp only
    rw [refu_0, pbd2_s, if_pos (show (0 : Int32) = 0 from rfl), show (sI σ 0 13 0).2.2 0 11 = some (18 - T) from hc.spare, prfc_s, show f_X6_read (sI σ 0 13 0) (18 - T) (zI (n : Nat)) = some (r, τ) from e, pbd2_s, pnm_e, pnm_e, show (sI τ 0 14 r).1 27 3 = τ.1 27 3 from by rw [sI_1, if_neg (by omega)]]
    show bd1 (some (sI (sI (sI τ 0 14 r) 0 15 (τ.1 27 3)) 1 1 0)) _ = _
    rw [pbd1_s, jn1_e, show (sI (sI (sI τ 0 14 r) 0 15 (τ.1 27 3)) 1 1 0).1 0 14 = r from by rw [sI_1, if_neg (by omega), sI_1, if_neg (by omega), sI_1, if_pos ⟨rfl, rfl⟩]]
    by_cases z : r = 0
    · rw [if_pos z, if_pos z]
    · rw [if_neg z, if_neg z]
  obtain ⟨hn1, H, hH, hH1, hH0⟩ := hc.hist
  obtain ⟨in1, I, hI, hI0⟩ := hc.imgs
  have R8 := (pAll_ok (b := b) (n := n) (n + 1) tZ nZ 0 TI_Z (Nat.zero_le _))
  rcases er : pAll b n (n + 1) tZ nZ 0 with ⟨f, p⟩ | ⟨t', N'⟩
  · -- a fault
    obtain ⟨τ, t1, t2, t3⟩ := ct.1 f p er
    have f8 := R8.1 f p er
    have fz : ¬ zI (f : Nat) = 0 := by rw [show (0 : Int32) = zI 0 from rfl, zI_eq (by omega) (by omega)]; omega
    let y : Mem := sI (sI (sI (sI τ 0 14 (zI f)) 0 15 (τ.1 27 3)) 1 1 0) 0 13 4
    have yv : ∀ a j, ¬ (a = 0 ∧ (j = 13 ∨ j = 14 ∨ j = 15)) → ¬ (a = 1 ∧ 1 ≤ j ∧ j ≤ 5) → ¬ (a = 27 ∧ 2 ≤ j ∧ j ≤ 4) → ¬ (18 - T ≤ a ∧ a ≤ 18 - T + 11) → y.1 a j = σ.1 a j := fun a j h1 h2 h3 h4 => by
      show (sI (sI (sI (sI τ 0 14 (zI f)) 0 15 (τ.1 27 3)) 1 1 0) 0 13 4).1 a j = _
      rw [sI_1, if_neg (by omega), sI_1, if_neg (by omega), sI_1, if_neg (by omega), sI_1, if_neg (by omega), t2.1 a j (by omega) h3 h4]
      exact f4 a j (by omega)
    have yr : ∀ a j, ¬ (a = 27 ∧ j = 1) → y.2.2 a j = σ.2.2 a j := fun a j h1 => t2.2.1 a j h1
    have e1 : f_X12_town σ (zI (n : Nat)) = some (-1, y) := by
      rw [start _ τ t1, if_neg fz]; rfl
    have m1 := m_text (σ := y) (b := b) (n := n) (c := n0) n800 hn ((yv _ _ (by omega) (by omega) (by omega) (by omega)).trans hS.cnm) (fun i _ => hS.byte i) (fun i hi => (yv _ _ (by omega) (by omega) (by omega) (by omega)).trans (hS.mod i (by omega)))
    obtain ⟨υ, u1, u2, u3, u4, u5, u6, u7⟩ := m1.1 f p er
    refine ⟨_, y, υ, e1, u1, ?_⟩
    have k : ∀ a j, ¬ (a = 0 ∧ (j = 13 ∨ j = 14 ∨ j = 15)) → ¬ (a = 1 ∧ 1 ≤ j ∧ j ≤ 5) → ¬ (a = 27 ∧ 2 ≤ j ∧ j ≤ 4) → ¬ (18 - T ≤ a ∧ a ≤ 18 - T + 11) → a ≠ 66 → a ≠ 68 → ¬ (a = 64 ∧ j ≤ 13) → υ.1 a j = σ.1 a j := fun a j h1 h2 h3 h4 h5 h6 h7 => (u2 a j h5 h6 h7).trans (yv a j h1 h2 h3 h4)
    have ka : ∀ a, a ≠ 0 → a ≠ 1 → a ≠ 27 → ¬ (18 - T ≤ a ∧ a ≤ 18 - T + 11) → a ≠ 64 → a ≠ 66 → a ≠ 68 → υ.1 a = σ.1 a := fun a h0 h1 h2 h3 h4 h5 h6 => funext fun j => k a j (by omega) (by omega) (by omega) h3 h5 h6 (by omega)
    have kr : ∀ a j, ¬ (a = 27 ∧ j = 1) → υ.2.2 a j = σ.2.2 a j := fun a j h1 => by rw [u3]; exact yr a j h1
    have kra : ∀ a, a ≠ 27 → υ.2.2 a = σ.2.2 a := fun a h1 => funext fun j => kr a j (by omega)
    have v13 : υ.1 0 13 = zI 4 := by
      rw [u2 0 13 (by omega) (by omega) (by omega)]
      show (sI (sI (sI (sI τ 0 14 (zI f)) 0 15 (τ.1 27 3)) 1 1 0) 0 13 4).1 0 13 = _
      rw [sI_1, if_pos ⟨rfl, rfl⟩]; rfl
    have v14 : υ.1 0 14 = zI f := by
      rw [u2 0 14 (by omega) (by omega) (by omega)]
      show (sI (sI (sI (sI τ 0 14 (zI f)) 0 15 (τ.1 27 3)) 1 1 0) 0 13 4).1 0 14 = _
      rw [sI_1, if_neg (by omega), sI_1, if_neg (by omega), sI_1, if_neg (by omega), sI_1, if_pos ⟨rfl, rfl⟩]
    have v15 : υ.1 0 15 = zI p := by
      rw [u2 0 15 (by omega) (by omega) (by omega)]
      show (sI (sI (sI (sI τ 0 14 (zI f)) 0 15 (τ.1 27 3)) 1 1 0) 0 13 4).1 0 15 = _
      rw [sI_1, if_neg (by omega), sI_1, if_neg (by omega), sI_1, if_pos ⟨rfl, rfl⟩]; exact t3
    have v1 : υ.1 1 1 = zI (0 : Nat) := by
      rw [u2 1 1 (by omega) (by omega) (by omega)]
      show (sI (sI (sI (sI τ 0 14 (zI f)) 0 15 (τ.1 27 3)) 1 1 0) 0 13 4).1 1 1 = _
      rw [sI_1, if_neg (by omega), sI_1, if_pos ⟨rfl, rfl⟩]; rfl
    refine ⟨T, t, s, ⟨hc.tb, hc.sb, ?_, ?_, hc.ct.of (fun a h1 h2 => ka a (by omega) (by omega) (by omega) (by omega) (by omega) (by omega) (by omega)), hc.cs.of (fun a h1 h2 => ka a (by omega) (by omega) (by omega) (by omega) (by omega) (by omega) (by omega)) (kra 28 (by omega)), ?_, ?_, ?_, ?_, ⟨hn1, H, hH.of ?_ ?_ ?_ ?_, hH1, hH0⟩, ⟨in1, I, hI.of ?_ ?_ (fun a h1 h2 => ka a (by omega) (by omega) (by omega) (by omega) (by omega) (by omega) (by omega)) ?_ (fun a h1 h2 => kra a (by omega)), hI0⟩, ⟨0, b, ⟨by omega, hS.byte, v1, u4, fun i hi => absurd hi (Nat.not_lt_zero i), fun i hi => absurd hi (Nat.not_lt_zero i)⟩⟩, ?_, ⟨18 - T, ?_⟩, hc.msz⟩, ?_, fun _ => ?_⟩
    · rw [kr 0 10 (by omega)]; exact hc.town
    · rw [kr 0 11 (by omega)]; exact hc.spare
    · rw [ka 67 (by omega) (by omega) (by omega) (by omega) (by omega) (by omega) (by omega)]; exact hc.mr
    · rw [ka 69 (by omega) (by omega) (by omega) (by omega) (by omega) (by omega) (by omega)]; exact hc.mv
    · rw [k 64 14 (by omega) (by omega) (by omega) (by omega) (by omega) (by omega) (by omega)]; exact hc.has
    · rw [k 64 24 (by omega) (by omega) (by omega) (by omega) (by omega) (by omega) (by omega)]; exact hc.nod
    · exact k 49 1 (by omega) (by omega) (by omega) (by omega) (by omega) (by omega) (by omega)
    · exact k 64 20 (by omega) (by omega) (by omega) (by omega) (by omega) (by omega) (by omega)
    · exact ka 50 (by omega) (by omega) (by omega) (by omega) (by omega) (by omega) (by omega)
    · exact ka 70 (by omega) (by omega) (by omega) (by omega) (by omega) (by omega) (by omega)
    · exact k 0 12 (by omega) (by omega) (by omega) (by omega) (by omega) (by omega) (by omega)
    · exact k 64 21 (by omega) (by omega) (by omega) (by omega) (by omega) (by omega) (by omega)
    · exact ka 71 (by omega) (by omega) (by omega) (by omega) (by omega) (by omega) (by omega)
    · rw [v14, u5]
    · rw [u3]; exact t2.2.2
    · rw [v13, u7]; rfl
    · rw [v15, u6]
  · -- a town
    obtain ⟨τ, t1, t2, t3⟩ := ct.2 t' N' er
    obtain ⟨ti, p0⟩ := R8.2 t' N' er
    let y0 : Mem := sI (sI (sI (sI τ 0 14 0) 0 15 (τ.1 27 3)) 1 1 0) 0 13 0
    let y1 : Mem := sR (sR y0 0 10 (some (18 - T))) 0 11 (some T)
    let y2 : Mem := sI (sI (sR y1 28 0 (some (18 - T))) 28 1 0) 28 2 0
    let y3 : Mem := sA y2 29 (va_cpy (y2.1 (18 - T + 7)) (y2.1 29) 0 0 30)
    let y4 : Mem := sA y3 31 (va_cpy (y3.1 (18 - T + 6)) (y3.1 31) 0 0 150)
    let y : Mem := sI (sI y4 49 1 0) 0 12 0
    have aa := ct_aln hT2
    have o0 : ∀ a, a ≠ 0 → a ≠ 1 → y0.1 a = τ.1 a := fun a h1 h2 => by
      show (sI (sI (sI (sI τ 0 14 0) 0 15 (τ.1 27 3)) 1 1 0) 0 13 0).1 a = _
      rw [sI_o _ _ _ _ h1, sI_o _ _ _ _ h2, sI_o _ _ _ _ h1, sI_o _ _ _ _ h1]
    have o2 : ∀ a, a ≠ 28 → y2.1 a = y0.1 a := fun a h1 => by
      show (sI (sI (sR y1 28 0 (some (18 - T))) 28 1 0) 28 2 0).1 a = _
      rw [sI_o _ _ _ _ h1, sI_o _ _ _ _ h1]; rfl
    have o4 : ∀ a, a ≠ 29 → a ≠ 31 → y4.1 a = y2.1 a := fun a h1 h2 => by
      show (sA y3 31 _).1 a = _
      rw [sA_o _ _ _ h2]
      show (sA y2 29 _).1 a = _
      rw [sA_o _ _ _ h1]
    have oy : ∀ a j, ¬ (a = 49 ∧ j = 1) → ¬ (a = 0 ∧ j = 12) → y.1 a j = y4.1 a j := fun a j h1 h2 => by
      show (sI (sI y4 49 1 0) 0 12 0).1 a j = _
      rw [sI_1, if_neg h2, sI_1, if_neg h1]
    have yv : ∀ a j, ¬ (a = 0 ∧ 12 ≤ j ∧ j ≤ 15) → ¬ (a = 1 ∧ 1 ≤ j ∧ j ≤ 5) → ¬ (a = 27 ∧ 2 ≤ j ∧ j ≤ 4) → ¬ (18 - T ≤ a ∧ a ≤ 18 - T + 11) → ¬ (28 ≤ a ∧ a ≤ 31) → ¬ (a = 49 ∧ j = 1) → y.1 a j = σ.1 a j := fun a j h1 h2 h3 h4 h5 h6 => by
      rw [oy a j h6 (by omega), o4 a (by omega) (by omega), o2 a (by omega)]
      show (sI (sI (sI (sI τ 0 14 0) 0 15 (τ.1 27 3)) 1 1 0) 0 13 0).1 a j = _
      rw [sI_1, if_neg (by omega), sI_1, if_neg (by omega), sI_1, if_neg (by omega), sI_1, if_neg (by omega), t2.1 a j (by omega) h3 h4]
      exact f4 a j (by omega)
    have yT : ∀ a, 18 - T ≤ a → a ≤ 18 - T + 11 → y.1 a = τ.1 a := fun a h1 h2 => funext fun j => by
      rw [oy a j (by omega) (by omega), o4 a (by omega) (by omega), o2 a (by omega), o0 a (by omega) (by omega)]
    have yr : ∀ a j, ¬ (a = 27 ∧ j = 1) → ¬ (a = 0 ∧ (j = 10 ∨ j = 11)) → ¬ (a = 28 ∧ j = 0) → y.2.2 a j = σ.2.2 a j := fun a j h1 h2 h3 => by
      show (sR (sR (sR y0 0 10 (some (18 - T))) 0 11 (some T)) 28 0 (some (18 - T))).2.2 a j = _
      rw [sR_2, if_neg h3, sR_2, if_neg (by omega), sR_2, if_neg (by omega)]
      exact t2.2.1 a j h1
    have y10 : y.2.2 0 10 = some (18 - T) := by
      show (sR (sR (sR y0 0 10 (some (18 - T))) 0 11 (some T)) 28 0 (some (18 - T))).2.2 0 10 = _
      rw [sR_2, if_neg (by omega), sR_2, if_neg (by omega), sR_2, if_pos ⟨rfl, rfl⟩]
    have y11 : y.2.2 0 11 = some T := by
      show (sR (sR (sR y0 0 10 (some (18 - T))) 0 11 (some T)) 28 0 (some (18 - T))).2.2 0 11 = _
      rw [sR_2, if_neg (by omega), sR_2, if_pos ⟨rfl, rfl⟩]
    have y28 : y.2.2 28 0 = some (18 - T) := by
      show (sR (sR (sR y0 0 10 (some (18 - T))) 0 11 (some T)) 28 0 (some (18 - T))).2.2 28 0 = _
      rw [sR_2, if_pos ⟨rfl, rfl⟩]
    have y27 : y.2.2 27 1 = some (18 - T) := by
      show (sR (sR (sR y0 0 10 (some (18 - T))) 0 11 (some T)) 28 0 (some (18 - T))).2.2 27 1 = _
      rw [sR_2, if_neg (by omega), sR_2, if_neg (by omega), sR_2, if_neg (by omega)]
      exact t2.2.2
    have cty : CT y (18 - T) t' := t3.ct.of yT
    have tb' := ti.tb
    have v29 : ∀ j, j < 30 → y.1 29 j = τ.1 (18 - T + 7) j := fun j hj => by
      rw [oy 29 j (by omega) (by omega)]
      show (sA y3 31 _).1 29 j = _
      rw [sA_o _ _ _ (by omega)]
      show (sA y2 29 _).1 29 j = _
      rw [sA_at, va_0 hj, o2 _ (by omega), o0 _ (by omega) (by omega)]
    have v31 : ∀ j, j < 150 → y.1 31 j = τ.1 (18 - T + 6) j := fun j hj => by
      rw [oy 31 j (by omega) (by omega)]
      show (sA y3 31 _).1 31 j = _
      rw [sA_at, va_0 hj]
      show (sA y2 29 _).1 (18 - T + 6) j = _
      rw [sA_o _ _ _ (by omega), o2 _ (by omega), o0 _ (by omega) (by omega)]
    have v28 : y.1 28 1 = 0 ∧ y.1 28 2 = 0 := by
      rw [oy 28 1 (by omega) (by omega), oy 28 2 (by omega) (by omega), o4 28 (by omega) (by omega)]
      constructor
      · show (sI (sI (sR y1 28 0 (some (18 - T))) 28 1 0) 28 2 0).1 28 1 = 0
        rw [sI_1, if_neg (by omega), sI_1, if_pos ⟨rfl, rfl⟩]
      · show (sI (sI (sR y1 28 0 (some (18 - T))) 28 1 0) 28 2 0).1 28 2 = 0
        rw [sI_1, if_pos ⟨rfl, rfl⟩]
    have y0v : ∀ j, j ≠ 12 → y.1 0 j = (sI (sI (sI (sI τ 0 14 0) 0 15 (τ.1 27 3)) 1 1 0) 0 13 0).1 0 j := fun j hj => by
      rw [oy 0 j (by omega) (by omega), o4 0 (by omega) (by omega), o2 0 (by omega)]
    have e1 : f_X12_town σ (zI (n : Nat)) = some (zI t'.P, y) := by
      rw [start _ τ t1, if_pos rfl]
      have ep : f_X11_people y (18 - T) = some (zI t'.P) := ct_people cty
      have eb : f_X9_begin y1 28 (18 - T) = some y4 := by
        unfold f_X9_begin f_X5_copy
        rw [pnm_e, pnm_e, pnm_e, c_row (σ := sI (sI (sR y1 28 0 (some (18 - T))) 28 1 0) 28 2 0) (n := 30) aa.2.2.2.2.2.1 rfl (by omega), pbd1_s]
        show bd1 (bd1 (f_X12_copyRow y3 (18 - T + 6) 31) _) _ = _
        rw [c_row (n := 150) aa.2.2.2.2.1 rfl (by omega), pbd1_s, pbd1_s]
      show rfc (y0.2.2 0 10) (fun (T_15 : Nat) => rfc (y0.2.2 0 11) (fun (T_16 : Nat) => nm (sR y0 0 10 (some T_16)) (fun (σ_17 : Mem) => nm (sR σ_17 0 11 (some T_15)) (fun (σ_18 : Mem) => rfc (σ_18.2.2 0 10) (fun (T_19 : Nat) => bd1 (f_X9_begin σ_18 28 T_19) (fun (σ_20 : Mem) => bd1 (f_X1_forget σ_20) (fun (σ_21 : Mem) => nm (sI σ_21 0 12 0) (fun (σ_22 : Mem) => rfc (σ_22.2.2 0 10) (fun (T_23 : Nat) => bd1 (f_X11_people σ_22 T_23) (fun (r_24 : Int32) => some (r_24, σ_22))))))))))) = _
      rw [show y0.2.2 0 10 = some T from (t2.2.1 0 10 (by omega)).trans hc.town, prfc_s, show y0.2.2 0 11 = some (18 - T) from (t2.2.1 0 11 (by omega)).trans hc.spare, prfc_s, pnm_e, pnm_e]
      show rfc (y1.2.2 0 10) _ = _
      rw [show y1.2.2 0 10 = some (18 - T) from by
        show (sR (sR y0 0 10 (some (18 - T))) 0 11 (some T)).2.2 0 10 = _
        rw [sR_2, if_neg (by omega), sR_2, if_pos ⟨rfl, rfl⟩], prfc_s]
      show bd1 (f_X9_begin y1 28 (18 - T)) _ = _
      rw [eb, pbd1_s]
      show rfc (y.2.2 0 10) (fun (T_23 : Nat) => bd1 (f_X11_people y T_23) (fun (r_24 : Int32) => some (r_24, y))) = _
      rw [y10, prfc_s, ep, pbd1_s]
    have m1 := m_text (σ := y) (b := b) (n := n) (c := n0) n800 hn ((yv _ _ (by omega) (by omega) (by omega) (by omega) (by omega) (by omega)).trans hS.cnm) (fun i _ => hS.byte i) (fun i hi => (yv _ _ (by omega) (by omega) (by omega) (by omega) (by omega) (by omega)).trans (hS.mod i (by omega)))
    obtain ⟨υ, u1, u2, u3, u4, u5, u6, u7, u8, u9, umr, umv⟩ := m1.2 t' N' er
    refine ⟨_, y, υ, e1, u1, ?_⟩
    have kx : ∀ a, a ≠ 64 → a ≠ 66 → a ≠ 67 → a ≠ 68 → a ≠ 69 → υ.1 a = y.1 a := fun a h1 h2 h3 h4 h5 => funext fun j => u2 a j h2 h3 h4 h5 (by omega)
    have kr : ∀ a, υ.2.2 a = y.2.2 a := fun a => by rw [u3]
    have hTT : 18 - (18 - T) = T := by omega
    refine RL_mk (T := 18 - T) (t := t') (s := sZ t') ⟨tb', ⟨tb'.vis, by show 0 < 30; omega, by show 0 ≤ 12; omega, fun c hc => (by cases hc)⟩, ?_, ?_, cty.of (fun a h1 h2 => kx a (by omega) (by omega) (by omega) (by omega) (by omega)), ⟨Or.inl rfl, ?_, ?_, ?_, fun d hd => ?_, fun p d hp hd => ?_⟩, umr, umv, ?_, ?_, ⟨0, fun _ => sZ t', ⟨by omega, ?_, u8, fun i hi => absurd hi (Nat.not_lt_zero i), fun i hi => absurd hi (Nat.not_lt_zero i), fun i _ => ⟨tb'.vis, by show 0 < 30; omega, by show 0 ≤ 12; omega, fun c hc => (by cases hc)⟩⟩, rfl, fun _ => rfl⟩, ⟨0, I, ⟨by omega, ?_, u9, fun i hi => ?_, fun i hi => absurd hi (Nat.not_lt_zero i), fun i hi => absurd hi (Nat.not_lt_zero i), fun i hi => absurd hi (Nat.not_lt_zero i)⟩, fun _ => rfl⟩, ⟨0, b, ⟨by omega, hS.byte, ?_, u4, fun i hi => absurd hi (Nat.not_lt_zero i), fun i hi => absurd hi (Nat.not_lt_zero i)⟩⟩, ?_, ⟨18 - T, ?_⟩, fun w => absurd w (by omega)⟩ 0 ?_ ?_ (by decide)
    · rw [kr 0]; exact y10
    · rw [kr 0, y11, hTT]
    · rw [kr 28]; exact y28
    · rw [kx 28 (by omega) (by omega) (by omega) (by omega) (by omega)]; exact v28.1
    · rw [kx 28 (by omega) (by omega) (by omega) (by omega) (by omega)]; exact v28.2
    · rw [kx 29 (by omega) (by omega) (by omega) (by omega) (by omega), v29 d hd]; exact t3.ct.vis d hd
    · have := tb'.P
      rw [kx 31 (by omega) (by omega) (by omega) (by omega) (by omega), v31 _ (by omega)]
      rw [show t'.ch ++ (sZ t').sk = t'.ch from List.append_nil _]
      exact t3.look p d hp hd
    · rw [u7, decide_eq_true p0]; rfl
    · rw [u2 64 24 (by omega) (by omega) (by omega) (by omega) (by omega), yv 64 24 (by omega) (by omega) (by omega) (by omega) (by omega) (by omega)]; exact hc.nod
    · rw [kx 49 (by omega) (by omega) (by omega) (by omega) (by omega)]
      show (sI (sI y4 49 1 0) 0 12 0).1 49 1 = _
      rw [sI_1, if_neg (by omega), sI_1, if_pos ⟨rfl, rfl⟩]; rfl
    · rw [kx 0 (by omega) (by omega) (by omega) (by omega) (by omega)]
      show (sI (sI y4 49 1 0) 0 12 0).1 0 12 = _
      rw [sI_1, if_pos ⟨rfl, rfl⟩]; rfl
    · rw [kr 36, yr 36 i (by omega) (by omega) (by omega)]; exact hI.ref i hi
    · rw [kx 1 (by omega) (by omega) (by omega) (by omega) (by omega), oy 1 1 (by omega) (by omega), o4 1 (by omega) (by omega), o2 1 (by omega)]
      show (sI (sI (sI (sI τ 0 14 0) 0 15 (τ.1 27 3)) 1 1 0) 0 13 0).1 1 1 = _
      rw [sI_1, if_neg (by omega), sI_1, if_pos ⟨rfl, rfl⟩]; rfl
    · rw [kx 0 (by omega) (by omega) (by omega) (by omega) (by omega), y0v 14 (by omega), sI_1, if_neg (by omega), sI_1, if_neg (by omega), sI_1, if_neg (by omega), sI_1, if_pos ⟨rfl, rfl⟩, u5]
    · rw [kr 27]; exact y27
    · rw [kx 0 (by omega) (by omega) (by omega) (by omega) (by omega), y0v 13 (by omega), sI_1, if_pos ⟨rfl, rfl⟩]
    · exact u6
