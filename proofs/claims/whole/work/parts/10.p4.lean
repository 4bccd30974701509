theorem fx3_inv {A1 A2 A3 β : Type} {F : (A1 → A2 → A3 → Option β) → A1 → A2 → A3 → Option β} (a : Nat → A1) (b : Nat → A2) (Inv : Nat → A3 → Prop) (E : A3 → Option β) (N : Nat) (hN : N < 100000) (he : ∀ k σ, Inv N σ → F k (a N) (b N) σ = E σ) (hs : ∀ i, i < N → ∀ σ, Inv i σ → ∀ k, ∃ σ', Inv (i + 1) σ' ∧ F k (a i) (b i) σ = k (a (i + 1)) (b (i + 1)) σ') (i : Nat) (hi : i ≤ N) {x : A1} {y : A2} (hx : x = a i) (hy : y = b i) (σ : A3) (h0 : Inv i σ) : ∃ σ', Inv N σ' ∧ fx3 FU F x y σ = E σ' := by
  subst hx; subst hy
  have key : ∀ n, ∀ i, i + n = N → ∀ m σ, Inv i σ → ∃ σ', Inv N σ' ∧ fx3 (n + 1 + m) F (a i) (b i) σ = E σ' := by
    intro n
    induction n with
    | zero =>
      intro i hi m σ h
      have : i = N := by omega
      subst this
      refine ⟨σ, h, ?_⟩
      rw [Nat.zero_add, Nat.add_comm]
      exact he _ σ h
    | succ n ih =>
      intro i hi m σ h
      obtain ⟨σ', h1, h2⟩ := hs i (by omega) σ h (fx3 (n + 1 + m) F)
      obtain ⟨σ2, h3, h4⟩ := ih (i + 1) (by omega) m σ' h1
      refine ⟨σ2, h3, ?_⟩
      rw [show n + 1 + 1 + m = (n + 1 + m) + 1 from by omega]
      exact h2.trans h4
  obtain ⟨σ', h1, h2⟩ := key (N - i) i (by omega) (99999 - (N - i)) σ h0
  rw [show N - i + 1 + (99999 - (N - i)) = FU from by unfold FU; omega] at h2
  exact ⟨σ', h1, h2⟩
theorem c_fill {σ : Mem} {a n : Nat} (ha : aln a = n) (hn : n ≤ 5000) (v : Int32) : f_X12_fill σ a v = some (sA σ a (fun j => if j < n then v else σ.1 a j)) := by
  unfold f_X12_fill
  rw [ha, zI_nI]
  refine fx2_run (fun i => zI i) (fun i => sA σ a (fun j => if j < i then v else σ.1 a j)) n 0 (by omega) rfl ?_ (fun k => ?_) (fun i hi k => ?_)
  · rw [show (fun j => if j < 0 then v else σ.1 a j) = σ.1 a from funext fun j => if_neg (by omega), sA_self]
  · rw [if_pos (by rw [zI_le (by omega) (by omega)]; omega)]
  · rw [if_neg (by rw [zI_le (by omega) (by omega)]; omega), ixd_in (by omega), pnm_e, pnm_e, zI_nat (by omega), show (i : Int).toNat = i from by omega, sI_sA, show zI i + 1 = zI (i + 1 : Nat) from by rw [show (1 : Int32) = zI 1 from rfl, zI_add]; rfl]
    refine congrArg (k (zI (i + 1 : Nat))) (congrArg _ (funext fun j => ?_))
    unfold upd
    show (if j = i then v else (if j < i then v else σ.1 a j)) = (if j < i + 1 then v else σ.1 a j)
    by_cases q : j = i
    · rw [if_pos q, if_pos (by omega)]
    · rw [if_neg q]
      by_cases q2 : j < i
      · rw [if_pos q2, if_pos (by omega)]
      · rw [if_neg q2, if_neg (by omega)]
/-- how many of the first n looks fit and are like p's in k marks -/
noncomputable def tl (t : TT) (n p k : Nat) : Nat := cnt (fun n => fitN t n && decide (alkN t (nlk t.ms n) p = k)) n
theorem tl_s (t : TT) (n p k : Nat) : tl t (n + 1) p k = tl t n p k + (if (fitN t n && decide (alkN t (nlk t.ms n) p = k)) = true then 1 else 0) := rfl
theorem tl_le (t : TT) (n p k : Nat) : tl t n p k ≤ n := cnt_le _ _
/-- the cells of a tally -/
def TLs (f : Nat → Int32) (t : TT) (n j : Nat) : Prop := ∀ p k, p < t.P → k ≤ 6 → f (7 * p + k) = zI (if p < j then tl t (n + 1) p k else tl t n p k)
theorem TLs.step {f : Nat → Int32} {t : TT} {n j : Nat} (h : TLs f t n j) (tb : TB t) (hj : j < t.P) (hx : fitN t n = true) : TLs (upd f (7 * j + alkN t (nlk t.ms n) j) (zI (tl t n j (alkN t (nlk t.ms n) j) + 1 : Nat))) t n (j + 1) := by
  have ha := alkN_le t (nlk t.ms n) j
  have hms := tb.ms
  intro p k hp hk
  unfold upd
  by_cases q : p = j
  · subst q
    by_cases q2 : k = alkN t (nlk t.ms n) p
    · rw [if_pos (by omega), if_pos (by omega), tl_s, hx, q2, if_pos (by simp)]
    · rw [if_neg (by omega), h p k hp hk, if_neg (by omega), if_pos (by omega), tl_s, if_neg (by simp; intro _ w; exact q2 w.symm)]
      rfl
  · rw [if_neg (by omega), h p k hp hk]
    by_cases q3 : p < j
    · rw [if_pos q3, if_pos (by omega)]
    · rw [if_neg q3, if_neg (by omega)]
theorem TLs.next {f : Nat → Int32} {t : TT} {n : Nat} (h : TLs f t n t.P) : TLs f t (n + 1) 0 := fun p k hp hk => by rw [h p k hp hk, if_pos hp, if_neg (by omega)]
theorem TLs.skip {f : Nat → Int32} {t : TT} {n : Nat} (h : TLs f t n 0) (hx : fitN t n = false) : TLs f t (n + 1) 0 := fun p k hp hk => by rw [h p k hp hk, if_neg (by omega), if_neg (by omega), tl_s, hx, if_neg (by simp)]; rfl
theorem TLs.get {f : Nat → Int32} {t : TT} {n j p k : Nat} (h : TLs f t n j) (hp : p < t.P) (hj : j ≤ p) (hk : k ≤ 6) : f (7 * p + k) = zI (tl t n p k) := by rw [h p k hp hk, if_neg (by omega)]
/-- the class's tally -/
theorem c_tally {σ : Mem} {T : Nat} {t : TT} {s : SS} (hc : RC σ T t s) (h3 : 3 ≤ t.ms) : ∃ τ, f_X7_tallyFitting σ T = some (bI (exF (fitN t) 0 (4 ^ t.ms)), τ) ∧ (∀ a, a ≠ 63 → τ.1 a = σ.1 a) ∧ τ.2 = σ.2 ∧ TLs (τ.1 63) t (4 ^ t.ms) 0 := by
  have hms := hc.tb.ms
  have hP := hc.tb.P
  have hTa := hc.ct.at_
  have h4 := all_b hms
  have a63 : aln (61 + 2) = 35 := rfl
  obtain ⟨Z, hZ⟩ : ∃ Z : Nat, 4 ^ t.ms = Z := ⟨_, rfl⟩
  unfold f_X7_tallyFitting f_X7_countLooks
  rw [c_fill a63 (by omega), pbd1_s]
  rw [hZ] at h4 ⊢
  let Inv : Nat → Mem → Prop := fun n τ => (∀ a, a ≠ 63 → τ.1 a = σ.1 a) ∧ τ.2 = σ.2 ∧ TLs (τ.1 63) t n 0
  have h := fx3_inv (F := fun k_5 (i_2 : Int32) (i_3 : Int32) (σ_4 : Mem) => bd1 (some (1 <<< ((2 * (σ_4.1 T 0)) &&& 31))) (fun (r_6 : Int32) => (if r_6 ≤ i_3 then zrm i_2 σ_4 else bd1 (f_X7_nthLook σ_4 T i_3) (fun (r_7 : Int32) => bd1 (f_X7_fits σ_4 T r_7) (fun (r_8 : Int32) => jn2 (fun (i_9 : Int32) (σ_10 : Mem) => nm (i_3 + 1) (fun (x_12 : Int32) => k_5 i_9 x_12 σ_10)) (fun k_11 => (if r_8 = 0 then k_11 i_2 σ_4 else fx2 FU (fun k_16 (i_14 : Int32) (σ_15 : Mem) => bd1 (f_X11_people σ_15 T) (fun (r_17 : Int32) => (if r_17 ≤ i_14 then k_11 1 σ_15 else bd1 (f_X7_alike σ_15 T r_7 i_14) (fun (r_18 : Int32) => nm ((i_14 * 7) + r_18) (fun (x_19 : Int32) => bd1 (f_X12_get σ_15 (61 + 2) x_19) (fun (r_20 : Int32) => bd1 (f_X12_set σ_15 (61 + 2) x_19 (r_20 + 1)) (fun (σ_21 : Mem) => nm (i_14 + 1) (fun (x_22 : Int32) => k_16 x_22 σ_21)))))))) 0 σ_4)))))))  (fun n => bI (exF (fitN t) 0 n)) (fun n => zI n) Inv (fun τ => some (bI (exF (fitN t) 0 Z), τ)) Z (by omega) ?_ ?_ 0 (by omega) (x := 0) (y := 0) (by rw [exF_end]; rfl) rfl (sA σ (61 + 2) (fun j => if j < 35 then 0 else σ.1 (61 + 2) j)) ⟨fun a h1 => sA_o _ _ _ h1, rfl, fun p k hp hk => by rw [sA_at, if_pos (by omega), if_neg (by omega)]; rfl⟩
  · obtain ⟨τ, ⟨h1, h2, h3⟩, h4⟩ := h
    exact ⟨τ, h4, h1, h2, h3⟩
  · rintro k τ ⟨h1, h2, h5⟩
    have hT : CT τ T t := hc.ct.of (fun a w1 w2 => h1 a (by omega))
    rw [hT.ms, all_l hms, hZ, pbd1_s, if_pos (by rw [zI_le (by omega) (by omega)]; omega)]
    cases exF (fitN t) 0 Z <;> rfl
  · rintro n hn τ ⟨h1, h2, h5⟩ k
    have hT : CT τ T t := hc.ct.of (fun a w1 w2 => h1 a (by omega))
    rw [hT.ms, all_l hms, hZ, pbd1_s, if_neg (by rw [zI_le (by omega) (by omega)]; omega), show f_X7_nthLook τ T (zI n) = some (zI (e5 (nlk t.ms n))) from by unfold f_X7_nthLook; rw [hT.ms, c_nth h3 hms (by rw [hZ]; exact hn)], pbd1_s, c_fits hT hc.tb (nlk_lt _ _) (fun m hm => nlk_z _ _ hm), pbd1_s]
    unfold jn2
    simp only [pnm_e, show zI n + 1 = zI (n + 1 : Nat) from by rw [show (1 : Int32) = zI 1 from rfl, zI_add]; rfl]
    rw [exF_s]
    cases hx : fitN t n with
    | false =>
      have hx2 : (!nfit t (nlk t.ms n)) = false := hx
      rw [hx2, if_pos (by decide), Bool.or_false]
      exact ⟨τ, ⟨h1, h2, h5.skip hx⟩, rfl⟩
    | true =>
      have hx2 : (!nfit t (nlk t.ms n)) = true := hx
      rw [hx2, if_neg (by decide), Bool.or_true]
      let Inv2 : Nat → Mem → Prop := fun j τ => (∀ a, a ≠ 63 → τ.1 a = σ.1 a) ∧ τ.2 = σ.2 ∧ TLs (τ.1 63) t n j
      have h := fx2_inv (F := fun k_16 (i_14 : Int32) (σ_15 : Mem) => bd1 (f_X11_people σ_15 T) (fun (r_17 : Int32) => (if r_17 ≤ i_14 then k 1 (zI (n + 1 : Nat)) σ_15 else bd1 (f_X7_alike σ_15 T (zI (e5 (nlk t.ms n))) i_14) (fun (r_18 : Int32) => bd1 (f_X12_get σ_15 (61 + 2) ((i_14 * 7) + r_18)) (fun (r_20 : Int32) => bd1 (f_X12_set σ_15 (61 + 2) ((i_14 * 7) + r_18) (r_20 + 1)) (fun (σ_21 : Mem) => k_16 (i_14 + 1) σ_21)))))) (fun j => zI j) Inv2 (fun υ => k 1 (zI (n + 1 : Nat)) υ) t.P (by omega) ?_ ?_ 0 (by omega) (x := 0) rfl τ ⟨h1, h2, h5⟩
      · obtain ⟨υ, ⟨w1, w2, w3⟩, w4⟩ := h
        exact ⟨υ, ⟨w1, w2, w3.next⟩, w4⟩
      · rintro k2 υ ⟨w1, w2, w3⟩
        have hT : CT υ T t := hc.ct.of (fun a v1 v2 => w1 a (by omega))
        rw [ct_people hT, pbd1_s, if_pos (by rw [zI_le (by omega) (by omega)]; omega)]
      · rintro j hj υ ⟨w1, w2, w3⟩ k2
        have hT : CT υ T t := hc.ct.of (fun a v1 v2 => w1 a (by omega))
        have ha := alkN_le t (nlk t.ms n) j
        have hg := w3.get (k := alkN t (nlk t.ms n) j) hj (Nat.le_refl j) (by omega)
        rw [ct_people hT, pbd1_s, if_neg (by rw [zI_le (by omega) (by omega)]; omega), c_alike hT hc.tb (nlk_lt _ _) (fun m hm => nlk_z _ _ hm) hj, pbd1_s, show zI j * 7 + zI (alkN t (nlk t.ms n) j) = zI (7 * j + alkN t (nlk t.ms n) j : Nat) from by rw [show (7 : Int32) = zI 7 from rfl, zI_mul, zI_add]; congr 1; omega, g_get (a := 61 + 2) hg (by omega) (by omega), pbd1_s, f_setN (by omega) (by omega), pbd1_s, show zI j + 1 = zI (j + 1 : Nat) from by rw [show (1 : Int32) = zI 1 from rfl, zI_add]; rfl, show zI (tl t n j (alkN t (nlk t.ms n) j)) + 1 = zI (tl t n j (alkN t (nlk t.ms n) j) + 1 : Nat) from by rw [show (1 : Int32) = zI 1 from rfl, zI_add]; rfl]
        refine ⟨sI υ 63 (7 * j + alkN t (nlk t.ms n) j) (zI (tl t n j (alkN t (nlk t.ms n) j) + 1 : Nat)), ⟨fun a v1 => by rw [sI_o _ _ _ _ v1, w1 a v1], w2, by rw [sI_at]; exact w3.step hc.tb hj hx⟩, rfl⟩
def mx (f : Nat → Nat) : Nat → Nat
  | 0 => 0
  | k + 1 => if mx f k < f k then f k else mx f k
theorem mx_le {f : Nat → Nat} {b : Nat} (h : ∀ k, f k ≤ b) : ∀ n, mx f n ≤ b
  | 0 => Nat.zero_le b
  | n + 1 => by have := mx_le h n; have := h n; rw [mx]; split <;> omega
/-- most that are left if it is told in how many marks the unknown one is like p -/
noncomputable def fL (t : TT) (p : Nat) : Nat := mx (tl t (4 ^ t.ms) p) 7
theorem fL_le {t : TT} (tb : TB t) (p : Nat) : fL t p ≤ 4096 := mx_le (fun k => Nat.le_trans (tl_le _ _ _ _) (all_b tb.ms)) 7
/-- the first of the least of 0 .. n -/
def pmn (f : Nat → Nat) : Nat → Nat
  | 0 => 0
  | n + 1 => if f (n + 1) < f (pmn f n) then n + 1 else pmn f n
theorem pmn_le (f : Nat → Nat) : ∀ n, pmn f n ≤ n
  | 0 => Nat.le_refl 0
  | n + 1 => by have := pmn_le f n; rw [pmn]; split <;> omega
theorem c_most {σ : Mem} {t : TT} (tb : TB t) (h : TLs (σ.1 63) t (4 ^ t.ms) 0) {p : Nat} (hp : p < t.P) : f_X7_mostLeft σ (zI p) = some (zI (fL t p)) := by
  have hP := tb.P
  have a63 : aln (61 + 2) = 35 := rfl
  have hb : ∀ k, tl t (4 ^ t.ms) p k ≤ 4096 := fun k => Nat.le_trans (tl_le _ _ _ _) (all_b tb.ms)
  unfold f_X7_mostLeft
  refine fx2_run (fun k => zI (mx (tl t (4 ^ t.ms) p) k)) (fun k => zI k) 7 0 (by omega) rfl rfl (fun k => rfl) (fun i hi k => ?_)
  have hg := h.get (k := i) hp (Nat.zero_le p) (by omega)
  have h1 := hb i
  have h2 := mx_le hb i
  rw [if_neg (by rw [show (6 : Int32) = zI 6 from rfl, zI_lt (by omega) (by omega)]; omega), show zI p * 7 + zI i = zI (7 * p + i : Nat) from by rw [show (7 : Int32) = zI 7 from rfl, zI_mul, zI_add]; congr 1; omega, g_get (a := 61 + 2) hg (by omega) (by omega), pbd1_s, pnm_e, pnm_e, show zI i + 1 = zI (i + 1 : Nat) from by rw [show (1 : Int32) = zI 1 from rfl, zI_add]; rfl, mx]
  by_cases q : mx (tl t (4 ^ t.ms) p) i < tl t (4 ^ t.ms) p i
  · rw [if_pos q, if_pos (by rw [zI_lt (by omega) (by omega)]; omega)]
  · rw [if_neg q, if_neg (by rw [zI_lt (by omega) (by omega)]; omega)]
noncomputable def pAny (t : TT) : Bool := exF (fitN t) 0 (4 ^ t.ms)
noncomputable def pBy (t : TT) : Int := if pAny t = true then (pmn (fL t) (t.P - 1) : Int) else -2
noncomputable def pLeft (t : TT) : Int := if pAny t = true then (fL t (pmn (fL t) (t.P - 1)) : Int) else -2
theorem c_choose {σ : Mem} {T : Nat} {t : TT} {s : SS} (hc : RC σ T t s) (hp : 0 < t.P) : ∃ τ, f_X7_choosePass σ T = some τ ∧ Ev σ τ ∧ τ.1 61 3 = zI (pBy t) ∧ τ.1 61 4 = zI (pLeft t) := by
  have hms := hc.tb.ms
  have hP := hc.tb.P
  have hTa := hc.ct.at_
  have h3 := hc.tb.ms3 hp
  obtain ⟨τ0, e1, e2, e3, e4⟩ := c_tally hc h3
  unfold f_X7_choosePass
  rw [e1, pbd2_s, pnm_e, pnm_e]
  let Inv : Nat → Mem → Prop := fun i τ => (∀ a, a ≠ 61 → τ.1 a = τ0.1 a) ∧ τ.2 = σ.2 ∧ τ.1 61 3 = zI (if i = 0 then -2 else (pmn (fL t) (i - 1) : Int)) ∧ τ.1 61 4 = zI (if i = 0 then -2 else (fL t (pmn (fL t) (i - 1)) : Int))
  have hT0 : ∀ τ : Mem, (∀ a, a ≠ 61 → τ.1 a = τ0.1 a) → CT τ T t := fun τ h => hc.ct.of (fun a w1 w2 => by rw [h a (by omega), e2 a (by omega)])
  have ev : ∀ τ : Mem, (∀ a, a ≠ 61 → τ.1 a = τ0.1 a) → τ.2 = σ.2 → Ev σ τ := fun τ h1 h2 => Ev.of (fun a w => by rw [h1 a (by omega), e2 a (by omega)]) (fun a w => by rw [h2]) (by rw [h2]) (by rw [h1 0 (by omega), e2 0 (by omega)]) (by rw [h1 1 (by omega), e2 1 (by omega)]) (fun j _ => by rw [h1 64 (by omega), e2 64 (by omega)])
  cases hx : pAny t with
  | false =>
    have hx2 : exF (fitN t) 0 (4 ^ t.ms) = false := hx
    rw [hx2]
    refine ⟨sI (sI τ0 61 3 (-2)) 61 4 (-2), ?_, ev _ (fun a w => by rw [sI_o _ _ _ _ w, sI_o _ _ _ _ w]) e3, ?_, ?_⟩
    · refine fx2_run (fun _ => zI 0) (fun _ => sI (sI τ0 61 3 (-2)) 61 4 (-2)) 0 0 (by omega) rfl rfl (fun k => ?_) (fun i hi k => absurd hi (by omega))
      rw [ct_people (hT0 _ (fun a w => by rw [sI_o _ _ _ _ w, sI_o _ _ _ _ w])), pbd1_s, if_pos (show bI false = 0 from rfl), ite_self]
    · rw [sI_1, if_neg (by omega), sI_1, if_pos ⟨rfl, rfl⟩, pBy, hx, if_neg (by decide)]; rfl
    · rw [sI_1, if_pos ⟨rfl, rfl⟩, pLeft, hx, if_neg (by decide)]; rfl
  | true =>
    have hx2 : exF (fitN t) 0 (4 ^ t.ms) = true := hx
    rw [hx2]
    have h := fx2_inv (F := fun k_7 (i_5 : Int32) (σ_6 : Mem) => bd1 (f_X11_people σ_6 T) (fun (r_8 : Int32) => (if r_8 ≤ i_5 then some σ_6 else (if bI true = 0 then some σ_6 else bd1 (f_X7_mostLeft σ_6 i_5) (fun (r_9 : Int32) => jn1 (fun (σ_10 : Mem) => nm (i_5 + 1) (fun (x_12 : Int32) => k_7 x_12 σ_10)) (fun k_11 => jn0 (nm (sI σ_6 61 3 i_5) (fun (σ_15 : Mem) => nm (sI σ_15 61 4 r_9) (fun (σ_16 : Mem) => k_11 σ_16))) (fun k_14 => (if (σ_6.1 61 3) < 0 then k_14 else (if (σ_6.1 61 4) ≤ r_9 then k_11 σ_6 else k_14))))))))) (fun i => zI i) Inv (fun τ => some τ) t.P (by omega) ?_ ?_ 0 (by omega) (x := 0) rfl (sI (sI τ0 61 3 (-2)) 61 4 (-2)) ⟨fun a w => by rw [sI_o _ _ _ _ w, sI_o _ _ _ _ w], e3, by rw [sI_1, if_neg (by omega), sI_1, if_pos ⟨rfl, rfl⟩]; rfl, by rw [sI_1, if_pos ⟨rfl, rfl⟩]; rfl⟩
    · obtain ⟨τ, ⟨w1, w2, w3, w4⟩, w5⟩ := h
      rw [if_neg (by omega)] at w3 w4
      exact ⟨τ, w5, ev τ w1 w2, by rw [w3, pBy, hx, if_pos rfl], by rw [w4, pLeft, hx, if_pos rfl]⟩
    · rintro k τ ⟨w1, w2, w3, w4⟩
      rw [ct_people (hT0 _ w1), pbd1_s, if_pos (by rw [zI_le (by omega) (by omega)]; omega)]
    · rintro i hi τ ⟨w1, w2, w3, w4⟩ k
      rw [ct_people (hT0 _ w1), pbd1_s, if_neg (by rw [zI_le (by omega) (by omega)]; omega), if_neg (by decide), c_most hc.tb (by rw [w1 63 (by omega)]; exact e4) hi, pbd1_s]
      simp only [jn1_e, jn0_e, pnm_e, show zI i + 1 = zI (i + 1 : Nat) from by rw [show (1 : Int32) = zI 1 from rfl, zI_add]; rfl]
      have hl := fL_le hc.tb i
      have hl2 := fL_le hc.tb (pmn (fL t) (i - 1))
      have hpm := pmn_le (fL t) (i - 1)
      rw [w3, w4]
      have hset : ∀ a, a ≠ 61 → (sI (sI τ 61 3 (zI i)) 61 4 (zI (fL t i))).1 a = τ0.1 a := fun a w => by rw [sI_o _ _ _ _ w, sI_o _ _ _ _ w, w1 a w]
      have hs3 : (sI (sI τ 61 3 (zI i)) 61 4 (zI (fL t i))).1 61 3 = zI i := by rw [sI_1, if_neg (by omega), sI_1, if_pos ⟨rfl, rfl⟩]
      have hs4 : (sI (sI τ 61 3 (zI i)) 61 4 (zI (fL t i))).1 61 4 = zI (fL t i) := by rw [sI_1, if_pos ⟨rfl, rfl⟩]
      by_cases q0 : i = 0
      · subst q0
        refine ⟨sI (sI τ 61 3 (zI (0 : Nat))) 61 4 (zI (fL t 0)), ⟨hset, w2, hs3, hs4⟩, ?_⟩
        rw [if_pos rfl, if_pos (by decide)]
      · obtain ⟨j, rfl⟩ : ∃ j, i = j + 1 := ⟨i - 1, by omega⟩
        rw [if_neg q0, if_neg q0, show (0 : Int32) = zI 0 from rfl, if_neg (by rw [zI_lt (by omega) (by omega)]; omega), show j + 1 - 1 = j from by omega] at *
        by_cases q : fL t (j + 1) < fL t (pmn (fL t) j)
        · refine ⟨sI (sI τ 61 3 (zI (j + 1 : Nat))) 61 4 (zI (fL t (j + 1))), ⟨hset, w2, ?_, ?_⟩, ?_⟩
          · rw [hs3, if_neg (by omega), show j + 1 + 1 - 1 = j + 1 from by omega, pmn, if_pos q]
          · rw [hs4, if_neg (by omega), show j + 1 + 1 - 1 = j + 1 from by omega, pmn, if_pos q]
          · rw [if_neg (by rw [zI_le (by omega) (by omega)]; omega)]
        · refine ⟨τ, ⟨w1, w2, ?_, ?_⟩, ?_⟩
          · rw [w3, if_neg (by omega), show j + 1 + 1 - 1 = j + 1 from by omega, pmn, if_neg q]
          · rw [w4, if_neg (by omega), show j + 1 + 1 - 1 = j + 1 from by omega, pmn, if_neg q]
          · rw [if_pos (by rw [zI_le (by omega) (by omega)]; omega)]
theorem m_leaves {σ : Mem} {t : TT} (tb : TB t) (h : TLs (σ.1 79) t (4 ^ t.ms) 0) {p : Nat} (hp : p < t.P) : f_X13_leavesBy σ (zI p) = some (zI (fL t p)) := by
  have hP := tb.P
  have a79 : aln 79 = 35 := rfl
  have hb : ∀ k, tl t (4 ^ t.ms) p k ≤ 4096 := fun k => Nat.le_trans (tl_le _ _ _ _) (all_b tb.ms)
  unfold f_X13_leavesBy
  refine fx2_run (fun k => zI (mx (tl t (4 ^ t.ms) p) k)) (fun k => zI k) 7 0 (by omega) rfl rfl (fun k => rfl) (fun i hi k => ?_)
  have hg := h.get (k := i) hp (Nat.zero_le p) (by omega)
  have h1 := hb i
  have h2 := mx_le hb i
  rw [if_neg (by rw [show (6 : Int32) = zI 6 from rfl, zI_lt (by omega) (by omega)]; omega), show (7 : Int32) * zI p + zI i = zI (7 * p + i : Nat) from by rw [show (7 : Int32) = zI 7 from rfl, zI_mul, zI_add]; congr 1, ixd_in (by omega), zI_nat (by omega), show ((7 * p + i : Nat) : Int).toNat = 7 * p + i from by omega, hg]
  simp only [jn1_e, pnm_e, show zI i + 1 = zI (i + 1 : Nat) from by rw [show (1 : Int32) = zI 1 from rfl, zI_add]; rfl]
  rw [ixd_in (by omega), mx]
  by_cases q : mx (tl t (4 ^ t.ms) p) i < tl t (4 ^ t.ms) p i
  · rw [if_pos q, if_neg (by rw [zI_le (by omega) (by omega)]; omega)]
  · rw [if_neg q, if_pos (by rw [zI_le (by omega) (by omega)]; omega)]
theorem cnt_any (f : Nat → Bool) : ∀ n, (cnt f n = 0) ↔ exF f 0 n = false
  | 0 => by rw [exF_end]; exact ⟨fun _ => rfl, fun _ => rfl⟩
  | n + 1 => by
    have ih := cnt_any f n
    rw [cnt, exF_s]
    cases hx : f n with
    | true => rw [Bool.or_true, if_pos rfl]; constructor
              · intro h; omega
              · intro h; cases h
    | false => rw [Bool.or_false, if_neg (by decide), Nat.add_zero]; exact ih
theorem m_seek {σ : Mem} {T : Nat} {t : TT} {s : SS} (hc : RC σ T t s) (hp : 0 < t.P) : ∃ τ, f_X13_seekPass σ = some (zI (pBy t), τ) ∧ Ev σ τ ∧ TLs (τ.1 79) t (4 ^ t.ms) 0 := by
  have hms := hc.tb.ms
  have hP := hc.tb.P
  have h3 := hc.tb.ms3 hp
  have h4 := all_b hms
  have a79 : aln 79 = 35 := rfl
  have a67 : aln 67 = 175 := rfl
  obtain ⟨Z, hZ⟩ : ∃ Z : Nat, 4 ^ t.ms = Z := ⟨_, rfl⟩
  rw [hZ] at h4
  have hR : ∀ τ : Mem, (∀ a, a ≠ 79 → τ.1 a = σ.1 a) → MR (τ.1 67) t := fun τ h => by rw [h 67 (by omega)]; exact hc.mr
  have hal : ∀ τ : Mem, (∀ a, a ≠ 79 → τ.1 a = σ.1 a) → f_X13_allLooks τ = some (zI Z) := fun τ h => by
    unfold f_X13_allLooks
    rw [show (0 : Int32) = zI 0 from rfl, a67, ixd_in (by omega), show (zI 0).toNatClampNeg = 0 from rfl, (hR τ h).ms, all_l hms, hZ]
  have ev : ∀ τ : Mem, (∀ a, a ≠ 79 → τ.1 a = σ.1 a) → τ.2 = σ.2 → Ev σ τ := fun τ h1 h2 => Ev.of (fun a w => by rw [h1 a (by omega)]) (fun a w => by rw [h2]) (by rw [h2]) (by rw [h1 0 (by omega)]) (by rw [h1 1 (by omega)]) (fun j _ => by rw [h1 64 (by omega)])
  have i4 : ∀ β (k : Option β), ixd 4 (aln 67) k = k := fun β k => by rw [show (4 : Int32) = zI 4 from rfl, ixd_in (by omega)]
  have p4 : ∀ τ : Mem, (∀ a, a ≠ 79 → τ.1 a = σ.1 a) → τ.1 67 (4 : Int32).toNatClampNeg = zI t.P := fun τ h => (hR τ h).P
  unfold f_X13_seekPass
  simp only [i4]
  let Inv : Nat → Mem → Prop := fun n τ => (∀ a, a ≠ 79 → τ.1 a = σ.1 a) ∧ τ.2 = σ.2 ∧ TLs (τ.1 79) t n 0
  -- the last loop
  have last : ∀ τ : Mem, (∀ a, a ≠ 79 → τ.1 a = σ.1 a) → TLs (τ.1 79) t Z 0 → fx2 FU (fun k_11 (i_9 : Int32) (i_10 : Int32) => (if (τ.1 67 (4 : Int32).toNatClampNeg) ≤ i_10 then some (i_9, τ) else bd1 (f_X13_leavesBy τ i_10) (fun (r_12 : Int32) => bd1 (f_X13_leavesBy τ i_9) (fun (r_13 : Int32) => jn1 (fun (i_14 : Int32) => nm (i_10 + 1) (fun (x_16 : Int32) => k_11 i_14 x_16)) (fun k_15 => (if r_13 ≤ r_12 then k_15 i_9 else k_15 i_10)))))) 0 1 = some (zI (pmn (fL t) (t.P - 1)), τ) := by
    intro τ h1 h2
    rw [p4 τ h1]
    refine fx2_run (fun i => zI (pmn (fL t) i)) (fun i => zI (i + 1 : Nat)) (t.P - 1) 0 (by omega) rfl rfl (fun k => ?_) (fun i hi k => ?_)
    · rw [if_pos (by rw [zI_le (by omega) (by omega)]; omega)]
    · have hpm := pmn_le (fL t) i
      have hl := fL_le hc.tb (i + 1)
      have hl2 := fL_le hc.tb (pmn (fL t) i)
      rw [if_neg (by rw [zI_le (by omega) (by omega)]; omega), m_leaves hc.tb (by rw [hZ]; exact h2) (show i + 1 < t.P by omega), pbd1_s, m_leaves hc.tb (by rw [hZ]; exact h2) (show pmn (fL t) i < t.P by omega), pbd1_s]
      simp only [jn1_e, pnm_e, show zI (i + 1 : Nat) + 1 = zI (i + 1 + 1 : Nat) from by rw [show (1 : Int32) = zI 1 from rfl, zI_add]; rfl]
      rw [pmn]
      by_cases q : fL t (i + 1) < fL t (pmn (fL t) i)
      · rw [if_pos q, if_neg (by rw [zI_le (by omega) (by omega)]; omega)]
      · rw [if_neg q, if_pos (by rw [zI_le (by omega) (by omega)]; omega)]
  have e0 : ∀ (K : Int32 → Mem → Option (Int32 × Mem)), True := fun _ => trivial
  refine ?_
  have hz : ∃ τ, Inv Z τ ∧ fx3 FU (fun k_7 (i_4 : Int32) (i_5 : Int32) (σ_6 : Mem) => bd1 (f_X13_allLooks σ_6) (fun (r_8 : Int32) => (if r_8 ≤ i_5 then (if i_4 = 0 then some ((-2), σ_6) else fx2 FU (fun k_11 (i_9 : Int32) (i_10 : Int32) => (if (σ_6.1 67 (4 : Int32).toNatClampNeg) ≤ i_10 then some (i_9, σ_6) else bd1 (f_X13_leavesBy σ_6 i_10) (fun (r_12 : Int32) => bd1 (f_X13_leavesBy σ_6 i_9) (fun (r_13 : Int32) => jn1 (fun (i_14 : Int32) => nm (i_10 + 1) (fun (x_16 : Int32) => k_11 i_14 x_16)) (fun k_15 => (if r_13 ≤ r_12 then k_15 i_9 else k_15 i_10)))))) 0 1) else bd1 (f_X13_lookBy σ_6 i_5) (fun (r_18 : Int32) => bd1 (f_X13_canBe σ_6 r_18) (fun (r_19 : Int32) => jn2 (fun (i_20 : Int32) (σ_21 : Mem) => nm (i_5 + 1) (fun (x_23 : Int32) => k_7 i_20 x_23 σ_21)) (fun k_22 => (if r_19 = 0 then k_22 i_4 σ_6 else nm (i_4 + 1) (fun (x_25 : Int32) => fx2 FU (fun k_29 (i_27 : Int32) (σ_28 : Mem) => (if (σ_28.1 67 (4 : Int32).toNatClampNeg) ≤ i_27 then k_22 x_25 σ_28 else bd1 (f_X13_alike σ_28 i_27 r_18) (fun (r_30 : Int32) => nm ((7 * i_27) + r_30) (fun (x_31 : Int32) => ixd x_31 (aln 79) (ixd x_31 (aln 79) (nm (sI σ_28 79 x_31.toNatClampNeg ((σ_28.1 79 x_31.toNatClampNeg) + 1)) (fun (σ_32 : Mem) => nm (i_27 + 1) (fun (x_33 : Int32) => k_29 x_33 σ_32)))))))) 0 σ_6)))))))) 0 0 (sA σ 79 (fun j => if j < 35 then 0 else σ.1 79 j)) = some (zI (pBy t), τ) := by
    refine fx3_inv (fun n => zI (cnt (fitN t) n)) (fun n => zI n) Inv (fun τ => some (zI (pBy t), τ)) Z (by omega) ?_ ?_ 0 (by omega) (x := 0) (y := 0) rfl rfl _ ⟨fun a w => sA_o _ _ _ w, rfl, fun p k hp hk => by rw [sA_at, if_pos (by omega), if_neg (by omega)]; rfl⟩
    · rintro k τ ⟨w1, w2, w3⟩
      have hcl := cnt_le (fitN t) Z
      have hany := cnt_any (fitN t) Z
      rw [hal τ w1, pbd1_s, if_pos (by rw [zI_le (by omega) (by omega)]; omega)]
      cases hx : pAny t with
      | false =>
        have hx2 : exF (fitN t) 0 Z = false := by rw [← hZ]; exact hx
        rw [hany.2 hx2, if_pos (by rfl), pBy, hx, if_neg (by decide)]; rfl
      | true =>
        have hx2 : exF (fitN t) 0 Z = true := by rw [← hZ]; exact hx
        have hne : cnt (fitN t) Z ≠ 0 := fun w => by rw [hany.1 w] at hx2; cases hx2
        rw [if_neg (by rw [show (0 : Int32) = zI 0 from rfl, zI_eq (by omega) (by omega)]; omega), pBy, hx, if_pos rfl]
        exact last τ w1 w3
    · rintro n hn τ ⟨w1, w2, w3⟩ k
      have hcl := cnt_le (fitN t) n
      rw [hal τ w1, pbd1_s, if_neg (by rw [zI_le (by omega) (by omega)]; omega), m_lookBy (hR τ w1) hc.tb h3 (by rw [hZ]; exact hn), pbd1_s, m_canBe (hR τ w1) hc.tb (nlk_lt _ _) (fun m hm => nlk_z _ _ hm), pbd1_s]
      unfold jn2
      simp only [pnm_e, show zI n + 1 = zI (n + 1 : Nat) from by rw [show (1 : Int32) = zI 1 from rfl, zI_add]; rfl, cnt]
      cases hx : fitN t n with
      | false =>
        have hx2 : (!nfit t (nlk t.ms n)) = false := hx
        rw [hx2, if_pos (by decide)]
        exact ⟨τ, ⟨w1, w2, w3.skip hx⟩, rfl⟩
      | true =>
        have hx2 : (!nfit t (nlk t.ms n)) = true := hx
        rw [hx2, if_neg (by decide), show zI (cnt (fitN t) n) + 1 = zI (cnt (fitN t) n + 1 : Nat) from by rw [show (1 : Int32) = zI 1 from rfl, zI_add]; rfl]
        let Inv2 : Nat → Mem → Prop := fun j τ => (∀ a, a ≠ 79 → τ.1 a = σ.1 a) ∧ τ.2 = σ.2 ∧ TLs (τ.1 79) t n j
        have h := fx2_inv (F := fun k_29 (i_27 : Int32) (σ_28 : Mem) => (if (σ_28.1 67 (4 : Int32).toNatClampNeg) ≤ i_27 then k (zI (cnt (fitN t) n + 1 : Nat)) (zI (n + 1 : Nat)) σ_28 else bd1 (f_X13_alike σ_28 i_27 (zI (e4 (nlk t.ms n)))) (fun (r_30 : Int32) => ixd ((7 * i_27) + r_30) (aln 79) (ixd ((7 * i_27) + r_30) (aln 79) (k_29 (i_27 + 1) (sI σ_28 79 ((7 * i_27) + r_30).toNatClampNeg ((σ_28.1 79 ((7 * i_27) + r_30).toNatClampNeg) + 1))))))) (fun j => zI j) Inv2 (fun υ => k (zI (cnt (fitN t) n + 1 : Nat)) (zI (n + 1 : Nat)) υ) t.P (by omega) ?_ ?_ 0 (by omega) (x := 0) rfl τ ⟨w1, w2, w3⟩
        · obtain ⟨υ, ⟨v1, v2, v3⟩, v4⟩ := h
          exact ⟨υ, ⟨v1, v2, v3.next⟩, v4⟩
        · rintro k2 υ ⟨v1, v2, v3⟩
          rw [p4 υ v1, if_pos (by rw [zI_le (by omega) (by omega)]; omega)]
        · rintro j hj υ ⟨v1, v2, v3⟩ k2
          have ha := alkN_le t (nlk t.ms n) j
          have hg := v3.get (k := alkN t (nlk t.ms n) j) hj (Nat.le_refl j) (by omega)
          rw [p4 υ v1, if_neg (by rw [zI_le (by omega) (by omega)]; omega), m_alike (hR υ v1) hc.tb (nlk_lt _ _) (fun m hm => nlk_z _ _ hm) hj, pbd1_s, show (7 : Int32) * zI j + zI (alkN t (nlk t.ms n) j) = zI (7 * j + alkN t (nlk t.ms n) j : Nat) from by rw [show (7 : Int32) = zI 7 from rfl, zI_mul, zI_add]; congr 1, ixd_in (by omega), ixd_in (by omega), zI_nat (by omega), show ((7 * j + alkN t (nlk t.ms n) j : Nat) : Int).toNat = 7 * j + alkN t (nlk t.ms n) j from by omega, hg, show zI j + 1 = zI (j + 1 : Nat) from by rw [show (1 : Int32) = zI 1 from rfl, zI_add]; rfl, show zI (tl t n j (alkN t (nlk t.ms n) j)) + 1 = zI (tl t n j (alkN t (nlk t.ms n) j) + 1 : Nat) from by rw [show (1 : Int32) = zI 1 from rfl, zI_add]; rfl]
          refine ⟨sI υ 79 (7 * j + alkN t (nlk t.ms n) j) (zI (tl t n j (alkN t (nlk t.ms n) j) + 1 : Nat)), ⟨fun a w => by rw [sI_o _ _ _ _ w, v1 a w], v2, by rw [sI_at]; exact v3.step hc.tb hj hx⟩, rfl⟩
  obtain ⟨τ, ⟨w1, w2, w3⟩, w4⟩ := hz
  refine ⟨τ, ?_, ev τ w1 w2, by rw [hZ]; exact w3⟩
  rw [← w4]
  refine fx2_run (fun i => zI i) (fun i => sA σ 79 (fun j => if j < i then 0 else σ.1 79 j)) 35 0 (by omega) rfl ?_ (fun k => ?_) (fun i hi k => ?_)
  · rw [show (fun j => if j < 0 then 0 else σ.1 79 j) = σ.1 79 from funext fun j => if_neg (by omega), sA_self]
  · rw [if_pos (by decide)]
  · rw [if_neg (by rw [show (35 : Int32) = zI 35 from rfl, zI_le (by omega) (by omega)]; omega), ixd_in (by omega), pnm_e, pnm_e, zI_nat (by omega), show (i : Int).toNat = i from by omega, sI_sA, show zI i + 1 = zI (i + 1 : Nat) from by rw [show (1 : Int32) = zI 1 from rfl, zI_add]; rfl]
    refine congrArg (k (zI (i + 1 : Nat))) (congrArg _ (funext fun j => ?_))
    unfold upd
    show (if j = i then 0 else (if j < i then 0 else σ.1 79 j)) = (if j < i + 1 then 0 else σ.1 79 j)
    by_cases q : j = i
    · rw [if_pos q, if_pos (by omega)]
    · rw [if_neg q]
      by_cases q2 : j < i
      · rw [if_pos q2, if_pos (by omega)]
      · rw [if_neg q2, if_neg (by omega)]
theorem pBy_b {t : TT} (tb : TB t) (hp : 0 < t.P) : (pBy t = -2 ∧ pLeft t = -2) ∨ ∃ p : Nat, p < t.P ∧ pBy t = p ∧ pLeft t = fL t p := by
  unfold pBy pLeft
  cases pAny t with
  | false => left; exact ⟨if_neg (by decide), if_neg (by decide)⟩
  | true =>
    right
    have := pmn_le (fL t) (t.P - 1)
    exact ⟨pmn (fL t) (t.P - 1), by omega, if_pos rfl, if_pos rfl⟩
theorem rel_pass (σ : Mem) (h : RLq σ) : ∃ r σ1 σ2, f_X12_pass σ = some (r, σ1) ∧ f_X13_pass σ1 = some (r, σ2) ∧ RLq σ2 := by
  unfold f_X12_pass f_X13_pass
  refine rel_tE (fun t s => zI (pBy t)) (fun σ T t s hc hp => ⟨?_, ?_⟩) h
  · obtain ⟨τ, e1, e2, e3, e4⟩ := c_choose hc hp
    exact ⟨τ, by rw [hc.town, prfc_s, e1, pbd1_s, e3], e2⟩
  · obtain ⟨τ, e1, e2, e3⟩ := m_seek hc hp
    exact ⟨τ, by rw [e1, pbd2_s], e2⟩
theorem rel_passLeaves (σ : Mem) (h : RLq σ) : ∃ r σ1 σ2, f_X12_passLeaves σ = some (r, σ1) ∧ f_X13_passLeaves σ1 = some (r, σ2) ∧ RLq σ2 := by
  unfold f_X12_passLeaves f_X13_passLeaves
  refine rel_tE (fun t s => zI (pLeft t)) (fun σ T t s hc hp => ⟨?_, ?_⟩) h
  · obtain ⟨τ, e1, e2, e3, e4⟩ := c_choose hc hp
    exact ⟨τ, by rw [hc.town, prfc_s, e1, pbd1_s, e4], e2⟩
  · obtain ⟨τ, e1, e2, e3⟩ := m_seek hc hp
    refine ⟨τ, ?_, e2⟩
    have hP := hc.tb.P
    rw [e1, pbd2_s]
    rcases pBy_b hc.tb hp with ⟨h1, h2⟩ | ⟨p, h1, h2, h3⟩
    · rw [h1, h2, if_neg (by decide)]; rfl
    · rw [h2, h3, show (0 : Int32) = zI 0 from rfl, if_pos (by rw [zI_le (by omega) (by omega)]; omega), m_leaves hc.tb e3 h1, pbd1_s]
theorem fx4_inv {A1 A2 A3 A4 β : Type} {F : (A1 → A2 → A3 → A4 → Option β) → A1 → A2 → A3 → A4 → Option β} (a : Nat → A1) (b : Nat → A2) (c : Nat → A3) (Inv : Nat → A4 → Prop) (E : A4 → Option β) (N : Nat) (hN : N < 100000) (he : ∀ k σ, Inv N σ → F k (a N) (b N) (c N) σ = E σ) (hs : ∀ i, i < N → ∀ σ, Inv i σ → ∀ k, ∃ σ', Inv (i + 1) σ' ∧ F k (a i) (b i) (c i) σ = k (a (i + 1)) (b (i + 1)) (c (i + 1)) σ') (i : Nat) (hi : i ≤ N) {x : A1} {y : A2} {z : A3} (hx : x = a i) (hy : y = b i) (hz : z = c i) (σ : A4) (h0 : Inv i σ) : ∃ σ', Inv N σ' ∧ fx4 FU F x y z σ = E σ' := by
  subst hx; subst hy; subst hz
  have key : ∀ n, ∀ i, i + n = N → ∀ m σ, Inv i σ → ∃ σ', Inv N σ' ∧ fx4 (n + 1 + m) F (a i) (b i) (c i) σ = E σ' := by
    intro n
    induction n with
    | zero =>
      intro i hi m σ h
      have : i = N := by omega
      subst this
      refine ⟨σ, h, ?_⟩
      rw [Nat.zero_add, Nat.add_comm]
      exact he _ σ h
    | succ n ih =>
      intro i hi m σ h
      obtain ⟨σ', h1, h2⟩ := hs i (by omega) σ h (fx4 (n + 1 + m) F)
      obtain ⟨σ2, h3, h4⟩ := ih (i + 1) (by omega) m σ' h1
      refine ⟨σ2, h3, ?_⟩
      rw [show n + 1 + 1 + m = (n + 1 + m) + 1 from by omega]
      exact h2.trans h4
  obtain ⟨σ', h1, h2⟩ := key (N - i) i (by omega) (99999 - (N - i)) σ h0
  rw [show N - i + 1 + (99999 - (N - i)) = FU from by unfold FU; omega] at h2
  exact ⟨σ', h1, h2⟩
def sd (s : Nat) : Nat → Nat
  | 0 => s
  | n + 1 => (75 * sd s n + 74) % 65537
theorem sd_lt {s : Nat} (h : s < 65537) : ∀ n, sd s n < 65537
  | 0 => h
  | n + 1 => Nat.mod_lt _ (by omega)
theorem sd_add (s : Nat) (m : Nat) : ∀ n, sd s (m + n) = sd (sd s m) n
  | 0 => rfl
  | n + 1 => by rw [← Nat.add_assoc, sd, sd, sd_add s m n]
def drw (t : TT) (s : Nat) (d : Nat) : Nat × Nat := (sd s (2 * d + 1) % t.P, sd s (2 * d + 2) % t.ms)
theorem zI_rem {a b : Nat} (h : a < 2147483648 ∧ 0 < b ∧ b < 2147483648) : zI a - zI a / zI b * zI b = zI (a % b : Nat) := by
  rw [zI_div_nat a b (by omega), zI_mul, zI_sub]
  congr 1
  have := Nat.div_add_mod a b
  rw [Nat.mul_comm] at this
  omega
theorem drw_e {x : Nat} (h : x < 65537) : (75 * zI x + 74) - (75 * zI x + 74) / 65537 * 65537 = zI ((75 * x + 74) % 65537 : Nat) := by
  rw [show (75 : Int32) = zI 75 from rfl, show (74 : Int32) = zI 74 from rfl, show (65537 : Int32) = zI (65537 : Nat) from rfl, zI_mul, zI_add, show (75 * (x : Int) + 74) = (75 * x + 74 : Nat) from by omega]
  exact zI_rem (by omega)
theorem CS.goOn {σ : Mem} {k T : Nat} {t : TT} {E : List (Nat × Nat × Nat × Nat)} {s : SS} (h : CS σ k T t E s) (tb : TB t) {p m fr by_ : Nat} (hp : p < t.P) (hm : m < 6) (hfr : fr ≤ 30) : ∃ τ, f_X5_goOn σ (k + 2) (zI p) (zI m) (zI fr) (zI by_) = some τ ∧ τ.2 = σ.2 ∧ (∀ a, a ≠ k + 3 → τ.1 a = σ.1 a) ∧ CS τ k T t (E ++ [(p, fr, m, by_)]) s := by
  obtain ⟨τ, e1, e2, e3, e4⟩ := c_goOn h tb hp hm hfr (by_ := by_)
  refine ⟨τ, e1, e2, e3, ⟨h.at_, by rw [e2]; exact h.town, by rw [e3 _ (by omega)]; exact h.day, by rw [e3 _ (by omega)]; exact h.n, fun d hd => by rw [e3 _ (by omega)]; exact h.vis d hd, fun q d hq hd => ?_⟩⟩
  rw [e4 q d hq hd, lk_add]
theorem c_drift {σ : Mem} {T : Nat} {t : TT} {E : List (Nat × Nat × Nat × Nat)} {s : SS} (h : CS σ 32 T t E s) (hT : CT σ T t) (tb : TB t) (hp : 0 < t.P) {x : Nat} (hx : x < 65537) : ∃ τ, f_X9_drift σ 32 (zI x) = some (zI (sd x 60), τ) ∧ τ.2 = σ.2 ∧ (∀ a, a ≠ 35 → τ.1 a = σ.1 a) ∧ CS τ 32 T t (E ++ DL (some (drw t x)) 30) s := by
  have hP := tb.P
  have hms := tb.ms
  have hms3 := tb.ms3 hp
  unfold f_X9_drift
  let Inv : Nat → Mem → Prop := fun n τ => τ.2 = σ.2 ∧ (∀ a, a ≠ 35 → τ.1 a = σ.1 a) ∧ CS τ 32 T t (E ++ DL (some (drw t x)) n) s
  have hh := fx3_inv (F := fun k_4 (i_1 : Int32) (i_2 : Int32) (σ_3 : Mem) => (if 30 ≤ i_2 then some (i_1, σ_3) else bd1 (f_X9_drawn i_1) (fun (r_5 : Int32) => rfc (σ_3.2.2 32 0) (fun (T_6 : Nat) => bd1 (f_X11_people σ_3 T_6) (fun (r_7 : Int32) => bd1 (f_X9_rest r_5 r_7) (fun (r_8 : Int32) => bd1 (f_X9_drawn r_5) (fun (r_9 : Int32) => rfc (σ_3.2.2 32 0) (fun (T_10 : Nat) => bd1 (f_X9_rest r_9 (σ_3.1 T_10 0)) (fun (r_11 : Int32) => bd1 (f_X5_goOn σ_3 (32 + 2) r_8 r_11 i_2 1) (fun (σ_12 : Mem) => nm (i_2 + 1) (fun (x_13 : Int32) => k_4 r_9 x_13 σ_12))))))))))) (fun n => zI (sd x (2 * n))) (fun n => zI n) Inv (fun τ => some (zI (sd x 60), τ)) 30 (by omega) ?_ ?_ 0 (by omega) (x := zI x) (y := 0) rfl rfl σ ⟨rfl, fun a _ => rfl, by rw [show DL (some (drw t x)) 0 = [] from rfl, List.append_nil]; exact h⟩
  · obtain ⟨τ, ⟨w1, w2, w3⟩, w4⟩ := hh
    exact ⟨τ, w4, w1, w2, w3⟩
  · rintro k τ ⟨w1, w2, w3⟩
    rw [if_pos (by decide)]
  · rintro n hn τ ⟨w1, w2, w3⟩ k
    have hT2 : CT τ T t := hT.of (fun a v1 v2 => w2 a (by have := hT.at_; omega))
    have s0 := sd_lt hx (2 * n)
    have s1 := sd_lt hx (2 * n + 1)
    have s2 := sd_lt hx (2 * n + 2)
    have d1 : f_X9_drawn (zI (sd x (2 * n))) = some (zI (sd x (2 * n + 1))) := by
      unfold f_X9_drawn
      rw [show (65537 : Int32) = zI 65537 from rfl, dvd_ne (by omega), show zI 65537 = (65537 : Int32) from rfl, drw_e s0]; rfl
    have d2 : f_X9_drawn (zI (sd x (2 * n + 1))) = some (zI (sd x (2 * n + 2))) := by
      unfold f_X9_drawn
      rw [show (65537 : Int32) = zI 65537 from rfl, dvd_ne (by omega), show zI 65537 = (65537 : Int32) from rfl, drw_e s1]; rfl
    have r1 : f_X9_rest (zI (sd x (2 * n + 1))) (zI t.P) = some (zI (drw t x n).1) := by
      unfold f_X9_rest
      rw [if_neg (by rw [show (0 : Int32) = zI 0 from rfl, zI_le (by omega) (by omega)]; omega), dvd_ne (by omega), zI_rem (by omega)]; rfl
    have r2 : f_X9_rest (zI (sd x (2 * n + 2))) (zI t.ms) = some (zI (drw t x n).2) := by
      unfold f_X9_rest
      rw [if_neg (by rw [show (0 : Int32) = zI 0 from rfl, zI_le (by omega) (by omega)]; omega), dvd_ne (by omega), zI_rem (by omega)]; rfl
    have b1 : (drw t x n).1 < t.P := Nat.mod_lt _ hp
    have b2 : (drw t x n).2 < t.ms := Nat.mod_lt _ (by omega)
    obtain ⟨υ, u1, u2, u3, u4⟩ := w3.goOn tb b1 (show (drw t x n).2 < 6 by omega) (show n ≤ 30 by omega) (by_ := 1)
    rw [if_neg (by rw [show (30 : Int32) = zI 30 from rfl, zI_le (by omega) (by omega)]; omega), d1, pbd1_s, w3.town, prfc_s, ct_people hT2, pbd1_s, r1, pbd1_s, d2, pbd1_s, prfc_s, hT2.ms, r2, pbd1_s, show (1 : Int32) = zI (1 : Nat) from rfl, u1, pbd1_s, pnm_e, zI_add]
    refine ⟨υ, ⟨by rw [u2, w1], fun a v => by rw [u3 a v, w2 a v], by rw [DL_s, ← List.append_assoc]; exact u4⟩, rfl⟩
def whoI (who : Option Nat) : Int := match who with | none => -1 | some p => p
noncomputable def lsB (t : TT) (E : List (Nat × Nat × Nat × Nat)) (s : SS) (who : Option Nat) (d : Nat) : Bool := match who with
  | none => exF (fun p => !kn t E s p d) 0 t.P
  | some p => !kn t E s p d
noncomputable def lsN (t : TT) (s : SS) (x : Nat) (who : Option Nat) : Nat := cnt (lsB t (t.ch ++ s.sk ++ DL (some (drw t x)) 30) s who) 30
theorem m_draw {σ : Mem} {x b : Nat} (h : σ.1 64 32 = zI x) (hx : x < 65537) (hb : 0 < b ∧ b < 100) : f_X13_draw σ (zI b) = some (zI ((75 * x + 74) % 65537 % b : Nat), sI σ 64 32 (zI ((75 * x + 74) % 65537 : Nat))) := by
  have hm : (75 * x + 74) % 65537 < 65537 := Nat.mod_lt _ (by omega)
  unfold f_X13_draw
  rw [h, show (65537 : Int32) = zI 65537 from rfl, dvd_ne (by omega), show zI 65537 = (65537 : Int32) from rfl, drw_e hx, pnm_e, dvd_ne (by omega), sI_1, if_pos ⟨rfl, rfl⟩, zI_rem (by omega)]
theorem lsB_some {t : TT} {E : List (Nat × Nat × Nat × Nat)} {s : SS} {p d : Nat} (hp : p < t.P) : exF (fun q => decide (p = q) && !kn t E s q d) 0 t.P = !kn t E s p d := by
  apply Bool.eq_iff_iff.2
  rw [exF_iff]
  constructor
  · rintro ⟨q, -, h1, h2⟩
    rw [Bool.and_eq_true] at h2
    rw [of_decide_eq_true h2.1]; exact h2.2
  · intro h
    exact ⟨p, by omega, hp, by rw [decide_eq_true rfl, Bool.true_and]; exact h⟩
theorem m_lostIn {σ : Mem} {T : Nat} {t : TT} {s : SS} (hc : RC σ T t s) (hp : 0 < t.P) {x : Nat} (h32 : σ.1 64 32 = zI x) (hx : x < 65537) (who : Option Nat) (hw : ∀ p, who = some p → p < t.P) : ∃ τ, f_X13_lostIn σ (zI (whoI who)) = some (zI (lsN t s x who), τ) ∧ Ev σ τ ∧ τ.1 64 32 = zI (sd x 60) := by
  have hP := hc.tb.P
  have hms := hc.tb.ms
  have hms3 := hc.tb.ms3 hp
  have a72 : aln 72 = 30 := rfl
  have a73 : aln 73 = 30 := rfl
  have a67 : aln 67 = 175 := rfl
  have i4 : ∀ β (k : Option β), ixd 4 (aln 67) k = k := fun β k => by rw [show (4 : Int32) = zI 4 from rfl, ixd_in (by omega)]
  have i0 : ∀ β (k : Option β), ixd 0 (aln 67) k = k := fun β k => by rw [show (0 : Int32) = zI 0 from rfl, ixd_in (by omega)]
  have hwb : -1 ≤ whoI who ∧ whoI who < 5 := by
    unfold whoI
    cases who with
    | none => dsimp only; omega
    | some p => have := hw p rfl; dsimp only; omega
  unfold f_X13_lostIn
  simp only [i4, i0]
  let Inv : Nat → Mem → Prop := fun n τ => τ.2 = σ.2 ∧ (∀ a, a ≠ 64 → a ≠ 72 → a ≠ 73 → τ.1 a = σ.1 a) ∧ (∀ j, j ≠ 32 → τ.1 64 j = σ.1 64 j) ∧ τ.1 64 32 = zI (sd x (2 * n)) ∧ ∀ d, d < n → τ.1 72 d = zI (drw t x d).1 ∧ τ.1 73 d = zI (drw t x d).2
  have hh := fx2_inv (A2 := Mem) (F := fun k_3 (i_1 : Int32) (σ_2 : Mem) => (if 30 ≤ i_1 then nm (sI σ_2 64 24 1) (fun (σ_4 : Mem) => fx2 FU (fun k_7 (i_5 : Int32) (i_6 : Int32) => (if 30 ≤ i_6 then nm (sI σ_4 64 24 0) (fun (σ_8 : Mem) => some (i_5, σ_8)) else fx2 FU (fun k_11 (i_9 : Int32) (i_10 : Int32) => (if (σ_4.1 67 (4 : Int32).toNatClampNeg) ≤ i_10 then jn1 (fun (i_12 : Int32) => nm (i_5 + i_12) (fun (x_14 : Int32) => nm (i_6 + 1) (fun (x_15 : Int32) => k_7 x_14 x_15))) (fun k_13 => (if i_9 = 0 then k_13 0 else k_13 1)) else jn1 (fun (i_17 : Int32) => nm (i_10 + 1) (fun (x_19 : Int32) => k_11 i_17 x_19)) (fun k_18 => jn0 (k_18 1) (fun k_21 => (if i_9 = 0 then jn0 (k_18 0) (fun k_22 => jn0 (bd1 (f_X13_doesKnow σ_4 i_10 i_6) (fun (r_24 : Int32) => (if r_24 = 0 then k_21 else k_22))) (fun k_23 => (if zI (whoI who) < 0 then k_23 else (if zI (whoI who) = i_10 then k_23 else k_22)))) else k_21))))) 0 0)) 0 0) else (bd2 (f_X13_draw σ_2 (σ_2.1 67 (4 : Int32).toNatClampNeg)) (fun (r_25 : Int32) (σ_26 : Mem) => ixd i_1 (aln 72) (nm (sI σ_26 72 i_1.toNatClampNeg r_25) (fun (σ_27 : Mem) => (bd2 (f_X13_draw σ_27 (σ_27.1 67 (0 : Int32).toNatClampNeg)) (fun (r_28 : Int32) (σ_29 : Mem) => ixd i_1 (aln 73) (nm (sI σ_29 73 i_1.toNatClampNeg r_28) (fun (σ_30 : Mem) => nm (i_1 + 1) (fun (x_31 : Int32) => k_3 x_31 σ_30))))))))))) (fun n => zI n) Inv (fun τ => some (zI (lsN t s x who), sI (sI τ 64 24 1) 64 24 0)) 30 (by omega) ?_ ?_ 0 (by omega) (x := 0) rfl σ ⟨rfl, fun a _ _ _ => rfl, fun j _ => rfl, h32, fun d hd => absurd hd (by omega)⟩
  · obtain ⟨τ, ⟨w1, w2, w3, w4, w5⟩, w6⟩ := hh
    refine ⟨_, w6, Ev.of (fun a v => by rw [sI_o _ _ _ _ (by omega), sI_o _ _ _ _ (by omega), w2 a (by omega) (by omega) (by omega)]) (fun a v => by rw [show (sI (sI τ 64 24 1) 64 24 0).2 = τ.2 from rfl, w1]) (by rw [show (sI (sI τ 64 24 1) 64 24 0).2 = τ.2 from rfl, w1]) (by rw [sI_o _ _ _ _ (by omega), sI_o _ _ _ _ (by omega), w2 0 (by omega) (by omega) (by omega)]) (by rw [sI_o _ _ _ _ (by omega), sI_o _ _ _ _ (by omega), w2 1 (by omega) (by omega) (by omega)]) (fun j hj => ?_), ?_⟩
    · rw [sI_1]
      by_cases q : j = 24
      · rw [if_pos ⟨rfl, q⟩, q]; exact hc.nod.symm
      · rw [if_neg (fun z => q z.2), sI_1, if_neg (fun z => q z.2), w3 j (by omega)]
    · rw [sI_1, if_neg (by omega), sI_1, if_neg (by omega), w4]
  · rintro k τ ⟨w1, w2, w3, w4, w5⟩
    have hR : MR ((sI τ 64 24 1).1 67) t := by rw [sI_o _ _ _ _ (by omega), w2 67 (by omega) (by omega) (by omega)]; exact hc.mr
    have hV : MV ((sI τ 64 24 1).1 69) 0 s := by rw [sI_o _ _ _ _ (by omega), w2 69 (by omega) (by omega) (by omega)]; exact hc.mv
    have hD : MD (sI τ 64 24 1) t (some (drw t x)) := ⟨by rw [sI_1, if_pos ⟨rfl, rfl⟩]; rfl, fun d hd => ⟨by rw [sI_o _ _ _ _ (by omega)]; exact (w5 d hd).1, by rw [sI_o _ _ _ _ (by omega)]; exact (w5 d hd).2, by have : (drw t x d).1 < t.P := Nat.mod_lt _ hp; omega, Nat.mod_lt _ (by omega)⟩⟩
    have p4 : (sI τ 64 24 1).1 67 (4 : Int32).toNatClampNeg = zI t.P := hR.P
    rw [if_pos (by decide), pnm_e]
    generalize hυ : sI τ 64 24 1 = υ at hR hV hD p4 ⊢
    rw [p4]
    refine fx2_run (fun d => zI (cnt (lsB t (t.ch ++ s.sk ++ DL (some (drw t x)) 30) s who) d)) (fun d => zI d) 30 0 (by omega) rfl rfl (fun k => rfl) (fun d hd k2 => ?_)
    rw [if_neg (by rw [show (30 : Int32) = zI 30 from rfl, zI_le (by omega) (by omega)]; omega)]
    let g : Nat → Bool := fun q => (decide (who = none) || decide (who = some q)) && !kn t (t.ch ++ s.sk ++ DL (some (drw t x)) 30) s q d
    have hg : exF g 0 t.P = lsB t (t.ch ++ s.sk ++ DL (some (drw t x)) 30) s who d := by
      cases who with
      | none => exact exF_congr (fun q h1 h2 => by show ((decide _ || decide _) && !kn t _ s q d) = _; simp only [Option.some.injEq, reduceCtorEq, decide_true, decide_false, Bool.true_or, Bool.false_or, Bool.true_and])
      | some p =>
        show _ = !kn t _ s p d
        rw [← lsB_some (hw p rfl)]
        exact exF_congr (fun q h1 h2 => by show ((decide _ || decide _) && !kn t _ s q d) = _; simp only [Option.some.injEq, reduceCtorEq, decide_true, decide_false, Bool.true_or, Bool.false_or, Bool.true_and])
    have hcn := cnt_le (lsB t (t.ch ++ s.sk ++ DL (some (drw t x)) 30) s who) d
    refine fx2_run (fun q => bI (exF g 0 q)) (fun q => zI q) t.P 0 (by omega) (by rw [exF_end]; rfl) rfl (fun k3 => ?_) (fun q hq k3 => ?_)
    · rw [if_pos (by rw [zI_le (by omega) (by omega)]; omega), hg, cnt]
      simp only [jn1_e, pnm_e, show zI d + 1 = zI (d + 1 : Nat) from by rw [show (1 : Int32) = zI 1 from rfl, zI_add]; rfl]
      cases lsB t (t.ch ++ s.sk ++ DL (some (drw t x)) 30) s who d with
      | true => rw [if_neg (by decide), if_pos rfl, show (1 : Int32) = zI 1 from rfl, zI_add]; rfl
      | false => rw [if_pos (by rfl), if_neg (by decide), show (0 : Int32) = zI 0 from rfl, zI_add]; rfl
    · rw [if_neg (by rw [zI_le (by omega) (by omega)]; omega), m_know hR hV hc.tb hc.sb hD hq hd, exF_s]
      simp only [pbd1_s, jn1_e, jn0_e, pnm_e, show zI q + 1 = zI (q + 1 : Nat) from by rw [show (1 : Int32) = zI 1 from rfl, zI_add]; rfl]
      cases exF g 0 q with
      | true => rw [if_neg (by decide)]; rfl
      | false =>
        rw [if_pos (by rfl), Bool.false_or]
        cases who with
        | none =>
          rw [if_pos (by decide)]
          cases hk : kn t (t.ch ++ s.sk ++ DL (some (drw t x)) 30) s q d with
          | true => rw [if_neg (by decide), show g q = false from by show (_ && !kn t _ s q d) = _; rw [hk]; simp]; rfl
          | false => rw [if_pos (by decide), show g q = true from by show (_ && !kn t _ s q d) = _; rw [hk]; simp]; rfl
        | some p =>
          have hpp := hw p rfl
          rw [show whoI (some p) = (p : Int) from rfl, if_neg (by rw [show (0 : Int32) = zI 0 from rfl, zI_lt (by omega) (by omega)]; omega)]
          by_cases e : p = q
          · rw [if_pos (by rw [e])]
            cases hk : kn t (t.ch ++ s.sk ++ DL (some (drw t x)) 30) s q d with
            | true => rw [if_neg (by decide), show g q = false from by show (_ && !kn t _ s q d) = _; rw [hk]; simp]; rfl
            | false => rw [if_pos (by decide), show g q = true from by show (_ && !kn t _ s q d) = _; rw [hk]; simp [e]]; rfl
          · rw [if_neg (by rw [zI_eq (by omega) (by omega)]; omega), show g q = false from by show ((_ || decide (some p = some q)) && _) = _; rw [decide_eq_false (fun z => e (Option.some.inj z))]; rfl]; rfl
  · rintro n hn τ ⟨w1, w2, w3, w4, w5⟩ k
    have hR : MR (τ.1 67) t := by rw [w2 67 (by omega) (by omega) (by omega)]; exact hc.mr
    have p4 : τ.1 67 (4 : Int32).toNatClampNeg = zI t.P := hR.P
    have s0 := sd_lt hx (2 * n)
    have s1 := sd_lt hx (2 * n + 1)
    have d1 := m_draw w4 s0 (b := t.P) (by omega)
    rw [if_neg (by rw [show (30 : Int32) = zI 30 from rfl, zI_le (by omega) (by omega)]; omega), p4, d1, pbd2_s, ixd_in (by omega), pnm_e, zI_nat (by omega), show (n : Int).toNat = n from by omega]
    obtain ⟨τ1, hτ1⟩ : ∃ τ1, τ1 = sI (sI τ 64 32 (zI ((75 * sd x (2 * n) + 74) % 65537 : Nat))) 72 n (zI ((75 * sd x (2 * n) + 74) % 65537 % t.P : Nat)) := ⟨_, rfl⟩
    rw [← hτ1]
    have p0 : τ1.1 67 (0 : Int32).toNatClampNeg = zI t.ms := by rw [hτ1, sI_o _ _ _ _ (by omega), sI_o _ _ _ _ (by omega)]; exact hR.ms
    have t32 : τ1.1 64 32 = zI (sd x (2 * n + 1)) := by rw [hτ1, sI_o _ _ _ _ (by omega), sI_1, if_pos ⟨rfl, rfl⟩]; rfl
    have d2 := m_draw t32 s1 (b := t.ms) (by omega)
    rw [p0, d2, pbd2_s, ixd_in (by omega), pnm_e, pnm_e, show zI n + 1 = zI (n + 1 : Nat) from by rw [show (1 : Int32) = zI 1 from rfl, zI_add]; rfl]
    refine ⟨_, ⟨?_, fun a v1 v2 v3 => ?_, fun j hj => ?_, ?_, fun d hd => ?_⟩, rfl⟩
    · rw [sI_2, sI_2, hτ1]; exact w1
    · rw [sI_o _ _ _ _ v3, sI_o _ _ _ _ v1, hτ1, sI_o _ _ _ _ v2, sI_o _ _ _ _ v1, w2 a v1 v2 v3]
    · rw [sI_o _ _ _ _ (by omega), sI_1, if_neg (by omega), hτ1, sI_o _ _ _ _ (by omega), sI_1, if_neg (by omega), w3 j hj]
    · rw [sI_o _ _ _ _ (by omega), sI_1, if_pos ⟨rfl, rfl⟩]; rfl
    · by_cases e : d = n
      · subst e
        refine ⟨?_, ?_⟩
        · rw [sI_o _ _ _ _ (by omega), sI_o _ _ _ _ (by omega), hτ1, sI_1, if_pos ⟨rfl, rfl⟩]; rfl
        · rw [sI_1, if_pos ⟨rfl, rfl⟩]; rfl
      · have := w5 d (by omega)
        refine ⟨?_, ?_⟩
        · rw [sI_o _ _ _ _ (by omega), sI_o _ _ _ _ (by omega), hτ1, sI_1, if_neg (by omega), sI_o _ _ _ _ (by omega)]; exact this.1
        · rw [sI_1, if_neg (by omega), sI_o _ _ _ _ (by omega), hτ1, sI_o _ _ _ _ (by omega), sI_o _ _ _ _ (by omega)]; exact this.2
theorem bits_all (f : Nat → Bool) (n : Nat) : (bits f n = 2 ^ n - 1) ↔ exF (fun p => !f p) 0 n = false := by
  constructor
  · intro h
    refine exF_f (fun j _ hj => ?_)
    have := bits_at f n j
    rw [h, Nat.testBit_two_pow_sub_one, decide_eq_true hj, Bool.true_and] at this
    rw [← this]; rfl
  · intro h
    apply Nat.eq_of_testBit_eq
    intro j
    rw [bits_at, Nat.testBit_two_pow_sub_one]
    by_cases hj : j < n
    · rw [decide_eq_true hj, Bool.true_and]
      cases hf : f j with
      | true => rfl
      | false =>
        have : exF (fun p => !f p) 0 n = true := exF_t j (by omega) hj (by rw [hf]; rfl)
        rw [h] at this; cases this
    · rw [decide_eq_false hj]; rfl
theorem c_inst {σ : Mem} {T : Nat} {t : TT} {s : SS} (hc : RC σ T t s) (hp : 0 < t.P) {x : Nat} (hx : x < 65537) {β : Type} (K : Int32 → Mem → Option β) : ∃ τ, bd1 (f_X9_copy σ 32 28) (fun υ => bd2 (f_X9_drift υ 32 (zI x)) K) = K (zI (sd x 60)) τ ∧ Ev σ τ ∧ CS τ 32 T t (t.ch ++ s.sk ++ DL (some (drw t x)) 30) s := by
  obtain ⟨τ, e1, e2, e3⟩ := c_trial hc
  have hc1 := hc.eqv e2.e
  obtain ⟨υ, u1, u2, u3, u4⟩ := c_drift e3 hc1.ct hc.tb hp hx
  refine ⟨υ, by rw [e1, pbd1_s, u1, pbd2_s], e2.trans (Ev.of (fun a w => u3 a (by omega)) (fun a w => by rw [u2]) (by rw [u2]) (u3 0 (by omega)) (u3 1 (by omega)) (fun j _ => by rw [u3 64 (by omega)])), u4⟩
theorem rel_month (σ : Mem) (h : RLq σ) (y : Int32) : ∃ r σ1 σ2, f_X12_month σ y = some (r, σ1) ∧ f_X13_month σ1 y = some (r, σ2) ∧ RLq σ2 := by
  obtain ⟨T, t, s, hc, ht, hp⟩ := h
  have hP := hc.tb.P
  have hb := zI_rng y
  rw [zI_all y]
  generalize y.toInt = x at hb
  unfold f_X12_month f_X13_month
  rw [c_ofTown hc, pbd1_s]
  simp only [m_good, pbd1_s, jn1_e]
  by_cases q : 0 < t.P
  · rw [decide_eq_false (by omega), if_pos (by rfl), show (65537 : Int32) = zI 65537 from rfl, f_inside _ _ hb (by omega), pbd1_s]
    by_cases q2 : 0 ≤ x ∧ x < 65537
    · rw [decide_eq_true q2, if_neg (by decide), refu_0, pbd2_s, if_pos rfl]
      obtain ⟨x, rfl⟩ : ∃ i : Nat, x = i := ⟨x.toNat, by omega⟩
      obtain ⟨τ, e1, e2, e3⟩ := c_inst (RC_c hc 0) q (x := x) (by omega) (fun (r_7 : Int32) (σ_8 : Mem) => rfc (σ_8.2.2 0 10) (fun (T_9 : Nat) => bd1 (f_X11_people σ_8 T_9) (fun (r_10 : Int32) => nm ((1 <<< (r_10 &&& 31)) - 1) (fun (x_11 : Int32) => fx2 FU (fun k_14 (i_12 : Int32) (i_13 : Int32) => (if 30 ≤ i_13 then some (i_12, σ_8) else bd1 (f_X9_knowing σ_8 32 i_13) (fun (r_15 : Int32) => (if r_15 = x_11 then nm (i_12 + 0) (fun (x_18 : Int32) => nm (i_13 + 1) (fun (x_19 : Int32) => k_14 x_18 x_19)) else nm (i_12 + 1) (fun (x_18 : Int32) => nm (i_13 + 1) (fun (x_19 : Int32) => k_14 x_18 x_19)))))) 0 0))))
      have hc1 := (RC_c hc 0).eqv e2.e
      have hc2 := RC_cE hc 0 e2
      have h2 : MC (sI (gd τ) 64 32 (zI x)) t s := hc2.mc.of (by rw [sI_o _ _ _ _ (by omega)]) (by rw [sI_o _ _ _ _ (by omega)]) (by rw [sI_1, if_neg (by omega)]) (by rw [sI_1, if_neg (by omega)])
      have ev3 : Ev (gd τ) (sI (gd τ) 64 32 (zI x)) := (Ev.rfl' _).sI 64 32 _ rfl rfl rfl
      have hc3 := hc2.eqv ev3.e
      obtain ⟨υ, u1, u2, u3⟩ := m_lostIn hc3 q (x := x) (by rw [sI_1, if_pos ⟨rfl, rfl⟩]) (by omega) none (fun p hp => by cases hp)
      have hkey : bd1 (f_X9_copy (sI σ 0 13 0) 32 28) (fun υ => bd2 (f_X9_drift υ 32 (zI x)) (fun (r_7 : Int32) (σ_8 : Mem) => rfc (σ_8.2.2 0 10) (fun (T_9 : Nat) => bd1 (f_X11_people σ_8 T_9) (fun (r_10 : Int32) => nm ((1 <<< (r_10 &&& 31)) - 1) (fun (x_11 : Int32) => fx2 FU (fun k_14 (i_12 : Int32) (i_13 : Int32) => (if 30 ≤ i_13 then some (i_12, σ_8) else bd1 (f_X9_knowing σ_8 32 i_13) (fun (r_15 : Int32) => (if r_15 = x_11 then nm (i_12 + 0) (fun (x_18 : Int32) => nm (i_13 + 1) (fun (x_19 : Int32) => k_14 x_18 x_19)) else nm (i_12 + 1) (fun (x_18 : Int32) => nm (i_13 + 1) (fun (x_19 : Int32) => k_14 x_18 x_19)))))) 0 0))))) = some (zI (lsN t s x none), τ) := by
        rw [e1, hc1.town, prfc_s, ct_people hc1.ct, pbd1_s, pnm_e]
        have hpw : 2 ^ t.P ≤ 2 ^ 5 := Nat.pow_le_pow_right (by omega) hP
        have hp1 : 0 < 2 ^ t.P := Nat.two_pow_pos _
        have hall : (1 : Int32) <<< (zI t.P &&& 31) - 1 = zI (2 ^ t.P - 1 : Nat) := by
          rw [show (1 : Int32) <<< (zI t.P &&& 31) = zI (2 ^ t.P : Nat) from one_shl (by omega), show (1 : Int32) = zI 1 from rfl, zI_sub]; congr 1; omega
        rw [hall]
        refine fx2_run (fun d => zI (cnt (lsB t (t.ch ++ s.sk ++ DL (some (drw t x)) 30) s none) d)) (fun d => zI d) 30 0 (by omega) rfl rfl (fun k => rfl) (fun d hd k => ?_)
        have hcn := cnt_le (lsB t (t.ch ++ s.sk ++ DL (some (drw t x)) 30) s none) d
        rw [if_neg (by rw [show (30 : Int32) = zI 30 from rfl, zI_le (by omega) (by omega)]; omega), c_knowing e3 hc1.ct hc.tb hc.sb hd, pbd1_s]
        simp only [pnm_e, show zI d + 1 = zI (d + 1 : Nat) from by rw [show (1 : Int32) = zI 1 from rfl, zI_add]; rfl]
        have hbl := bits_lt (fun p => kn t (t.ch ++ s.sk ++ DL (some (drw t x)) 30) s p d) t.P
        have hba := bits_all (fun p => kn t (t.ch ++ s.sk ++ DL (some (drw t x)) 30) s p d) t.P
        rw [cnt]
        obtain ⟨Z, hZ⟩ : ∃ Z : Nat, 2 ^ t.P = Z := ⟨_, rfl⟩
        rw [hZ] at hpw hp1 hbl hba ⊢
        cases hx : lsB t (t.ch ++ s.sk ++ DL (some (drw t x)) 30) s none d with
        | true =>
          have hx2 : exF (fun p => !kn t (t.ch ++ s.sk ++ DL (some (drw t x)) 30) s p d) 0 t.P = true := hx
          rw [if_neg (fun w => by
            rw [zI_eq (by omega) (by omega)] at w
            have := hba.1 (by omega)
            rw [hx2] at this; cases this), if_pos rfl, show (1 : Int32) = zI 1 from rfl, zI_add]; rfl
        | false =>
          have hx2 : exF (fun p => !kn t (t.ch ++ s.sk ++ DL (some (drw t x)) 30) s p d) 0 t.P = false := hx
          have := hba.2 hx2
          rw [if_pos (by rw [this]), if_neg (by decide), show (0 : Int32) = zI 0 from rfl, zI_add]; rfl
      refine ⟨_, τ, υ, hkey, ?_, RL_yesE hc e2 (ev3.trans u2)⟩
      rw [if_neg (by rw [hc2.has, decide_eq_true q]; decide), show (0 : Int32) = zI 0 from rfl, show (65536 : Int32) = zI 65536 from rfl, f_in _ _ _ hb (by omega) (by omega), decide_eq_true (by omega), pbd1_s, if_neg (by decide), pnm_e, show (-1 : Int32) = zI (whoI none) from rfl, u1, pbd2_s]
    · rw [decide_eq_false q2, if_pos (by rfl), refu_2, pbd2_s, if_neg (by decide)]
      have hc2 := RC_m hc 2
      refine ⟨_, _, _, rfl, ?_, RL_no hc 2 (by decide)⟩
      rw [if_neg (by rw [hc2.has, decide_eq_true q]; decide), show (0 : Int32) = zI 0 from rfl, show (65536 : Int32) = zI 65536 from rfl, f_in _ _ _ hb (by omega) (by omega), decide_eq_false (by omega), pbd1_s, if_pos (by rfl), m_no]
      rfl
  · rw [decide_eq_true (by omega), if_neg (by decide), refu_1, pbd2_s, if_neg (by decide)]
    have hc2 := RC_m hc 1
    refine ⟨_, _, _, rfl, ?_, RL_no hc 1 (by decide)⟩
    rw [if_pos (by rw [hc2.has, decide_eq_false q]; rfl), m_no]
    rfl
/-- days lost in so many months -/
noncomputable def tot (t : TT) (s : SS) (x p : Nat) : Nat → Nat
  | 0 => 0
  | n + 1 => tot t s x p n + lsN t s (sd x (60 * n)) (some p)
theorem tot_le (t : TT) (s : SS) (x p : Nat) : ∀ n, tot t s x p n ≤ 30 * n
  | 0 => Nat.le_refl 0
  | n + 1 => by
    have := tot_le t s x p n
    have h2 : lsN t s (sd x (60 * n)) (some p) ≤ 30 := cnt_le _ 30
    rw [tot]; omega
theorem rel_lost (σ : Mem) (h : RLq σ) (x y z : Int32) : ∃ r σ1 σ2, f_X12_lost σ x y z = some (r, σ1) ∧ f_X13_lost σ1 x y z = some (r, σ2) ∧ RLq σ2 := by
  obtain ⟨T, t, s, hc, ht, hp⟩ := h
  have hP := hc.tb.P
  have ha := zI_rng x
  have hb := zI_rng y
  have hd := zI_rng z
  rw [zI_all x, zI_all y, zI_all z]
  generalize x.toInt = p at ha
  generalize y.toInt = x at hb
  generalize z.toInt = n at hd
  unfold f_X12_lost f_X13_lost
  rw [show (65537 : Int32) = zI 65537 from rfl, f_inside _ _ hb (by omega), pbd1_s]
  simp only [m_good, pbd1_s, jn1_e, jn0_e]
  rw [c_ofPerson hc _ ha]
  simp only [pbd1_s]
  by_cases q : 0 ≤ p ∧ p < (t.P : Int)
  · obtain ⟨p, rfl⟩ : ∃ i : Nat, p = i := ⟨p.toNat, by omega⟩
    rw [decide_eq_true q]
    by_cases q2 : (0 ≤ x ∧ x < 65537) ∧ 1 ≤ n ∧ n ≤ 20
    · obtain ⟨x, rfl⟩ : ∃ i : Nat, x = i := ⟨x.toNat, by omega⟩
      obtain ⟨n, rfl⟩ : ∃ i : Nat, n = i := ⟨n.toNat, by omega⟩
      rw [decide_eq_true q2.1, if_neg (by decide), if_neg (by rw [show (1 : Int32) = zI 1 from rfl, zI_lt (by omega) (by omega)]; omega), if_neg (by rw [show (20 : Int32) = zI 20 from rfl, zI_lt (by omega) (by omega)]; omega), if_pos (by rfl), if_neg (by decide), refu_0, pbd2_s, if_pos rfl]
      have hc0 := RC_c hc 0
      obtain ⟨τ, w1, w2⟩ := fx4_inv (F := fun k_13 (i_9 : Int32) (i_10 : Int32) (i_11 : Int32) (σ_12 : Mem) => (if zI n ≤ i_11 then some (i_9, σ_12) else bd1 (f_X9_copy σ_12 32 28) (fun (σ_14 : Mem) => bd2 (f_X9_drift σ_14 32 i_10) (fun (r_15 : Int32) (σ_16 : Mem) => bd1 (f_X9_daysLost σ_16 32 (zI p)) (fun (r_17 : Int32) => nm (i_9 + r_17) (fun (x_18 : Int32) => nm (i_11 + 1) (fun (x_19 : Int32) => k_13 x_18 r_15 x_19 σ_16))))))) (fun i => zI (tot t s x p i)) (fun i => zI (sd x (60 * i))) (fun i => zI i) (fun _ τ => Ev (sI σ 0 13 0) τ) (fun τ => some (zI (tot t s x p n), τ)) n (by omega) (fun k τ w => by rw [if_pos (by rw [zI_le (by omega) (by omega)]; omega)]) (fun i hi τ w k => by
        have hs := sd_lt (show x < 65537 by omega) (60 * i)
        have hc1 := hc0.eqv w.e
        obtain ⟨υ, e1, e2, e3⟩ := c_inst hc1 (by omega) hs (fun (r_15 : Int32) (σ_16 : Mem) => bd1 (f_X9_daysLost σ_16 32 (zI p)) (fun (r_17 : Int32) => nm (zI (tot t s x p i) + r_17) (fun (x_18 : Int32) => nm (zI i + 1) (fun (x_19 : Int32) => k x_18 r_15 x_19 σ_16))))
        refine ⟨υ, w.trans e2, ?_⟩
        rw [if_neg (by rw [zI_le (by omega) (by omega)]; omega), e1, c_daysLost e3 (hc1.eqv e2.e).ct hc.tb hc.sb (by omega), pbd1_s, pnm_e, pnm_e, zI_add, show zI i + 1 = zI (i + 1 : Nat) from by rw [show (1 : Int32) = zI 1 from rfl, zI_add]; rfl, ← sd_add]
        rfl) 0 (by omega) (x := 0) (y := zI x) (z := 0) rfl rfl rfl (sI σ 0 13 0) (Ev.rfl' _)
      have hc2 := RC_cE hc 0 w1
      have ev3 : Ev (gd τ) (sI (gd τ) 64 32 (zI x)) := (Ev.rfl' _).sI 64 32 _ rfl rfl rfl
      obtain ⟨υ, ⟨v1, v2⟩, v3⟩ := fx3_inv (F := fun k_12 (i_9 : Int32) (i_10 : Int32) (σ_11 : Mem) => (if zI n ≤ i_10 then some (i_9, σ_11) else bd2 (f_X13_lostIn σ_11 (zI p)) (fun (r_13 : Int32) (σ_14 : Mem) => nm (i_9 + r_13) (fun (x_15 : Int32) => nm (i_10 + 1) (fun (x_16 : Int32) => k_12 x_15 x_16 σ_14))))) (fun i => zI (tot t s x p i)) (fun i => zI i) (fun i υ => Ev (gd τ) υ ∧ υ.1 64 32 = zI (sd x (60 * i))) (fun τ => some (zI (tot t s x p n), τ)) n (by omega) (fun k τ w => by rw [if_pos (by rw [zI_le (by omega) (by omega)]; omega)]) (fun i hi υ w k => by
        have hs := sd_lt (show x < 65537 by omega) (60 * i)
        obtain ⟨ω, e1, e2, e3⟩ := m_lostIn (hc2.eqv w.1.e) (by omega) w.2 hs (some p) (fun r hr => by have := Option.some.inj hr; omega)
        have e1 : f_X13_lostIn υ (zI p) = _ := e1
        refine ⟨ω, ⟨w.1.trans e2, by rw [e3, ← sd_add]; rfl⟩, ?_⟩
        rw [if_neg (by rw [zI_le (by omega) (by omega)]; omega), e1, pbd2_s, pnm_e, pnm_e, zI_add, show zI i + 1 = zI (i + 1 : Nat) from by rw [show (1 : Int32) = zI 1 from rfl, zI_add]; rfl]
        rfl) 0 (by omega) (x := 0) (y := 0) rfl rfl (sI (gd τ) 64 32 (zI x)) ⟨ev3, by rw [sI_1, if_pos ⟨rfl, rfl⟩]; rfl⟩
      refine ⟨_, τ, υ, w2, ?_, RL_yesE hc w1 v1⟩
      rw [hc2.mc.isPerson _ ha, decide_eq_true q, pbd1_s, if_neg (by decide), show (0 : Int32) = zI 0 from rfl, show (65536 : Int32) = zI 65536 from rfl, f_in _ _ _ hb (by omega) (by omega), decide_eq_true (by omega), pbd1_s, if_neg (by decide), show (1 : Int32) = zI 1 from rfl, show (20 : Int32) = zI 20 from rfl, f_in _ _ _ hd (by omega) (by omega), decide_eq_true (by omega), pbd1_s, if_neg (by decide), pnm_e]
      exact v3
    · have hc2 := RC_m hc 2
      refine ⟨-1, sI σ 0 13 2, _, ?_, ?_, RL_no hc 2 (by decide)⟩
      · by_cases k1 : 0 ≤ x ∧ x < 65537
        · rw [decide_eq_true k1, if_neg (by decide)]
          by_cases k2 : n < 1
          · rw [if_pos (by rw [show (1 : Int32) = zI 1 from rfl, zI_lt (by omega) (by omega)]; omega)]; rfl
          · rw [if_neg (by rw [show (1 : Int32) = zI 1 from rfl, zI_lt (by omega) (by omega)]; omega), if_pos (by rw [show (20 : Int32) = zI 20 from rfl, zI_lt (by omega) (by omega)]; omega)]; rfl
        · rw [decide_eq_false k1]; rfl
      · rw [hc2.mc.isPerson _ ha, decide_eq_true q, pbd1_s, if_neg (by decide), m_no, pbd2_s, show (0 : Int32) = zI 0 from rfl, show (65536 : Int32) = zI 65536 from rfl, f_in _ _ _ hb (by omega) (by omega), pbd1_s]
        by_cases k1 : 0 ≤ x ∧ x < 65537
        · rw [decide_eq_true (by omega), if_neg (by decide), show (1 : Int32) = zI 1 from rfl, show (20 : Int32) = zI 20 from rfl, f_in _ _ _ hd (by omega) (by omega), decide_eq_false (by omega), pbd1_s, if_pos (by rfl)]
        · rw [decide_eq_false (by omega), if_pos (by rfl)]
  · have hc2 := RC_m hc 1
    refine ⟨-1, sI σ 0 13 1, _, ?_, ?_, RL_no hc 1 (by decide)⟩
    · rw [decide_eq_false q]
      simp only [show ¬ bI (!false) = 0 from by decide, if_false, ite_self]
      rfl
    · rw [hc2.mc.isPerson _ ha, decide_eq_false q, pbd1_s, if_pos (by decide), m_no]
      rfl
