theorem sk1_all {f : Nat → Option (List Nat)} : ∀ {k}, k ≤ 300 → (∀ c, 300 - k ≤ c → c < 300 → f c = none) → sk1 f k = none
  | 0, _, _ => rfl
  | k + 1, hk, h => by
    rw [sk1, h (300 - (k + 1)) (Nat.le_refl _) (by omega)]
    exact sk1_all (by omega) (fun c h1 h2 => h c (by omega) h2)
theorem sk1_fst {f : Nat → Option (List Nat)} {c : Nat} {L : List Nat} (hc : c < 300) (hL : f c = some L) : ∀ {k}, k ≤ 300 → 300 - k ≤ c → (∀ x, 300 - k ≤ x → x < c → f x = none) → sk1 f k = some L
  | 0, _, h, _ => absurd h (by omega)
  | k + 1, hk, h, hn => by
    rw [sk1]
    rcases Nat.lt_or_ge (300 - (k + 1)) c with w | w
    · rw [hn _ (Nat.le_refl _) w]
      exact sk1_fst hc hL (by omega) (by omega) (fun x h1 h2 => hn x (by omega) h2)
    · rw [show 300 - (k + 1) = c from by omega, hL]
/-- cells 0 .. of the row of chosen -/
def Cho (σ : Mem) (pre : List Nat) : Prop := ∀ i c : Nat, pre[i]? = some c → σ.1 54 i = zI c
/-- from place i of the candidates on stand all that may come next -/
abbrev CI (t : TT) (E : List (Nat × Nat × Nat × Nat)) (s : SS) (pre : List Nat) (fr i : Nat) : Prop :=
  (∀ k c : Nat, (cnL t E s 300)[k]? = some c → k < i → c < fr) ∧ (∀ k c : Nat, (cnL t E s 300)[k]? = some c → i ≤ k → fr ≤ c ∨ ∃ m x : Nat, pre.length = m + 1 ∧ pre[m]? = some x ∧ x / 10 = c / 10) ∧ (pre = [] → fr = 0)
theorem CI.lo {t : TT}{E : List (Nat × Nat × Nat × Nat)}{s : SS}{pre : List Nat}{fr i : Nat} (h : CI t E s pre fr i) : ∀ k c : Nat, (cnL t E s 300)[k]? = some c → k < i → c < fr := h.1
theorem CI.hi {t : TT}{E : List (Nat × Nat × Nat × Nat)}{s : SS}{pre : List Nat}{fr i : Nat} (h : CI t E s pre fr i) : ∀ k c : Nat, (cnL t E s 300)[k]? = some c → i ≤ k → fr ≤ c ∨ ∃ m x : Nat, pre.length = m + 1 ∧ pre[m]? = some x ∧ x / 10 = c / 10 := h.2.1
theorem CI.z {t : TT}{E : List (Nat × Nat × Nat × Nat)}{s : SS}{pre : List Nat}{fr i : Nat} (h : CI t E s pre fr i) : pre = [] → fr = 0 := h.2.2
theorem CI.sep {t : TT} {E : List (Nat × Nat × Nat × Nat)} {s : SS} {k l a b : Nat} (ha : (cnL t E s 300)[k]? = some a) (hb : (cnL t E s 300)[l]? = some b) (h : k < l) : a < b := by
  have hl : l < (cnL t E s 300).length := by
    rcases Nat.lt_or_ge l (cnL t E s 300).length with q | q
    · exact q
    · rw [List.getElem?_eq_none q] at hb; cases hb
  rw [List.getElem?_eq_getElem (by omega)] at ha hb
  have := (List.pairwise_iff_getElem.1 (cnL_asc t E s 300)) k l (by omega) hl h
  rw [← Option.some.inj ha, ← Option.some.inj hb]; exact this
theorem cn_not {t : TT} {E : List (Nat × Nat × Nat × Nat)} {s : SS} {j : Nat} {pre : List Nat} {fr c : Nat} (hv : PV t s pre fr) (hm : MinS t E s (pre.length + (j + 1))) (hf : fr ≤ c) (hc : c < 300) (h : canB t E s c = false) : stepF t s (fun c => firstS t E s j (pre ++ [c]) (10 * (c / 10 + 1))) c = none := by
  refine stepF_none (fun q => ?_)
  refine cut_help hv hm hf ⟨hc, q.1, q.2⟩ ?_
  unfold canB at h
  rw [decide_eq_true q.1, q.2] at h
  simpa using h
theorem c_comp {T : Nat} {t : TT} {s : SS} (tb : TB t) (sb : SB t s) {n : Nat} (hn : n ≤ 3) (hm : MinS t (t.ch ++ s.sk) s n) : ∀ (j : Nat) (pre : List Nat) (fr i : Nat) (σ : Mem) (fu : Nat), FS σ T t s n (cnL t (t.ch ++ s.sk) s 300) → Cho σ pre → PV t s pre fr → CI t (t.ch ++ s.sk) s pre fr i → pre.length + j = n → fr ≤ 300 → i ≤ (cnL t (t.ch ++ s.sk) s 300).length → j < fu → ∃ σ', f_X3_completes fu σ 28 (zI pre.length) (zI i) = some (bI (firstS t (t.ch ++ s.sk) s j pre fr).isSome, σ') ∧ frq σ σ' ∧ (∀ z, z < pre.length → σ'.1 54 z = σ.1 54 z) ∧ ∀ L, firstS t (t.ch ++ s.sk) s j pre fr = some L → RowL (σ'.1 54) pre.length L := by
  intro j
  induction j with
  | zero =>
    intro pre fr i σ fu hF hC hv hI hl hfr hil hfu
    obtain ⟨fu, rfl⟩ : ∃ m, fu = m + 1 := ⟨fu - 1, by omega⟩
    obtain ⟨σ1, l1, l2, l3, l4, l5⟩ := c_lookq tb hF hC (fun c hc => (hv.cod c hc).1) (by omega)
    have h4 : σ1.1 51 4 = zI n := l2.2.2.1.trans hF.cnt
    have hb := bits_256 (um t (t.ch ++ s.sk) s pre) (show 5 ≤ 8 by omega)
    have h0 := um_0 (E := t.ch ++ s.sk) (s := s) (pre := pre) tb
    refine ⟨σ1, ?_, l2, fun z _ => by rw [l3], fun L hL => ?_⟩
    · show bd1 (f_X3_lookAtWishes σ 28 _) _ = _
      rw [l1, pbd1_s, pnm_e, jn0_e, h4, if_pos (by rw [zI_le (by omega) (by omega)]; omega), jn0_e, if_pos (by rw [zI_eq (by omega) (by omega)]; omega), firstS, l5]
      cases hh : hW t (t.ch ++ s.sk) s pre with
      | true => rw [if_pos (by rw [h0.2 hh]; rfl), if_pos rfl]; rfl
      | false =>
        have hne : bits (um t (t.ch ++ s.sk) s pre) 5 ≠ 0 := fun w => by rw [h0.1 w] at hh; cases hh
        rw [if_neg (by rw [show (0 : Int32) = zI 0 from rfl, zI_eq (by omega) (by omega)]; omega), if_neg (by decide)]; rfl
    · rw [firstS] at hL
      split at hL
      · have := Option.some.inj hL
        subst this
        intro i c hc; cases hc
      · cases hL
  | succ j ih =>
    intro pre fr i σ fu hF hC hv hI hl hfr hil hfu
    obtain ⟨fu, rfl⟩ : ∃ m, fu = m + 1 := ⟨fu - 1, by omega⟩
    obtain ⟨σ1, l1, l2, l3, l4, l5⟩ := c_lookq tb hF hC (fun c hc => (hv.cod c hc).1) (by omega)
    have h4 : σ1.1 51 4 = zI n := l2.2.2.1.trans hF.cnt
    have hb := bits_256 (um t (t.ch ++ s.sk) s pre) (show 5 ≤ 8 by omega)
    have h0 := um_0 (E := t.ch ++ s.sk) (s := s) (pre := pre) tb
    have hc5 := cnt_le (um t (t.ch ++ s.sk) s pre) 5
    have hdl := due_le (t := t) (E := t.ch ++ s.sk) (s := s) (L := pre) t.W
    have hF' : FS σ1 T t s n (cnL t (t.ch ++ s.sk) s 300) := hF.of l2
    have hC' : Cho σ1 pre := fun z x hx => by rw [l3]; exact hC z x hx
    have hlen := hF.len
    have a52 : aln (51 + 1) = 150 := rfl
    have a54 : aln (51 + 3) = 3 := rfl
    have hm' : MinS t (t.ch ++ s.sk) s (pre.length + (j + 1)) := by rw [hl]; exact hm
    have hne : bits (um t (t.ch ++ s.sk) s pre) 5 ≠ 0 := fun w => by
      have := hm' pre ⟨hv.cod, hv.asc, h0.1 w⟩
      omega
    by_cases hcut : j + 1 < cnt (um t (t.ch ++ s.sk) s pre) 5
    · refine ⟨σ1, ?_, l2, fun z _ => by rw [l3], fun L hL => by rw [cut_cnt hcut] at hL; cases hL⟩
      show bd1 (f_X3_lookAtWishes σ 28 _) _ = _
      rw [l1, pbd1_s, pnm_e, jn0_e, h4, if_neg (by rw [zI_le (by omega) (by omega)]; omega), l5, if_neg (by rw [show (0 : Int32) = zI 0 from rfl, zI_eq (by omega) (by omega)]; omega), c_bc hb, pbd1_s, pc_bits _ (by omega), zI_sub, if_neg (by rw [zI_le (by omega) (by omega)]; omega), jn0_e, if_neg (by rw [zI_eq (by omega) (by omega)]; omega), cut_cnt hcut]
      rfl
    let g : Nat → Option (List Nat) := fun c => firstS t (t.ch ++ s.sk) s j (pre ++ [c]) (10 * (c / 10 + 1))
    have hfs : firstS t (t.ch ++ s.sk) s (j + 1) pre fr = sk1 (stepF t s g) (300 - fr) := rfl
    let Inv : Nat → Mem → Prop := fun k τ => frq σ1 τ ∧ (∀ z, z < pre.length → τ.1 54 z = σ1.1 54 z) ∧ ∀ m c : Nat, (cnL t (t.ch ++ s.sk) s 300)[m]? = some c → m < i + k → fr ≤ c → stepF t s g c = none
    let Fin : Int32 × Mem → Prop := fun υ => υ.1 = bI (sk1 (stepF t s g) (300 - fr)).isSome ∧ frq σ1 υ.2 ∧ (∀ z, z < pre.length → υ.2.1 54 z = σ1.1 54 z) ∧ ∀ L, sk1 (stepF t s g) (300 - fr) = some L → RowL (υ.2.1 54) pre.length L
    -- codes that aren't candidates are none
    have hnc : ∀ c : Nat, fr ≤ c → c < 300 → (∀ m : Nat, (cnL t (t.ch ++ s.sk) s 300)[m]? ≠ some c) → stepF t s g c = none := by
      intro c h1 h2 h3
      refine cn_not hv hm' h1 h2 ?_
      cases e : canB t (t.ch ++ s.sk) s c with
      | false => rfl
      | true =>
        obtain ⟨m, hm1, hm2⟩ := List.mem_iff_getElem.1 (cnL_mem.2 ⟨h2, e⟩)
        exact absurd (by rw [List.getElem?_eq_getElem hm1, hm2]) (h3 m)
    have hh := fx2_fin (F := fun k_6 (i_4 : Int32) (σ_5 : Mem) => (if (σ_5.1 51 3) ≤ i_4 then some (0, σ_5) else bd1 (f_X12_get σ_5 (51 + 1) i_4) (fun (r_7 : Int32) => dvd 10 ((if (r_7 / 10) ≤ zI (due t (t.ch ++ s.sk) s pre t.W) then bd2 (f_X3_completesBy (f_X3_completes fu) σ_5 28 (zI pre.length) i_4) (fun (r_8 : Int32) (σ_9 : Mem) => (if r_8 = 0 then nm (i_4 + 1) (fun (x_10 : Int32) => k_6 x_10 σ_9) else some (1, σ_9))) else some (0, σ_5)))))) (fun k => zI (i + k : Nat)) Inv Fin ((cnL t (t.ch ++ s.sk) s 300).length - i) (by omega) ?_ ?_ 0 (by omega) (x := zI i) rfl σ1 ⟨frq.me σ1, fun z _ => rfl, fun m c h1 h2 h3 => absurd (hI.lo m c h1 (by omega)) (by omega)⟩
    · obtain ⟨υ, ⟨w1, w2, w4, w5⟩, w6⟩ := hh
      refine ⟨υ.2, ?_, l2.on w2, fun z hz => by rw [w4 z hz, l3], by rw [hfs]; exact w5⟩
      show bd1 (f_X3_lookAtWishes σ 28 _) _ = _
      rw [l1, pbd1_s, pnm_e, jn0_e, h4, if_neg (by rw [zI_le (by omega) (by omega)]; omega), l5, if_neg (by rw [show (0 : Int32) = zI 0 from rfl, zI_eq (by omega) (by omega)]; omega), c_bc hb, pbd1_s, pc_bits _ (by omega), zI_sub, if_pos (by rw [zI_le (by omega) (by omega)]; omega), l4, hfs, ← w1]
      exact w6
    · rintro k τ ⟨w1, w3, w4⟩
      have hall : sk1 (stepF t s g) (300 - fr) = none := sk1_all (by omega) (fun c h1 h2 => by
        by_cases q : ∃ m : Nat, (cnL t (t.ch ++ s.sk) s 300)[m]? = some c
        · obtain ⟨m, hmm⟩ := q
          have hml : m < (cnL t (t.ch ++ s.sk) s 300).length := by
            rcases Nat.lt_or_ge m (cnL t (t.ch ++ s.sk) s 300).length with q | q
            · exact q
            · rw [List.getElem?_eq_none q] at hmm; cases hmm
          exact w4 m c hmm (by omega) (by omega)
        · exact hnc c (by omega) h2 (fun m hmm => q ⟨m, hmm⟩))
      refine ⟨(0, τ), ⟨by rw [hall]; rfl, w1, w3, fun L hL => by rw [hall] at hL; cases hL⟩, ?_⟩
      rw [show i + ((cnL t (t.ch ++ s.sk) s 300).length - i) = (cnL t (t.ch ++ s.sk) s 300).length from by omega, w1.2.1, hF'.cn, if_pos (by rw [zI_le (by omega) (by omega)]; omega)]
    · rintro k hk τ ⟨w1, w3, w4⟩ kk
      obtain ⟨q, hq⟩ : ∃ q, q = i + k := ⟨_, rfl⟩
      rw [← hq] at w4 ⊢
      rw [show i + (k + 1) = q + 1 from by omega]
      have hql : q < (cnL t (t.ch ++ s.sk) s 300).length := by omega
      obtain ⟨c, hc, hcm⟩ := get_some (cnL t (t.ch ++ s.sk) s 300) hql
      obtain ⟨hc300, hcan⟩ := cnL_mem.1 hcm
      have hF1 : FS τ T t s n (cnL t (t.ch ++ s.sk) s 300) := hF'.of w1
      have hck : codK t s c := by
        unfold canB at hcan
        rw [Bool.and_eq_true, Bool.and_eq_true] at hcan
        exact ⟨hc300, of_decide_eq_true hcan.1.1, hcan.1.2⟩
      have hdiv : zI c / 10 = zI (c / 10 : Nat) := by rw [show (10 : Int32) = zI (10 : Nat) from rfl]; exact zI_div_nat c 10 (by omega)
      rw [hF1.cn, if_neg (by rw [zI_le (by omega) (by omega)]; omega), g_get (a := 51 + 1) (hF1.cd q c hc) (by omega) (by omega), pbd1_s, show (10 : Int32) = zI 10 from rfl, dvd_ne (by omega), show zI 10 = (10 : Int32) from rfl, hdiv]
      by_cases hdue : c / 10 ≤ due t (t.ch ++ s.sk) s pre t.W
      · rw [if_pos (by rw [zI_le (by omega) (by omega)]; omega)]
        unfold f_X3_completesBy
        rw [g_get (a := 51 + 1) (hF1.cd q c hc) (by omega) (by omega), pbd1_s, if_neg (by rw [show (3 : Int32) = zI 3 from rfl, zI_le (by omega) (by omega)]; omega), jn0_e]
        -- taking c
        have take : fr ≤ c → (∃ υ, Fin υ ∧ bd2 (bd1 (f_X12_set τ (51 + 3) (zI pre.length) (zI c)) (fun (σ_3 : Mem) => bd2 (f_X3_completes fu σ_3 28 ((zI pre.length) + 1) ((zI q) + 1)) (fun (r_4 : Int32) (σ_5 : Mem) => zrm r_4 σ_5))) (fun (r_8 : Int32) (σ_9 : Mem) => (if r_8 = 0 then nm (zI q + 1) (fun (x_10 : Int32) => kk x_10 σ_9) else some (1, σ_9))) = some υ) ∨ ∃ σ', Inv (k + 1) σ' ∧ bd2 (bd1 (f_X12_set τ (51 + 3) (zI pre.length) (zI c)) (fun (σ_3 : Mem) => bd2 (f_X3_completes fu σ_3 28 ((zI pre.length) + 1) ((zI q) + 1)) (fun (r_4 : Int32) (σ_5 : Mem) => zrm r_4 σ_5))) (fun (r_8 : Int32) (σ_9 : Mem) => (if r_8 = 0 then nm (zI q + 1) (fun (x_10 : Int32) => kk x_10 σ_9) else some (1, σ_9))) = kk (zI (q + 1 : Nat)) σ' := by
          intro hfc
          have hv' := hv.snoc hfc hck
          have hlen2 : (pre ++ [c]).length = pre.length + 1 := by rw [List.length_append]; rfl
          have hF2 : FS (sI τ 54 pre.length (zI c)) T t s n (cnL t (t.ch ++ s.sk) s 300) := hF1.of (frq.c54 τ _ _)
          have hC2 : Cho (sI τ 54 pre.length (zI c)) (pre ++ [c]) := by
            intro m x hx
            rw [sI_1]
            rcases sk_get hx with ⟨q1, q2⟩ | ⟨q1, q2⟩
            · rw [if_neg (by omega), w3 m q1]; exact hC' m x q2
            · rw [if_pos ⟨rfl, q1⟩, q2]
          have hI2 : CI t (t.ch ++ s.sk) s (pre ++ [c]) (10 * (c / 10 + 1)) (q + 1) := by
            refine ⟨fun m x hx hmq => ?_, fun m x hx hmq => ?_, fun h => by simp at h⟩
            · rcases Nat.lt_or_ge m q with z | z
              · have := CI.sep hx hc z; omega
              · rw [show m = q from by omega, hc] at hx
                have := Option.some.inj hx; omega
            · have := CI.sep hc hx (by omega)
              by_cases z : x / 10 = c / 10
              · right
                exact ⟨pre.length, c, hlen2, by rw [List.getElem?_append_right (Nat.le_refl _), Nat.sub_self]; rfl, z.symm⟩
              · left; omega
          obtain ⟨τ2, e1, e2, e4, e5⟩ := ih (pre ++ [c]) (10 * (c / 10 + 1)) (q + 1) (sI τ 54 pre.length (zI c)) fu hF2 hC2 hv' hI2 (by omega) (by omega) (by omega) (by omega)
          rw [hlen2] at e1 e4 e5
          rw [f_setN (by omega) (by omega), pbd1_s, show zI pre.length + 1 = zI (pre.length + 1 : Nat) from by rw [show (1 : Int32) = zI 1 from rfl, zI_add]; rfl, show zI q + 1 = zI (q + 1 : Nat) from by rw [show (1 : Int32) = zI 1 from rfl, zI_add]; rfl]
          have r1 : frq σ1 τ2 := w1.on ((frq.c54 τ _ _).on e2)
          have r3 : ∀ z, z < pre.length → τ2.1 54 z = σ1.1 54 z := fun z hz => by rw [e4 z (by omega), sI_1, if_neg (by omega), w3 z hz]
          have e1' : f_X3_completes fu (sI τ (51 + 3) pre.length (zI c)) 28 (zI (pre.length + 1 : Nat)) (zI (q + 1 : Nat)) = some (bI (firstS t (t.ch ++ s.sk) s j (pre ++ [c]) (10 * (c / 10 + 1))).isSome, τ2) := e1
          rw [e1']
          cases hgc : g c with
          | none =>
            right
            have hgc' : firstS t (t.ch ++ s.sk) s j (pre ++ [c]) (10 * (c / 10 + 1)) = none := hgc
            rw [hgc']
            refine ⟨τ2, ⟨r1, r3, fun m x hx hmq hfx => ?_⟩, rfl⟩
            rcases Nat.lt_or_ge m q with z | z
            · exact w4 m x hx z hfx
            · rw [show m = q from by omega, hc] at hx
              rw [← Option.some.inj hx]; exact stepF_none (fun _ => hgc)
          | some L =>
            left
            have hgc' : firstS t (t.ch ++ s.sk) s j (pre ++ [c]) (10 * (c / 10 + 1)) = some L := hgc
            have hsk : sk1 (stepF t s g) (300 - fr) = some (c :: L) := by
              refine sk1_fst hc300 (stepF_some ⟨hck.2.1, hck.2.2⟩ hgc) (by omega) (by omega) (fun x h1 h2 => ?_)
              by_cases z : ∃ m : Nat, (cnL t (t.ch ++ s.sk) s 300)[m]? = some x
              · obtain ⟨m, hx⟩ := z
                have hmq : m < q := by
                  rcases Nat.lt_or_ge m q with y | y
                  · exact y
                  · rcases Nat.eq_or_lt_of_le y with y | y
                    · rw [← y, hc] at hx; have := Option.some.inj hx; omega
                    · have := CI.sep hc hx y; omega
                exact w4 m x hx hmq (by omega)
              · exact hnc x (by omega) (by omega) (fun m hx => z ⟨m, hx⟩)
            rw [hgc']
            refine ⟨(1, τ2), ⟨by rw [hsk]; rfl, r1, r3, fun M hM => ?_⟩, rfl⟩
            rw [hsk] at hM
            have := Option.some.inj hM
            subst this
            refine RowL.cons ?_ (e5 L hgc')
            show τ2.1 54 pre.length = zI c
            rw [e4 _ (by omega), sI_1, if_pos ⟨rfl, rfl⟩]
        by_cases hz : pre.length = 0
        · rw [if_pos (by rw [hz]; decide)]
          refine take ?_
          have := hI.z (List.length_eq_zero_iff.1 hz)
          omega
        · obtain ⟨m, hmm⟩ : ∃ m, pre.length = m + 1 := ⟨pre.length - 1, by omega⟩
          obtain ⟨x, hx, hxm⟩ := get_some pre (show m < pre.length by omega)
          have hx300 := (hv.cod x hxm).1
          have hxf := hv.far x hxm
          have hdivx : zI x / 10 = zI (x / 10 : Nat) := by rw [show (10 : Int32) = zI (10 : Nat) from rfl]; exact zI_div_nat x 10 (by omega)
          rw [if_neg (by rw [show (0 : Int32) = zI 0 from rfl, zI_le (by omega) (by omega)]; omega), show zI pre.length - 1 = zI m from by rw [show (1 : Int32) = zI 1 from rfl, zI_sub]; congr 1; omega, g_get (a := 51 + 3) (v := zI x) (by rw [w3 m (by omega)]; exact hC' m x hx) (by omega) (by omega), pbd1_s, show (10 : Int32) = zI 10 from rfl, dvd_ne (by omega), dvd_ne (by omega), show zI 10 = (10 : Int32) from rfl, hdivx, hdiv]
          by_cases he : x / 10 = c / 10
          · right
            rw [if_pos (by rw [he]), pbd2_s, if_pos rfl, pnm_e, show zI q + 1 = zI (q + 1 : Nat) from by rw [show (1 : Int32) = zI 1 from rfl, zI_add]; rfl]
            refine ⟨τ, ⟨w1, w3, fun m' y hy hmq hfy => ?_⟩, rfl⟩
            rcases Nat.lt_or_ge m' q with z | z
            · exact w4 m' y hy z hfy
            · rw [show m' = q from by omega, hc] at hy
              have := Option.some.inj hy; omega
          · rw [if_neg (by rw [zI_eq (by omega) (by omega)]; omega)]
            refine take ?_
            rcases hI.hi q c hc (by omega) with z | ⟨m', y, y1, y2, y3⟩
            · exact z
            · rw [show m' = m from by omega, hx] at y2
              have := Option.some.inj y2
              subst this; exact absurd y3 he
      · left
        rw [if_neg (by rw [zI_le (by omega) (by omega)]; omega)]
        have hall : sk1 (stepF t s g) (300 - fr) = none := sk1_all (by omega) (fun x h1 h2 => by
          by_cases z : ∃ m : Nat, (cnL t (t.ch ++ s.sk) s 300)[m]? = some x
          · obtain ⟨m, hx⟩ := z
            rcases Nat.lt_or_ge m q with y | y
            · exact w4 m x hx y (by omega)
            · have hcx : c ≤ x := by
                rcases Nat.eq_or_lt_of_le y with y | y
                · rw [← y, hc] at hx; have := Option.some.inj hx; omega
                · have := CI.sep hc hx y; omega
              exact stepF_none (fun q => cut_due hv (by omega) ⟨h2, q.1, q.2⟩ (by omega))
          · exact hnc x (by omega) h2 (fun m hx => z ⟨m, hx⟩))
        exact ⟨(0, τ), ⟨by rw [hall]; rfl, w1, w3, fun L hL => by rw [hall] at hL; cases hL⟩, rfl⟩
