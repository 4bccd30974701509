/-- the latest visit as a number; -2 without one -/
def la (s : SS) (p d : Nat) : Int := oC (lat s.vis p (d + 1))
theorem oC_inj {a b : Option Nat} (h : oC a = oC b) : a = b := by
  cases a with
  | none => cases b with
    | none => rfl
    | some y => simp only [oC] at h; omega
  | some x => cases b with
    | none => simp only [oC] at h; omega
    | some y => simp only [oC] at h; rw [show x = y from by omega]
/-- whether wish w holds if the latest visit is v -/
def kw (t : TT) (E : List (Nat × Nat × Nat × Nat)) (w : Nat) (v : Int) : Bool := knb t E (t.wp w) (t.wd w) (if v < 0 then none else some v.toNat)
theorem hl_kw (t : TT) (E : List (Nat × Nat × Nat × Nat)) (s : SS) (w : Nat) : hl t E s w = kw t E w (la s (t.wp w) (t.wd w)) := by
  unfold hl kn kw la
  congr 1
  cases lat s.vis (t.wp w) (t.wd w + 1) with
  | none => rfl
  | some d => rw [if_neg (by simp only [oC]; omega)]; rfl
theorem oC_ge (o : Option Nat) : -2 ≤ oC o := by cases o <;> simp only [oC] <;> omega
theorem la_b (s : SS) (p d : Nat) : -2 ≤ la s p d ∧ la s p d ≤ d := by
  unfold la
  cases h : lat s.vis p (d + 1) with
  | none => simp only [oC]; omega
  | some e => have := (lat_lt h).1; simp only [oC]; omega
/-- a visit more -/
theorem lat_set {vis : Nat → Option Nat} {e q : Nat} (he : vis e = none) (p : Nat) : ∀ n, oC (lat (fun x => if x = e then some q else vis x) p n) = if q = p ∧ e < n then max (oC (lat vis p n)) (e : Int) else oC (lat vis p n)
  | 0 => by rw [if_neg (by omega)]; rfl
  | n + 1 => by
    have ih := lat_set (q := q) he p n
    rw [lat, lat]
    by_cases h1 : n = e
    · subst h1
      rw [if_pos rfl, he]
      by_cases h2 : q = p
      · rw [if_pos (by rw [h2]), if_neg (show ¬ (none : Option Nat) = some p from fun z => (by cases z)), if_pos ⟨h2, by omega⟩]
        have : oC (lat vis p n) ≤ (n : Int) := by
          cases h : lat vis p n with
          | none => simp only [oC]; omega
          | some d => have := (lat_lt h).1; simp only [oC]; omega
        show ((n : Nat) : Int) = max _ _
        omega
      · rw [if_neg (fun z => h2 (Option.some.inj z)), if_neg (show ¬ (none : Option Nat) = some p from fun z => (by cases z)), ih, if_neg (fun z => h2 z.1), if_neg (fun z => h2 z.1)]
    · rw [if_neg h1]
      by_cases h3 : vis n = some p
      · rw [if_pos h3, if_pos h3]
        by_cases h4 : q = p ∧ e < n + 1
        · rw [if_pos h4]
          show ((n : Nat) : Int) = max ((n : Nat) : Int) _
          omega
        · rw [if_neg h4]
      · rw [if_neg h3, if_neg h3, ih]
        by_cases h4 : q = p ∧ e < n
        · rw [if_pos h4, if_pos ⟨h4.1, by omega⟩]
        · rw [if_neg h4, if_neg (fun z => h4 ⟨z.1, by omega⟩)]
theorem la_set {s : SS} {e q : Nat} (he : s.vis e = none) (p d : Nat) : la (setV s e (some q)) p d = if q = p ∧ e ≤ d then max (la s p d) (e : Int) else la s p d := by
  have := lat_set (q := q) he p (d + 1)
  unfold la
  show oC (lat (fun x => if x = e then some q else s.vis x) p (d + 1)) = _
  rw [this]
  by_cases h : q = p ∧ e ≤ d
  · rw [if_pos ⟨h.1, by omega⟩, if_pos h]
  · rw [if_neg (fun z => h ⟨z.1, by omega⟩), if_neg h]
/-- the latest visit with those of the codes -/
def laL : List Nat → Nat → Nat → Int → Int
  | [], _, _, v => v
  | c :: L, p, d, v => laL L p d (if c % 10 = p ∧ c / 10 ≤ d then max v ((c / 10 : Nat) : Int) else v)
theorem laL_app : ∀ (L M : List Nat) (p d : Nat) (v : Int), laL (L ++ M) p d v = laL M p d (laL L p d v)
  | [], _, _, _, _ => rfl
  | c :: L, M, p, d, v => laL_app L M p d _
theorem laL_ge : ∀ (L : List Nat) (p d : Nat) (v : Int), v ≤ laL L p d v
  | [], _, _, v => Int.le_refl v
  | c :: L, p, d, v => by
    have := laL_ge L p d (if c % 10 = p ∧ c / 10 ≤ d then max v ((c / 10 : Nat) : Int) else v)
    rw [laL]
    split at this <;> (rename_i h; first | rw [if_pos h] | rw [if_neg h]) <;> omega
theorem laL_mono : ∀ (L : List Nat) (p d : Nat) (v u : Int), v ≤ u → laL L p d v ≤ laL L p d u
  | [], _, _, _, _, h => h
  | c :: L, p, d, v, u, h => by
    rw [laL, laL]
    refine laL_mono L p d _ _ ?_
    by_cases q : c % 10 = p ∧ c / 10 ≤ d
    · rw [if_pos q, if_pos q]; omega
    · rw [if_neg q, if_neg q]; exact h
/-- codes of others, or of later days, change nothing -/
theorem laL_far : ∀ (L : List Nat) (p d : Nat) (v : Int), (∀ c ∈ L, ¬ (c % 10 = p ∧ c / 10 ≤ d)) → laL L p d v = v
  | [], _, _, _, _ => rfl
  | c :: L, p, d, v, h => by
    rw [laL, if_neg (h c (by simp))]
    exact laL_far L p d v (fun c' hc => h c' (by simp [hc]))
theorem laL_filter (f : Nat → Bool) : ∀ (L : List Nat) (p d : Nat) (v : Int), (∀ c ∈ L, f c = false → ¬ (c % 10 = p ∧ c / 10 ≤ d)) → laL (L.filter f) p d v = laL L p d v
  | [], _, _, _, _ => rfl
  | c :: L, p, d, v, h => by
    have ih := fun v => laL_filter f L p d v (fun c' hc => h c' (by simp [hc]))
    cases hf : f c with
    | true => rw [List.filter_cons_of_pos (by rw [hf]), laL, laL]; exact ih _
    | false => rw [List.filter_cons_of_neg (by rw [hf]; decide), laL, if_neg (h c (by simp) hf)]; exact ih _
/-- without one code the latest visit is the same, or that code's day was it -/
theorem laL_one (c0 : Nat) : ∀ (L : List Nat) (p d : Nat) (v : Int), laL (L.filter (fun c => decide (c ≠ c0))) p d v = laL L p d v ∨ (c0 % 10 = p ∧ c0 / 10 ≤ d ∧ laL L p d v = ((c0 / 10 : Nat) : Int) ∧ v < ((c0 / 10 : Nat) : Int))
  | [], _, _, _ => Or.inl rfl
  | c :: L, p, d, v => by
    by_cases h : c = c0
    · subst h
      rw [List.filter_cons_of_neg (by simp), laL]
      by_cases q : c % 10 = p ∧ c / 10 ≤ d
      · rw [if_pos q]
        rcases laL_one c L p d v with e | ⟨e1, e2, e3, e4⟩
        · have h1 := laL_ge L p d (max v ((c / 10 : Nat) : Int))
          have h2 := laL_ge L p d v
          -- the two differ only where v is below the day
          by_cases hv : ((c / 10 : Nat) : Int) ≤ v
          · left; rw [e, show max v ((c / 10 : Nat) : Int) = v from by omega]
          · have key : ∀ (M : List Nat) (a b : Int), a ≤ b → laL M p d a = laL M p d b ∨ laL M p d b = b := by
              intro M
              induction M with
              | nil => intro a b _; right; rfl
              | cons x M ih =>
                intro a b hab
                rw [laL, laL]
                by_cases w : x % 10 = p ∧ x / 10 ≤ d
                · rw [if_pos w, if_pos w]
                  by_cases w2 : ((x / 10 : Nat) : Int) ≤ b
                  · rw [show max b ((x / 10 : Nat) : Int) = b from by omega]
                    exact ih _ _ (by omega)
                  · left; rw [show max a ((x / 10 : Nat) : Int) = max b ((x / 10 : Nat) : Int) from by omega]
                · rw [if_neg w, if_neg w]; exact ih _ _ hab
            rcases key L v (max v ((c / 10 : Nat) : Int)) (by omega) with w | w
            · left; rw [e, w]
            · right; exact ⟨q.1, q.2, by rw [w]; omega, by omega⟩
        · right
          refine ⟨e1, e2, ?_, e4⟩
          have h1 := laL_mono L p d v (max v ((c / 10 : Nat) : Int)) (by omega)
          have key : ∀ (M : List Nat) (a b : Int), laL M p d (max a b) ≤ max (laL M p d a) b := by
            intro M
            induction M with
            | nil => intro a b; exact Int.le_refl _
            | cons x M ih =>
              intro a b
              rw [laL, laL]
              by_cases w : x % 10 = p ∧ x / 10 ≤ d
              · rw [if_pos w, if_pos w]
                have := ih (max a ((x / 10 : Nat) : Int)) b
                rw [show max (max a b) ((x / 10 : Nat) : Int) = max (max a ((x / 10 : Nat) : Int)) b from by omega]
                exact this
              · rw [if_neg w, if_neg w]; exact ih a b
          have h3 := key L v ((c / 10 : Nat) : Int)
          omega
      · rw [if_neg q]
        rcases laL_one c L p d v with e | e
        · exact Or.inl e
        · exact absurd ⟨e.1, e.2.1⟩ q
    · rw [List.filter_cons_of_pos (by simp [h]), laL, laL]
      rcases laL_one c0 L p d (if c % 10 = p ∧ c / 10 ≤ d then max v ((c / 10 : Nat) : Int) else v) with e | ⟨e1, e2, e3, e4⟩
      · exact Or.inl e
      · right
        refine ⟨e1, e2, e3, ?_⟩
        split at e4 <;> omega
/-- all wishes hold with the visits of the codes -/
noncomputable def hW (t : TT) (E : List (Nat × Nat × Nat × Nat)) (s : SS) (L : List Nat) : Bool := !exF (fun w => !kw t E w (laL L (t.wp w) (t.wd w) (la s (t.wp w) (t.wd w)))) 0 t.W
theorem hW_t {t : TT} {E : List (Nat × Nat × Nat × Nat)} {s : SS} {L : List Nat} : hW t E s L = true ↔ ∀ w, w < t.W → kw t E w (laL L (t.wp w) (t.wd w) (la s (t.wp w) (t.wd w))) = true := by
  unfold hW
  constructor
  · intro h w hw
    cases e : kw t E w (laL L (t.wp w) (t.wd w) (la s (t.wp w) (t.wd w))) with
    | true => rfl
    | false => rw [exF_t w (by omega) hw (by rw [e]; rfl)] at h; cases h
  · intro h
    rw [exF_f (fun w _ hw => by rw [h w hw]; rfl)]; rfl
def codK (t : TT) (s : SS) (c : Nat) : Prop := c < 300 ∧ c % 10 < t.P ∧ opn t s (c / 10) = true
def asc (L : List Nat) : Prop := L.Pairwise (fun a b => a / 10 < b / 10)
abbrev Sol (t : TT) (E : List (Nat × Nat × Nat × Nat)) (s : SS) (L : List Nat) : Prop :=
  (∀ c ∈ L, codK t s c) ∧ (asc L) ∧ (hW t E s L = true)
theorem Sol.cod {t : TT}{E : List (Nat × Nat × Nat × Nat)}{s : SS}{L : List Nat} (h : Sol t E s L) : ∀ c ∈ L, codK t s c := h.1
theorem Sol.asc {t : TT}{E : List (Nat × Nat × Nat × Nat)}{s : SS}{L : List Nat} (h : Sol t E s L) : asc L := h.2.1
theorem Sol.all {t : TT}{E : List (Nat × Nat × Nat × Nat)}{s : SS}{L : List Nat} (h : Sol t E s L) : hW t E s L = true := h.2.2
def MinS (t : TT) (E : List (Nat × Nat × Nat × Nat)) (s : SS) (n : Nat) : Prop := ∀ L, Sol t E s L → n ≤ L.length
theorem Sol.filter {t : TT} {E : List (Nat × Nat × Nat × Nat)} {s : SS} {L : List Nat} (h : Sol t E s L) (f : Nat → Bool) (hw : hW t E s (L.filter f) = true) : Sol t E s (L.filter f) :=
  ⟨fun c hc => h.cod c (List.mem_filter.1 hc).1, List.Pairwise.sublist List.filter_sublist h.asc, hw⟩
theorem filter_len {f : Nat → Bool} : ∀ {L : List Nat} {c : Nat}, c ∈ L → f c = false → (L.filter f).length < L.length
  | x :: L, c, hc, hf => by
    rcases List.mem_cons.1 hc with e | e
    · subst e
      rw [List.filter_cons_of_neg (by rw [hf]; decide)]
      have := List.length_filter_le f L
      rw [List.length_cons]; omega
    · have ih := filter_len e hf
      cases hx : f x with
      | true => rw [List.filter_cons_of_pos (by rw [hx]), List.length_cons, List.length_cons]; omega
      | false => rw [List.filter_cons_of_neg (by rw [hx]; decide), List.length_cons]; omega
/-- who has a wish that doesn't hold -/
noncomputable def um (t : TT) (E : List (Nat × Nat × Nat × Nat)) (s : SS) (L : List Nat) (p : Nat) : Bool := exF (fun w => decide (t.wp w = p) && !kw t E w (laL L (t.wp w) (t.wd w) (la s (t.wp w) (t.wd w)))) 0 t.W
theorem um_f {t : TT} {E : List (Nat × Nat × Nat × Nat)} {s : SS} {L : List Nat} {p : Nat} (h : um t E s L p = false) {w : Nat} (hw : w < t.W) (hp : t.wp w = p) : kw t E w (laL L (t.wp w) (t.wd w) (la s (t.wp w) (t.wd w))) = true := by
  cases e : kw t E w (laL L (t.wp w) (t.wd w) (la s (t.wp w) (t.wd w))) with
  | true => rfl
  | false =>
    unfold um at h
    rw [exF_t w (by omega) hw (by rw [e, decide_eq_true hp]; rfl)] at h; cases h
theorem need_who {t : TT} {E : List (Nat × Nat × Nat × Nat)} {s : SS} {L : List Nat} (h : Sol t E s L) (hm : MinS t E s L.length) {c : Nat} (hc : c ∈ L) : um t E s [] (c % 10) = true := by
  cases e : um t E s [] (c % 10) with
  | true => rfl
  | false =>
    exfalso
    have hs : hW t E s (L.filter (fun x => decide (x % 10 ≠ c % 10))) = true := by
      rw [hW_t]
      intro w hw
      by_cases q : t.wp w = c % 10
      · rw [laL_far _ _ _ _ (fun x hx => ?_)]
        · exact um_f e hw q
        · have := (List.mem_filter.1 hx).2
          have := of_decide_eq_true this
          omega
      · rw [laL_filter _ _ _ _ _ (fun x hx hf z => ?_)]
        · exact hW_t.1 h.all w hw
        · have := of_decide_eq_false hf
          exact this (fun y => q (by omega))
    have := hm _ (h.filter _ hs)
    have h2 := filter_len (f := fun x => decide (x % 10 ≠ c % 10)) hc (by simp)
    omega
/-- whether a visit helps some wish -/
noncomputable def hlp (t : TT) (E : List (Nat × Nat × Nat × Nat)) (s : SS) (p d : Nat) : Bool := exF (fun w => decide (t.wp w = p ∧ d ≤ t.wd w ∧ la s (t.wp w) (t.wd w) < d) && kw t E w d) 0 t.W
theorem need_help {t : TT} {E : List (Nat × Nat × Nat × Nat)} {s : SS} {L : List Nat} (h : Sol t E s L) (hm : MinS t E s L.length) {c : Nat} (hc : c ∈ L) : hlp t E s (c % 10) (c / 10) = true := by
  cases e : hW t E s (L.filter (fun x => decide (x ≠ c))) with
  | true =>
    exfalso
    have := hm _ (h.filter _ e)
    have h2 := filter_len (f := fun x => decide (x ≠ c)) hc (by simp)
    omega
  | false =>
    unfold hW at e
    have e : exF (fun w => !kw t E w (laL (L.filter (fun x => decide (x ≠ c))) (t.wp w) (t.wd w) (la s (t.wp w) (t.wd w)))) 0 t.W = true := by simpa using e
    obtain ⟨w, -, hw, h2⟩ := exF_iff.1 e
    have h3 := hW_t.1 h.all w hw
    rcases laL_one c L (t.wp w) (t.wd w) (la s (t.wp w) (t.wd w)) with q | ⟨q1, q2, q3, q4⟩
    · rw [q, h3] at h2; cases h2
    · refine exF_t w (by omega) hw ?_
      rw [q3] at h3
      rw [h3, decide_eq_true ⟨q1.symm, q2, q4⟩]; rfl
theorem um_step {t : TT} {E : List (Nat × Nat × Nat × Nat)} {s : SS} {L : List Nat} {c p : Nat} (hp : p ≠ c % 10) : um t E s (L ++ [c]) p = um t E s L p := by
  refine exF_congr (fun w _ hw => ?_)
  by_cases q : t.wp w = p
  · rw [laL_app, laL, laL, if_neg (fun z => hp (by omega))]
  · rw [decide_eq_false q, Bool.false_and, Bool.false_and]
theorem cnt_but {f h : Nat → Bool} {a : Nat} (e : ∀ p, p ≠ a → f p = h p) : ∀ n, cnt f n ≤ cnt h n + 1
  | 0 => Nat.zero_le _
  | n + 1 => by
    by_cases q : n = a
    · subst q
      have : ∀ m, m ≤ n → cnt f m = cnt h m := by
        intro m hm
        exact cnt_congr m (fun i hi => e i (by omega))
      rw [cnt, cnt, this n (Nat.le_refl n)]
      split <;> split <;> omega
    · have := cnt_but e n
      rw [cnt, cnt, e n q]; omega
theorem cnt_um {t : TT} {E : List (Nat × Nat × Nat × Nat)} {s : SS} : ∀ (L pre : List Nat), hW t E s (pre ++ L) = true → cnt (um t E s pre) 5 ≤ L.length
  | [], pre, h => by
    rw [List.append_nil] at h
    have : cnt (um t E s pre) 5 = 0 := by
      rw [cnt_any]
      refine exF_f (fun p _ _ => ?_)
      refine exF_f (fun w _ hw => ?_)
      rw [hW_t.1 h w hw]; simp
    omega
  | c :: L, pre, h => by
    have ih := cnt_um L (pre ++ [c]) (by rw [List.append_assoc]; exact h)
    have := cnt_but (f := um t E s pre) (h := um t E s (pre ++ [c])) (a := c % 10) (fun p hp => (um_step hp).symm) 5
    rw [List.length_cons]; omega
/-- the first of those from 300 - k on -/
def sk1 (f : Nat → Option (List Nat)) : Nat → Option (List Nat)
  | 0 => none
  | k + 1 => match f (300 - (k + 1)) with
    | some L => some L
    | none => sk1 f k
theorem sk1_some {f : Nat → Option (List Nat)} {L : List Nat} : ∀ {k}, k ≤ 300 → sk1 f k = some L → ∃ c, 300 - k ≤ c ∧ c < 300 ∧ f c = some L
  | 0, _, h => by cases h
  | k + 1, hk, h => by
    rw [sk1] at h
    cases e : f (300 - (k + 1)) with
    | some M => rw [e] at h; exact ⟨300 - (k + 1), Nat.le_refl _, by omega, by rw [e]; exact h⟩
    | none =>
      rw [e] at h
      obtain ⟨c, h1, h2, h3⟩ := sk1_some (by omega) h
      exact ⟨c, by omega, h2, h3⟩
theorem sk1_none {f : Nat → Option (List Nat)} : ∀ {k}, k ≤ 300 → sk1 f k = none → ∀ c, 300 - k ≤ c → c < 300 → f c = none
  | 0, _, _, c, h1, h2 => absurd h1 (by omega)
  | k + 1, hk, h, c, h1, h2 => by
    rw [sk1] at h
    cases e : f (300 - (k + 1)) with
    | some M => rw [e] at h; cases h
    | none =>
      rw [e] at h
      rcases Nat.lt_or_ge c (300 - k) with w | w
      · rw [show c = 300 - (k + 1) from by omega]; exact e
      · exact sk1_none (by omega) h c w h2
/-- the first way to complete the codes -/
noncomputable def firstS (t : TT) (E : List (Nat × Nat × Nat × Nat)) (s : SS) : Nat → List Nat → Nat → Option (List Nat)
  | 0, pre, _ => if hW t E s pre = true then some [] else none
  | j + 1, pre, fr => sk1 (fun c => if c % 10 < t.P ∧ opn t s (c / 10) = true then (match firstS t E s j (pre ++ [c]) (10 * (c / 10 + 1)) with | none => none | some L => some (c :: L)) else none) (300 - fr)
theorem firstS_ok {t : TT} {E : List (Nat × Nat × Nat × Nat)} {s : SS} : ∀ {j : Nat} {pre : List Nat} {fr : Nat} {L : List Nat}, firstS t E s j pre fr = some L → L.length = j ∧ (∀ c ∈ L, fr ≤ c ∧ codK t s c) ∧ asc L ∧ hW t E s (pre ++ L) = true
  | 0, pre, fr, L, h => by
    rw [firstS] at h
    split at h
    · rename_i q
      have := Option.some.inj h
      subst this
      exact ⟨rfl, fun c hc => (by cases hc), List.Pairwise.nil, by rw [List.append_nil]; exact q⟩
    · cases h
  | j + 1, pre, fr, L, h => by
    rw [firstS] at h
    obtain ⟨c, h1, h2, h3⟩ := sk1_some (by omega) h
    split at h3
    · rename_i q
      cases e : firstS t E s j (pre ++ [c]) (10 * (c / 10 + 1)) with
      | none => rw [e] at h3; cases h3
      | some M =>
        rw [e] at h3
        have := Option.some.inj h3
        subst this
        obtain ⟨g1, g2, g3, g4⟩ := firstS_ok e
        refine ⟨by rw [List.length_cons, g1], fun x hx => ?_, List.Pairwise.cons (fun x hx => ?_) g3, by rw [List.append_assoc] at g4; exact g4⟩
        · rcases List.mem_cons.1 hx with w | w
          · subst w; exact ⟨by omega, h2, q.1, q.2⟩
          · have := g2 x w; exact ⟨by omega, this.2⟩
        · have := (g2 x hx).1; omega
    · cases h3
theorem firstS_ex {t : TT} {E : List (Nat × Nat × Nat × Nat)} {s : SS} : ∀ (L : List Nat) (pre : List Nat) (fr : Nat), (∀ c ∈ L, fr ≤ c ∧ codK t s c) → asc L → hW t E s (pre ++ L) = true → firstS t E s L.length pre fr ≠ none
  | [], pre, fr, _, _, h => by
    rw [List.append_nil] at h
    rw [List.length_nil, firstS, if_pos h]
    exact fun z => (by cases z)
  | c :: L, pre, fr, h1, h2, h3 => by
    rw [List.length_cons, firstS]
    intro h
    have hc := h1 c (by simp)
    have := sk1_none (by omega) h c (by omega) hc.2.1
    rw [if_pos ⟨hc.2.2.1, hc.2.2.2⟩] at this
    have h2' := List.pairwise_cons.1 h2
    have ih := firstS_ex L (pre ++ [c]) (10 * (c / 10 + 1)) (fun x hx => ⟨by have := h2'.1 x hx; omega, (h1 x (by simp [hx])).2⟩) h2'.2 (by rw [List.append_assoc]; exact h3)
    cases e : firstS t E s L.length (pre ++ [c]) (10 * (c / 10 + 1)) with
    | none => exact ih e
    | some M => rw [e] at this; cases this
/-- a prefix that search may stand behind -/
abbrev PV (t : TT) (s : SS) (pre : List Nat) (fr : Nat) : Prop :=
  (∀ c ∈ pre, codK t s c) ∧ (asc pre) ∧ (∀ c ∈ pre, 10 * (c / 10 + 1) ≤ fr)
theorem PV.cod {t : TT}{s : SS}{pre : List Nat}{fr : Nat} (h : PV t s pre fr) : ∀ c ∈ pre, codK t s c := h.1
theorem PV.asc {t : TT}{s : SS}{pre : List Nat}{fr : Nat} (h : PV t s pre fr) : asc pre := h.2.1
theorem PV.far {t : TT}{s : SS}{pre : List Nat}{fr : Nat} (h : PV t s pre fr) : ∀ c ∈ pre, 10 * (c / 10 + 1) ≤ fr := h.2.2
theorem PV.nil (t : TT) (s : SS) : PV t s [] 0 := ⟨fun c hc => (by cases hc), List.Pairwise.nil, fun c hc => (by cases hc)⟩
theorem PV.snoc {t : TT} {s : SS} {pre : List Nat} {fr c : Nat} (h : PV t s pre fr) (hf : fr ≤ c) (hc : codK t s c) : PV t s (pre ++ [c]) (10 * (c / 10 + 1)) := by
  refine ⟨fun x hx => ?_, ?_, fun x hx => ?_⟩
  · rcases List.mem_append.1 hx with w | w
    · exact h.cod x w
    · rw [List.mem_singleton.1 w]; exact hc
  · refine List.pairwise_append.2 ⟨h.asc, List.pairwise_singleton _ _, fun a ha b hb => ?_⟩
    rw [List.mem_singleton.1 hb]
    have := h.far a ha; omega
  · rcases List.mem_append.1 hx with w | w
    · have := h.far x w; omega
    · rw [List.mem_singleton.1 w]; exact Nat.le_refl _
theorem PV.mono {t : TT} {s : SS} {pre : List Nat} {fr fr' : Nat} (h : PV t s pre fr) (hf : fr ≤ fr') : PV t s pre fr' := ⟨h.cod, h.asc, fun c hc => Nat.le_trans (h.far c hc) hf⟩
theorem first_sol {t : TT} {E : List (Nat × Nat × Nat × Nat)} {s : SS} {j : Nat} {pre : List Nat} {fr : Nat} {L : List Nat} (h : PV t s pre fr) (e : firstS t E s j pre fr = some L) : Sol t E s (pre ++ L) ∧ (pre ++ L).length = pre.length + j := by
  obtain ⟨g1, g2, g3, g4⟩ := firstS_ok e
  refine ⟨⟨fun c hc => ?_, List.pairwise_append.2 ⟨h.asc, g3, fun a ha b hb => ?_⟩, g4⟩, by rw [List.length_append, g1]⟩
  · rcases List.mem_append.1 hc with w | w
    · exact h.cod c w
    · exact (g2 c w).2
  · have := h.far a ha; have := (g2 b hb).1; omega
theorem cut_who {t : TT} {E : List (Nat × Nat × Nat × Nat)} {s : SS} {j : Nat} {pre : List Nat} {fr c : Nat} (h : PV t s pre fr) (hm : MinS t E s (pre.length + (j + 1))) (hf : fr ≤ c) (hc : codK t s c) (hu : um t E s [] (c % 10) = false) : firstS t E s j (pre ++ [c]) (10 * (c / 10 + 1)) = none := by
  cases e : firstS t E s j (pre ++ [c]) (10 * (c / 10 + 1)) with
  | none => rfl
  | some L =>
    obtain ⟨h1, h2⟩ := first_sol (h.snoc hf hc) e
    rw [List.length_append (as := pre)] at h2
    have := need_who h1 (fun L' hL => by have := hm L' hL; rw [h2]; show pre.length + 1 + j ≤ _; omega) (c := c) (by simp)
    rw [hu] at this; cases this
theorem cut_help {t : TT} {E : List (Nat × Nat × Nat × Nat)} {s : SS} {j : Nat} {pre : List Nat} {fr c : Nat} (h : PV t s pre fr) (hm : MinS t E s (pre.length + (j + 1))) (hf : fr ≤ c) (hc : codK t s c) (hu : hlp t E s (c % 10) (c / 10) = false) : firstS t E s j (pre ++ [c]) (10 * (c / 10 + 1)) = none := by
  cases e : firstS t E s j (pre ++ [c]) (10 * (c / 10 + 1)) with
  | none => rfl
  | some L =>
    obtain ⟨h1, h2⟩ := first_sol (h.snoc hf hc) e
    rw [List.length_append (as := pre)] at h2
    have := need_help h1 (fun L' hL => by have := hm L' hL; rw [h2]; show pre.length + 1 + j ≤ _; omega) (c := c) (by simp)
    rw [hu] at this; cases this
theorem cut_cnt {t : TT} {E : List (Nat × Nat × Nat × Nat)} {s : SS} {j : Nat} {pre : List Nat} {fr : Nat} (hu : j < cnt (um t E s pre) 5) : firstS t E s j pre fr = none := by
  cases e : firstS t E s j pre fr with
  | none => rfl
  | some L =>
    obtain ⟨g1, g2, g3, g4⟩ := firstS_ok e
    have := cnt_um L pre g4
    omega
/-- the state with the visits of the codes -/
def vsL : SS → List Nat → SS
  | s, [] => s
  | s, c :: L => vsL (setV s (c / 10) (some (c % 10))) L
theorem vsL_app : ∀ (L : List Nat) (s : SS) (c : Nat), vsL s (L ++ [c]) = setV (vsL s L) (c / 10) (some (c % 10))
  | [], _, _ => rfl
  | x :: L, s, c => vsL_app L _ c
theorem vsL_day : ∀ (L : List Nat) (s : SS), (vsL s L).day = s.day ∧ (vsL s L).sk = s.sk
  | [], _ => ⟨rfl, rfl⟩
  | x :: L, s => vsL_day L _
theorem vsL_vis : ∀ (L : List Nat) (s : SS) (d : Nat), (∀ c ∈ L, c / 10 ≠ d) → (vsL s L).vis d = s.vis d
  | [], _, _, _ => rfl
  | x :: L, s, d, h => by
    rw [vsL, vsL_vis L _ d (fun c hc => h c (by simp [hc])), setV_vis, if_neg (fun z => h x (by simp) z.symm)]
theorem la_vsL : ∀ (L : List Nat) (s : SS), (∀ c ∈ L, s.vis (c / 10) = none) → asc L → ∀ p d, la (vsL s L) p d = laL L p d (la s p d)
  | [], _, _, _, _, _ => rfl
  | x :: L, s, h, ha, p, d => by
    have ha' := List.pairwise_cons.1 ha
    rw [vsL, la_vsL L _ (fun c hc => ?_) ha'.2, la_set (h x (by simp)), laL]
    have := ha'.1 c hc
    rw [setV_vis, if_neg (by omega)]; exact h c (by simp [hc])
theorem SB.vsL {t : TT} : ∀ (L : List Nat) {s : SS}, SB t s → (∀ c ∈ L, c % 10 < t.P) → SB t (vsL s L)
  | [], _, h, _ => h
  | x :: L, s, h, hc => SB.vsL L (h.setV (fun p hp => by have := Option.some.inj hp; have := hc x (by simp); omega)) (fun c hcc => hc c (by simp [hcc]))
theorem PV.vis {t : TT} {s : SS} {pre : List Nat} {fr : Nat} (h : PV t s pre fr) : ∀ c ∈ pre, s.vis (c / 10) = none := fun c hc => (of_decide_eq_true (h.cod c hc).2.2).2.2
theorem PV.opq {t : TT} {s : SS} {pre : List Nat} {fr d : Nat} (h : PV t s pre fr) (hd : fr < 10 * (d + 1)) : opn t (vsL s pre) d = opn t s d := by
  have h1 := vsL_vis pre s d (fun c hc => by have := h.far c hc; omega)
  have h2 := (vsL_day pre s).1
  rw [show opn t (vsL s pre) d = decide ((vsL s pre).day ≤ d ∧ d % 7 ≠ t.sh ∧ (vsL s pre).vis d = none) from rfl, h1, h2]
  rfl
theorem PV.hlw {t : TT} {E : List (Nat × Nat × Nat × Nat)} {s : SS} {pre : List Nat} {fr : Nat} (h : PV t s pre fr) (w : Nat) : hl t E (vsL s pre) w = kw t E w (laL pre (t.wp w) (t.wd w) (la s (t.wp w) (t.wd w))) := by
  rw [hl_kw, la_vsL pre s h.vis h.asc]
theorem bits_add (f : Nat → Bool) {n a : Nat} (ha : a < n) : bits f n ||| 2 ^ a = bits (fun p => f p || decide (p = a)) n := by
  apply Nat.eq_of_testBit_eq
  intro i
  rw [Nat.testBit_or, bits_at, bits_at, Nat.testBit_two_pow]
  by_cases q : i < n
  · rw [decide_eq_true q, Bool.true_and, Bool.true_and]
    congr 1
    exact decide_eq_decide.2 eq_comm
  · rw [decide_eq_false q, Bool.false_and, Bool.false_and, Bool.false_or, decide_eq_false (by omega)]
noncomputable def umN (t : TT) (E : List (Nat × Nat × Nat × Nat)) (s : SS) (L : List Nat) (n p : Nat) : Bool := exF (fun w => decide (t.wp w = p) && !kw t E w (laL L (t.wp w) (t.wd w) (la s (t.wp w) (t.wd w)))) 0 n
theorem m_unmet {σ : Mem} {t : TT} {s : SS} {pre : List Nat} {fr : Nat} (h : MC σ t (vsL s pre)) (hv : PV t s pre fr) : f_X13_unmet σ = some (zI (bits (um t (t.ch ++ s.sk) s pre) 5)) := by
  have hP := h.tb.P
  have hW := h.tb.W
  have a67 : aln 67 = 175 := rfl
  have i7 : ∀ β (k : Option β), ixd 7 (aln 67) k = k := fun β k => by rw [show (7 : Int32) = zI 7 from rfl, ixd_in (by omega)]
  have p7 : σ.1 67 (7 : Int32).toNatClampNeg = zI t.W := h.mr.W
  unfold f_X13_unmet
  simp only [i7, p7]
  refine fx2_run (fun n => zI (bits (umN t (t.ch ++ s.sk) s pre n) 5)) (fun n => zI n) t.W 0 (by omega) ?_ rfl (fun k => ?_) (fun w hw k => ?_)
  · have e0 : bits (umN t (t.ch ++ s.sk) s pre 0) 5 = 0 := bits_0 (fun i _ => exF_end _ 0)
    rw [e0]; rfl
  · rw [if_pos (by rw [zI_le (by omega) (by omega)]; omega)]; rfl
  · have hwp := tbwp h.tb hw
    have hrw := h.mr.wp w hw
    have hh := m_hold h.mr h.mv h.tb h.sb h.nod hw
    rw [(vsL_day pre s).2, hv.hlw] at hh
    rw [if_neg (by rw [zI_le (by omega) (by omega)]; omega), hh, pbd1_s]
    simp only [jn1_e, pnm_e, show zI w + 1 = zI (w + 1 : Nat) from by rw [show (1 : Int32) = zI 1 from rfl, zI_add]; rfl]
    rw [show (90 : Int32) + 2 * zI w = zI (90 + 2 * w : Nat) from by rw [show (90 : Int32) = zI 90 from rfl, show (2 : Int32) = zI 2 from rfl, zI_mul, zI_add]; congr 1, ixd_in (by omega), zI_nat (by omega), show ((90 + 2 * w : Nat) : Int).toNat = 90 + 2 * w from by omega, hrw, show (1 : Int32) <<< (zI (t.wp w) &&& 31) = zI (2 ^ t.wp w : Nat) from one_shl (by omega)]
    cases hk : kw t (t.ch ++ s.sk) w (laL pre (t.wp w) (t.wd w) (la s (t.wp w) (t.wd w))) with
    | true =>
      rw [if_neg (by decide), show (0 : Int32) = zI ((0 : Nat) : Int) from rfl, zI_or, Nat.or_zero]
      rw [bits_congr 5 (fun p _ => ?_)]
      unfold umN
      rw [exF_s, hk]; simp
    | false =>
      rw [if_pos (by rfl), zI_or, bits_add _ hwp]
      rw [bits_congr 5 (fun p _ => ?_)]
      unfold umN
      rw [exF_s, hk, show decide (p = t.wp w) = decide (t.wp w = p) from decide_eq_decide.2 eq_comm]; simp
theorem um_0 {t : TT} {E : List (Nat × Nat × Nat × Nat)} {s : SS} {pre : List Nat} (tb : TB t) : (bits (um t E s pre) 5 = 0) ↔ hW t E s pre = true := by
  rw [bits_zero, hW_t]
  constructor
  · intro h w hw
    exact um_f (h (t.wp w) (tbwp tb hw)) hw rfl
  · intro h p _
    exact exF_f (fun w _ hw => by rw [h w hw]; simp)
theorem um_P {t : TT} {E : List (Nat × Nat × Nat × Nat)} {s : SS} {pre : List Nat} (tb : TB t) {p : Nat} (h : um t E s pre p = true) : p < t.P := by
  obtain ⟨w, -, h1, h2⟩ := exF_iff.1 h
  rw [Bool.and_eq_true] at h2
  have := tb.wp w h1
  have := of_decide_eq_true h2.1
  omega
