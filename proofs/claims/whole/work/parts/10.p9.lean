def tTown (t : TT) (ms wi la sh : Nat) : TT := TT.mk (ms) (wi) (la) (sh) t.P t.V t.W t.A t.S t.ch t.kind t.told t.vis t.wp t.wd t.odds t.st
theorem TI_Town {t : TT} (h : TI t) {ms wi la sh : Nat} (h0 : t.ms = 0) (h1 : 3 ≤ ms ∧ ms ≤ 6 ∧ wi ≤ 2 ∧ la ≤ 3 ∧ sh ≤ 6) : TI (tTown t ms wi la sh) := by
  refine ⟨⟨?_, ?_, ?_, ?_, ?_, ?_, ?_, ?_, ?_, ?_, ?_, ?_, ?_, ?_, ?_, ?_, ?_, ?_, ?_, ?_⟩, ?_, ?_⟩
  · exact h1.2.1
  · exact fun _ => h1.1
  · exact h1.2.2.1
  · exact h1.2.2.2.1
  · exact h1.2.2.2.2
  · exact h.tb.P
  · exact h.tb.V
  · exact h.tb.W
  · exact h.tb.A
  · exact h.tb.S
  · exact h.tb.C
  · exact fun c hc => (by have := (h.no h0).2.1; have hc : c ∈ t.ch := hc; rw [List.length_eq_zero_iff.1 this] at hc; cases hc)
  · exact h.tb.kind
  · exact h.tb.told
  · exact fun p m hm => h.tb.tolz p m (by rw [h0]; omega)
  · exact h.tb.vis
  · exact h.tb.wp
  · exact h.tb.wd
  · exact h.tb.odds
  · exact fun p n e => by have := h.tb.st p n e; have := (h.no h0).1; omega
  · exact Or.inr h1.1
  · exact fun e => by have e : ms = 0 := e; omega
theorem CTI_Town {σ τ : Mem} {T : Nat} {t : TT} {N : Nat → Nat × (Nat → Nat)} (h : CTI σ T t N) {ms wi la sh : Nat} (hm : 0 < ms) (hO : ∀ a j, T ≤ a → a ≤ T + 11 → ¬ (a = T ∧ j = 0) → ¬ (a = T ∧ j = 1) → ¬ (a = T ∧ j = 2) → ¬ (a = T ∧ j = 3) → ¬ (a = T + 1 ∧ j = 0) → τ.1 a j = σ.1 a j) (hX : τ.2 = σ.2) (h1 : τ.1 (T) (0) = zI ms) (h2 : τ.1 (T) (1) = zI wi) (h3 : τ.1 (T) (2) = zI la) (h4 : τ.1 (T) (3) = zI sh) (h5 : τ.1 (T + 1) (0) = 1) : CTI τ T (tTown t ms wi la sh) N := by
  refine ⟨⟨h.ct.at_, ?_, ?_, ?_, ?_, ?_, ?_, ?_, ?_, ?_, ?_, ?_, ?_, ?_, ?_, ?_, ?_, ?_⟩, ⟨h.cn.at_, h.cn.P5, h.cn.ok, fun p hp => by rw [hX]; exact h.cn.cls p hp⟩, h5.trans (show (1 : Int32) = bI (decide (0 < ms)) from by rw [decide_eq_true hm]; rfl), fun p d hp hd => (hO _ _ (by omega) (by omega) (by omega) (by omega) (by omega) (by omega) (by omega)).trans (h.look p d hp hd), by rw [hX]; exact h.town⟩
  · exact h1
  · exact h2
  · exact h3
  · exact h4
  · exact (hO _ _ (by omega) (by omega) (by omega) (by omega) (by omega) (by omega) (by omega)).trans (h.ct.P )
  · exact (hO _ _ (by omega) (by omega) (by omega) (by omega) (by omega) (by omega) (by omega)).trans (h.ct.C )
  · exact (hO _ _ (by omega) (by omega) (by omega) (by omega) (by omega) (by omega) (by omega)).trans (h.ct.V )
  · exact (hO _ _ (by omega) (by omega) (by omega) (by omega) (by omega) (by omega) (by omega)).trans (h.ct.W )
  · exact (hO _ _ (by omega) (by omega) (by omega) (by omega) (by omega) (by omega) (by omega)).trans (h.ct.A )
  · exact (hO _ _ (by omega) (by omega) (by omega) (by omega) (by omega) (by omega) (by omega)).trans (h.ct.S )
  · intro p hp; exact (hO _ _ (by omega) (by omega) (by omega) (by omega) (by omega) (by omega) (by omega)).trans (h.ct.kind p hp)
  · intro p hp; exact (hO _ _ (by omega) (by omega) (by omega) (by omega) (by omega) (by omega) (by omega)).trans (h.ct.told p hp)
  · intro d0 hd; exact (hO _ _ (by omega) (by omega) (by omega) (by omega) (by omega) (by omega) (by omega)).trans (h.ct.vis d0 hd)
  · intro w0 hw; exact (hO _ _ (by omega) (by omega) (by omega) (by omega) (by omega) (by omega) (by omega)).trans (h.ct.wp w0 hw)
  · intro w0 hw; exact (hO _ _ (by omega) (by omega) (by omega) (by omega) (by omega) (by omega) (by omega)).trans (h.ct.wd w0 hw)
  · intro p0 q0 hp hq; exact (hO _ _ (by omega) (by omega) (by omega) (by omega) (by omega) (by omega) (by omega)).trans (h.ct.odds p0 q0 hp hq)
  · intro p0 hp; exact (hO _ _ (by omega) (by omega) (by omega) (by omega) (by omega) (by omega) (by omega)).trans (h.ct.st p0 hp)
theorem MI_Town {σ τ : Mem} {t : TT} {N : Nat → Nat × (Nat → Nat)} (h : MI σ t N) (tb : TB t) {ms wi la sh : Nat}  (hO : ∀ j, j ≠ 0 → j ≠ 1 → j ≠ 2 → j ≠ 3 → τ.1 68 j = σ.1 68 j) (g1 : τ.1 68 (0) = zI ms) (g2 : τ.1 68 (1) = zI wi) (g3 : τ.1 68 (2) = zI la) (g4 : τ.1 68 (3) = zI sh) : MI τ (tTown t ms wi la sh) N := by
  have tP := tb.P
  have tW := tb.W
  have tC := tb.C
  refine ⟨⟨?_, ?_, ?_, ?_, ?_, ?_, ?_, ?_, ?_, ?_, ?_, ?_, ?_, ?_, ?_, ?_, ?_, ?_⟩, ⟨h.mn.P5, h.mn.ok, fun p hp => (hO _ (by have hp : p < t.P := hp; omega) (by have hp : p < t.P := hp; omega) (by have hp : p < t.P := hp; omega) (by have hp : p < t.P := hp; omega)).trans (h.mn.size p hp), fun p hp x hx => (hO _ (by have hp : p < t.P := hp; omega) (by have hp : p < t.P := hp; omega) (by have hp : p < t.P := hp; omega) (by have hp : p < t.P := hp; omega)).trans (h.mn.let_ p hp x hx), fun p h1 h2 => (hO _ (by omega) (by omega) (by omega) (by omega)).trans (h.mn.none_ p h1 h2)⟩⟩
  · exact g1
  · exact g2
  · exact g3
  · exact g4
  · exact (hO _ (by omega) (by omega) (by omega) (by omega)).trans (h.mr.P )
  · exact (hO _ (by omega) (by omega) (by omega) (by omega)).trans (h.mr.C )
  · exact (hO _ (by omega) (by omega) (by omega) (by omega)).trans (h.mr.V )
  · exact (hO _ (by omega) (by omega) (by omega) (by omega)).trans (h.mr.W )
  · exact (hO _ (by omega) (by omega) (by omega) (by omega)).trans (h.mr.A )
  · exact (hO _ (by omega) (by omega) (by omega) (by omega)).trans (h.mr.S )
  · intro p0 hp; have hp : p0 < t.P := hp; exact (hO _ (by omega) (by omega) (by omega) (by omega)).trans (h.mr.kind p0 hp)
  · intro p0 hp; have hp : p0 < t.P := hp; exact (hO _ (by omega) (by omega) (by omega) (by omega)).trans (h.mr.told p0 hp)
  · intro k0 c0 hc; exact by
      have hk := (List.getElem?_eq_some_iff.1 hc).1; have hk : k0 < t.ch.length := hk
      obtain ⟨c1, c2, c3, c4⟩ := h.mr.ch k0 c0 hc
      exact ⟨(hO _ (by omega) (by omega) (by omega) (by omega)).trans c1, (hO _ (by omega) (by omega) (by omega) (by omega)).trans c2, (hO _ (by omega) (by omega) (by omega) (by omega)).trans c3, (hO _ (by omega) (by omega) (by omega) (by omega)).trans c4⟩
  · intro d0 hd; exact (hO _ (by omega) (by omega) (by omega) (by omega)).trans (h.mr.vis d0 hd)
  · intro w0 hw; have hw : w0 < t.W := hw; exact (hO _ (by omega) (by omega) (by omega) (by omega)).trans (h.mr.wp w0 hw)
  · intro w0 hw; have hw : w0 < t.W := hw; exact (hO _ (by omega) (by omega) (by omega) (by omega)).trans (h.mr.wd w0 hw)
  · intro p0 q0 hp hq; exact (hO _ (by omega) (by omega) (by omega) (by omega)).trans (h.mr.odds p0 q0 hp hq)
  · intro p0 hp; exact (hO _ (by omega) (by omega) (by omega) (by omega)).trans (h.mr.st p0 hp)
def tVis (t : TT) (p d : Nat) : TT := TT.mk t.ms t.wi t.la t.sh t.P (t.V + 1) t.W t.A t.S t.ch t.kind t.told (fun x => if x = d then some p else t.vis x) t.wp t.wd t.odds t.st
theorem TI_Vis {t : TT} (h : TI t) {p d : Nat} (h1 : p < t.P) (h2 : t.V < 10) : TI (tVis t p d) := by
  refine ⟨⟨?_, ?_, ?_, ?_, ?_, ?_, ?_, ?_, ?_, ?_, ?_, ?_, ?_, ?_, ?_, ?_, ?_, ?_, ?_, ?_⟩, ?_, ?_⟩
  · exact h.tb.ms
  · exact h.tb.ms3
  · exact h.tb.wi
  · exact h.tb.la
  · exact h.tb.sh
  · exact h.tb.P
  · exact h2
  · exact h.tb.W
  · exact h.tb.A
  · exact h.tb.S
  · exact h.tb.C
  · exact h.tb.chb
  · exact h.tb.kind
  · exact h.tb.told
  · exact h.tb.tolz
  · exact fun x q e => by
      have e : (if x = d then some p else t.vis x) = some q := e
      by_cases w : x = d
      · rw [if_pos w] at e; obtain rfl := Option.some.inj e; exact h1
      · rw [if_neg w] at e; exact h.tb.vis x q e
  · exact h.tb.wp
  · exact h.tb.wd
  · exact h.tb.odds
  · exact h.tb.st
  · exact h.ms
  · intro e; have := h.no e; have := h.tb.vis; have := h.tb.st; omega
theorem CTI_Vis {σ τ : Mem} {T : Nat} {t : TT} {N : Nat → Nat × (Nat → Nat)} (h : CTI σ T t N) {p d : Nat}  (hO : ∀ a j, T ≤ a → a ≤ T + 11 → ¬ (a = T + 7 ∧ j = d) → ¬ (a = T + 1 ∧ j = 3) → τ.1 a j = σ.1 a j) (hX : τ.2 = σ.2) (h1 : τ.1 (T + 7) (d) = zI p) (h2 : τ.1 (T + 1) (3) = zI (t.V + 1 : Nat)) : CTI τ T (tVis t p d) N := by
  refine ⟨⟨h.ct.at_, ?_, ?_, ?_, ?_, ?_, ?_, ?_, ?_, ?_, ?_, ?_, ?_, ?_, ?_, ?_, ?_, ?_⟩, ⟨h.cn.at_, h.cn.P5, h.cn.ok, fun p hp => by rw [hX]; exact h.cn.cls p hp⟩, (hO _ _ (by omega) (by omega) (by omega) (by omega)).trans h.c0, fun p d hp hd => (hO _ _ (by omega) (by omega) (by omega) (by omega)).trans (h.look p d hp hd), by rw [hX]; exact h.town⟩
  · exact (hO _ _ (by omega) (by omega) (by omega) (by omega)).trans (h.ct.ms )
  · exact (hO _ _ (by omega) (by omega) (by omega) (by omega)).trans (h.ct.wi )
  · exact (hO _ _ (by omega) (by omega) (by omega) (by omega)).trans (h.ct.la )
  · exact (hO _ _ (by omega) (by omega) (by omega) (by omega)).trans (h.ct.sh )
  · exact (hO _ _ (by omega) (by omega) (by omega) (by omega)).trans (h.ct.P )
  · exact (hO _ _ (by omega) (by omega) (by omega) (by omega)).trans (h.ct.C )
  · exact h2
  · exact (hO _ _ (by omega) (by omega) (by omega) (by omega)).trans (h.ct.W )
  · exact (hO _ _ (by omega) (by omega) (by omega) (by omega)).trans (h.ct.A )
  · exact (hO _ _ (by omega) (by omega) (by omega) (by omega)).trans (h.ct.S )
  · intro p hp; exact (hO _ _ (by omega) (by omega) (by omega) (by omega)).trans (h.ct.kind p hp)
  · intro p hp; exact (hO _ _ (by omega) (by omega) (by omega) (by omega)).trans (h.ct.told p hp)
  · intro d0 hd; exact by
      show τ.1 (T + 7) d0 = zI (oC (if d0 = d then some p else t.vis d0))
      by_cases w : d0 = d
      · subst w; rw [if_pos rfl]; exact h1
      · rw [if_neg w]; exact (hO _ _ (by omega) (by omega) (by omega) (by omega)).trans (h.ct.vis d0 hd)
  · intro w0 hw; exact (hO _ _ (by omega) (by omega) (by omega) (by omega)).trans (h.ct.wp w0 hw)
  · intro w0 hw; exact (hO _ _ (by omega) (by omega) (by omega) (by omega)).trans (h.ct.wd w0 hw)
  · intro p0 q0 hp hq; exact (hO _ _ (by omega) (by omega) (by omega) (by omega)).trans (h.ct.odds p0 q0 hp hq)
  · intro p0 hp; exact (hO _ _ (by omega) (by omega) (by omega) (by omega)).trans (h.ct.st p0 hp)
theorem MI_Vis {σ τ : Mem} {t : TT} {N : Nat → Nat × (Nat → Nat)} (h : MI σ t N) (tb : TB t) {p d : Nat} (hd0 : d < 30) (hO : ∀ j, j ≠ 60 + d → j ≠ 6 → τ.1 68 j = σ.1 68 j) (g1 : τ.1 68 (60 + d) = zI (p + 1 : Nat)) (g2 : τ.1 68 (6) = zI (t.V + 1 : Nat)) : MI τ (tVis t p d) N := by
  have tP := tb.P
  have tW := tb.W
  have tC := tb.C
  refine ⟨⟨?_, ?_, ?_, ?_, ?_, ?_, ?_, ?_, ?_, ?_, ?_, ?_, ?_, ?_, ?_, ?_, ?_, ?_⟩, ⟨h.mn.P5, h.mn.ok, fun p hp => (hO _ (by have hp : p < t.P := hp; omega) (by have hp : p < t.P := hp; omega)).trans (h.mn.size p hp), fun p hp x hx => (hO _ (by have hp : p < t.P := hp; omega) (by have hp : p < t.P := hp; omega)).trans (h.mn.let_ p hp x hx), fun p h1 h2 => (hO _ (by omega) (by omega)).trans (h.mn.none_ p h1 h2)⟩⟩
  · exact (hO _ (by omega) (by omega)).trans (h.mr.ms )
  · exact (hO _ (by omega) (by omega)).trans (h.mr.wi )
  · exact (hO _ (by omega) (by omega)).trans (h.mr.la )
  · exact (hO _ (by omega) (by omega)).trans (h.mr.sh )
  · exact (hO _ (by omega) (by omega)).trans (h.mr.P )
  · exact (hO _ (by omega) (by omega)).trans (h.mr.C )
  · exact g2
  · exact (hO _ (by omega) (by omega)).trans (h.mr.W )
  · exact (hO _ (by omega) (by omega)).trans (h.mr.A )
  · exact (hO _ (by omega) (by omega)).trans (h.mr.S )
  · intro p0 hp; have hp : p0 < t.P := hp; exact (hO _ (by omega) (by omega)).trans (h.mr.kind p0 hp)
  · intro p0 hp; have hp : p0 < t.P := hp; exact (hO _ (by omega) (by omega)).trans (h.mr.told p0 hp)
  · intro k0 c0 hc; exact by
      have hk := (List.getElem?_eq_some_iff.1 hc).1; have hk : k0 < t.ch.length := hk
      obtain ⟨c1, c2, c3, c4⟩ := h.mr.ch k0 c0 hc
      exact ⟨(hO _ (by omega) (by omega)).trans c1, (hO _ (by omega) (by omega)).trans c2, (hO _ (by omega) (by omega)).trans c3, (hO _ (by omega) (by omega)).trans c4⟩
  · intro d0 hd; exact by
      show τ.1 68 (60 + d0) = zI (oM (if d0 = d then some p else t.vis d0))
      by_cases w : d0 = d
      · subst w; rw [if_pos rfl]; exact g1
      · rw [if_neg w]; exact (hO _ (by omega) (by omega)).trans (h.mr.vis d0 hd)
  · intro w0 hw; have hw : w0 < t.W := hw; exact (hO _ (by omega) (by omega)).trans (h.mr.wp w0 hw)
  · intro w0 hw; have hw : w0 < t.W := hw; exact (hO _ (by omega) (by omega)).trans (h.mr.wd w0 hw)
  · intro p0 q0 hp hq; exact (hO _ (by omega) (by omega)).trans (h.mr.odds p0 q0 hp hq)
  · intro p0 hp; exact (hO _ (by omega) (by omega)).trans (h.mr.st p0 hp)
def tWish (t : TT) (p d : Nat) : TT := TT.mk t.ms t.wi t.la t.sh t.P t.V (t.W + 1) t.A t.S t.ch t.kind t.told t.vis (fun x => if x = t.W then p else t.wp x) (fun x => if x = t.W then d else t.wd x) t.odds t.st
theorem TI_Wish {t : TT} (h : TI t) {p d : Nat} (h1 : p < t.P) (h2 : t.W < 5) (h3 : d < 30) : TI (tWish t p d) := by
  refine ⟨⟨?_, ?_, ?_, ?_, ?_, ?_, ?_, ?_, ?_, ?_, ?_, ?_, ?_, ?_, ?_, ?_, ?_, ?_, ?_, ?_⟩, ?_, ?_⟩
  · exact h.tb.ms
  · exact h.tb.ms3
  · exact h.tb.wi
  · exact h.tb.la
  · exact h.tb.sh
  · exact h.tb.P
  · exact h.tb.V
  · exact h2
  · exact h.tb.A
  · exact h.tb.S
  · exact h.tb.C
  · exact h.tb.chb
  · exact h.tb.kind
  · exact h.tb.told
  · exact h.tb.tolz
  · exact h.tb.vis
  · exact fun x hx => by
      show (if x = t.W then p else t.wp x) < t.P
      have hx : x < t.W + 1 := hx
      by_cases w : x = t.W
      · rw [if_pos w]; exact h1
      · rw [if_neg w]; exact h.tb.wp x (by omega)
  · exact fun x hx => by
      show (if x = t.W then d else t.wd x) < 30
      have hx : x < t.W + 1 := hx
      by_cases w : x = t.W
      · rw [if_pos w]; exact h3
      · rw [if_neg w]; exact h.tb.wd x (by omega)
  · exact h.tb.odds
  · exact h.tb.st
  · exact h.ms
  · intro e; have := h.no e; have := h.tb.vis; have := h.tb.st; omega
theorem CTI_Wish {σ τ : Mem} {T : Nat} {t : TT} {N : Nat → Nat × (Nat → Nat)} (h : CTI σ T t N) {p d : Nat}  (hO : ∀ a j, T ≤ a → a ≤ T + 11 → ¬ (a = T + 8 ∧ j = t.W) → ¬ (a = T + 9 ∧ j = t.W) → ¬ (a = T + 1 ∧ j = 4) → τ.1 a j = σ.1 a j) (hX : τ.2 = σ.2) (h1 : τ.1 (T + 8) (t.W) = zI p) (h2 : τ.1 (T + 9) (t.W) = zI d) (h3 : τ.1 (T + 1) (4) = zI (t.W + 1 : Nat)) : CTI τ T (tWish t p d) N := by
  refine ⟨⟨h.ct.at_, ?_, ?_, ?_, ?_, ?_, ?_, ?_, ?_, ?_, ?_, ?_, ?_, ?_, ?_, ?_, ?_, ?_⟩, ⟨h.cn.at_, h.cn.P5, h.cn.ok, fun p hp => by rw [hX]; exact h.cn.cls p hp⟩, (hO _ _ (by omega) (by omega) (by omega) (by omega) (by omega)).trans h.c0, fun p d hp hd => (hO _ _ (by omega) (by omega) (by omega) (by omega) (by omega)).trans (h.look p d hp hd), by rw [hX]; exact h.town⟩
  · exact (hO _ _ (by omega) (by omega) (by omega) (by omega) (by omega)).trans (h.ct.ms )
  · exact (hO _ _ (by omega) (by omega) (by omega) (by omega) (by omega)).trans (h.ct.wi )
  · exact (hO _ _ (by omega) (by omega) (by omega) (by omega) (by omega)).trans (h.ct.la )
  · exact (hO _ _ (by omega) (by omega) (by omega) (by omega) (by omega)).trans (h.ct.sh )
  · exact (hO _ _ (by omega) (by omega) (by omega) (by omega) (by omega)).trans (h.ct.P )
  · exact (hO _ _ (by omega) (by omega) (by omega) (by omega) (by omega)).trans (h.ct.C )
  · exact (hO _ _ (by omega) (by omega) (by omega) (by omega) (by omega)).trans (h.ct.V )
  · exact h3
  · exact (hO _ _ (by omega) (by omega) (by omega) (by omega) (by omega)).trans (h.ct.A )
  · exact (hO _ _ (by omega) (by omega) (by omega) (by omega) (by omega)).trans (h.ct.S )
  · intro p hp; exact (hO _ _ (by omega) (by omega) (by omega) (by omega) (by omega)).trans (h.ct.kind p hp)
  · intro p hp; exact (hO _ _ (by omega) (by omega) (by omega) (by omega) (by omega)).trans (h.ct.told p hp)
  · intro d0 hd; exact (hO _ _ (by omega) (by omega) (by omega) (by omega) (by omega)).trans (h.ct.vis d0 hd)
  · intro w0 hw; exact by
      show τ.1 (T + 8) w0 = zI (if w0 = t.W then p else t.wp w0 : Nat)
      have hw : w0 < t.W + 1 := hw
      by_cases w : w0 = t.W
      · rw [if_pos w, w]; exact h1
      · rw [if_neg w]; exact (hO _ _ (by omega) (by omega) (by omega) (by omega) (by omega)).trans (h.ct.wp w0 (by omega))
  · intro w0 hw; exact by
      show τ.1 (T + 9) w0 = zI (if w0 = t.W then d else t.wd w0 : Nat)
      have hw : w0 < t.W + 1 := hw
      by_cases w : w0 = t.W
      · rw [if_pos w, w]; exact h2
      · rw [if_neg w]; exact (hO _ _ (by omega) (by omega) (by omega) (by omega) (by omega)).trans (h.ct.wd w0 (by omega))
  · intro p0 q0 hp hq; exact (hO _ _ (by omega) (by omega) (by omega) (by omega) (by omega)).trans (h.ct.odds p0 q0 hp hq)
  · intro p0 hp; exact (hO _ _ (by omega) (by omega) (by omega) (by omega) (by omega)).trans (h.ct.st p0 hp)
theorem MI_Wish {σ τ : Mem} {t : TT} {N : Nat → Nat × (Nat → Nat)} (h : MI σ t N) (tb : TB t) {p d : Nat} (hW : t.W < 5) (hO : ∀ j, j ≠ 90 + 2 * t.W → j ≠ 90 + 2 * t.W + 1 → j ≠ 7 → τ.1 68 j = σ.1 68 j) (g1 : τ.1 68 (90 + 2 * t.W) = zI p) (g2 : τ.1 68 (90 + 2 * t.W + 1) = zI d) (g3 : τ.1 68 (7) = zI (t.W + 1 : Nat)) : MI τ (tWish t p d) N := by
  have tP := tb.P
  have tW := tb.W
  have tC := tb.C
  refine ⟨⟨?_, ?_, ?_, ?_, ?_, ?_, ?_, ?_, ?_, ?_, ?_, ?_, ?_, ?_, ?_, ?_, ?_, ?_⟩, ⟨h.mn.P5, h.mn.ok, fun p hp => (hO _ (by have hp : p < t.P := hp; omega) (by have hp : p < t.P := hp; omega) (by have hp : p < t.P := hp; omega)).trans (h.mn.size p hp), fun p hp x hx => (hO _ (by have hp : p < t.P := hp; omega) (by have hp : p < t.P := hp; omega) (by have hp : p < t.P := hp; omega)).trans (h.mn.let_ p hp x hx), fun p h1 h2 => (hO _ (by omega) (by omega) (by omega)).trans (h.mn.none_ p h1 h2)⟩⟩
  · exact (hO _ (by omega) (by omega) (by omega)).trans (h.mr.ms )
  · exact (hO _ (by omega) (by omega) (by omega)).trans (h.mr.wi )
  · exact (hO _ (by omega) (by omega) (by omega)).trans (h.mr.la )
  · exact (hO _ (by omega) (by omega) (by omega)).trans (h.mr.sh )
  · exact (hO _ (by omega) (by omega) (by omega)).trans (h.mr.P )
  · exact (hO _ (by omega) (by omega) (by omega)).trans (h.mr.C )
  · exact (hO _ (by omega) (by omega) (by omega)).trans (h.mr.V )
  · exact g3
  · exact (hO _ (by omega) (by omega) (by omega)).trans (h.mr.A )
  · exact (hO _ (by omega) (by omega) (by omega)).trans (h.mr.S )
  · intro p0 hp; have hp : p0 < t.P := hp; exact (hO _ (by omega) (by omega) (by omega)).trans (h.mr.kind p0 hp)
  · intro p0 hp; have hp : p0 < t.P := hp; exact (hO _ (by omega) (by omega) (by omega)).trans (h.mr.told p0 hp)
  · intro k0 c0 hc; exact by
      have hk := (List.getElem?_eq_some_iff.1 hc).1; have hk : k0 < t.ch.length := hk
      obtain ⟨c1, c2, c3, c4⟩ := h.mr.ch k0 c0 hc
      exact ⟨(hO _ (by omega) (by omega) (by omega)).trans c1, (hO _ (by omega) (by omega) (by omega)).trans c2, (hO _ (by omega) (by omega) (by omega)).trans c3, (hO _ (by omega) (by omega) (by omega)).trans c4⟩
  · intro d0 hd; exact (hO _ (by omega) (by omega) (by omega)).trans (h.mr.vis d0 hd)
  · intro w0 hw; exact by
      show τ.1 68 (90 + 2 * w0) = zI (if w0 = t.W then p else t.wp w0 : Nat)
      have hw : w0 < t.W + 1 := hw
      by_cases w : w0 = t.W
      · rw [if_pos w, w]; exact g1
      · rw [if_neg w]; exact (hO _ (by omega) (by omega) (by omega)).trans (h.mr.wp w0 (by omega))
  · intro w0 hw; exact by
      show τ.1 68 (90 + 2 * w0 + 1) = zI (if w0 = t.W then d else t.wd w0 : Nat)
      have hw : w0 < t.W + 1 := hw
      by_cases w : w0 = t.W
      · rw [if_pos w, w]; exact g2
      · rw [if_neg w]; exact (hO _ (by omega) (by omega) (by omega)).trans (h.mr.wd w0 (by omega))
  · intro p0 q0 hp hq; exact (hO _ (by omega) (by omega) (by omega)).trans (h.mr.odds p0 q0 hp hq)
  · intro p0 hp; exact (hO _ (by omega) (by omega) (by omega)).trans (h.mr.st p0 hp)
def tAsk (t : TT) (p q v : Nat) : TT := TT.mk t.ms t.wi t.la t.sh t.P t.V t.W (t.A + 1) t.S t.ch t.kind t.told t.vis t.wp t.wd (fun x y => if x = p ∧ y = q then some v else t.odds x y) t.st
theorem TI_Ask {t : TT} (h : TI t) {p q v : Nat} (h1 : p < t.P ∧ q < t.P ∧ p ≠ q ∧ v ≤ 100) (h2 : t.A < 8) : TI (tAsk t p q v) := by
  refine ⟨⟨?_, ?_, ?_, ?_, ?_, ?_, ?_, ?_, ?_, ?_, ?_, ?_, ?_, ?_, ?_, ?_, ?_, ?_, ?_, ?_⟩, ?_, ?_⟩
  · exact h.tb.ms
  · exact h.tb.ms3
  · exact h.tb.wi
  · exact h.tb.la
  · exact h.tb.sh
  · exact h.tb.P
  · exact h.tb.V
  · exact h.tb.W
  · exact h2
  · exact h.tb.S
  · exact h.tb.C
  · exact h.tb.chb
  · exact h.tb.kind
  · exact h.tb.told
  · exact h.tb.tolz
  · exact h.tb.vis
  · exact h.tb.wp
  · exact h.tb.wd
  · exact fun x y z e => by
      have e : (if x = p ∧ y = q then some v else t.odds x y) = some z := e
      by_cases w : x = p ∧ y = q
      · rw [if_pos w] at e; obtain rfl := Option.some.inj e; rw [w.1, w.2]; exact h1
      · rw [if_neg w] at e; exact h.tb.odds x y z e
  · exact h.tb.st
  · exact h.ms
  · intro e; have := h.no e; have := h.tb.vis; have := h.tb.st; omega
theorem CTI_Ask {σ τ : Mem} {T : Nat} {t : TT} {N : Nat → Nat × (Nat → Nat)} (h : CTI σ T t N) {p q v : Nat} (hq5 : q < 5) (hO : ∀ a j, T ≤ a → a ≤ T + 11 → ¬ (a = T + 10 ∧ j = p * 5 + q) → ¬ (a = T + 1 ∧ j = 5) → τ.1 a j = σ.1 a j) (hX : τ.2 = σ.2) (h1 : τ.1 (T + 10) (p * 5 + q) = zI v) (h2 : τ.1 (T + 1) (5) = zI (t.A + 1 : Nat)) : CTI τ T (tAsk t p q v) N := by
  refine ⟨⟨h.ct.at_, ?_, ?_, ?_, ?_, ?_, ?_, ?_, ?_, ?_, ?_, ?_, ?_, ?_, ?_, ?_, ?_, ?_⟩, ⟨h.cn.at_, h.cn.P5, h.cn.ok, fun p hp => by rw [hX]; exact h.cn.cls p hp⟩, (hO _ _ (by omega) (by omega) (by omega) (by omega)).trans h.c0, fun p d hp hd => (hO _ _ (by omega) (by omega) (by omega) (by omega)).trans (h.look p d hp hd), by rw [hX]; exact h.town⟩
  · exact (hO _ _ (by omega) (by omega) (by omega) (by omega)).trans (h.ct.ms )
  · exact (hO _ _ (by omega) (by omega) (by omega) (by omega)).trans (h.ct.wi )
  · exact (hO _ _ (by omega) (by omega) (by omega) (by omega)).trans (h.ct.la )
  · exact (hO _ _ (by omega) (by omega) (by omega) (by omega)).trans (h.ct.sh )
  · exact (hO _ _ (by omega) (by omega) (by omega) (by omega)).trans (h.ct.P )
  · exact (hO _ _ (by omega) (by omega) (by omega) (by omega)).trans (h.ct.C )
  · exact (hO _ _ (by omega) (by omega) (by omega) (by omega)).trans (h.ct.V )
  · exact (hO _ _ (by omega) (by omega) (by omega) (by omega)).trans (h.ct.W )
  · exact h2
  · exact (hO _ _ (by omega) (by omega) (by omega) (by omega)).trans (h.ct.S )
  · intro p hp; exact (hO _ _ (by omega) (by omega) (by omega) (by omega)).trans (h.ct.kind p hp)
  · intro p hp; exact (hO _ _ (by omega) (by omega) (by omega) (by omega)).trans (h.ct.told p hp)
  · intro d0 hd; exact (hO _ _ (by omega) (by omega) (by omega) (by omega)).trans (h.ct.vis d0 hd)
  · intro w0 hw; exact (hO _ _ (by omega) (by omega) (by omega) (by omega)).trans (h.ct.wp w0 hw)
  · intro w0 hw; exact (hO _ _ (by omega) (by omega) (by omega) (by omega)).trans (h.ct.wd w0 hw)
  · intro p0 q0 hp hq; exact by
      show τ.1 (T + 10) (p0 * 5 + q0) = zI (oC (if p0 = p ∧ q0 = q then some v else t.odds p0 q0))
      by_cases w : p0 = p ∧ q0 = q
      · rw [if_pos w, w.1, w.2]; exact h1
      · rw [if_neg w]; exact (hO _ _ (by omega) (by omega) (by omega) (by omega)).trans (h.ct.odds p0 q0 hp hq)
  · intro p0 hp; exact (hO _ _ (by omega) (by omega) (by omega) (by omega)).trans (h.ct.st p0 hp)
theorem MI_Ask {σ τ : Mem} {t : TT} {N : Nat → Nat × (Nat → Nat)} (h : MI σ t N) (tb : TB t) {p q v : Nat} (hp5 : p < 5) (hq5 : q < 5) (hO : ∀ j, j ≠ 100 + 5 * p + q → j ≠ 8 → τ.1 68 j = σ.1 68 j) (g1 : τ.1 68 (100 + 5 * p + q) = zI (v + 1 : Nat)) (g2 : τ.1 68 (8) = zI (t.A + 1 : Nat)) : MI τ (tAsk t p q v) N := by
  have tP := tb.P
  have tW := tb.W
  have tC := tb.C
  refine ⟨⟨?_, ?_, ?_, ?_, ?_, ?_, ?_, ?_, ?_, ?_, ?_, ?_, ?_, ?_, ?_, ?_, ?_, ?_⟩, ⟨h.mn.P5, h.mn.ok, fun p hp => (hO _ (by have hp : p < t.P := hp; omega) (by have hp : p < t.P := hp; omega)).trans (h.mn.size p hp), fun p hp x hx => (hO _ (by have hp : p < t.P := hp; omega) (by have hp : p < t.P := hp; omega)).trans (h.mn.let_ p hp x hx), fun p h1 h2 => (hO _ (by omega) (by omega)).trans (h.mn.none_ p h1 h2)⟩⟩
  · exact (hO _ (by omega) (by omega)).trans (h.mr.ms )
  · exact (hO _ (by omega) (by omega)).trans (h.mr.wi )
  · exact (hO _ (by omega) (by omega)).trans (h.mr.la )
  · exact (hO _ (by omega) (by omega)).trans (h.mr.sh )
  · exact (hO _ (by omega) (by omega)).trans (h.mr.P )
  · exact (hO _ (by omega) (by omega)).trans (h.mr.C )
  · exact (hO _ (by omega) (by omega)).trans (h.mr.V )
  · exact (hO _ (by omega) (by omega)).trans (h.mr.W )
  · exact g2
  · exact (hO _ (by omega) (by omega)).trans (h.mr.S )
  · intro p0 hp; have hp : p0 < t.P := hp; exact (hO _ (by omega) (by omega)).trans (h.mr.kind p0 hp)
  · intro p0 hp; have hp : p0 < t.P := hp; exact (hO _ (by omega) (by omega)).trans (h.mr.told p0 hp)
  · intro k0 c0 hc; exact by
      have hk := (List.getElem?_eq_some_iff.1 hc).1; have hk : k0 < t.ch.length := hk
      obtain ⟨c1, c2, c3, c4⟩ := h.mr.ch k0 c0 hc
      exact ⟨(hO _ (by omega) (by omega)).trans c1, (hO _ (by omega) (by omega)).trans c2, (hO _ (by omega) (by omega)).trans c3, (hO _ (by omega) (by omega)).trans c4⟩
  · intro d0 hd; exact (hO _ (by omega) (by omega)).trans (h.mr.vis d0 hd)
  · intro w0 hw; have hw : w0 < t.W := hw; exact (hO _ (by omega) (by omega)).trans (h.mr.wp w0 hw)
  · intro w0 hw; have hw : w0 < t.W := hw; exact (hO _ (by omega) (by omega)).trans (h.mr.wd w0 hw)
  · intro p0 q0 hp hq; exact by
      show τ.1 68 (100 + 5 * p0 + q0) = zI (oM (if p0 = p ∧ q0 = q then some v else t.odds p0 q0))
      by_cases w : p0 = p ∧ q0 = q
      · rw [if_pos w, w.1, w.2]; exact g1
      · rw [if_neg w]; exact (hO _ (by omega) (by omega)).trans (h.mr.odds p0 q0 hp hq)
  · intro p0 hp; exact (hO _ (by omega) (by omega)).trans (h.mr.st p0 hp)
def tStar (t : TT) (p v : Nat) : TT := TT.mk t.ms t.wi t.la t.sh t.P t.V t.W t.A (t.S + 1) t.ch t.kind t.told t.vis t.wp t.wd t.odds (fun x => if x = p then some v else t.st x)
theorem TI_Star {t : TT} (h : TI t) {p v : Nat} (h1 : p < t.P ∧ v ≤ t.ms) (h2 : t.S < 5) : TI (tStar t p v) := by
  refine ⟨⟨?_, ?_, ?_, ?_, ?_, ?_, ?_, ?_, ?_, ?_, ?_, ?_, ?_, ?_, ?_, ?_, ?_, ?_, ?_, ?_⟩, ?_, ?_⟩
  · exact h.tb.ms
  · exact h.tb.ms3
  · exact h.tb.wi
  · exact h.tb.la
  · exact h.tb.sh
  · exact h.tb.P
  · exact h.tb.V
  · exact h.tb.W
  · exact h.tb.A
  · exact h2
  · exact h.tb.C
  · exact h.tb.chb
  · exact h.tb.kind
  · exact h.tb.told
  · exact h.tb.tolz
  · exact h.tb.vis
  · exact h.tb.wp
  · exact h.tb.wd
  · exact h.tb.odds
  · exact fun x z e => by
      have e : (if x = p then some v else t.st x) = some z := e
      by_cases w : x = p
      · rw [if_pos w] at e; obtain rfl := Option.some.inj e; rw [w]; exact h1
      · rw [if_neg w] at e; exact h.tb.st x z e
  · exact h.ms
  · intro e; have := h.no e; have := h.tb.vis; have := h.tb.st; omega
theorem CTI_Star {σ τ : Mem} {T : Nat} {t : TT} {N : Nat → Nat × (Nat → Nat)} (h : CTI σ T t N) {p v : Nat}  (hO : ∀ a j, T ≤ a → a ≤ T + 11 → ¬ (a = T + 11 ∧ j = p) → ¬ (a = T + 1 ∧ j = 6) → τ.1 a j = σ.1 a j) (hX : τ.2 = σ.2) (h1 : τ.1 (T + 11) (p) = zI v) (h2 : τ.1 (T + 1) (6) = zI (t.S + 1 : Nat)) : CTI τ T (tStar t p v) N := by
  refine ⟨⟨h.ct.at_, ?_, ?_, ?_, ?_, ?_, ?_, ?_, ?_, ?_, ?_, ?_, ?_, ?_, ?_, ?_, ?_, ?_⟩, ⟨h.cn.at_, h.cn.P5, h.cn.ok, fun p hp => by rw [hX]; exact h.cn.cls p hp⟩, (hO _ _ (by omega) (by omega) (by omega) (by omega)).trans h.c0, fun p d hp hd => (hO _ _ (by omega) (by omega) (by omega) (by omega)).trans (h.look p d hp hd), by rw [hX]; exact h.town⟩
  · exact (hO _ _ (by omega) (by omega) (by omega) (by omega)).trans (h.ct.ms )
  · exact (hO _ _ (by omega) (by omega) (by omega) (by omega)).trans (h.ct.wi )
  · exact (hO _ _ (by omega) (by omega) (by omega) (by omega)).trans (h.ct.la )
  · exact (hO _ _ (by omega) (by omega) (by omega) (by omega)).trans (h.ct.sh )
  · exact (hO _ _ (by omega) (by omega) (by omega) (by omega)).trans (h.ct.P )
  · exact (hO _ _ (by omega) (by omega) (by omega) (by omega)).trans (h.ct.C )
  · exact (hO _ _ (by omega) (by omega) (by omega) (by omega)).trans (h.ct.V )
  · exact (hO _ _ (by omega) (by omega) (by omega) (by omega)).trans (h.ct.W )
  · exact (hO _ _ (by omega) (by omega) (by omega) (by omega)).trans (h.ct.A )
  · exact h2
  · intro p hp; exact (hO _ _ (by omega) (by omega) (by omega) (by omega)).trans (h.ct.kind p hp)
  · intro p hp; exact (hO _ _ (by omega) (by omega) (by omega) (by omega)).trans (h.ct.told p hp)
  · intro d0 hd; exact (hO _ _ (by omega) (by omega) (by omega) (by omega)).trans (h.ct.vis d0 hd)
  · intro w0 hw; exact (hO _ _ (by omega) (by omega) (by omega) (by omega)).trans (h.ct.wp w0 hw)
  · intro w0 hw; exact (hO _ _ (by omega) (by omega) (by omega) (by omega)).trans (h.ct.wd w0 hw)
  · intro p0 q0 hp hq; exact (hO _ _ (by omega) (by omega) (by omega) (by omega)).trans (h.ct.odds p0 q0 hp hq)
  · intro p0 hp; exact by
      show τ.1 (T + 11) p0 = zI (oC (if p0 = p then some v else t.st p0))
      by_cases w : p0 = p
      · rw [if_pos w, w]; exact h1
      · rw [if_neg w]; exact (hO _ _ (by omega) (by omega) (by omega) (by omega)).trans (h.ct.st p0 hp)
theorem MI_Star {σ τ : Mem} {t : TT} {N : Nat → Nat × (Nat → Nat)} (h : MI σ t N) (tb : TB t) {p v : Nat} (hp5 : p < 5) (hO : ∀ j, j ≠ 125 + p → j ≠ 9 → τ.1 68 j = σ.1 68 j) (g1 : τ.1 68 (125 + p) = zI (v + 1 : Nat)) (g2 : τ.1 68 (9) = zI (t.S + 1 : Nat)) : MI τ (tStar t p v) N := by
  have tP := tb.P
  have tW := tb.W
  have tC := tb.C
  refine ⟨⟨?_, ?_, ?_, ?_, ?_, ?_, ?_, ?_, ?_, ?_, ?_, ?_, ?_, ?_, ?_, ?_, ?_, ?_⟩, ⟨h.mn.P5, h.mn.ok, fun p hp => (hO _ (by have hp : p < t.P := hp; omega) (by have hp : p < t.P := hp; omega)).trans (h.mn.size p hp), fun p hp x hx => (hO _ (by have hp : p < t.P := hp; omega) (by have hp : p < t.P := hp; omega)).trans (h.mn.let_ p hp x hx), fun p h1 h2 => (hO _ (by omega) (by omega)).trans (h.mn.none_ p h1 h2)⟩⟩
  · exact (hO _ (by omega) (by omega)).trans (h.mr.ms )
  · exact (hO _ (by omega) (by omega)).trans (h.mr.wi )
  · exact (hO _ (by omega) (by omega)).trans (h.mr.la )
  · exact (hO _ (by omega) (by omega)).trans (h.mr.sh )
  · exact (hO _ (by omega) (by omega)).trans (h.mr.P )
  · exact (hO _ (by omega) (by omega)).trans (h.mr.C )
  · exact (hO _ (by omega) (by omega)).trans (h.mr.V )
  · exact (hO _ (by omega) (by omega)).trans (h.mr.W )
  · exact (hO _ (by omega) (by omega)).trans (h.mr.A )
  · exact g2
  · intro p0 hp; have hp : p0 < t.P := hp; exact (hO _ (by omega) (by omega)).trans (h.mr.kind p0 hp)
  · intro p0 hp; have hp : p0 < t.P := hp; exact (hO _ (by omega) (by omega)).trans (h.mr.told p0 hp)
  · intro k0 c0 hc; exact by
      have hk := (List.getElem?_eq_some_iff.1 hc).1; have hk : k0 < t.ch.length := hk
      obtain ⟨c1, c2, c3, c4⟩ := h.mr.ch k0 c0 hc
      exact ⟨(hO _ (by omega) (by omega)).trans c1, (hO _ (by omega) (by omega)).trans c2, (hO _ (by omega) (by omega)).trans c3, (hO _ (by omega) (by omega)).trans c4⟩
  · intro d0 hd; exact (hO _ (by omega) (by omega)).trans (h.mr.vis d0 hd)
  · intro w0 hw; have hw : w0 < t.W := hw; exact (hO _ (by omega) (by omega)).trans (h.mr.wp w0 hw)
  · intro w0 hw; have hw : w0 < t.W := hw; exact (hO _ (by omega) (by omega)).trans (h.mr.wd w0 hw)
  · intro p0 q0 hp hq; exact (hO _ (by omega) (by omega)).trans (h.mr.odds p0 q0 hp hq)
  · intro p0 hp; exact by
      show τ.1 68 (125 + p0) = zI (oM (if p0 = p then some v else t.st p0))
      by_cases w : p0 = p
      · rw [if_pos w, w]; exact g1
      · rw [if_neg w]; exact (hO _ (by omega) (by omega)).trans (h.mr.st p0 hp)
theorem g_goOn {σ : Mem} {k P : Nat} (hk : aln (k + 1) = 150) (hP : P ≤ 5) (f : Nat → Nat → Nat → Nat) (hf : ∀ q d, lt4 (f q d)) (look : ∀ q d, q < P → d < 30 → σ.1 (k + 1) (q * 30 + d) = zI (e5 (f q d))) {p m fr by_ : Nat} (hp : p < P) (hm : m < 6) (hfr : fr ≤ 30) : ∃ τ, f_X5_goOn σ k (zI p) (zI m) (zI fr) (zI by_) = some τ ∧ τ.2 = σ.2 ∧ (∀ a, a ≠ k + 1 → τ.1 a = σ.1 a) ∧ ∀ q d, q < P → d < 30 → τ.1 (k + 1) (q * 30 + d) = zI (e5 (if q = p ∧ fr ≤ d then fu (f q d) m ((f q d m + by_) % 4) else f q d)) := by
  let g : Nat → Nat → Int32 := fun i j => if p * 30 + fr ≤ j ∧ j < p * 30 + i then zI (e5 (fu (f p (j - p * 30)) m ((f p (j - p * 30) m + by_) % 4))) else σ.1 (k + 1) j
  refine ⟨sA σ (k + 1) (g 30), ?_, rfl, fun a ha => sA_o _ _ _ ha, fun q d hq hd => ?_⟩
  · unfold f_X5_goOn
    rw [pnm_e, if_neg (by rw [show (0 : Int32) = zI 0 from rfl, zI_lt (by omega) (by omega)]; omega)]
    refine fx2_run (fun i => zI (fr + i : Nat)) (fun i => sA σ (k + 1) (g (fr + i))) (30 - fr) 0 (by omega) rfl ?_ (fun k2 => ?_) (fun i hi k2 => ?_)
    · rw [show g (fr + 0) = σ.1 (k + 1) from funext fun j => if_neg (by omega), sA_self]
    · rw [show fr + (30 - fr) = 30 from by omega, if_pos (by decide)]
    · obtain ⟨d, hd⟩ : ∃ d, d = fr + i := ⟨_, rfl⟩
      rw [← hd, show fr + (i + 1) = d + 1 from by omega]
      have hat : (sA σ (k + 1) (g d)).1 (k + 1) (p * 30 + d) = zI (e5 (f p d)) := by
        rw [sA_at]
        show (if p * 30 + fr ≤ p * 30 + d ∧ p * 30 + d < p * 30 + d then _ else _) = _
        rw [if_neg (by omega)]; exact look p d hp (by omega)
      rw [show (30 : Int32) = zI 30 from rfl, if_neg (by rw [zI_le (by omega) (by omega)]; omega), show (5 : Int32) = zI 5 from rfl, f_inside _ _ (by omega) (by omega), decide_eq_true (by omega), pbd1_s, if_neg (by decide)]
      have e1 : f_X5_at (sA σ (k + 1) (g d)) k (zI p) (zI d) = some (zI (e5 (f p d))) := by
        unfold f_X5_at
        simp (disch := omega) only [jn0_e, jn1_e, jn2_e, pnm_e, pbd1_s, pbd2_s, prfc_s, onm_sm, onm_nn, zI_lit, zI_nI, zI_add, zI_sub, zI_mul, zI_neg, zI_lt, zI_le, zI_eq, zI_nat, zI_div, zI_mod, ixd_in, dvd_ne]
        rw [if_neg (by omega), if_neg (by omega), if_neg (by omega), if_neg (by omega), show ((p : Int) * 30 + d).toNat = p * 30 + d from by omega, hat]
      rw [e1, pbd1_s, c_gone (hf _ _) hm, pbd1_s, show zI p * zI 30 + zI d = zI (p * 30 + d : Nat) from by rw [zI_mul, zI_add]; congr 1, f_setN (by omega) (by omega), pbd1_s, pnm_e, sI_sA, show zI d + 1 = zI (d + 1 : Nat) from by rw [show (1 : Int32) = zI 1 from rfl, zI_add]; rfl]
      refine congrArg (k2 (zI (d + 1 : Nat))) (congrArg _ (funext fun j => ?_))
      unfold upd
      show (if j = p * 30 + d then _ else (if p * 30 + fr ≤ j ∧ j < p * 30 + d then _ else _)) = (if p * 30 + fr ≤ j ∧ j < p * 30 + (d + 1) then _ else _)
      by_cases q : j = p * 30 + d
      · subst q; rw [if_pos rfl, if_pos (by omega), show p * 30 + d - p * 30 = d from by omega]
      · rw [if_neg q]
        by_cases q2 : p * 30 + fr ≤ j ∧ j < p * 30 + d
        · rw [if_pos q2, if_pos (by omega)]
        · rw [if_neg q2, if_neg (by omega)]
  · rw [sA_at]
    show (if p * 30 + fr ≤ q * 30 + d ∧ q * 30 + d < p * 30 + 30 then _ else _) = _
    by_cases w : q = p ∧ fr ≤ d
    · obtain ⟨rfl, w⟩ := w
      rw [if_pos (by omega), if_pos ⟨rfl, w⟩, show q * 30 + d - q * 30 = d from by omega]
    · rw [if_neg (by omega), if_neg w]; exact look q d hq hd
/-- the look of somebody who changes every some days -/
def agd (g : Nat → Nat) (m days d : Nat) : Nat → Nat := fun x => if x = m then (g m + d / days) % 4 else g x
theorem agd_lt {g : Nat → Nat} (h : lt4 g) (m days d : Nat) : lt4 (agd g m days d) := fun x => by
  unfold agd
  by_cases w : x = m
  · rw [if_pos w]; exact Nat.mod_lt _ (by omega)
  · rw [if_neg w]; exact h x
theorem c_each {σ : Mem} {T P : Nat} (hk : aln (T + 6) = 150) (hP : P ≤ 5) (f : Nat → Nat → Nat → Nat) (hf : ∀ q d, lt4 (f q d)) (look : ∀ q d, q < P → d < 30 → σ.1 (T + 6) (q * 30 + d) = zI (e5 (f q d))) {p m days : Nat} (hp : p < P) (hm : m < 6) (hd : days = 4 ∨ days = 10) (g : Nat → Nat) (hg : ∀ d, f p d = g) : ∃ τ, f_X11_goOnEach σ T (zI p) (zI m) (zI days) = some τ ∧ τ.2 = σ.2 ∧ (∀ a, a ≠ T + 6 → τ.1 a = σ.1 a) ∧ ∀ q d, q < P → d < 30 → τ.1 (T + 6) (q * 30 + d) = zI (e5 (if q = p then agd g m days d else f q d)) := by
  have hgl : lt4 g := hg 0 ▸ hf p 0
  unfold f_X11_goOnEach
  refine (fx2_inv (fun i => zI (i : Nat)) (fun i τ => τ.2 = σ.2 ∧ (∀ a, a ≠ T + 6 → τ.1 a = σ.1 a) ∧ ∀ q d, q < P → d < 30 → τ.1 (T + 6) (q * 30 + d) = zI (e5 (if q = p then agd g m days (min d (i - 1)) else f q d))) (fun τ => some τ) 30 (by omega) (F := fun k_3 (i_1 : Int32) (σ_2 : Mem) => (if 30 ≤ i_1 then some σ_2 else jn1 (fun (σ_4 : Mem) => nm (i_1 + 1) (fun (x_6 : Int32) => k_3 x_6 σ_4)) (fun k_5 => (if i_1 ≤ 0 then k_5 σ_2 else (if (zI days) ≤ 0 then k_5 σ_2 else dvd (zI days) ((if (i_1 - i_1 / (zI days) * (zI days)) = 0 then bd1 (f_X5_goOn σ_2 (T + 5) (zI p) (zI m) i_1 1) (fun (σ_8 : Mem) => k_5 σ_8) else k_5 σ_2)))))))
    (fun k τ _ => if_pos (by decide)) (fun i hi τ hτ k => ?_) 0 (by omega) rfl σ ⟨rfl, fun _ _ => rfl, fun q d hq hd' => ?_⟩).elim (fun τ hh => ?_)
  · obtain ⟨t1, t2, t3⟩ := hτ
    have lv : ∀ q d, lt4 (if q = p then agd g m days (min d (i - 1)) else f q d) := fun q d => by
      by_cases w : q = p
      · rw [if_pos w]; exact agd_lt hgl _ _ _
      · rw [if_neg w]; exact hf q d
    rw [if_neg (show ¬ ((30 : Int32) ≤ zI (i : Nat)) from by rw [show (30 : Int32) = zI 30 from rfl, zI_le (by omega) (by omega)]; omega), jn1_e]
    dsimp only
    rw [zI_sc]
    have same : (∀ d, d < 30 → min d (i - 1) / days = min d (i + 1 - 1) / days) → ∃ σ', (σ'.2 = σ.2 ∧ (∀ a, a ≠ T + 6 → σ'.1 a = σ.1 a) ∧ ∀ q d, q < P → d < 30 → σ'.1 (T + 6) (q * 30 + d) = zI (e5 (if q = p then agd g m days (min d (i + 1 - 1)) else f q d))) ∧ nm (zI (i + 1 : Nat)) (fun (x_6 : Int32) => k x_6 τ) = k (zI (i + 1 : Nat)) σ' := by
      intro h
      refine ⟨τ, ⟨t1, t2, fun q d hq hd' => ?_⟩, rfl⟩
      rw [t3 q d hq hd']
      unfold agd
      rw [h d hd']
    by_cases z : i = 0
    · rw [if_pos (by rw [z]; decide)]
      exact same (fun d _ => by rw [z])
    · rw [if_neg (show ¬ (zI (i : Nat) ≤ 0) from by rw [show (0 : Int32) = zI 0 from rfl, zI_le (by omega) (by omega)]; omega), if_neg (show ¬ (zI (days : Nat) ≤ 0) from by rw [show (0 : Int32) = zI 0 from rfl, zI_le (by omega) (by omega)]; omega)]
      have hv : (days : Int) ≠ 0 := by omega
      have er : zI (i : Nat) - zI (i : Nat) / zI (days : Nat) * zI (days : Nat) = zI (i % days : Nat) := by
        rw [zI_div (by omega) (by omega), zI_mul, zI_sub, show ((i : Int).tdiv (days : Int)) = ((i / days : Nat) : Int) from rfl]
        congr 1
        rcases hd with rfl | rfl <;> omega
      rw [dvd_ne (by omega), er]
      by_cases w : i % days = 0
      · obtain ⟨υ, u1, u2, u3, u4⟩ := g_goOn (σ := τ) (k := T + 5) hk hP (fun q d => if q = p then agd g m days (min d (i - 1)) else f q d) lv t3 (p := p) (m := m) (fr := i) (by_ := 1) hp hm (by omega)
        rw [if_pos (by rw [w]; rfl), show (1 : Int32) = zI (1 : Nat) from rfl, u1, pbd1_s]
        refine ⟨υ, ⟨u2.trans t1, fun a ha => (u3 a ha).trans (t2 a ha), fun q d hq hd' => ?_⟩, rfl⟩
        have := u4 q d hq hd'
        rw [show T + 5 + 1 = T + 6 from rfl] at this
        rw [this]
        congr 2
        by_cases qp : q = p
        · rw [if_pos qp]
          by_cases id : i ≤ d
          · have hA : (if q = p then agd g m days (min d (i - 1)) else f q d) = agd g m days (i - 1) := by rw [if_pos qp, show min d (i - 1) = i - 1 from by omega]
            rw [if_pos ⟨qp, id⟩, if_pos qp]
            rw [show min d (i - 1) = i - 1 from by omega, show min d (i + 1 - 1) = i from by omega]
            refine e5_congr (fun x _ => ?_)
            unfold fu agd
            by_cases xm : x = m
            · rw [if_pos xm, if_pos xm, if_pos rfl]
              rcases hd with rfl | rfl <;> omega
            · rw [if_neg xm, if_neg xm, if_neg xm]
          · rw [if_neg (fun c => id c.2), if_pos qp, show min d (i - 1) = d from by omega, show min d (i + 1 - 1) = d from by omega]
        · rw [if_neg qp, if_neg (fun c => qp c.1), if_neg qp]
      · rw [if_neg (show ¬ (zI (i % days : Nat) = 0) from by rw [show (0 : Int32) = zI 0 from rfl, zI_eq (by rcases hd with rfl | rfl <;> omega) (by omega)]; omega)]
        refine same (fun d _ => ?_)
        by_cases id : i ≤ d
        · rw [show min d (i - 1) = i - 1 from by omega, show min d (i + 1 - 1) = i from by omega]
          rcases hd with rfl | rfl <;> omega
        · rw [show min d (i - 1) = d from by omega, show min d (i + 1 - 1) = d from by omega]
  · show σ.1 (T + 6) (q * 30 + d) = _
    rw [look q d hq hd']
    by_cases w : q = p
    · subst w
      rw [if_pos rfl, hg d, show min d (0 - 1) = 0 from by omega]
      refine congrArg (fun x : Nat => zI (x : Int)) (e5_congr (fun x _ => ?_))
      unfold agd
      by_cases xm : x = m
      · rw [if_pos xm, xm]
        have := hgl m
        rcases hd with rfl | rfl <;> omega
      · rw [if_neg xm]
    · rw [if_neg w]
  · obtain ⟨⟨i1, i2, i3⟩, e⟩ := hh
    refine ⟨τ, e, i1, i2, fun q d hq hd' => ?_⟩
    rw [i3 q d hq hd', show min d (30 - 1) = d from by omega]
/-- a change, a person more -/
def tChg (t : TT) (c : Nat × Nat × Nat × Nat) : TT := TT.mk t.ms t.wi t.la t.sh t.P t.V t.W t.A t.S (t.ch ++ [c]) t.kind t.told t.vis t.wp t.wd t.odds t.st
def tPer (t : TT) (k : Nat) (g : Nat → Nat) : TT := TT.mk t.ms t.wi t.la t.sh (t.P + 1) t.V t.W t.A t.S t.ch (fun x => if x = t.P then k else t.kind x) (fun x => if x = t.P then g else t.told x) t.vis t.wp t.wd t.odds t.st
def nPer (N : Nat → Nat × (Nat → Nat)) (P : Nat) (w : Nat × (Nat → Nat)) : Nat → Nat × (Nat → Nat) := fun x => if x = P then w else N x
theorem TI_Chg {t : TT} (h : TI t) {c : Nat × Nat × Nat × Nat} (h1 : c.1 < t.P ∧ c.2.1 < 30 ∧ c.2.2.1 < t.ms ∧ 1 ≤ c.2.2.2 ∧ c.2.2.2 ≤ 3) (h2 : t.ch.length < 10) : TI (tChg t c) := by
  refine ⟨⟨h.tb.ms, h.tb.ms3, h.tb.wi, h.tb.la, h.tb.sh, h.tb.P, h.tb.V, h.tb.W, h.tb.A, h.tb.S, ?_, ?_, h.tb.kind, h.tb.told, h.tb.tolz, h.tb.vis, h.tb.wp, h.tb.wd, h.tb.odds, h.tb.st⟩, h.ms, fun e => ?_⟩
  · show (t.ch ++ [c]).length ≤ 10
    rw [List.length_append]; exact h2
  · intro x hx
    rcases List.mem_append.1 (show x ∈ t.ch ++ [c] from hx) with w | w
    · exact h.tb.chb x w
    · rw [List.mem_singleton.1 w]; exact h1
  · have := h.no e; omega
theorem CTI_Chg {σ τ : Mem} {T : Nat} {t : TT} {N : Nat → Nat × (Nat → Nat)} (h : CTI σ T t N) {c : Nat × Nat × Nat × Nat} (hO : ∀ a j, T ≤ a → a ≤ T + 11 → a ≠ T + 6 → ¬ (a = T + 1 ∧ j = 2) → τ.1 a j = σ.1 a j) (hX : τ.2 = σ.2) (h1 : ∀ q d, q < t.P → d < 30 → τ.1 (T + 6) (q * 30 + d) = zI (e5 (lk t (t.ch ++ [c]) q d))) (h2 : τ.1 (T + 1) 2 = zI (t.ch.length + 1 : Nat)) : CTI τ T (tChg t c) N := by
  have o : ∀ a j, T ≤ a → a ≤ T + 11 → a ≠ T + 6 → ¬ (a = T + 1 ∧ j = 2) → ∀ {v : Int32}, σ.1 a j = v → τ.1 a j = v := fun a j r s x y v e => (hO a j r s x y).trans e
  have ct := h.ct
  refine ⟨⟨ct.at_, o _ _ (by omega) (by omega) (by omega) (by omega) ct.ms, o _ _ (by omega) (by omega) (by omega) (by omega) ct.wi, o _ _ (by omega) (by omega) (by omega) (by omega) ct.la, o _ _ (by omega) (by omega) (by omega) (by omega) ct.sh, o _ _ (by omega) (by omega) (by omega) (by omega) ct.P, ?_, o _ _ (by omega) (by omega) (by omega) (by omega) ct.V, o _ _ (by omega) (by omega) (by omega) (by omega) ct.W, o _ _ (by omega) (by omega) (by omega) (by omega) ct.A, o _ _ (by omega) (by omega) (by omega) (by omega) ct.S, fun p hp => o _ _ (by omega) (by omega) (by omega) (by omega) (ct.kind p hp), fun p hp => o _ _ (by omega) (by omega) (by omega) (by omega) (ct.told p hp), fun d hd => o _ _ (by omega) (by omega) (by omega) (by omega) (ct.vis d hd), fun w hw => o _ _ (by omega) (by omega) (by omega) (by omega) (ct.wp w hw), fun w hw => o _ _ (by omega) (by omega) (by omega) (by omega) (ct.wd w hw), fun p q hp hq => o _ _ (by omega) (by omega) (by omega) (by omega) (ct.odds p q hp hq), fun p hp => o _ _ (by omega) (by omega) (by omega) (by omega) (ct.st p hp)⟩, ⟨h.cn.at_, h.cn.P5, h.cn.ok, fun p hp => by rw [hX]; exact h.cn.cls p hp⟩, o _ _ (by omega) (by omega) (by omega) (by omega) h.c0, h1, by rw [hX]; exact h.town⟩
  show τ.1 (T + 1) 2 = zI ((t.ch ++ [c]).length : Nat)
  rw [h2, List.length_append]; rfl
theorem MI_Chg {σ τ : Mem} {t : TT} {N : Nat → Nat × (Nat → Nat)} (h : MI σ t N) (tb : TB t) {c : Nat × Nat × Nat × Nat} (hC : t.ch.length < 10) (hO : ∀ j, j ≠ 5 → j ≠ 20 + 4 * t.ch.length → j ≠ 20 + 4 * t.ch.length + 1 → j ≠ 20 + 4 * t.ch.length + 2 → j ≠ 20 + 4 * t.ch.length + 3 → τ.1 68 j = σ.1 68 j) (g0 : τ.1 68 (20 + 4 * t.ch.length) = zI c.1) (g1 : τ.1 68 (20 + 4 * t.ch.length + 1) = zI c.2.1) (g2 : τ.1 68 (20 + 4 * t.ch.length + 2) = zI c.2.2.1) (g3 : τ.1 68 (20 + 4 * t.ch.length + 3) = zI c.2.2.2) (g5 : τ.1 68 5 = zI (t.ch.length + 1 : Nat)) : MI τ (tChg t c) N := by
  have tP := tb.P
  have tW := tb.W
  have o : ∀ j, j ≠ 5 → (j < 20 ∨ 60 ≤ j) → ∀ {v : Int32}, σ.1 68 j = v → τ.1 68 j = v := fun j x y v e => (hO j x (by omega) (by omega) (by omega) (by omega)).trans e
  have mr := h.mr
  refine ⟨⟨o _ (by omega) (by omega) mr.ms, o _ (by omega) (by omega) mr.wi, o _ (by omega) (by omega) mr.la, o _ (by omega) (by omega) mr.sh, o _ (by omega) (by omega) mr.P, ?_, o _ (by omega) (by omega) mr.V, o _ (by omega) (by omega) mr.W, o _ (by omega) (by omega) mr.A, o _ (by omega) (by omega) mr.S, fun p hp => o _ (by have hp : p < t.P := hp; omega) (by have hp : p < t.P := hp; omega) (mr.kind p hp), fun p hp => o _ (by have hp : p < t.P := hp; omega) (by have hp : p < t.P := hp; omega) (mr.told p hp), fun k x hk => ?_, fun d hd => o _ (by omega) (by omega) (mr.vis d hd), fun w hw => o _ (by omega) (by omega) (mr.wp w hw), fun w hw => o _ (by omega) (by omega) (mr.wd w hw), fun p q hp hq => o _ (by omega) (by omega) (mr.odds p q hp hq), fun p hp => o _ (by omega) (by omega) (mr.st p hp)⟩, ⟨h.mn.P5, h.mn.ok, fun p hp => o _ (by omega) (by omega) (h.mn.size p hp), fun p hp x hx => o _ (by omega) (by omega) (h.mn.let_ p hp x hx), fun p h1 h2 => o _ (by omega) (by omega) (h.mn.none_ p h1 h2)⟩⟩
  · show τ.1 68 5 = zI ((t.ch ++ [c]).length : Nat)
    rw [g5, List.length_append]; rfl
  · have hk : (t.ch ++ [c])[k]? = some x := hk
    have lk : k < (t.ch ++ [c]).length := (List.getElem?_eq_some_iff.1 hk).1
    rw [List.length_append, List.length_singleton] at lk
    rcases Nat.lt_or_ge k t.ch.length with w | w
    · rw [List.getElem?_append_left w] at hk
      obtain ⟨c1, c2, c3, c4⟩ := mr.ch k x hk
      exact ⟨(hO _ (by omega) (by omega) (by omega) (by omega) (by omega)).trans c1, (hO _ (by omega) (by omega) (by omega) (by omega) (by omega)).trans c2, (hO _ (by omega) (by omega) (by omega) (by omega) (by omega)).trans c3, (hO _ (by omega) (by omega) (by omega) (by omega) (by omega)).trans c4⟩
    · obtain rfl : k = t.ch.length := by omega
      rw [List.getElem?_append_right (Nat.le_refl _), Nat.sub_self] at hk
      obtain rfl : c = x := by simpa using hk
      exact ⟨g0, g1, g2, g3⟩
theorem TI_Per {t : TT} (h : TI t) {k : Nat} {g : Nat → Nat} (h1 : k ≤ 3) (h2 : t.P < 5) (h3 : 3 ≤ t.ms) (h4 : lt4 g) (h5 : ∀ m, t.ms ≤ m → g m = 0) : TI (tPer t k g) := by
  have b := h.tb
  refine ⟨⟨b.ms, fun _ => h3, b.wi, b.la, b.sh, h2, b.V, b.W, b.A, b.S, b.C, fun c hc => ?_, fun p hp => ?_, fun p => ?_, fun p m hm => ?_, fun d p e => ?_, fun w hw => ?_, b.wd, fun p q o e => ?_, fun p n e => ?_⟩, h.ms, fun e => ?_⟩
  · have x := b.chb c hc
    exact ⟨Nat.lt_succ_of_lt x.1, x.2⟩
  · show (if p = t.P then k else t.kind p) ≤ 3
    have hp : p < t.P + 1 := hp
    by_cases w : p = t.P
    · rw [if_pos w]; exact h1
    · rw [if_neg w]; exact b.kind p (by omega)
  · show lt4 (if p = t.P then g else t.told p)
    by_cases w : p = t.P
    · rw [if_pos w]; exact h4
    · rw [if_neg w]; exact b.told p
  · show (if p = t.P then g else t.told p) m = 0
    by_cases w : p = t.P
    · rw [if_pos w]; exact h5 m hm
    · rw [if_neg w]; exact b.tolz p m hm
  · exact Nat.lt_succ_of_lt (b.vis d p e)
  · exact Nat.lt_succ_of_lt (b.wp w hw)
  · have x := b.odds p q o e
    exact ⟨Nat.lt_succ_of_lt x.1, Nat.lt_succ_of_lt x.2.1, x.2.2⟩
  · have x := b.st p n e
    exact ⟨Nat.lt_succ_of_lt x.1, x.2⟩
  · have e : t.ms = 0 := e
    omega
theorem lk_Per {t : TT} {k : Nat} {g : Nat → Nat} {p d : Nat} (h : p ≠ t.P) : lk (tPer t k g) t.ch p d = lk t t.ch p d := by
  funext m
  show ((if p = t.P then g else t.told p) m + adds t.ch p d m + ((if (if p = t.P then k else t.kind p) = 1 ∧ m = 0 then d / 10 else 0) + (if (if p = t.P then k else t.kind p) = 2 ∧ m = 1 then d / 4 else 0))) % 4 = _
  rw [if_neg h, if_neg h]; rfl
theorem adds_no {E : List (Nat × Nat × Nat × Nat)} {p d m : Nat} (h : ∀ c ∈ E, c.1 ≠ p) : adds E p d m = 0 := by
  induction E with
  | nil => rfl
  | cons c r ih =>
    rw [adds, if_neg (fun x => h c (List.mem_cons_self ..) x.1), ih (fun x hx => h x (List.mem_cons_of_mem _ hx))]
theorem lk_new {t : TT} {k : Nat} {g : Nat → Nat} {d : Nat} (hc : ∀ c ∈ t.ch, c.1 < t.P) (hg : lt4 g) : lk (tPer t k g) t.ch t.P d = if k = 1 then agd g 0 10 d else if k = 2 then agd g 1 4 d else g := by
  funext m
  show ((if t.P = t.P then g else t.told t.P) m + adds t.ch t.P d m + ((if (if t.P = t.P then k else t.kind t.P) = 1 ∧ m = 0 then d / 10 else 0) + (if (if t.P = t.P then k else t.kind t.P) = 2 ∧ m = 1 then d / 4 else 0))) % 4 = _
  have gm := hg m
  rw [if_pos rfl, if_pos rfl, adds_no (fun c h => Nat.ne_of_lt (hc c h))]
  by_cases k1 : k = 1
  · rw [if_pos k1]
    unfold agd
    by_cases m0 : m = 0
    · rw [if_pos ⟨k1, m0⟩, if_neg (by omega), if_pos m0, m0]; rfl
    · rw [if_neg (by omega), if_neg (by omega), if_neg m0]; omega
  · rw [if_neg k1]
    by_cases k2 : k = 2
    · rw [if_pos k2]
      unfold agd
      by_cases m1 : m = 1
      · rw [if_neg (by omega), if_pos ⟨k2, m1⟩, if_pos m1, m1]
        omega
      · rw [if_neg (by omega), if_neg (by omega), if_neg m1]; omega
    · rw [if_neg k2, if_neg (by omega), if_neg (by omega)]; omega
theorem CTI_Per {σ τ : Mem} {T : Nat} {t : TT} {N : Nat → Nat × (Nat → Nat)} (h : CTI σ T t N) {k : Nat} {g : Nat → Nat} {w : Nat × (Nat → Nat)} (hP : t.P < 5) (hw : nmOk w) (hO : ∀ a j, T ≤ a → a ≤ T + 11 → a ≠ T + 6 → ¬ (a = T + 1 ∧ j = 1) → ¬ (a = T + 3 ∧ j = t.P) → ¬ (a = T + 4 ∧ j = t.P) → τ.1 a j = σ.1 a j) (hL : ∀ p, p ≠ t.P → τ.2.1 (T + 2) p = σ.2.1 (T + 2) p) (hR : τ.2.2 = σ.2.2) (h1 : ∀ q d, q < t.P + 1 → d < 30 → τ.1 (T + 6) (q * 30 + d) = zI (e5 (lk (tPer t k g) t.ch q d))) (h2 : τ.1 (T + 1) 1 = zI (t.P + 1 : Nat)) (h3 : τ.1 (T + 3) t.P = zI k) (h4 : τ.1 (T + 4) t.P = zI (e5 g)) (h5 : τ.2.1 (T + 2) t.P = zL (nmL w)) : CTI τ T (tPer t k g) (nPer N t.P w) := by
  have o : ∀ a j, T ≤ a → a ≤ T + 11 → a ≠ T + 6 → ¬ (a = T + 1 ∧ j = 1) → ¬ (a = T + 3 ∧ j = t.P) → ¬ (a = T + 4 ∧ j = t.P) → ∀ {v : Int32}, σ.1 a j = v → τ.1 a j = v := fun a j r s x y z u v e => (hO a j r s x y z u).trans e
  have ct := h.ct
  refine ⟨⟨ct.at_, o _ _ (by omega) (by omega) (by omega) (by omega) (by omega) (by omega) ct.ms, o _ _ (by omega) (by omega) (by omega) (by omega) (by omega) (by omega) ct.wi, o _ _ (by omega) (by omega) (by omega) (by omega) (by omega) (by omega) ct.la, o _ _ (by omega) (by omega) (by omega) (by omega) (by omega) (by omega) ct.sh, h2, o _ _ (by omega) (by omega) (by omega) (by omega) (by omega) (by omega) ct.C, o _ _ (by omega) (by omega) (by omega) (by omega) (by omega) (by omega) ct.V, o _ _ (by omega) (by omega) (by omega) (by omega) (by omega) (by omega) ct.W, o _ _ (by omega) (by omega) (by omega) (by omega) (by omega) (by omega) ct.A, o _ _ (by omega) (by omega) (by omega) (by omega) (by omega) (by omega) ct.S, fun p hp => ?_, fun p hp => ?_, fun d hd => o _ _ (by omega) (by omega) (by omega) (by omega) (by omega) (by omega) (ct.vis d hd), fun w hw => o _ _ (by omega) (by omega) (by omega) (by omega) (by omega) (by omega) (ct.wp w hw), fun w hw => o _ _ (by omega) (by omega) (by omega) (by omega) (by omega) (by omega) (ct.wd w hw), fun p q hp hq => o _ _ (by omega) (by omega) (by omega) (by omega) (by omega) (by omega) (ct.odds p q hp hq), fun p hp => o _ _ (by omega) (by omega) (by omega) (by omega) (by omega) (by omega) (ct.st p hp)⟩, ⟨h.cn.at_, hP, fun p hp => ?_, fun p hp => ?_⟩, o _ _ (by omega) (by omega) (by omega) (by omega) (by omega) (by omega) h.c0, h1, by rw [hR]; exact h.town⟩
  · show τ.1 (T + 3) p = zI (if p = t.P then k else t.kind p : Nat)
    have hp : p < t.P + 1 := hp
    by_cases e : p = t.P
    · rw [if_pos e, e]; exact h3
    · rw [if_neg e]; exact o _ _ (by omega) (by omega) (by omega) (by omega) (by omega) (by omega) (ct.kind p (by omega))
  · show τ.1 (T + 4) p = zI (e5 (if p = t.P then g else t.told p) : Nat)
    have hp : p < t.P + 1 := hp
    by_cases e : p = t.P
    · rw [if_pos e, e]; exact h4
    · rw [if_neg e]; exact o _ _ (by omega) (by omega) (by omega) (by omega) (by omega) (by omega) (ct.told p (by omega))
  · have hp : p < t.P + 1 := hp
    unfold nPer
    by_cases e : p = t.P
    · rw [if_pos e]; exact hw
    · rw [if_neg e]; exact h.cn.ok p (by omega)
  · have hp : p < t.P + 1 := hp
    unfold nPer
    by_cases e : p = t.P
    · rw [if_pos e, e]; exact h5
    · rw [if_neg e]; exact (hL p e).trans (h.cn.cls p (by omega))
theorem MI_Per {σ τ : Mem} {t : TT} {N : Nat → Nat × (Nat → Nat)} (h : MI σ t N) (tb : TB t) {k : Nat} {g : Nat → Nat} {w : Nat × (Nat → Nat)} (hP : t.P < 5) (hw : nmOk w) (hO : ∀ j, j ≠ 4 → j ≠ 10 + 2 * t.P → j ≠ 11 + 2 * t.P → j ≠ 130 + t.P → ¬ (135 + 8 * t.P ≤ j ∧ j < 135 + 8 * t.P + 8) → τ.1 68 j = σ.1 68 j) (g4 : τ.1 68 4 = zI (t.P + 1 : Nat)) (g1 : τ.1 68 (10 + 2 * t.P) = zI k) (g2 : τ.1 68 (11 + 2 * t.P) = zI (e4 g)) (g3 : τ.1 68 (130 + t.P) = zI w.1) (g5 : ∀ x, x < w.1 → τ.1 68 (135 + 8 * t.P + x) = zI (w.2 x)) : MI τ (tPer t k g) (nPer N t.P w) := by
  have tC := tb.C
  have tW := tb.W
  have o : ∀ j, j ≠ 4 → j ≠ 10 + 2 * t.P → j ≠ 11 + 2 * t.P → j ≠ 130 + t.P → ¬ (135 + 8 * t.P ≤ j ∧ j < 135 + 8 * t.P + 8) → ∀ {v : Int32}, σ.1 68 j = v → τ.1 68 j = v := fun j x1 x2 x3 x4 x5 v e => (hO j x1 x2 x3 x4 x5).trans e
  have o2 : ∀ j, 20 ≤ j → j < 130 → ∀ {v : Int32}, σ.1 68 j = v → τ.1 68 j = v := fun j x1 x2 v e => o j (by omega) (by omega) (by omega) (by omega) (by omega) e
  have o3 : ∀ j, j < 10 → j ≠ 4 → ∀ {v : Int32}, σ.1 68 j = v → τ.1 68 j = v := fun j x1 x2 v e => o j (by omega) (by omega) (by omega) (by omega) (by omega) e
  have mr := h.mr
  refine ⟨⟨o3 _ (by omega) (by omega) mr.ms, o3 _ (by omega) (by omega) mr.wi, o3 _ (by omega) (by omega) mr.la, o3 _ (by omega) (by omega) mr.sh, g4, o3 _ (by omega) (by omega) mr.C, o3 _ (by omega) (by omega) mr.V, o3 _ (by omega) (by omega) mr.W, o3 _ (by omega) (by omega) mr.A, o3 _ (by omega) (by omega) mr.S, fun p hp => ?_, fun p hp => ?_, fun k0 x hk => ?_, fun d hd => o2 _ (by omega) (by omega) (mr.vis d hd), fun v hv => o2 _ (by omega) (by have hv : v < t.W := hv; omega) (mr.wp v hv), fun v hv => o2 _ (by omega) (by have hv : v < t.W := hv; omega) (mr.wd v hv), fun p q hp hq => o2 _ (by omega) (by omega) (mr.odds p q hp hq), fun p hp => o2 _ (by omega) (by omega) (mr.st p hp)⟩, ⟨hP, fun p hp => ?_, fun p hp => ?_, fun p hp x hx => ?_, fun p h1 h2 => ?_⟩⟩
  · show τ.1 68 (10 + 2 * p) = zI (if p = t.P then k else t.kind p : Nat)
    have hp : p < t.P + 1 := hp
    by_cases e : p = t.P
    · rw [if_pos e, e]; exact g1
    · rw [if_neg e]; exact o _ (by omega) (by omega) (by omega) (by omega) (by omega) (mr.kind p (by omega))
  · show τ.1 68 (11 + 2 * p) = zI (e4 (if p = t.P then g else t.told p) : Nat)
    have hp : p < t.P + 1 := hp
    by_cases e : p = t.P
    · rw [if_pos e, e]; exact g2
    · rw [if_neg e]; exact o _ (by omega) (by omega) (by omega) (by omega) (by omega) (mr.told p (by omega))
  · have lk : k0 < t.ch.length := (List.getElem?_eq_some_iff.1 (show t.ch[k0]? = some x from hk)).1
    obtain ⟨c1, c2, c3, c4⟩ := mr.ch k0 x hk
    exact ⟨o2 _ (by omega) (by omega) c1, o2 _ (by omega) (by omega) c2, o2 _ (by omega) (by omega) c3, o2 _ (by omega) (by omega) c4⟩
  · have hp : p < t.P + 1 := hp
    unfold nPer
    by_cases e : p = t.P
    · rw [if_pos e]; exact hw
    · rw [if_neg e]; exact h.mn.ok p (by omega)
  · have hp : p < t.P + 1 := hp
    unfold nPer
    by_cases e : p = t.P
    · rw [if_pos e, e]; exact g3
    · rw [if_neg e]; exact o _ (by omega) (by omega) (by omega) (by omega) (by omega) (h.mn.size p (by omega))
  · have hp : p < t.P + 1 := hp
    unfold nPer at hx ⊢
    by_cases e : p = t.P
    · rw [if_pos e] at hx ⊢; rw [e]; exact g5 x hx
    · rw [if_neg e] at hx ⊢
      have := (h.mn.ok p (by omega)).2.1
      exact o _ (by omega) (by omega) (by omega) (by omega) (by omega) (h.mn.let_ p (by omega) x hx)
  · have h1 : t.P + 1 ≤ p := h1
    exact o _ (by omega) (by omega) (by omega) (by omega) (by omega) (h.mn.none_ p (by omega) h2)
/-- what the lines tell -/
def pTown (b : Nat → Nat) (n : Nat) (t : TT) (N : Nat → Nat × (Nat → Nat)) (i : Nat) : LR := sbd (pWb b n 7 3 6 i) (fun ms q1 => sbd (pWb b n 8 0 2 (ten b n q1)) (fun wi q2 => sbd (pWb b n 9 0 3 (ten b n q2)) (fun la q3 => sbd (pWb b n 10 0 6 (ten b n q3)) (fun sh q4 => .inr ((tTown t ms wi la sh, N), ten b n q4)))))
def pChg (b : Nat → Nat) (n : Nat) (t : TT) (N : Nat → Nat × (Nat → Nat)) (i : Nat) : LR := sbd (pPp b n N t.P i) (fun p q1 => sbd (pWb b n 11 0 29 (ten b n q1)) (fun d q2 => sbd (pWb b n 12 0 (t.ms - 1) (ten b n q2)) (fun m q3 => sbd (pWb b n 13 1 3 (ten b n q3)) (fun v q4 => .inr ((tChg t (p, d, m, v), N), ten b n q4)))))
def pVis (b : Nat → Nat) (n : Nat) (t : TT) (N : Nat → Nat × (Nat → Nat)) (i : Nat) : LR := sbd (pPp b n N t.P i) (fun p q1 => sbd (pWb b n 11 0 29 (ten b n q1)) (fun d q2 => if t.vis d ≠ none then .inl (3, tpl b n q2) else if d % 7 = t.sh then .inl (8, tpl b n q2) else .inr ((tVis t p d, N), ten b n q2)))
/-- a wish told already -/
noncomputable def wshB (t : TT) (p d : Nat) : Bool := exF (fun w => decide (t.wp w = p ∧ t.wd w = d)) 0 t.W
noncomputable def pWish (b : Nat → Nat) (n : Nat) (t : TT) (N : Nat → Nat × (Nat → Nat)) (i : Nat) : LR := sbd (pPp b n N t.P i) (fun p q1 => sbd (pWb b n 11 0 29 (ten b n q1)) (fun d q2 => if wshB t p d = true then .inl (3, tpl b n q2) else .inr ((tWish t p d, N), ten b n q2)))
def pAsk (b : Nat → Nat) (n : Nat) (t : TT) (N : Nat → Nat × (Nat → Nat)) (i : Nat) : LR := sbd (pPp b n N t.P i) (fun p q1 => sbd (pPp b n N t.P (ten b n q1)) (fun q q2 => if p = q ∨ t.odds p q ≠ none then .inl (3, tpl b n q2) else sbd (pWb b n 14 0 100 (ten b n q2)) (fun v q3 => .inr ((tAsk t p q v, N), ten b n q3))))
def pStar (b : Nat → Nat) (n : Nat) (t : TT) (N : Nat → Nat × (Nat → Nat)) (i : Nat) : LR := sbd (pPp b n N t.P i) (fun p q1 => if t.st p ≠ none then .inl (3, tpl b n q1) else sbd (pWh b n 0 t.ms (ten b n q1)) (fun v q2 => .inr ((tStar t p v, N), ten b n q2)))
/-- cells of the town that are as they were -/
def KpT (T : Nat) (σ τ : Mem) : Prop := (∀ a j, T ≤ a → a ≤ T + 11 → τ.1 a j = σ.1 a j) ∧ τ.2 = σ.2
theorem FrC.kp {σ τ : Mem} (h : FrC σ τ) {T : Nat} (hT : T = 3 ∨ T = 15) : KpT T σ τ := ⟨fun a j h1 h2 => h.1 a j (by omega) (by omega), h.2⟩
theorem CTk.sT {T : Nat} {σ : Mem} {b : Nat → Nat} {n i : Nat} (h : CTk σ b n i) (hT : T = 3 ∨ T = 15) (a j : Nat) (v : Int32) (ha : T ≤ a) : CTk (sI σ a j v) b n i :=
  ⟨by rw [sI_1, if_neg (by omega)]; exact h.at_, by rw [sI_1, if_neg (by omega)]; exact h.end_, by rw [sI_1, if_neg (by omega)]; exact h.tok⟩
theorem cl_Town {σ : Mem} {T : Nat} {b : Nat → Nat} {n i : Nat} {t : TT} {N : Nat → Nat × (Nat → Nat)} (h : CTI σ T t N) (hc : TKc σ b n) (hi : i ≤ n) (ht : CTk σ b n i) (h0 : t.ms = 0) : cL σ T b n 0 (pTown b n t N i) (f_X6_townLine σ) := by
  have at_ := h.ct.at_
  unfold f_X6_townLine pTown
  refine cL_bd (c_wb hc hi ht 7 3 6 (by omega) (by omega) (by omega)) (fun τ => if_pos rfl) (fun ms q1 τ1 e1 f1 v1 s1 k1 => ?_)
  have b1 := pWb_b e1
  have T1 : τ1.2.2 27 1 = some T := by rw [f1.2]; exact h.town
  rw [if_neg (show ¬ (1 : Int32) = 0 from by decide), T1, prfc_s, pnm_e, v1]
  have w1 : FrW T τ1 (sI τ1 T 0 (zI ms)) := (FrW.refl T τ1).sT T 0 _ (by omega)
  have hc1 := (hc.fc f1).fw at_ w1
  refine cL_fr w1 (by rw [sI_1, if_neg (by omega)]) ?_
  have k1' := k1.sT at_ T 0 (zI ms) (Nat.le_refl _)
  have F1 : ∀ a j, T ≤ a → a ≤ T + 11 → ¬ (a = T ∧ j = 0) → (sI τ1 T 0 (zI ms)).1 a j = σ.1 a j := fun a j x1 x2 x3 => by rw [sI_1, if_neg x3]; exact f1.1 a j (by omega) (by omega)
  have G1 : (sI τ1 T 0 (zI ms)).1 T 0 = zI ms := by rw [sI_1, if_pos ⟨rfl, rfl⟩]
  have X1 : (sI τ1 T 0 (zI ms)).2 = σ.2 := f1.2
  revert hc1 k1' F1 G1 X1
  generalize sI τ1 T 0 (zI ms) = y1
  intro hc1 k1' F1 G1 X1
  refine cL_bd (c_wb hc1 ten_le k1' 8 0 2 (by omega) (by omega) (by omega)) (fun τ => if_pos rfl) (fun wi q2 τ2 e2 f2 v2 s2 k2 => ?_)
  have b2 := pWb_b e2
  have T2 : τ2.2.2 27 1 = some T := by rw [f2.2, X1]; exact h.town
  rw [if_neg (show ¬ (1 : Int32) = 0 from by decide), T2, prfc_s, pnm_e, v2]
  have w2 : FrW T τ2 (sI τ2 T 1 (zI wi)) := (FrW.refl T τ2).sT T 1 _ (by omega)
  have hc2 := (hc1.fc f2).fw at_ w2
  refine cL_fr w2 (by rw [sI_1, if_neg (by omega)]) ?_
  have k2' := k2.sT at_ T 1 (zI wi) (Nat.le_refl _)
  have F2 : ∀ a j, T ≤ a → a ≤ T + 11 → ¬ (a = T ∧ j = 0) → ¬ (a = T ∧ j = 1) → (sI τ2 T 1 (zI wi)).1 a j = σ.1 a j := fun a j x1 x2 x3 x4 => by rw [sI_1, if_neg x4, f2.1 a j (by omega) (by omega)]; exact F1 a j x1 x2 x3
  have G2 : (sI τ2 T 1 (zI wi)).1 T 0 = zI ms ∧ (sI τ2 T 1 (zI wi)).1 T 1 = zI wi := ⟨by rw [sI_1, if_neg (by omega), f2.1 _ _ (by omega) (by omega)]; exact G1, by rw [sI_1, if_pos ⟨rfl, rfl⟩]⟩
  have X2 : (sI τ2 T 1 (zI wi)).2 = σ.2 := f2.2.trans X1
  revert hc2 k2' F2 G2 X2
  generalize sI τ2 T 1 (zI wi) = y2
  intro hc2 k2' F2 G2 X2
  refine cL_bd (c_wb hc2 ten_le k2' 9 0 3 (by omega) (by omega) (by omega)) (fun τ => if_pos rfl) (fun la q3 τ3 e3 f3 v3 s3 k3 => ?_)
  have b3 := pWb_b e3
  have T3 : τ3.2.2 27 1 = some T := by rw [f3.2, X2]; exact h.town
  rw [if_neg (show ¬ (1 : Int32) = 0 from by decide), T3, prfc_s, pnm_e, v3]
  have w3 : FrW T τ3 (sI τ3 T 2 (zI la)) := (FrW.refl T τ3).sT T 2 _ (by omega)
  have hc3 := (hc2.fc f3).fw at_ w3
  refine cL_fr w3 (by rw [sI_1, if_neg (by omega)]) ?_
  have k3' := k3.sT at_ T 2 (zI la) (Nat.le_refl _)
  have F3 : ∀ a j, T ≤ a → a ≤ T + 11 → ¬ (a = T ∧ j = 0) → ¬ (a = T ∧ j = 1) → ¬ (a = T ∧ j = 2) → (sI τ3 T 2 (zI la)).1 a j = σ.1 a j := fun a j x1 x2 x3 x4 x5 => by rw [sI_1, if_neg x5, f3.1 a j (by omega) (by omega)]; exact F2 a j x1 x2 x3 x4
  have G3 : (sI τ3 T 2 (zI la)).1 T 0 = zI ms ∧ (sI τ3 T 2 (zI la)).1 T 1 = zI wi ∧ (sI τ3 T 2 (zI la)).1 T 2 = zI la := ⟨by rw [sI_1, if_neg (by omega), f3.1 _ _ (by omega) (by omega)]; exact G2.1, by rw [sI_1, if_neg (by omega), f3.1 _ _ (by omega) (by omega)]; exact G2.2, by rw [sI_1, if_pos ⟨rfl, rfl⟩]⟩
  have X3 : (sI τ3 T 2 (zI la)).2 = σ.2 := f3.2.trans X2
  revert hc3 k3' F3 G3 X3
  generalize sI τ3 T 2 (zI la) = y3
  intro hc3 k3' F3 G3 X3
  refine cL_bd (c_wb hc3 ten_le k3' 10 0 6 (by omega) (by omega) (by omega)) (fun τ => if_pos rfl) (fun sh q4 τ4 e4 f4 v4 s4 k4 => ?_)
  have T4 : τ4.2.2 27 1 = some T := by rw [f4.2, X3]; exact h.town
  rw [if_neg (show ¬ (1 : Int32) = 0 from by decide), T4, prfc_s, pnm_e, v4]
  have w4 : FrW T τ4 (sI τ4 T 3 (zI sh)) := (FrW.refl T τ4).sT T 3 _ (by omega)
  have k0 : (sI τ4 T 3 (zI sh)).1 (T + 1) 0 + 1 = 1 := by
    rw [sI_1, if_neg (by omega), f4.1 _ _ (by omega) (by omega), F3 _ _ (by omega) (by omega) (by omega) (by omega) (by omega), h.c0, h0]; rfl
  refine cL_r rfl w4 (k4.sT at_ T 3 _ (Nat.le_refl _)) (by rw [sI_1, if_neg (by omega)]) ?_
  rw [k0]
  refine CTI_Town h (by omega) (fun a j x1 x2 x3 x4 x5 x6 x7 => ?_) (f4.2.trans X3) ?_ ?_ ?_ ?_ ?_
  · rw [sI_1, if_neg x7, sI_1, if_neg x6, f4.1 a j (by omega) (by omega)]; exact F3 a j x1 x2 x3 x4 x5
  · rw [sI_1, if_neg (by omega), sI_1, if_neg (by omega), f4.1 _ _ (by omega) (by omega)]; exact G3.1
  · rw [sI_1, if_neg (by omega), sI_1, if_neg (by omega), f4.1 _ _ (by omega) (by omega)]; exact G3.2.1
  · rw [sI_1, if_neg (by omega), sI_1, if_neg (by omega), f4.1 _ _ (by omega) (by omega)]; exact G3.2.2
  · rw [sI_1, if_neg (by omega), sI_1, if_pos ⟨rfl, rfl⟩]
  · rw [sI_1, if_pos ⟨rfl, rfl⟩]
theorem cl_Chg {σ : Mem} {T : Nat} {b : Nat → Nat} {n i : Nat} {t : TT} {N : Nat → Nat × (Nat → Nat)} (h : CTI σ T t N) (ti : TI t) (hc : TKc σ b n) (hi : i ≤ n) (ht : CTk σ b n i) : cL σ T b n 2 (pChg b n t N i) (f_X6_changeLine σ) := by
  have at_ := h.ct.at_
  have tb := ti.tb
  have tms := tb.ms
  have tP := tb.P
  have aa := ct_aln at_
  unfold f_X6_changeLine pChg
  refine cL_bd (c_pp hc hi ht h.cn h.ct.P h.town) (fun τ => if_pos rfl) (fun p q1 τ1 e1 f1 v1 s1 k1 => ?_)
  have b1 := pPp_b e1
  have ms3 := tb.ms3 (by omega)
  have h1 := h.fc f1
  have hc1 := hc.fc f1
  rw [if_neg (show ¬ (1 : Int32) = 0 from by decide), pnm_e, v1]
  refine cL_bd (c_wb hc1 ten_le k1 11 0 29 (by omega) (by omega) (by omega)) (fun τ => if_pos rfl) (fun d q2 τ2 e2 f2 v2 s2 k2 => ?_)
  have b2 := pWb_b e2
  have h2 := h1.fc f2
  have hc2 := hc1.fc f2
  rw [if_neg (show ¬ (1 : Int32) = 0 from by decide), pnm_e, h2.town, prfc_s, v2, h2.ct.ms, show zI (t.ms : Nat) - 1 = zI (t.ms - 1 : Nat) from by show _ - zI 1 = _; rw [zI_sub]; congr 1; omega]
  refine cL_bd (c_wb hc2 ten_le k2 12 0 (t.ms - 1) (by omega) (by omega) (by omega)) (fun τ => if_pos rfl) (fun m q3 τ3 e3 f3 v3 s3 k3 => ?_)
  have b3 := pWb_b e3
  have h3 := h2.fc f3
  have hc3 := hc2.fc f3
  rw [if_neg (show ¬ (1 : Int32) = 0 from by decide), pnm_e, v3]
  refine cL_bd (c_wb hc3 ten_le k3 13 1 3 (by omega) (by omega) (by omega)) (fun τ => if_pos rfl) (fun v q4 τ4 e4 f4 v4 s4 k4 => ?_)
  have b4 := pWb_b e4
  have h4 := h3.fc f4
  obtain ⟨υ, u1, u2, u3, u4⟩ := g_goOn (σ := τ4) (k := T + 5) aa.2.2.2.2.1 tP (fun q d => lk t t.ch q d) (fun q d => lk_lt _ _ _ _) h4.look (p := p) (m := m) (fr := d) (by_ := v) (by omega) (by omega) (by omega)
  rw [if_neg (show ¬ (1 : Int32) = 0 from by decide), h4.town, prfc_s, v4, u1, pbd1_s]
  have wW : FrW T τ4 υ := ⟨fun a j x1 x2 x3 => congrFun (u3 a (by omega)) j, fun a _ => by rw [u2], by rw [u2]⟩
  refine cL_r rfl wW ⟨by rw [u3 _ (by omega)]; exact k4.at_, by rw [u3 _ (by omega)]; exact k4.end_, by rw [u3 _ (by omega)]; exact k4.tok⟩ (by rw [u3 _ (by omega)]) ?_
  refine CTI_Chg h4 (fun a j x1 x2 x3 x4 => ?_) u2 (fun q x hq hx => ?_) ?_
  · rw [sI_1, if_neg x4]; exact congrFun (u3 a x3) j
  · rw [sI_1, if_neg (by omega)]
    refine (u4 q x hq hx).trans ?_
    rw [lk_add]
  · rw [sI_1, if_pos ⟨rfl, rfl⟩, u3 _ (by omega), h4.ct.C, zI_sc]
theorem cl_Vis {σ : Mem} {T : Nat} {b : Nat → Nat} {n i : Nat} {t : TT} {N : Nat → Nat × (Nat → Nat)} (h : CTI σ T t N) (ti : TI t) (hc : TKc σ b n) (hi : i ≤ n) (ht : CTk σ b n i) : cL σ T b n 3 (pVis b n t N i) (f_X6_visitLine σ) := by
  have at_ := h.ct.at_
  have tb := ti.tb
  have tms := tb.ms
  have tP := tb.P
  have aa := ct_aln at_
  unfold f_X6_visitLine pVis
  refine cL_bd (c_pp hc hi ht h.cn h.ct.P h.town) (fun τ => if_pos rfl) (fun p q1 τ1 e1 f1 v1 s1 k1 => ?_)
  have b1 := pPp_b e1
  have h1 := h.fc f1
  have hc1 := hc.fc f1
  rw [if_neg (show ¬ (1 : Int32) = 0 from by decide), pnm_e, v1]
  refine cL_bd (c_wb hc1 ten_le k1 11 0 29 (by omega) (by omega) (by omega)) (fun τ => if_pos rfl) (fun d q2 τ2 e2 f2 v2 s2 k2 => ?_)
  have b2 := pWb_b e2
  have h2 := h1.fc f2
  rw [if_neg (show ¬ (1 : Int32) = 0 from by decide), h2.town, prfc_s, v2, g_get (h2.ct.vis d (by omega)) (by omega) (by omega), pbd1_s]
  by_cases c : t.vis d = none
  · rw [if_pos (show zI (oC (t.vis d)) = -2 from by rw [c]; rfl), if_neg (show ¬ (t.vis d ≠ none) from fun x => x c), prfc_s, c_shut h2.ct tb (by omega), pbd1_s]
    by_cases c2 : d % 7 = t.sh
    · rw [decide_eq_true c2, if_neg (show ¬ bI true = 0 from by decide), if_pos c2]
      exact cL_fail s2
    · rw [decide_eq_false c2, if_pos (show bI false = 0 from rfl), if_neg c2, prfc_s, f_setN (by omega) (by omega), pbd1_s]
      refine cL_r rfl ((FrW.refl T τ2).sT _ _ _ (by omega)) (k2.sT at_ _ _ _ (by omega)) (by rw [sI_1, if_neg (by omega)]) ?_
      refine CTI_Vis h2 (fun a j x1 x2 x3 x4 => ?_) rfl ?_ ?_
      · rw [sI_1, if_neg x4, sI_1, if_neg x3]
      · rw [sI_1, if_neg (by omega), sI_1, if_pos ⟨rfl, rfl⟩]
      · rw [sI_1, if_pos ⟨rfl, rfl⟩, sI_1, if_neg (by omega), h2.ct.V, zI_sc]
  · obtain ⟨x, hx⟩ := Option.ne_none_iff_exists'.1 c
    have := tb.vis d x hx
    rw [if_neg (show ¬ zI (oC (t.vis d)) = -2 from by
      rw [hx]
      show ¬ zI (x : Nat) = zI (-2)
      rw [zI_eq (by omega) (by omega)]; omega), if_pos (show t.vis d ≠ none from c)]
    exact cL_fail s2
theorem c_wshd {σ : Mem} {T : Nat} {t : TT} (hT : CT σ T t) (tb : TB t) {p d : Nat} (hp : p < t.P) (hd : d < 30) : f_X11_isWished σ T (zI p) (zI d) = some (bI (wshB t p d)) := by
  have tP := tb.P
  have tW := tb.W
  have aa := ct_aln hT.at_
  unfold f_X11_isWished
  rw [ct_wishes hT]
  refine (fx1_ex (fun w => decide (t.wp w = p ∧ t.wd w = d)) t.W 0 (some 1) (some 0) (by omega) rfl (fun k => ?_) (fun w hw k => ?_)).trans ?_
  · rw [pbd1_s, if_pos (by rw [zI_le (by omega) (by omega)]; omega)]
  · have w1 := tb.wp w hw
    have w2 := tb.wd w hw
    rw [pbd1_s, if_neg (by rw [zI_le (by omega) (by omega)]; omega), g_get (hT.wp w hw) (by omega) (by omega), pbd1_s, jn0_e]
    by_cases c : t.wp w = p
    · rw [if_pos (show zI (t.wp w : Nat) = zI p from by rw [c]), g_get (hT.wd w hw) (by omega) (by omega), pbd1_s]
      by_cases c2 : t.wd w = d
      · rw [if_pos (show zI (t.wd w : Nat) = zI d from by rw [c2]), if_pos (decide_eq_true ⟨c, c2⟩)]
      · rw [if_neg (show ¬ zI (t.wd w : Nat) = zI d from by rw [zI_eq (by omega) (by omega)]; omega), if_neg (show ¬ decide (t.wp w = p ∧ t.wd w = d) = true from by simp [c2]), pnm_e, zI_sc]
    · rw [if_neg (show ¬ zI (t.wp w : Nat) = zI p from by rw [zI_eq (by omega) (by omega)]; omega), if_neg (show ¬ decide (t.wp w = p ∧ t.wd w = d) = true from by simp [c]), pnm_e, zI_sc]
  · unfold wshB
    split
    · rename_i q; rw [q]; rfl
    · rename_i q
      have q : exF (fun w => decide (t.wp w = p ∧ t.wd w = d)) 0 t.W = false := by simpa using q
      rw [q]; rfl
theorem cl_Wish {σ : Mem} {T : Nat} {b : Nat → Nat} {n i : Nat} {t : TT} {N : Nat → Nat × (Nat → Nat)} (h : CTI σ T t N) (ti : TI t) (hW : t.W < 5) (hc : TKc σ b n) (hi : i ≤ n) (ht : CTk σ b n i) : cL σ T b n 4 (pWish b n t N i) (f_X6_wishLine σ) := by
  have at_ := h.ct.at_
  have tb := ti.tb
  have tms := tb.ms
  have tP := tb.P
  have aa := ct_aln at_
  unfold f_X6_wishLine pWish
  refine cL_bd (c_pp hc hi ht h.cn h.ct.P h.town) (fun τ => if_pos rfl) (fun p q1 τ1 e1 f1 v1 s1 k1 => ?_)
  have b1 := pPp_b e1
  have h1 := h.fc f1
  have hc1 := hc.fc f1
  rw [if_neg (show ¬ (1 : Int32) = 0 from by decide), pnm_e, v1]
  refine cL_bd (c_wb hc1 ten_le k1 11 0 29 (by omega) (by omega) (by omega)) (fun τ => if_pos rfl) (fun d q2 τ2 e2 f2 v2 s2 k2 => ?_)
  have b2 := pWb_b e2
  have h2 := h1.fc f2
  have cnt : f_X11_count τ2 T 4 = some (zI t.W) := by
    unfold f_X11_count
    rw [show lnNum.getD 4 0 = zI (4 : Nat) from rfl, g_get h2.ct.W (by omega) (by omega)]; rfl
  rw [if_neg (show ¬ (1 : Int32) = 0 from by decide), h2.town, prfc_s, v2, c_wshd h2.ct tb (by omega) (by omega), pbd1_s]
  by_cases c : wshB t p d = true
  · rw [c, if_neg (show ¬ bI true = 0 from by decide), if_pos (show true = true from rfl)]
    exact cL_fail s2
  · have c : wshB t p d = false := by simpa using c
    rw [c, if_pos (show bI false = 0 from rfl), if_neg (show ¬ (false = true) from by decide), prfc_s, cnt, pbd1_s, prfc_s, f_setN (by omega) (by omega), pbd1_s, show (sI τ2 (T + 8) t.W (zI p)).2.2 27 1 = some T from h2.town, prfc_s, show (sI τ2 (T + 8) t.W (zI p)).1 27 2 = zI d from by rw [sI_1, if_neg (by omega)]; exact v2, f_setN (by omega) (by omega), pbd1_s]
    refine cL_r rfl (((FrW.refl T τ2).sT _ _ _ (by omega)).sT _ _ _ (by omega)) ((k2.sT at_ _ _ _ (by omega)).sT at_ _ _ _ (by omega)) (by rw [sI_1, if_neg (by omega), sI_1, if_neg (by omega)]) ?_
    refine CTI_Wish h2 (fun a j x1 x2 x3 x4 x5 => ?_) rfl ?_ ?_ ?_
    · rw [sI_1, if_neg x5, sI_1, if_neg x4, sI_1, if_neg x3]
    · rw [sI_1, if_neg (by omega), sI_1, if_neg (by omega), sI_1, if_pos ⟨rfl, rfl⟩]
    · rw [sI_1, if_neg (by omega), sI_1, if_pos ⟨rfl, rfl⟩]
    · rw [sI_1, if_pos ⟨rfl, rfl⟩, sI_1, if_neg (by omega), sI_1, if_neg (by omega), h2.ct.W, zI_sc]
theorem cl_Ask {σ : Mem} {T : Nat} {b : Nat → Nat} {n i : Nat} {t : TT} {N : Nat → Nat × (Nat → Nat)} (h : CTI σ T t N) (ti : TI t) (hc : TKc σ b n) (hi : i ≤ n) (ht : CTk σ b n i) : cL σ T b n 5 (pAsk b n t N i) (f_X6_asksLine σ) := by
  have at_ := h.ct.at_
  have tb := ti.tb
  have tms := tb.ms
  have tP := tb.P
  have aa := ct_aln at_
  unfold f_X6_asksLine pAsk
  refine cL_bd (c_pp hc hi ht h.cn h.ct.P h.town) (fun τ => if_pos rfl) (fun p q1 τ1 e1 f1 v1 s1 k1 => ?_)
  have b1 := pPp_b e1
  have h1 := h.fc f1
  have hc1 := hc.fc f1
  rw [if_neg (show ¬ (1 : Int32) = 0 from by decide), pnm_e, v1]
  refine cL_bd (c_pp hc1 ten_le k1 h1.cn h1.ct.P h1.town) (fun τ => if_pos rfl) (fun q q2 τ2 e2 f2 v2 s2 k2 => ?_)
  have b2 := pPp_b e2
  have h2 := h1.fc f2
  have hc2 := hc1.fc f2
  rw [if_neg (show ¬ (1 : Int32) = 0 from by decide), pnm_e, v2, jn0_e]
  by_cases c : q = p
  · rw [if_pos (show zI (q : Nat) = zI p from by rw [c]), if_pos (show p = q ∨ t.odds p q ≠ none from Or.inl c.symm)]
    exact cL_fail s2
  · have e : askB t p q = decide (t.odds p q ≠ none) := by
      unfold askB
      cases t.odds p q <;> rfl
    rw [if_neg (show ¬ zI (q : Nat) = zI p from by rw [zI_eq (by omega) (by omega)]; omega), h2.town, prfc_s, c_asks h2.ct tb (by omega) (by omega), pbd1_s, e]
    by_cases c2 : t.odds p q ≠ none
    · rw [decide_eq_true c2, if_neg (show ¬ bI true = 0 from by decide), if_pos (show p = q ∨ t.odds p q ≠ none from Or.inr c2)]
      exact cL_fail s2
    · rw [decide_eq_false c2, if_pos (show bI false = 0 from rfl), if_neg (show ¬ (p = q ∨ t.odds p q ≠ none) from fun x => x.elim (fun y => c y.symm) c2)]
      refine cL_bd (c_wb hc2 ten_le k2 14 0 100 (by omega) (by omega) (by omega)) (fun τ => if_pos rfl) (fun v q3 τ3 e3 f3 v3 s3 k3 => ?_)
      have b3 := pWb_b e3
      have h3 := h2.fc f3
      rw [if_neg (show ¬ (1 : Int32) = 0 from by decide), h3.town, prfc_s, v3, show zI (p : Nat) * 5 + zI (q : Nat) = zI (p * 5 + q : Nat) from by show _ * zI 5 + _ = _; rw [zI_mul, zI_add]; congr 1, f_setN (by omega) (by omega), pbd1_s]
      refine cL_r rfl ((FrW.refl T τ3).sT _ _ _ (by omega)) (k3.sT at_ _ _ _ (by omega)) (by rw [sI_1, if_neg (by omega)]) ?_
      refine CTI_Ask h3 (by omega) (fun a j x1 x2 x3 x4 => ?_) rfl ?_ ?_
      · rw [sI_1, if_neg x4, sI_1, if_neg x3]
      · rw [sI_1, if_neg (by omega), sI_1, if_pos ⟨rfl, rfl⟩]
      · rw [sI_1, if_pos ⟨rfl, rfl⟩, sI_1, if_neg (by omega), h3.ct.A, zI_sc]
theorem cl_Star {σ : Mem} {T : Nat} {b : Nat → Nat} {n i : Nat} {t : TT} {N : Nat → Nat × (Nat → Nat)} (h : CTI σ T t N) (ti : TI t) (hc : TKc σ b n) (hi : i ≤ n) (ht : CTk σ b n i) : cL σ T b n 6 (pStar b n t N i) (f_X6_stareLine σ) := by
  have at_ := h.ct.at_
  have tb := ti.tb
  have tms := tb.ms
  have tP := tb.P
  have aa := ct_aln at_
  unfold f_X6_stareLine pStar
  refine cL_bd (c_pp hc hi ht h.cn h.ct.P h.town) (fun τ => if_pos rfl) (fun p q1 τ1 e1 f1 v1 s1 k1 => ?_)
  have b1 := pPp_b e1
  have h1 := h.fc f1
  have hc1 := hc.fc f1
  have sa : f_X11_isStaredAt τ1 T (zI p) = some (bI (decide (t.st p ≠ none))) := by
    unfold f_X11_isStaredAt
    rw [g_get (h1.ct.st p (by omega)) (by omega) (by omega), pbd1_s]
    cases c : t.st p with
    | none => rfl
    | some x =>
      have := tb.st p x c
      rw [if_neg (show ¬ zI (oC (some x)) < 0 from by
        show ¬ zI (x : Nat) < zI 0
        rw [zI_lt (by omega) (by omega)]; omega)]
      rfl
  rw [if_neg (show ¬ (1 : Int32) = 0 from by decide), pnm_e, v1, h1.town, prfc_s, sa, pbd1_s]
  by_cases c : t.st p ≠ none
  · rw [decide_eq_true c, if_neg (show ¬ bI true = 0 from by decide), if_pos c]
    exact cL_fail s1
  · rw [decide_eq_false c, if_pos (show bI false = 0 from rfl), if_neg c, prfc_s, h1.ct.ms]
    refine cL_bd (c_wh hc1 ten_le k1 0 t.ms (by omega) (by omega)) (fun τ => if_pos rfl) (fun v q2 τ2 e2 f2 v2 s2 k2 => ?_)
    have h2 := h1.fc f2
    rw [if_neg (show ¬ (1 : Int32) = 0 from by decide), h2.town, prfc_s, v2, f_setN (by omega) (by omega), pbd1_s]
    refine cL_r rfl ((FrW.refl T τ2).sT _ _ _ (by omega)) (k2.sT at_ _ _ _ (by omega)) (by rw [sI_1, if_neg (by omega)]) ?_
    refine CTI_Star h2 (fun a j x1 x2 x3 x4 => ?_) rfl ?_ ?_
    · rw [sI_1, if_neg x4, sI_1, if_neg x3]
    · rw [sI_1, if_neg (by omega), sI_1, if_pos ⟨rfl, rfl⟩]
    · rw [sI_1, if_pos ⟨rfl, rfl⟩, sI_1, if_neg (by omega), h2.ct.S, zI_sc]
theorem x68_l {β : Type} {i : Int32} {k : Option β} (h : 0 ≤ i.toInt ∧ i.toInt < 175) : ixd i (aln 68) k = k := by
  rw [zI_all i]
  exact ixd_in ⟨h.1, by show i.toInt < 175; exact h.2, by decide⟩
theorem x68 {β : Type} {i : Nat} {k : Option β} (h : i < 175) : ixd (zI i) (aln 68) k = k := ixd_in ⟨by omega, by show (i : Int) < 175; omega, by decide⟩
theorem s13 {τ : Mem} {j : Nat} {v : Int32} {x : Int32} (h : τ.1 64 13 = x) : (sI τ 68 j v).1 64 13 = x := by rw [sI_1, if_neg (by omega)]; exact h
theorem MTk.s8 {σ : Mem} {b : Nat → Nat} {n i : Nat} (h : MTk σ b n i) (j : Nat) (v : Int32) : MTk (sI σ 68 j v) b n i := by
  refine ⟨by rw [sI_1, if_neg (by omega)]; exact h.at_, by rw [sI_1, if_neg (by omega)]; exact h.end_, by rw [sI_1, if_neg (by omega)]; exact h.tok, by rw [sI_1, if_neg (by omega)]; exact h.size, fun q x hx => by rw [sI_1, if_neg (by omega)]; exact h.let_ q x hx, fun q => by rw [sI_1, if_neg (by omega)]; exact h.whole q⟩
theorem TKm.s8 {σ : Mem} {b : Nat → Nat} {n : Nat} (h : TKm σ b n) (j : Nat) (v : Int32) : TKm (sI σ 68 j v) b n := h.fv ((FrV.refl σ).s8 j v)
theorem mF_xl {τ : Mem} {i : Int32} {k : Option Mem} (h : 0 ≤ i.toInt ∧ i.toInt < 175) (H : mF τ k) : mF τ (ixd i (aln 68) k) := by rw [x68_l h]; exact H
theorem mF_xz {τ : Mem} {i : Nat} {k : Option Mem} (h : i < 175) (H : mF τ k) : mF τ (ixd (zI i) (aln 68) k) := by rw [x68 h]; exact H
theorem mF_nm {τ : Mem} {j : Nat} {v : Int32} {k : Mem → Option Mem} (h : τ.1 64 13 = 1) (H : ∀ y, y.1 64 13 = 1 → mF y (k y)) : mF τ (nm (sI τ 68 j v) k) := mF_8 (H _ (s13 h))
theorem mF_i {τ : Mem} {a : Option Mem} (h : τ.1 64 13 = 1) : mF τ (if τ.1 64 13 = 0 then a else some τ) := by
  rw [if_neg (by rw [h]; decide)]; exact mF_s h
theorem mF_a {τ : Mem} {s : Nat} {lo hi : Int32} {K : Int32 → Mem → Option Mem} (h : τ.1 64 13 = 1) (H : mF τ (K lo τ)) : mF τ (bd2 (f_X13_after τ s lo hi) K) := by rw [m_aF h, pbd2_s]; exact H
theorem mF_ah {τ : Mem} {s : Nat} {lo hi : Int32} {K : Int32 → Mem → Option Mem} (h : τ.1 64 13 = 1) (H : mF τ (K lo τ)) : mF τ (bd2 (f_X13_afterHere τ s lo hi) K) := by rw [m_ahF h, pbd2_s]; exact H
theorem mF_n {τ : Mem} {lo hi : Int32} {K : Int32 → Mem → Option Mem} (h : τ.1 64 13 = 1) (H : mF τ (K lo τ)) : mF τ (bd2 (f_X13_number τ lo hi) K) := by rw [m_nF h, pbd2_s]; exact H
theorem mF_ph {τ : Mem} {K : Int32 → Mem → Option Mem} (h : τ.1 64 13 = 1) (H : mF τ (K 0 τ)) : mF τ (bd2 (f_X13_personHere τ) K) := by rw [m_phF h, pbd2_s]; exact H
theorem ml_Town {σ : Mem} {b : Nat → Nat} {n i : Nat} {t : TT} {N : Nat → Nat × (Nat → Nat)} (h : MI σ t N) (ti : TI t) (hk : TKm σ b n) (ht : MTk σ b n i) (hf : σ.1 64 13 = 0) (h0 : t.ms = 0) : mL σ b n (pTown b n t N (ten b n i)) (f_X13_townLine σ) := by
  unfold f_X13_townLine pTown
  rw [x68_l (by decide), jn1_e]
  dsimp only
  rw [if_pos (show σ.1 68 (0 : Int32).toNatClampNeg ≤ 0 from by rw [show σ.1 68 (0 : Int32).toNatClampNeg = zI t.ms from h.mr.ms, h0]; decide), if_pos hf]
  obtain ⟨y, y1, y2, y3⟩ := m_next hk (i := ten b n i) ten_le ht.end_
  have hk0 := hk.fm y2.toM
  have F0 : ∀ j, y.1 68 j = σ.1 68 j := fun j => y2.1 _ _ (by omega) (by omega)
  rw [y1, pbd1_s]
  refine mL_fr y2.toM.toV ?_
  refine mL_bd (m_a hk0 ten_le y3 (by omega) (by rw [y2.1 _ _ (by omega) (by omega)]; exact hf) 3 6 (by omega) (by omega)) (fun v τ f z => ?_) (fun ms q1 τ1 e1 f1 k1 z1 l1 => ?_)
  · refine mF_a z (mF_xl (by decide) (mF_nm z (fun y1 z1 => mF_a z1 (mF_xl (by decide) (mF_nm z1 (fun y2 z2 => mF_a z2 (mF_xl (by decide) (mF_nm z2 (fun y3 z3 => mF_i z3)))))))))
  have hk1 := hk0.fm f1
  have F1 : ∀ j, τ1.1 68 j = σ.1 68 j := fun j => (f1.1 _ _ (by omega) (by omega)).trans (F0 j)
  refine mL_bd (m_a hk1 ten_le k1 (by omega) z1 0 2 (by omega) (by omega)) (fun v τ f z => ?_) (fun wi q2 τ2 e2 f2 k2 z2 l2 => ?_)
  · refine mF_xl (by decide) (mF_nm z (fun y1 z1 => mF_a z1 (mF_xl (by decide) (mF_nm z1 (fun y2 z2 => mF_a z2 (mF_xl (by decide) (mF_nm z2 (fun y3 z3 => mF_i z3))))))))
  rw [x68_l (by decide), pnm_e, show (1 : Int32).toNatClampNeg = 1 from rfl]
  refine mL_fr ((FrV.refl τ2).s8 1 (zI wi)) ?_
  have hk2 := (hk1.fm f2).s8 1 (zI wi)
  have k2' := k2.s8 1 (zI wi)
  have z2' : (sI τ2 68 1 (zI wi)).1 64 13 = 0 := s13 z2
  have F2 : ∀ j, j ≠ 1 → (sI τ2 68 1 (zI wi)).1 68 j = σ.1 68 j := fun j hj => by rw [sI_1, if_neg (by omega), f2.1 _ _ (by omega) (by omega)]; exact F1 j
  have G2 : (sI τ2 68 1 (zI wi)).1 68 1 = zI wi := by rw [sI_1, if_pos ⟨rfl, rfl⟩]
  revert hk2 k2' z2' F2 G2
  generalize sI τ2 68 1 (zI wi) = y2
  intro hk2 k2' z2' F2 G2
  refine mL_bd (m_a hk2 ten_le k2' (by omega) z2' 0 3 (by omega) (by omega)) (fun v τ f z => ?_) (fun la q3 τ3 e3 f3 k3 z3 l3 => ?_)
  · refine mF_xl (by decide) (mF_nm z (fun y2 z2 => mF_a z2 (mF_xl (by decide) (mF_nm z2 (fun y3 z3 => mF_i z3)))))
  rw [x68_l (by decide), pnm_e, show (2 : Int32).toNatClampNeg = 2 from rfl]
  refine mL_fr ((FrV.refl τ3).s8 2 (zI la)) ?_
  have hk3 := (hk2.fm f3).s8 2 (zI la)
  have k3' := k3.s8 2 (zI la)
  have z3' : (sI τ3 68 2 (zI la)).1 64 13 = 0 := s13 z3
  have F3 : ∀ j, j ≠ 1 → j ≠ 2 → (sI τ3 68 2 (zI la)).1 68 j = σ.1 68 j := fun j hj hj2 => by rw [sI_1, if_neg (by omega), f3.1 _ _ (by omega) (by omega)]; exact F2 j hj
  have G3 : (sI τ3 68 2 (zI la)).1 68 1 = zI wi ∧ (sI τ3 68 2 (zI la)).1 68 2 = zI la := ⟨by rw [sI_1, if_neg (by omega), f3.1 _ _ (by omega) (by omega)]; exact G2, by rw [sI_1, if_pos ⟨rfl, rfl⟩]⟩
  revert hk3 k3' z3' F3 G3
  generalize sI τ3 68 2 (zI la) = y3
  intro hk3 k3' z3' F3 G3
  refine mL_bd (m_a hk3 ten_le k3' (by omega) z3' 0 6 (by omega) (by omega)) (fun v τ f z => ?_) (fun sh q4 τ4 e4 f4 k4 z4 l4 => ?_)
  · refine mF_xl (by decide) (mF_nm z (fun y3 z3 => mF_i z3))
  rw [x68_l (by decide), pnm_e, show (3 : Int32).toNatClampNeg = 3 from rfl, if_pos (s13 z4), x68_l (by decide), pnm_e, show (0 : Int32).toNatClampNeg = 0 from rfl]
  refine mL_r rfl (((FrV.refl τ4).s8 3 _).s8 0 _) ((k4.s8 3 _).s8 0 _) (s13 (s13 z4)) ?_
  refine MI_Town h ti.tb (fun j j0 j1 j2 j3 => ?_) ?_ ?_ ?_ ?_
  · rw [sI_1, if_neg (by omega), sI_1, if_neg (by omega), f4.1 _ _ (by omega) (by omega)]; exact F3 j j1 j2
  · rw [sI_1, if_pos ⟨rfl, rfl⟩]
  · rw [sI_1, if_neg (by omega), sI_1, if_neg (by omega), f4.1 _ _ (by omega) (by omega)]; exact G3.1
  · rw [sI_1, if_neg (by omega), sI_1, if_neg (by omega), f4.1 _ _ (by omega) (by omega)]; exact G3.2
  · rw [sI_1, if_neg (by omega), sI_1, if_pos ⟨rfl, rfl⟩]
theorem ml_TownA {σ : Mem} {b : Nat → Nat} {n i : Nat} {t : TT} {N : Nat → Nat × (Nat → Nat)} (h : MI σ t N) (ti : TI t) (ht : MTk σ b n i) (hf : σ.1 64 13 = 0) (h0 : t.ms ≠ 0) : mL σ b n (.inl (3, tpl b n i)) (f_X13_townLine σ) := by
  have := ti.tb.ms
  unfold f_X13_townLine
  rw [x68_l (by decide), jn1_e]
  dsimp only
  rw [if_neg (show ¬ (σ.1 68 (0 : Int32).toNatClampNeg ≤ 0) from by rw [show σ.1 68 (0 : Int32).toNatClampNeg = zI t.ms from h.mr.ms, show (0 : Int32) = zI 0 from rfl, zI_le (by omega) (by omega)]; omega), ht.at_, show (3 : Int32) = zI (3 : Nat) from rfl, m_wrong hf, pbd1_s, if_neg (by rw [wr_13]; decide)]
  exact mL_w (mF_s (wr_13 _ _ _)) (FrV.refl σ)
theorem ml_Chg {σ : Mem} {b : Nat → Nat} {n i : Nat} {t : TT} {N : Nat → Nat × (Nat → Nat)} (h : MI σ t N) (ti : TI t) (hC : t.ch.length < 10) (hk : TKm σ b n) (hi : i ≤ n) (ht : MTk σ b n i) (hf : σ.1 64 13 = 0) : mL σ b n (pChg b n t N i) (f_X13_changeLine σ) := by
  have tb := ti.tb
  have tP := tb.P
  have tms := tb.ms
  obtain ⟨C, hCe⟩ : ∃ C, C = t.ch.length := ⟨_, rfl⟩
  unfold f_X13_changeLine pChg
  rw [if_pos hf, x68_l (by decide), show σ.1 68 (5 : Int32).toNatClampNeg = zI C from hCe ▸ h.mr.C, show (20 : Int32) + 4 * zI C = zI (20 + 4 * C : Nat) from by show zI 20 + zI 4 * _ = _; rw [zI_mul, zI_add]; congr 1, pnm_e]
  have i1 : zI (20 + 4 * C : Nat) + 1 = zI (20 + 4 * C + 1 : Nat) := zI_sc _
  have i2 : zI (20 + 4 * C : Nat) + 2 = zI (20 + 4 * C + 2 : Nat) := by show _ + zI 2 = _; rw [zI_add]; rfl
  have i3 : zI (20 + 4 * C : Nat) + 3 = zI (20 + 4 * C + 3 : Nat) := by show _ + zI 3 = _; rw [zI_add]; rfl
  have tn : ∀ k : Nat, k < 1000 → (zI (k : Nat)).toNatClampNeg = k := fun k hk => by rw [zI_nat (by omega)]; omega
  rw [i1, i2, i3, tn _ (by omega), tn _ (by omega), tn _ (by omega), tn _ (by omega)]
  refine mL_bd (m_pp hk hi ht h.mn hf) (fun v τ f z => ?_) (fun p q1 τ1 e1 f1 k1 z1 l1 => ?_)
  · exact mF_xz (by omega) (mF_nm z (fun y1 z1 => mF_a z1 (mF_xz (by omega) (mF_nm z1 (fun y2 z2 => mF_xl (by decide) (mF_a z2 (mF_xz (by omega) (mF_nm z2 (fun y3 z3 => mF_a z3 (mF_xz (by omega) (mF_nm z3 (fun y4 z4 => mF_i z4)))))))))))) 
  have b1 := pPp_b e1
  have ms3 := tb.ms3 (by omega)
  rw [x68 (by omega), pnm_e]
  refine mL_fr ((FrV.refl τ1).s8 (20 + 4 * C) (zI p)) ?_
  have hk1 := (hk.fm f1).s8 (20 + 4 * C) (zI p)
  have k1' := k1.s8 (20 + 4 * C) (zI p)
  have z1' : (sI τ1 68 (20 + 4 * C) (zI p)).1 64 13 = 0 := s13 z1
  have F1 : ∀ j, j ≠ 20 + 4 * C → (sI τ1 68 (20 + 4 * C) (zI p)).1 68 j = σ.1 68 j := fun j hj => by rw [sI_1, if_neg (by omega)]; exact f1.1 _ _ (by omega) (by omega)
  have G1 : (sI τ1 68 (20 + 4 * C) (zI p)).1 68 (20 + 4 * C) = zI p := by rw [sI_1, if_pos ⟨rfl, rfl⟩]
  revert hk1 k1' z1' F1 G1
  generalize sI τ1 68 (20 + 4 * C) (zI p) = y1
  intro hk1 k1' z1' F1 G1
  refine mL_bd (m_a hk1 ten_le k1' (by omega) z1' 0 29 (by omega) (by omega)) (fun v τ f z => ?_) (fun d q2 τ2 e2 f2 k2 z2 l2 => ?_)
  · exact mF_xz (by omega) (mF_nm z (fun y2 z2 => mF_xl (by decide) (mF_a z2 (mF_xz (by omega) (mF_nm z2 (fun y3 z3 => mF_a z3 (mF_xz (by omega) (mF_nm z3 (fun y4 z4 => mF_i z4)))))))))
  rw [x68 (by omega), pnm_e]
  refine mL_fr ((FrV.refl τ2).s8 (20 + 4 * C + 1) (zI d)) ?_
  have hk2 := (hk1.fm f2).s8 (20 + 4 * C + 1) (zI d)
  have k2' := k2.s8 (20 + 4 * C + 1) (zI d)
  have z2' : (sI τ2 68 (20 + 4 * C + 1) (zI d)).1 64 13 = 0 := s13 z2
  have F2 : ∀ j, j ≠ 20 + 4 * C → j ≠ 20 + 4 * C + 1 → (sI τ2 68 (20 + 4 * C + 1) (zI d)).1 68 j = σ.1 68 j := fun j hj hj2 => by rw [sI_1, if_neg (by omega), f2.1 _ _ (by omega) (by omega)]; exact F1 j hj
  have G2 : (sI τ2 68 (20 + 4 * C + 1) (zI d)).1 68 (20 + 4 * C) = zI p ∧ (sI τ2 68 (20 + 4 * C + 1) (zI d)).1 68 (20 + 4 * C + 1) = zI d := ⟨by rw [sI_1, if_neg (by omega), f2.1 _ _ (by omega) (by omega)]; exact G1, by rw [sI_1, if_pos ⟨rfl, rfl⟩]⟩
  revert hk2 k2' z2' F2 G2
  generalize sI τ2 68 (20 + 4 * C + 1) (zI d) = y2
  intro hk2 k2' z2' F2 G2
  rw [x68_l (by decide), show y2.1 68 (0 : Int32).toNatClampNeg = zI t.ms from (F2 0 (by omega) (by omega)).trans h.mr.ms, show zI (t.ms : Nat) - 1 = zI (t.ms - 1 : Nat) from by show _ - zI 1 = _; rw [zI_sub]; congr 1; omega]
  refine mL_bd (m_a hk2 ten_le k2' (by omega) z2' 0 (t.ms - 1) (by omega) (by omega)) (fun v τ f z => ?_) (fun m q3 τ3 e3 f3 k3 z3 l3 => ?_)
  · exact mF_xz (by omega) (mF_nm z (fun y3 z3 => mF_a z3 (mF_xz (by omega) (mF_nm z3 (fun y4 z4 => mF_i z4)))))
  rw [x68 (by omega), pnm_e]
  refine mL_fr ((FrV.refl τ3).s8 (20 + 4 * C + 2) (zI m)) ?_
  have hk3 := (hk2.fm f3).s8 (20 + 4 * C + 2) (zI m)
  have k3' := k3.s8 (20 + 4 * C + 2) (zI m)
  have z3' : (sI τ3 68 (20 + 4 * C + 2) (zI m)).1 64 13 = 0 := s13 z3
  have F3 : ∀ j, j ≠ 20 + 4 * C → j ≠ 20 + 4 * C + 1 → j ≠ 20 + 4 * C + 2 → (sI τ3 68 (20 + 4 * C + 2) (zI m)).1 68 j = σ.1 68 j := fun j hj hj2 hj3 => by rw [sI_1, if_neg (by omega), f3.1 _ _ (by omega) (by omega)]; exact F2 j hj hj2
  have G3 : (sI τ3 68 (20 + 4 * C + 2) (zI m)).1 68 (20 + 4 * C) = zI p ∧ (sI τ3 68 (20 + 4 * C + 2) (zI m)).1 68 (20 + 4 * C + 1) = zI d ∧ (sI τ3 68 (20 + 4 * C + 2) (zI m)).1 68 (20 + 4 * C + 2) = zI m := ⟨by rw [sI_1, if_neg (by omega), f3.1 _ _ (by omega) (by omega)]; exact G2.1, by rw [sI_1, if_neg (by omega), f3.1 _ _ (by omega) (by omega)]; exact G2.2, by rw [sI_1, if_pos ⟨rfl, rfl⟩]⟩
  revert hk3 k3' z3' F3 G3
  generalize sI τ3 68 (20 + 4 * C + 2) (zI m) = y3
  intro hk3 k3' z3' F3 G3
  refine mL_bd (m_a hk3 ten_le k3' (by omega) z3' 1 3 (by omega) (by omega)) (fun v τ f z => ?_) (fun v q4 τ4 e4 f4 k4 z4 l4 => ?_)
  · exact mF_xz (by omega) (mF_nm z (fun y4 z4 => mF_i z4))
  have c5 : (sI τ4 68 (20 + 4 * C + 3) (zI v)).1 68 5 = zI C := by
    rw [sI_1, if_neg (by omega), f4.1 _ _ (by omega) (by omega), F3 _ (by omega) (by omega) (by omega)]; exact hCe ▸ h.mr.C
  rw [x68 (by omega), pnm_e, if_pos (s13 z4), x68_l (by decide), x68_l (by decide), pnm_e, show (5 : Int32).toNatClampNeg = 5 from rfl, c5, zI_sc]
  refine mL_r rfl (((FrV.refl τ4).s8 _ _).s8 5 _) ((k4.s8 _ _).s8 5 _) (s13 (s13 z4)) ?_
  subst hCe
  refine MI_Chg h tb hC (fun j j5 j0 j1 j2 j3 => ?_) ?_ ?_ ?_ ?_ ?_
  · rw [sI_1, if_neg (by omega), sI_1, if_neg (by omega), f4.1 _ _ (by omega) (by omega)]; exact F3 j j0 j1 j2
  · rw [sI_1, if_neg (by omega), sI_1, if_neg (by omega), f4.1 _ _ (by omega) (by omega)]; exact G3.1
  · rw [sI_1, if_neg (by omega), sI_1, if_neg (by omega), f4.1 _ _ (by omega) (by omega)]; exact G3.2.1
  · rw [sI_1, if_neg (by omega), sI_1, if_neg (by omega), f4.1 _ _ (by omega) (by omega)]; exact G3.2.2
  · rw [sI_1, if_neg (by omega), sI_1, if_pos ⟨rfl, rfl⟩]
  · rw [sI_1, if_pos ⟨rfl, rfl⟩]
theorem dvd_7 {β : Type} {k : Option β} : dvd 7 k = k := dvd_ne (y := 7) (by omega)
theorem oM_l0 {o : Option Nat} (h : ∀ x, o = some x → x < 1000) : (zI (oM o) ≤ 0) ↔ o = none := by
  cases o with
  | none => exact ⟨fun _ => rfl, fun _ => by decide⟩
  | some x =>
    have := h x rfl
    constructor
    · intro c
      have c : zI ((x : Int) + 1) ≤ zI 0 := c
      rw [zI_le (by omega) (by omega)] at c
      omega
    · intro c; cases c
theorem tnI (k : Nat) (hk : k < 1000) : (zI (k : Nat)).toNatClampNeg = k := by rw [zI_nat (by omega)]; omega
theorem md7 (d : Nat) (hd : d < 1000) : zI (d : Nat) - zI (d : Nat) / 7 * 7 = zI (d % 7 : Nat) := by
  show zI d - zI d / zI 7 * zI 7 = _
  rw [zI_div (by omega) (by omega), zI_mul, zI_sub, show ((d : Int).tdiv 7) = ((d / 7 : Nat) : Int) from rfl]
  congr 1; omega
theorem ml_Vis {σ : Mem} {b : Nat → Nat} {n i : Nat} {t : TT} {N : Nat → Nat × (Nat → Nat)} (h : MI σ t N) (ti : TI t) (hk : TKm σ b n) (hi : i ≤ n) (ht : MTk σ b n i) (hf : σ.1 64 13 = 0) : mL σ b n (pVis b n t N i) (f_X13_visitLine σ) := by
  have tb := ti.tb
  have tP := tb.P
  have tV := tb.V
  have tsh := tb.sh
  unfold f_X13_visitLine pVis
  rw [if_pos hf]
  refine mL_bd (m_pp hk hi ht h.mn hf) (fun v τ f z => ?_) (fun p q1 τ1 e1 f1 k1 z1 l1 => ?_)
  · have nz : ¬ τ.1 64 13 = 0 := by rw [z]; decide
    refine mF_ah z ?_
    rw [jn1_e]; dsimp only
    rw [if_neg nz, jn1_e]; dsimp only
    rw [if_neg nz, if_neg nz]
    exact mF_s z
  have b1 := pPp_b e1
  have hk1 := hk.fm f1
  refine mL_bh (m_ah hk1 ten_le k1 (by omega) z1 0 29 (by omega) (by omega)) (fun v τ f z => ?_) (fun d q2 τ2 e2 f2 k2 z2 l2 => ?_)
  · have nz : ¬ τ.1 64 13 = 0 := by rw [z]; decide
    rw [jn1_e]; dsimp only
    rw [if_neg nz, jn1_e]; dsimp only
    rw [if_neg nz, if_neg nz]
    exact mF_s z
  have b2 := pWb_b e2
  have hk2 := hk1.fm f2
  have F2 : ∀ j, τ2.1 68 j = σ.1 68 j := fun j => (f2.1 _ _ (by omega) (by omega)).trans (f1.1 _ _ (by omega) (by omega))
  have id : (60 : Int32) + zI (d : Nat) = zI (60 + d : Nat) := by show zI 60 + _ = _; rw [zI_add]; congr 1
  rw [jn1_e]; dsimp only
  rw [if_pos z2, id, x68 (by omega), tnI _ (by omega), show τ2.1 68 (60 + d) = zI (oM (t.vis d)) from (F2 _).trans (h.mr.vis d (by omega))]
  by_cases c : t.vis d = none
  · rw [if_pos ((oM_l0 (fun x hx => by have := tb.vis d x hx; omega)).2 c), if_neg (show ¬ (t.vis d ≠ none) from fun x => x c), jn1_e]
    dsimp only
    rw [if_pos z2, dvd_7, x68_l (by decide), md7 d (by omega), show τ2.1 68 (3 : Int32).toNatClampNeg = zI t.sh from (F2 3).trans h.mr.sh]
    by_cases c2 : d % 7 = t.sh
    · rw [if_pos (show zI (d % 7 : Nat) = zI t.sh from by rw [c2]), if_pos c2, k2.at_, show (8 : Int32) = zI (8 : Nat) from rfl, m_wrong z2, pbd1_s, if_neg (by rw [wr_13]; decide)]
      exact mL_w (mF_s (wr_13 _ _ _)) (FrV.refl _)
    · obtain ⟨y, y1, y2, y3⟩ := m_next hk2 (i := ten b n q2) ten_le k2.end_
      have F3 : ∀ j, y.1 68 j = σ.1 68 j := fun j => (y2.1 _ _ (by omega) (by omega)).trans (F2 j)
      have zy : y.1 64 13 = 0 := by rw [y2.1 _ _ (by omega) (by omega)]; exact z2
      have c6 : (sI y 68 (60 + d) (zI (p : Nat) + 1)).1 68 6 = zI t.V := by rw [sI_1, if_neg (by omega)]; exact (F3 6).trans h.mr.V
      rw [if_neg (show ¬ zI (d % 7 : Nat) = zI t.sh from by rw [zI_eq (by omega) (by omega)]; omega), if_neg c2, if_pos z2, y1, pbd1_s, x68 (by omega), pnm_e, x68_l (by decide), x68_l (by decide), pnm_e, show (6 : Int32).toNatClampNeg = 6 from rfl, c6, zI_sc p, zI_sc t.V]
      refine mL_r rfl ((y2.toM.toV.s8 _ _).s8 6 _) ((y3.s8 _ _).s8 6 _) (s13 (s13 zy)) ?_
      refine MI_Vis h tb (by omega) (fun j x1 x2 => ?_) ?_ ?_
      · rw [sI_1, if_neg (by omega), sI_1, if_neg (by omega)]; exact F3 j
      · rw [sI_1, if_neg (by omega), sI_1, if_pos ⟨rfl, rfl⟩]
      · rw [sI_1, if_pos ⟨rfl, rfl⟩]
  · rw [if_neg (fun x => c ((oM_l0 (fun x hx => by have := tb.vis d x hx; omega)).1 x)), if_pos (show t.vis d ≠ none from c), k2.at_, show (3 : Int32) = zI (3 : Nat) from rfl, m_wrong z2, pbd1_s, jn1_e]
    dsimp only
    rw [if_neg (by rw [wr_13]; decide), if_neg (by rw [wr_13]; decide)]
    exact mL_w (mF_s (wr_13 _ _ _)) (FrV.refl _)
theorem ml_Ask {σ : Mem} {b : Nat → Nat} {n i : Nat} {t : TT} {N : Nat → Nat × (Nat → Nat)} (h : MI σ t N) (ti : TI t) (hk : TKm σ b n) (hi : i ≤ n) (ht : MTk σ b n i) (hf : σ.1 64 13 = 0) : mL σ b n (pAsk b n t N i) (f_X13_asksLine σ) := by
  have tb := ti.tb
  have tP := tb.P
  have tA := tb.A
  unfold f_X13_asksLine pAsk
  rw [if_pos hf]
  refine mL_bd (m_pp hk hi ht h.mn hf) (fun v τ f z => ?_) (fun p q1 τ1 e1 f1 k1 z1 l1 => ?_)
  · have nz : ¬ τ.1 64 13 = 0 := by rw [z]; decide
    refine mF_ph z ?_
    rw [jn1_e]; dsimp only
    rw [if_neg nz, if_neg nz]
    exact mF_s z
  have b1 := pPp_b e1
  have hk1 := hk.fm f1
  refine mL_bh (m_ph hk1.n8 ten_le k1 (h.mn.fm f1) z1) (fun v τ f z => ?_) (fun q q2 τ2 e2 f2 k2 z2 l2 => ?_)
  · have nz : ¬ τ.1 64 13 = 0 := by rw [z]; decide
    rw [jn1_e]; dsimp only
    rw [if_neg nz, if_neg nz]
    exact mF_s z
  have b2 := pPp_b e2
  have hk2 := hk1.fm f2
  have F2 : ∀ j, τ2.1 68 j = σ.1 68 j := fun j => (f2.1 _ _ (by omega) (by omega)).trans (f1.1 _ _ (by omega) (by omega))
  have id : ((100 : Int32) + 5 * zI (p : Nat)) + zI (q : Nat) = zI (100 + 5 * p + q : Nat) := by show (zI 100 + zI 5 * _) + _ = _; rw [zI_mul, zI_add, zI_add]; congr 1
  have bad : mL τ2 b n (.inl (3, tpl b n q2)) (bd1 (some (wr τ2 (zI (3 : Nat)) (zI (tpl b n q2 : Nat)))) (fun (σ_13 : Mem) => if σ_13.1 64 13 = 0 then (none : Option Mem) else some σ_13)) := by
    rw [pbd1_s, if_neg (by rw [wr_13]; decide)]
    exact mL_w (mF_s (wr_13 _ _ _)) (FrV.refl _)
  rw [jn1_e]; dsimp only
  rw [if_pos z2, jn0_e]
  by_cases c : p = q
  · rw [if_pos (show zI (p : Nat) = zI q from by rw [c]), if_pos (show p = q ∨ t.odds p q ≠ none from Or.inl c), k2.at_, show (3 : Int32) = zI (3 : Nat) from rfl, m_wrong z2, pbd1_s, if_neg (by rw [wr_13]; decide)]
    exact mL_w (mF_s (wr_13 _ _ _)) (FrV.refl _)
  rw [if_neg (show ¬ zI (p : Nat) = zI q from by rw [zI_eq (by omega) (by omega)]; omega), id, x68 (by omega), tnI _ (by omega), show τ2.1 68 (100 + 5 * p + q) = zI (oM (t.odds p q)) from (F2 _).trans (h.mr.odds p q (by omega) (by omega))]
  by_cases c2 : t.odds p q = none
  · rw [if_pos ((oM_l0 (fun x hx => by have := tb.odds p q x hx; omega)).2 c2), if_neg (show ¬ (p = q ∨ t.odds p q ≠ none) from fun x => x.elim c (fun y => y c2)), if_pos z2]
    obtain ⟨y, y1, y2, y3⟩ := m_next hk2 (i := ten b n q2) ten_le k2.end_
    have F3 : ∀ j, y.1 68 j = σ.1 68 j := fun j => (y2.1 _ _ (by omega) (by omega)).trans (F2 j)
    have zy : y.1 64 13 = 0 := by rw [y2.1 _ _ (by omega) (by omega)]; exact z2
    rw [y1, pbd1_s]
    refine mL_fr y2.toM.toV ?_
    refine mL_bd (m_a (hk2.fm y2.toM) ten_le y3 (by omega) zy 0 100 (by omega) (by omega)) (fun v τ f z => mF_i z) (fun v q3 τ3 e3 f3 k3 z3 l3 => ?_)
    have b3 := pWb_b e3
    have c6 : (sI τ3 68 (100 + 5 * p + q) (zI (v : Nat) + 1)).1 68 8 = zI t.A := by rw [sI_1, if_neg (by omega), f3.1 _ _ (by omega) (by omega)]; exact (F3 8).trans h.mr.A
    rw [if_pos z3, x68 (by omega), pnm_e, x68_l (by decide), x68_l (by decide), pnm_e, show (8 : Int32).toNatClampNeg = 8 from rfl, c6, zI_sc v, zI_sc t.A]
    refine mL_r rfl (((FrV.refl τ3).s8 _ _).s8 8 _) ((k3.s8 _ _).s8 8 _) (s13 (s13 z3)) ?_
    refine MI_Ask h tb (by omega) (by omega) (fun j x1 x2 => ?_) ?_ ?_
    · rw [sI_1, if_neg (by omega), sI_1, if_neg (by omega), f3.1 _ _ (by omega) (by omega)]; exact F3 j
    · rw [sI_1, if_neg (by omega), sI_1, if_pos ⟨rfl, rfl⟩]
    · rw [sI_1, if_pos ⟨rfl, rfl⟩]
  · rw [if_neg (fun x => c2 ((oM_l0 (fun x hx => by have := tb.odds p q x hx; omega)).1 x)), if_pos (show p = q ∨ t.odds p q ≠ none from Or.inr c2), k2.at_, show (3 : Int32) = zI (3 : Nat) from rfl, m_wrong z2, pbd1_s, if_neg (by rw [wr_13]; decide)]
    exact mL_w (mF_s (wr_13 _ _ _)) (FrV.refl _)
theorem ml_Star {σ : Mem} {b : Nat → Nat} {n i : Nat} {t : TT} {N : Nat → Nat × (Nat → Nat)} (h : MI σ t N) (ti : TI t) (hk : TKm σ b n) (hi : i ≤ n) (ht : MTk σ b n i) (hf : σ.1 64 13 = 0) : mL σ b n (pStar b n t N i) (f_X13_stareLine σ) := by
  have tb := ti.tb
  have tP := tb.P
  have tS := tb.S
  have tms := tb.ms
  unfold f_X13_stareLine pStar
  rw [if_pos hf]
  refine mL_bh (m_ph hk.n8 hi ht h.mn hf) (fun v τ f z => ?_) (fun p q1 τ1 e1 f1 k1 z1 l1 => ?_)
  · have nz : ¬ τ.1 64 13 = 0 := by rw [z]; decide
    rw [jn1_e]; dsimp only
    rw [if_neg nz, if_neg nz]
    exact mF_s z
  have b1 := pPp_b e1
  have hk1 := hk.fm f1
  have F1 : ∀ j, τ1.1 68 j = σ.1 68 j := fun j => f1.1 _ _ (by omega) (by omega)
  have id : (125 : Int32) + zI (p : Nat) = zI (125 + p : Nat) := by show zI 125 + _ = _; rw [zI_add]; congr 1
  rw [jn1_e]; dsimp only
  rw [if_pos z1, id, x68 (by omega), tnI _ (by omega), show τ1.1 68 (125 + p) = zI (oM (t.st p)) from (F1 _).trans (h.mr.st p (by omega))]
  by_cases c : t.st p = none
  · rw [if_pos ((oM_l0 (fun x hx => by have := tb.st p x hx; omega)).2 c), if_neg (show ¬ (t.st p ≠ none) from fun x => x c), if_pos z1]
    obtain ⟨y, y1, y2, y3⟩ := m_next hk1 (i := ten b n q1) ten_le k1.end_
    have F3 : ∀ j, y.1 68 j = σ.1 68 j := fun j => (y2.1 _ _ (by omega) (by omega)).trans (F1 j)
    have zy : y.1 64 13 = 0 := by rw [y2.1 _ _ (by omega) (by omega)]; exact z1
    rw [y1, pbd1_s, x68_l (by decide), show y.1 68 (0 : Int32).toNatClampNeg = zI t.ms from (F3 0).trans h.mr.ms]
    refine mL_fr y2.toM.toV ?_
    refine mL_bd (m_n (hk1.fm y2.toM) ten_le y3 zy 0 t.ms (by omega) (by omega)) (fun v τ f z => mF_i z) (fun v q3 τ3 e3 f3 k3 z3 l3 => ?_)
    have b3 := pWh_b e3
    have c6 : (sI τ3 68 (125 + p) (zI (v : Nat) + 1)).1 68 9 = zI t.S := by rw [sI_1, if_neg (by omega), f3.1 _ _ (by omega) (by omega)]; exact (F3 9).trans h.mr.S
    rw [if_pos z3, x68 (by omega), pnm_e, x68_l (by decide), x68_l (by decide), pnm_e, show (9 : Int32).toNatClampNeg = 9 from rfl, c6, zI_sc v, zI_sc t.S]
    refine mL_r rfl (((FrV.refl τ3).s8 _ _).s8 9 _) ((k3.s8 _ _).s8 9 _) (s13 (s13 z3)) ?_
    refine MI_Star h tb (by omega) (fun j x1 x2 => ?_) ?_ ?_
    · rw [sI_1, if_neg (by omega), sI_1, if_neg (by omega), f3.1 _ _ (by omega) (by omega)]; exact F3 j
    · rw [sI_1, if_neg (by omega), sI_1, if_pos ⟨rfl, rfl⟩]
    · rw [sI_1, if_pos ⟨rfl, rfl⟩]
  · rw [if_neg (fun x => c ((oM_l0 (fun x hx => by have := tb.st p x hx; omega)).1 x)), if_pos (show t.st p ≠ none from c), k1.at_, show (3 : Int32) = zI (3 : Nat) from rfl, m_wrong z1, pbd1_s, if_neg (by rw [wr_13]; decide)]
    exact mL_w (mF_s (wr_13 _ _ _)) (FrV.refl _)
theorem ml_Wish {σ : Mem} {b : Nat → Nat} {n i : Nat} {t : TT} {N : Nat → Nat × (Nat → Nat)} (h : MI σ t N) (ti : TI t) (hW : t.W < 5) (hk : TKm σ b n) (hi : i ≤ n) (ht : MTk σ b n i) (hf : σ.1 64 13 = 0) : mL σ b n (pWish b n t N i) (f_X13_wishLine σ) := by
  have tb := ti.tb
  have tP := tb.P
  have i0 : (90 : Int32) + 2 * zI (t.W : Nat) = zI (90 + 2 * t.W : Nat) := by show zI 90 + zI 2 * _ = _; rw [zI_mul, zI_add]; congr 1
  have ix : ∀ w : Nat, (90 : Int32) + 2 * zI (w : Nat) = zI (90 + 2 * w : Nat) := fun w => by show zI 90 + zI 2 * _ = _; rw [zI_mul, zI_add]; congr 1
  have i1 : ∀ w : Nat, zI (90 + 2 * w : Nat) + 1 = zI (90 + 2 * w + 1 : Nat) := fun w => zI_sc _
  unfold f_X13_wishLine pWish
  rw [if_pos hf, x68_l (by decide), show σ.1 68 (7 : Int32).toNatClampNeg = zI t.W from h.mr.W, i0, pnm_e, i1, tnI _ (by omega), tnI _ (by omega)]
  -- a failed loop goes through
  have floop : ∀ τ : Mem, τ.1 64 13 = 1 → τ.1 68 7 = zI t.W → ∀ r2 r4 : Int32, mF τ (fx2 FU (fun k_8 (i_6 : Int32) (σ_7 : Mem) => ixd 7 (aln 68) ((if (σ_7.1 68 (7 : Int32).toNatClampNeg) ≤ i_6 then (if (σ_7.1 64 13) = 0 then bd1 (f_X13_next σ_7) (fun (σ_9 : Mem) => ixd (zI (90 + 2 * t.W : Nat)) (aln 68) (nm (sI σ_9 68 (90 + 2 * t.W) r2) (fun (σ_10 : Mem) => ixd (zI (90 + 2 * t.W + 1 : Nat)) (aln 68) (nm (sI σ_10 68 (90 + 2 * t.W + 1) r4) (fun (σ_11 : Mem) => ixd 7 (aln 68) (ixd 7 (aln 68) (nm (sI σ_11 68 (7 : Int32).toNatClampNeg ((σ_11.1 68 (7 : Int32).toNatClampNeg) + 1)) (fun (σ_12 : Mem) => some σ_12)))))))) else some σ_7) else jn1 (fun (σ_13 : Mem) => nm (i_6 + 1) (fun (x_15 : Int32) => k_8 x_15 σ_13)) (fun k_14 => (if (σ_7.1 64 13) = 0 then ixd (90 + (2 * i_6)) (aln 68) ((if (σ_7.1 68 (90 + (2 * i_6)).toNatClampNeg) = r2 then ixd ((90 + (2 * i_6)) + 1) (aln 68) ((if (σ_7.1 68 ((90 + (2 * i_6)) + 1).toNatClampNeg) = r4 then bd1 (f_X13_wrong σ_7 3 (σ_7.1 64 4)) (fun (σ_17 : Mem) => k_14 σ_17) else k_14 σ_7)) else k_14 σ_7)) else k_14 σ_7))))) 0 τ) := by
    intro τ z w7 r2 r4
    have nz : ¬ τ.1 64 13 = 0 := by rw [z]; decide
    refine fx2_pi (fun w => zI (w : Nat)) (fun _ x => x = τ) (fun o => mF τ o) t.W (by omega) (fun k x hx => ?_) (fun w hw x hx k => ?_) 0 (Nat.zero_le _) rfl τ rfl
    · subst hx
      show mF x (ixd 7 (aln 68) _)
      rw [x68_l (by decide), show x.1 68 (7 : Int32).toNatClampNeg = zI t.W from w7, if_pos (by rw [zI_le (by omega) (by omega)]; omega), if_neg nz]
      exact mF_s z
    · subst hx
      right
      refine ⟨x, rfl, ?_⟩
      rw [x68_l (by decide), show x.1 68 (7 : Int32).toNatClampNeg = zI t.W from w7, if_neg (by rw [zI_le (by omega) (by omega)]; omega), jn1_e]
      dsimp only
      rw [if_neg nz, pnm_e, zI_sc]
  refine mL_bd (m_pp hk hi ht h.mn hf) (fun v τ f z => ?_) (fun p q1 τ1 e1 f1 k1 z1 l1 => ?_)
  · exact mF_ah z (floop τ z ((f.1 _ _ (by omega) (by omega)).trans h.mr.W) _ _)
  have b1 := pPp_b e1
  have hk1 := hk.fm f1
  have F1 : ∀ j, τ1.1 68 j = σ.1 68 j := fun j => f1.1 _ _ (by omega) (by omega)
  refine mL_bh (m_ah hk1 ten_le k1 (by omega) z1 0 29 (by omega) (by omega)) (fun v τ f z => ?_) (fun d q2 τ2 e2 f2 k2 z2 l2 => ?_)
  · exact floop τ z ((f.1 _ _ (by omega) (by omega)).trans ((F1 7).trans h.mr.W)) _ _
  have b2 := pWb_b e2
  have hk2 := hk1.fm f2
  have F2 : ∀ j, τ2.1 68 j = σ.1 68 j := fun j => (f2.1 _ _ (by omega) (by omega)).trans (F1 j)
  have w7 : τ2.1 68 (7 : Int32).toNatClampNeg = zI t.W := (F2 7).trans h.mr.W
  refine fx2_pi (fun w => zI (w : Nat)) (fun w x => (x = τ2 ∧ ∀ u, u < w → ¬ (t.wp u = p ∧ t.wd u = d)) ∨ (x = wr τ2 (zI (3 : Nat)) (zI (tpl b n q2 : Nat)) ∧ wshB t p d = true)) (fun o => mL τ2 b n (if wshB t p d = true then .inl (3, tpl b n q2) else .inr ((tWish t p d, N), ten b n q2)) o) t.W (by omega) (fun k x hx => ?_) (fun w hw x hx k => ?_) 0 (Nat.zero_le _) rfl τ2 (Or.inl ⟨rfl, fun u hu => absurd hu (Nat.not_lt_zero u)⟩)
  · show mL τ2 b n _ (ixd 7 (aln 68) _)
    rcases hx with ⟨rfl, hx⟩ | ⟨rfl, hx⟩
    · have nw : wshB t p d = false := by
        unfold wshB
        rw [exF_f (fun u _ hu => decide_eq_false (hx u hu))]
      obtain ⟨y, y1, y2, y3⟩ := m_next hk2 (i := ten b n q2) ten_le k2.end_
      have F3 : ∀ j, y.1 68 j = σ.1 68 j := fun j => (y2.1 _ _ (by omega) (by omega)).trans (F2 j)
      have zy : y.1 64 13 = 0 := by rw [y2.1 _ _ (by omega) (by omega)]; exact z2
      have c6 : (sI (sI y 68 (90 + 2 * t.W) (zI p)) 68 (90 + 2 * t.W + 1) (zI d)).1 68 (7 : Int32).toNatClampNeg = zI t.W := by
        show (sI (sI y 68 (90 + 2 * t.W) (zI p)) 68 (90 + 2 * t.W + 1) (zI d)).1 68 7 = zI t.W
        rw [sI_1, if_neg (by omega), sI_1, if_neg (by omega)]; exact (F3 7).trans h.mr.W
      rw [if_neg (show ¬ (wshB t p d = true) from by rw [nw]; decide), x68_l (by decide), w7, if_pos (by rw [zI_le (by omega) (by omega)]; omega), if_pos z2, y1, pbd1_s, x68 (by omega), pnm_e, x68 (by omega), pnm_e, x68_l (by decide), x68_l (by decide), pnm_e, c6, show (7 : Int32).toNatClampNeg = 7 from rfl, zI_sc]
      refine mL_r rfl (((y2.toM.toV.s8 _ _).s8 _ _).s8 7 _) (((y3.s8 _ _).s8 _ _).s8 7 _) (s13 (s13 (s13 zy))) ?_
      refine MI_Wish h tb (by omega) (fun j x1 x2 x3 => ?_) ?_ ?_ ?_
      · rw [sI_1, if_neg (by omega), sI_1, if_neg (by omega), sI_1, if_neg (by omega)]; exact F3 j
      · rw [sI_1, if_neg (by omega), sI_1, if_neg (by omega), sI_1, if_pos ⟨rfl, rfl⟩]
      · rw [sI_1, if_neg (by omega), sI_1, if_pos ⟨rfl, rfl⟩]
      · rw [sI_1, if_pos ⟨rfl, rfl⟩]
    · rw [if_pos hx, x68_l (by decide), show (wr τ2 (zI (3 : Nat)) (zI (tpl b n q2 : Nat))).1 68 (7 : Int32).toNatClampNeg = zI t.W from (wr_o _ _ _ (by omega)).trans w7, if_pos (by rw [zI_le (by omega) (by omega)]; omega), if_neg (by rw [wr_13]; decide)]
      exact mL_w (mF_s (wr_13 _ _ _)) (FrV.refl _)
  · right
    rcases hx with ⟨rfl, hx⟩ | ⟨rfl, hx⟩
    · have w1 := tb.wp w hw
      have w2 := tb.wd w hw
      rw [x68_l (by decide), w7, if_neg (by rw [zI_le (by omega) (by omega)]; omega), jn1_e]
      dsimp only
      rw [if_pos z2, ix, i1, x68 (by omega), tnI _ (by omega), tnI _ (by omega), show x.1 68 (90 + 2 * w) = zI (t.wp w) from (F2 _).trans (h.mr.wp w hw), show x.1 68 (90 + 2 * w + 1) = zI (t.wd w) from (F2 _).trans (h.mr.wd w hw), pnm_e, zI_sc]
      have go : ¬ (t.wp w = p ∧ t.wd w = d) → ∃ y, ((y = x ∧ ∀ u, u < w + 1 → ¬ (t.wp u = p ∧ t.wd u = d)) ∨ (y = wr x (zI (3 : Nat)) (zI (tpl b n q2 : Nat)) ∧ wshB t p d = true)) ∧ k (zI (w + 1 : Nat)) x = k (zI (w + 1 : Nat)) y := fun c => ⟨x, Or.inl ⟨rfl, fun u hu => by
        rcases Nat.lt_or_ge u w with g | g
        · exact hx u g
        · obtain rfl : u = w := by omega
          exact c⟩, rfl⟩
      by_cases c1 : t.wp w = p
      · rw [if_pos (show zI (t.wp w : Nat) = zI p from by rw [c1]), x68 (by omega)]
        by_cases c2 : t.wd w = d
        · rw [if_pos (show zI (t.wd w : Nat) = zI d from by rw [c2]), k2.at_, show (3 : Int32) = zI (3 : Nat) from rfl, m_wrong z2, pbd1_s]
          refine ⟨_, Or.inr ⟨rfl, ?_⟩, rfl⟩
          unfold wshB
          exact exF_iff.2 ⟨w, Nat.zero_le _, hw, decide_eq_true ⟨c1, c2⟩⟩
        · rw [if_neg (show ¬ zI (t.wd w : Nat) = zI d from by rw [zI_eq (by omega) (by omega)]; omega)]
          exact go (fun c => c2 c.2)
      · rw [if_neg (show ¬ zI (t.wp w : Nat) = zI p from by rw [zI_eq (by omega) (by omega)]; omega)]
        exact go (fun c => c1 c.1)
    · refine ⟨_, Or.inr ⟨rfl, hx⟩, ?_⟩
      rw [x68_l (by decide), show (wr τ2 (zI (3 : Nat)) (zI (tpl b n q2 : Nat))).1 68 (7 : Int32).toNatClampNeg = zI t.W from (wr_o _ _ _ (by omega)).trans w7, if_neg (by rw [zI_le (by omega) (by omega)]; omega), jn1_e]
      dsimp only
      rw [if_neg (show ¬ (wr τ2 (zI (3 : Nat)) (zI (tpl b n q2 : Nat))).1 64 13 = 0 from by rw [wr_13]; decide), pnm_e, zI_sc]
/-- the look that a word tells -/
def lokf (b : Nat → Nat) (n i ms : Nat) : Nat → Nat := fun m => if m < ms then (b (tpl b n i + m) - 97) % 4 else 0
theorem lokf_lt (b : Nat → Nat) (n i ms : Nat) : lt4 (lokf b n i ms) := fun m => by
  unfold lokf
  by_cases w : m < ms
  · rw [if_pos w]; exact Nat.mod_lt _ (by omega)
  · rw [if_neg w]; omega
theorem lokf_z {b : Nat → Nat} {n i ms m : Nat} (h : ms ≤ m) : lokf b n i ms m = 0 := if_neg (by omega)
def isL (b : Nat → Nat) (n i ms : Nat) : Bool := decide (ten b n i - tpl b n i = ms ∧ ∀ x, x < ms → b (tpl b n i + x) < 101)
def pLk (b : Nat → Nat) (n ms i : Nat) : Sum (Nat × Nat) (Nat × Nat) := if tkd b n i = 2 then (if isL b n i ms = true then .inr (e5 (lokf b n i ms), i) else .inl (7, tpl b n i)) else .inl (1, tpl b n i)
def pPer (b : Nat → Nat) (n : Nat) (t : TT) (N : Nat → Nat × (Nat → Nat)) (i : Nat) : LR := if tkd b n i = 2 ∧ lin b n i = 7 then (if fnd N t.P (wrd b n i) < t.P then .inl (3, tpl b n i) else sbd (pKd b n (ten b n i)) (fun k q1 => sbd (pLk b n t.ms (ten b n q1)) (fun _ q2 => .inr ((tPer t k (lokf b n q2 t.ms), nPer N t.P (wrd b n i)), ten b n q2)))) else .inl (1, tpl b n i)
theorem lokf_s {b : Nat → Nat} {n i m : Nat} (h : b (tpl b n i + m) < 101) : e5 (fu (lokf b n i m) m ((lokf b n i m m + (b (tpl b n i + m) - 97)) % 4)) = e5 (lokf b n i (m + 1)) := by
  refine e5_congr (fun x _ => ?_)
  unfold fu lokf
  by_cases w : x = m
  · rw [if_pos w, if_neg (Nat.lt_irrefl m), if_pos (show x < m + 1 from by omega), w]
    omega
  · rw [if_neg w]
    by_cases w2 : x < m
    · rw [if_pos w2, if_pos (show x < m + 1 from by omega)]
    · rw [if_neg w2, if_neg (show ¬ x < m + 1 from by omega)]
theorem c_lookOf {σ : Mem} {b : Nat → Nat} {n i ms : Nat} (h : TKc σ b n) (hi : i ≤ n) (ht : CTk σ b n i) (h2 : tkd b n i = 2) (h6 : ms ≤ 6) : f_X10_lookOf σ (zI ms) = some (if isL b n i ms = true then zI (e5 (lokf b n i ms)) else -2) := by
  have h8 := h.n8
  obtain ⟨w1, w2, w3, w4, w5⟩ := tk_w hi h2
  unfold f_X10_lookOf
  rw [ht.tok, h2, if_pos (by decide), ht.end_, ht.at_, zI_sub]
  by_cases hl : ten b n i - tpl b n i = ms
  · rw [if_pos (show zI ((ten b n i : Int) - tpl b n i) = zI ms from by congr 1; omega)]
    refine fx2_pi (fun m => zI (e5 (lokf b n i m))) (fun m (x : Int32) => x = zI (m : Nat) ∧ ∀ u, u < m → b (tpl b n i + u) < 101) (fun o => o = some (if isL b n i ms = true then zI (e5 (lokf b n i ms)) else -2)) ms (by omega) (fun k x hx => ?_) (fun m hm x hx k => ?_) 0 (Nat.zero_le _) ?_ 0 ⟨rfl, fun u hu => absurd hu (Nat.not_lt_zero u)⟩
    · obtain ⟨rfl, hx⟩ := hx
      show (if zI ms ≤ zI (ms : Nat) then _ else _) = _
      rw [if_pos (by rw [zI_le (by omega) (by omega)]; omega), if_pos (show isL b n i ms = true from decide_eq_true ⟨hl, hx⟩)]
    · obtain ⟨rfl, hx⟩ := hx
      have bx := w5 (tpl b n i + m) (by omega) (by omega)
      have e1 : zI (tpl b n i) + zI m = zI (tpl b n i + m : Nat) := by rw [zI_add]; rfl
      have e2 : zI (b (tpl b n i + m) : Nat) - 97 = zI (b (tpl b n i + m) - 97 : Nat) := by show _ - zI 97 = _; rw [zI_sub]; congr 1; omega
      rw [if_neg (show ¬ (zI ms ≤ zI (m : Nat)) from by rw [zI_le (by omega) (by omega)]; omega), e1, c_byte h (by omega), pbd1_s, if_pos (show b (tpl b n i + m) < 128 from by omega), e2, pnm_e]
      by_cases c : b (tpl b n i + m) < 101
      · right
        refine ⟨zI (m + 1 : Nat), ⟨rfl, fun u hu => ?_⟩, ?_⟩
        · rcases Nat.lt_or_ge u m with g | g
          · exact hx u g
          · obtain rfl : u = m := by omega
            exact c
        · rw [if_pos (by rw [show (4 : Int32) = zI 4 from rfl, zI_lt (by omega) (by omega)]; omega), c_gone (lokf_lt _ _ _ _) (by omega), pbd1_s, pnm_e, zI_sc, lokf_s c]
      · left
        rw [if_neg (show ¬ (zI (b (tpl b n i + m) - 97 : Nat) < 4) from by rw [show (4 : Int32) = zI 4 from rfl, zI_lt (by omega) (by omega)]; omega), if_neg (show ¬ isL b n i ms = true from fun d => c ((of_decide_eq_true d).2 m hm))]
    · show zI 0 = zI (e5 (lokf b n i 0) : Nat)
      have : e5 (lokf b n i 0) = e5 (fun _ => 0) := e5_congr (fun x _ => lokf_z (Nat.zero_le _))
      rw [this]; rfl
  · rw [if_neg (show ¬ zI ((ten b n i : Int) - tpl b n i) = zI ms from by rw [zI_eq (by omega) (by omega)]; omega), if_neg (show ¬ isL b n i ms = true from fun c => hl (of_decide_eq_true c).1)]
theorem c_lk {σ : Mem} {T : Nat} {b : Nat → Nat} {n i : Nat} {t : TT} {N : Nat → Nat × (Nat → Nat)} (hI : CTI σ T t N) (ti : TI t) (h : TKc σ b n) (hi : i ≤ n) (ht : CTk σ b n i) : cO σ b n (pLk b n t.ms i) (f_X6_lookWord σ) := by
  have k5 := tkd_5 b n i
  have at_ := hI.ct.at_
  unfold f_X6_lookWord
  rw [pnm_e]
  have ht1 := ht.s7 3 (σ.1 1 4)
  have f1 : FrC σ (sI σ 27 3 (σ.1 1 4)) := (FrC.refl σ).s7 _ _ (by omega)
  have hI1 := hI.fc f1
  have s1 : (sI σ 27 3 (σ.1 1 4)).1 27 3 = zI (tpl b n i) := by rw [sI_1, if_pos ⟨rfl, rfl⟩]; exact ht.at_
  have q1 : (sI σ 27 3 (σ.1 1 4)).1 27 4 = σ.1 27 4 := by rw [sI_1, if_neg (by omega)]
  revert ht1 f1 hI1 s1 q1
  generalize sI σ 27 3 (σ.1 1 4) = σ1
  intro ht1 f1 hI1 s1 q1
  have hc1 := h.fc f1
  rw [ht1.tok]
  unfold pLk
  have fv : ∀ x : Int32, (sI σ1 27 2 x).1 27 2 = x := fun x => by rw [sI_1, if_pos ⟨rfl, rfl⟩]
  have fs : ∀ x : Int32, (sI σ1 27 2 x).1 27 3 = zI (tpl b n i) := fun x => by rw [sI_1, if_neg (by omega)]; exact s1
  have f2 := fun x => f1.s7 2 x (by omega)
  by_cases h2 : tkd b n i = 2
  · rw [if_pos h2, if_pos (show zI (tkd b n i) = 2 from by rw [h2]; rfl), hI1.town, prfc_s, hI1.ct.ms, c_lookOf hc1 hi ht1 h2 ti.tb.ms, pbd1_s, pnm_e, fv]
    by_cases c : isL b n i t.ms = true
    · have := e5_lt (lokf_lt b n i t.ms)
      rw [if_pos c, if_pos c, if_pos (show (0 : Int32) ≤ zI (e5 (lokf b n i t.ms) : Nat) from by rw [show (0 : Int32) = zI 0 from rfl, zI_le (by omega) (by omega)]; omega)]
      exact c_go (h.fc (f2 _)) hi (ht1.s7 _ _) (f2 _) (fs _) (fv _) (by rw [sI_1, if_neg (by omega)]; exact q1)
    · rw [if_neg c, if_neg c, if_neg (show ¬ ((0 : Int32) ≤ -2) from by decide)]
      exact c_fl (f2 _) (fs _)
  · rw [if_neg h2, if_neg (show ¬ zI (tkd b n i) = 2 from by rw [show (2 : Int32) = zI 2 from rfl, zI_eq (by omega) (by omega)]; omega)]
    exact c_fl f1 s1
theorem c_bgn {σ : Mem} {T p : Nat} (hT : aln (T + 6) = 150) (hp : p < 5) (v : Int32) : f_X5_begin σ (T + 5) (zI p) v = some (sA σ (T + 6) (fun j => if p * 30 ≤ j ∧ j < p * 30 + 30 then v else σ.1 (T + 6) j)) := by
  let g : Nat → Nat → Int32 := fun i j => if p * 30 ≤ j ∧ j < p * 30 + i then v else σ.1 (T + 6) j
  unfold f_X5_begin
  refine fx2_run (fun i => zI (i : Nat)) (fun i => sA σ (T + 6) (g i)) 30 0 (by omega) rfl ?_ (fun k2 => ?_) (fun i hi k2 => ?_)
  · rw [show g 0 = σ.1 (T + 6) from funext fun j => if_neg (by omega), sA_self]
  · rw [if_pos (by decide)]
  · rw [show (30 : Int32) = zI 30 from rfl, if_neg (by rw [zI_le (by omega) (by omega)]; omega), show (5 : Int32) = zI 5 from rfl, f_inside _ _ (by omega) (by omega), decide_eq_true (by omega), pbd1_s, if_neg (by decide), show zI p * zI 30 + zI (i : Nat) = zI (p * 30 + i : Nat) from by rw [zI_mul, zI_add]; congr 1, show T + 5 + 1 = T + 6 from rfl, f_setN (by omega) (by omega), pbd1_s, pnm_e, sI_sA, zI_sc]
    refine congrArg (k2 (zI (i + 1 : Nat))) (congrArg _ (funext fun j => ?_))
    unfold upd
    show (if j = p * 30 + i then _ else (if p * 30 ≤ j ∧ j < p * 30 + i then _ else _)) = (if p * 30 ≤ j ∧ j < p * 30 + (i + 1) then _ else _)
    by_cases q : j = p * 30 + i
    · subst q; rw [if_pos rfl, if_pos (by omega)]
    · rw [if_neg q]
      by_cases q2 : p * 30 ≤ j ∧ j < p * 30 + i
      · rw [if_pos q2, if_pos (by omega)]
      · rw [if_neg q2, if_neg (by omega)]
theorem c_addP {σ : Mem} {T : Nat} {t : TT} {N : Nat → Nat × (Nat → Nat)} (h : CTI σ T t N) (ti : TI t) (hP : t.P < 5) {w : Nat × (Nat → Nat)} (hw : nmOk w) {k : Nat} (hk : k ≤ 3) {g : Nat → Nat} (hg : lt4 g) : ∃ τ, f_X11_addPerson σ T (zL (nmL w)) (zI k) (zI (e5 g)) = some τ ∧ FrW T σ τ ∧ (∀ a j, ¬ (T ≤ a ∧ a ≤ T + 11) → τ.1 a j = σ.1 a j) ∧ CTI (sI τ (T + 1) 1 (τ.1 (T + 1) 1 + 1)) T (tPer t k g) (nPer N t.P w) := by
  have at_ := h.ct.at_
  have tb := ti.tb
  have aa := ct_aln at_
  let F0 : Nat → Nat → Nat → Nat := fun q d => if q = t.P then g else lk t t.ch q d
  have hF0 : ∀ q d, lt4 (F0 q d) := fun q d => by
    show lt4 (if q = t.P then g else lk t t.ch q d)
    by_cases x : q = t.P
    · rw [if_pos x]; exact hg
    · rw [if_neg x]; exact lk_lt _ _ _ _
  let y0 : Mem := sL σ (T + 2) t.P (zL (nmL w))
  let y1 : Mem := sI (sI y0 (T + 3) t.P (zI k)) (T + 4) t.P (zI (e5 g))
  let y : Mem := sA y1 (T + 6) (fun j => if t.P * 30 ≤ j ∧ j < t.P * 30 + 30 then zI (e5 g) else y1.1 (T + 6) j)
  have yO : ∀ a j, a ≠ T + 6 → ¬ (a = T + 3 ∧ j = t.P) → ¬ (a = T + 4 ∧ j = t.P) → y.1 a j = σ.1 a j := fun a j x1 x2 x3 => by
    show (sA y1 (T + 6) _).1 a j = _
    rw [sA_o _ _ _ x1]
    show (sI (sI y0 (T + 3) t.P (zI k)) (T + 4) t.P (zI (e5 g))).1 a j = _
    rw [sI_1, if_neg x3, sI_1, if_neg x2]; rfl
  have yL : ∀ q d, q < t.P + 1 → d < 30 → y.1 (T + 6) (q * 30 + d) = zI (e5 (F0 q d)) := fun q d hq hd => by
    show (sA y1 (T + 6) _).1 (T + 6) (q * 30 + d) = _
    rw [sA_at]
    show (if t.P * 30 ≤ q * 30 + d ∧ q * 30 + d < t.P * 30 + 30 then zI (e5 g) else y1.1 (T + 6) (q * 30 + d)) = zI (e5 (if q = t.P then g else lk t t.ch q d))
    by_cases x : q = t.P
    · rw [if_pos (by omega), if_pos x]
    · rw [if_neg (by omega), if_neg x]
      show (sI (sI y0 (T + 3) t.P (zI k)) (T + 4) t.P (zI (e5 g))).1 (T + 6) (q * 30 + d) = _
      rw [sI_1, if_neg (by omega), sI_1, if_neg (by omega)]
      exact h.look q d (by omega) hd
  have y3 : y.1 (T + 3) t.P = zI k := by
    show (sA y1 (T + 6) _).1 (T + 3) t.P = _
    rw [sA_o _ _ _ (by omega)]
    show (sI (sI y0 (T + 3) t.P (zI k)) (T + 4) t.P (zI (e5 g))).1 (T + 3) t.P = _
    rw [sI_1, if_neg (by omega), sI_1, if_pos ⟨rfl, rfl⟩]
  have y4 : y.1 (T + 4) t.P = zI (e5 g) := by
    show (sA y1 (T + 6) _).1 (T + 4) t.P = _
    rw [sA_o _ _ _ (by omega)]
    show (sI (sI y0 (T + 3) t.P (zI k)) (T + 4) t.P (zI (e5 g))).1 (T + 4) t.P = _
    rw [sI_1, if_pos ⟨rfl, rfl⟩]
  have y5 : y.2.1 (T + 2) t.P = zL (nmL w) := by
    show (sL σ (T + 2) t.P (zL (nmL w))).2.1 (T + 2) t.P = _
    rw [sL_2, if_pos ⟨rfl, rfl⟩]
  have y6 : ∀ a p, ¬ (a = T + 2 ∧ p = t.P) → y.2.1 a p = σ.2.1 a p := fun a p x => by
    show (sL σ (T + 2) t.P (zL (nmL w))).2.1 a p = _
    rw [sL_2, if_neg x]
  have y7 : y.2.2 = σ.2.2 := rfl
  have e : f_X11_addPerson σ T (zL (nmL w)) (zI k) (zI (e5 g)) = jn1 (fun (σ_7 : Mem) => (if zI (k : Nat) = 2 then bd1 (f_X11_goOnEach σ_7 T (zI (t.P : Nat)) 1 4) (fun (σ_9 : Mem) => some σ_9) else some σ_7)) (fun k_8 => (if zI (k : Nat) = 1 then bd1 (f_X11_goOnEach y T (zI (t.P : Nat)) 0 10) (fun (σ_10 : Mem) => k_8 σ_10) else k_8 y)) := by
    unfold f_X11_addPerson
    rw [ct_people h.ct, pbd1_s, show nI (aln (T + 2)) = zI 5 from by rw [aa.2.1]; rfl, f_inside _ _ (by omega) (by omega), decide_eq_true (by omega), pbd1_s, if_neg (show ¬ bI true = 0 from by decide), ixd_in (by omega), pnm_e, tnI _ (by omega), f_setN (by omega) (by omega), pbd1_s, f_setN (by omega) (by omega), pbd1_s, c_bgn aa.2.2.2.2.1 hP, pbd1_s]
  rw [e, jn1_e]
  dsimp only
  have fin : ∀ τ : Mem, τ.2 = y.2 → (∀ a, a ≠ T + 6 → τ.1 a = y.1 a) → (∀ q d, q < t.P + 1 → d < 30 → τ.1 (T + 6) (q * 30 + d) = zI (e5 (if q = t.P then (if k = 1 then agd g 0 10 d else if k = 2 then agd g 1 4 d else g) else lk t t.ch q d))) → FrW T σ τ ∧ (∀ a j, ¬ (T ≤ a ∧ a ≤ T + 11) → τ.1 a j = σ.1 a j) ∧ CTI (sI τ (T + 1) 1 (τ.1 (T + 1) 1 + 1)) T (tPer t k g) (nPer N t.P w) := by
    intro τ t1 t2 t3
    have tO : ∀ a j, a ≠ T + 6 → ¬ (a = T + 3 ∧ j = t.P) → ¬ (a = T + 4 ∧ j = t.P) → τ.1 a j = σ.1 a j := fun a j x1 x2 x3 => (congrFun (t2 a x1) j).trans (yO a j x1 x2 x3)
    refine ⟨⟨fun a j _ _ x => tO a j (by omega) (by omega) (by omega), fun a x => by rw [t1]; funext p; exact y6 a p (by omega), by rw [t1, y7]⟩, fun a j x => tO a j (by omega) (by omega) (by omega), ?_⟩
    refine CTI_Per h hP hw (fun a j x1 x2 x3 x4 x5 x6 => ?_) (fun p hp => ?_) (by show τ.2.2 = _; rw [t1, y7]) (fun q d hq hd => ?_) ?_ ?_ ?_ ?_
    · rw [sI_1, if_neg x4]; exact tO a j x3 x5 x6
    · show τ.2.1 (T + 2) p = _
      rw [t1]; exact y6 _ _ (by omega)
    · rw [sI_1, if_neg (by omega), t3 q d hq hd]
      by_cases x : q = t.P
      · rw [if_pos x, x, lk_new (fun c hc => (tb.chb c hc).1) hg]
      · rw [if_neg x, lk_Per x]
    · rw [sI_1, if_pos ⟨rfl, rfl⟩, tO _ _ (by omega) (by omega) (by omega), h.ct.P, zI_sc]
    · rw [sI_1, if_neg (by omega), t2 _ (by omega)]; exact y3
    · rw [sI_1, if_neg (by omega), t2 _ (by omega)]; exact y4
    · show τ.2.1 (T + 2) t.P = _
      rw [t1]; exact y5
  have hPg : ∀ d, F0 t.P d = g := fun d => if_pos rfl
  by_cases k1 : k = 1
  · obtain ⟨τ, t1, t2, t3, t4⟩ := c_each (σ := y) (T := T) aa.2.2.2.2.1 (P := t.P + 1) (by omega) F0 hF0 yL (p := t.P) (m := 0) (days := 10) (by omega) (by omega) (Or.inr rfl) g hPg
    rw [if_pos (show zI (k : Nat) = 1 from by rw [k1]; rfl), show f_X11_goOnEach y T (zI (t.P : Nat)) 0 10 = some τ from t1, pbd1_s, if_neg (show ¬ zI (k : Nat) = 2 from by rw [k1]; decide)]
    obtain ⟨z1, z2, z3⟩ := fin τ t2 t3 (fun q d hq hd => by
      rw [t4 q d hq hd]
      by_cases x : q = t.P
      · rw [if_pos x, if_pos x, if_pos k1]
      · rw [if_neg x, if_neg x]; show zI (e5 (if q = t.P then g else lk t t.ch q d) : Nat) = _; rw [if_neg x])
    exact ⟨τ, rfl, z1, z2, z3⟩
  · rw [if_neg (show ¬ zI (k : Nat) = 1 from by rw [show (1 : Int32) = zI 1 from rfl, zI_eq (by omega) (by omega)]; omega)]
    by_cases k2 : k = 2
    · obtain ⟨τ, t1, t2, t3, t4⟩ := c_each (σ := y) (T := T) aa.2.2.2.2.1 (P := t.P + 1) (by omega) F0 hF0 yL (p := t.P) (m := 1) (days := 4) (by omega) (by omega) (Or.inl rfl) g hPg
      rw [if_pos (show zI (k : Nat) = 2 from by rw [k2]; rfl), show f_X11_goOnEach y T (zI (t.P : Nat)) 1 4 = some τ from t1, pbd1_s]
      obtain ⟨z1, z2, z3⟩ := fin τ t2 t3 (fun q d hq hd => by
        rw [t4 q d hq hd]
        by_cases x : q = t.P
        · rw [if_pos x, if_pos x, if_neg k1, if_pos k2]
        · rw [if_neg x, if_neg x]; show zI (e5 (if q = t.P then g else lk t t.ch q d) : Nat) = _; rw [if_neg x])
      exact ⟨τ, rfl, z1, z2, z3⟩
    · rw [if_neg (show ¬ zI (k : Nat) = 2 from by rw [show (2 : Int32) = zI 2 from rfl, zI_eq (by omega) (by omega)]; omega)]
      obtain ⟨z1, z2, z3⟩ := fin y rfl (fun _ _ => rfl) (fun q d hq hd => by
        rw [yL q d hq hd]
        show zI (e5 (if q = t.P then g else lk t t.ch q d) : Nat) = _
        rw [if_neg k1, if_neg k2])
      exact ⟨y, rfl, z1, z2, z3⟩
theorem pLk_b {b : Nat → Nat} {n ms i v q : Nat} (h : pLk b n ms i = .inr (v, q)) : v = e5 (lokf b n i ms) ∧ q = i := by
  unfold pLk at h
  split at h
  · split at h
    · obtain ⟨h1, h2⟩ := Prod.mk.inj (Sum.inr.inj h)
      exact ⟨h1.symm, h2.symm⟩
    · cases h
  · cases h
theorem cl_Per {σ : Mem} {T : Nat} {b : Nat → Nat} {n i : Nat} {t : TT} {N : Nat → Nat × (Nat → Nat)} (h : CTI σ T t N) (ti : TI t) (hP : t.P < 5) (hc : TKc σ b n) (hi : i ≤ n) (ht : CTk σ b n i) : cL σ T b n 1 (pPer b n t N i) (f_X6_personLine σ) := by
  have k5 := tkd_5 b n i
  have at_ := h.ct.at_
  unfold f_X6_personLine
  rw [pnm_e]
  have ht1 := ht.s7 3 (σ.1 1 4)
  have f1 : FrC σ (sI σ 27 3 (σ.1 1 4)) := (FrC.refl σ).s7 _ _ (by omega)
  have h1 := h.fc f1
  have hc1 := hc.fc f1
  have s1 : (sI σ 27 3 (σ.1 1 4)).1 27 3 = zI (tpl b n i) := by rw [sI_1, if_pos ⟨rfl, rfl⟩]; exact ht.at_
  have q1 : (sI σ 27 3 (σ.1 1 4)).1 27 4 = σ.1 27 4 := by rw [sI_1, if_neg (by omega)]
  refine cL_fr (f1.toW T) q1 ?_
  revert ht1 f1 hc1 s1 q1 h1
  generalize sI σ 27 3 (σ.1 1 4) = σ1
  intro ht1 f1 h1 hc1 s1 q1
  rw [jn0_e, ht1.tok]
  unfold pPer
  by_cases h2 : tkd b n i = 2
  · rw [if_pos (show zI (tkd b n i) = 2 from by rw [h2]; rfl), c_line hc1 hi ht1, pbd1_s]
    by_cases h7 : lin b n i < 7
    · rw [if_pos h7, onm_sm, if_neg (show ¬ (tkd b n i = 2 ∧ lin b n i = 7) from fun c => by omega)]
      exact cL_fail s1
    · have l7 : lin b n i = 7 := by
        have : lin b n i ≤ 7 := sc_le _ (by omega)
        omega
      have wo := wrd_ok hi h2
      rw [if_neg h7, onm_nn, if_pos (show tkd b n i = 2 ∧ lin b n i = 7 from ⟨h2, l7⟩), c_name hc1 hi ht1 h2, pbd1_s, h1.town, prfc_s, c_find h1.cn h1.ct.P wo, pbd1_s]
      by_cases q : fnd N t.P (wrd b n i) < t.P
      · rw [if_pos q, if_pos q, if_neg (show ¬ (zI (fnd N t.P (wrd b n i) : Nat) < 0) from by rw [show (0 : Int32) = zI 0 from rfl, zI_lt (by omega) (by omega)]; omega)]
        exact cL_fail s1
      · rw [if_neg q, if_neg q, if_pos (show (-2 : Int32) < 0 from by decide)]
        obtain ⟨υ, u1, u2, u3, u4, u5⟩ := c_step hc1 ten_le ht1.end_
        have hcu := hc1.fc u2.toC
        have hu := h1.fc u2.toC
        rw [u1, pbd1_s]
        refine cL_fr (u2.toC.toW T) (by rw [u2.1 _ _ (by omega)]) ?_
        refine cL_bd (c_kd hcu ten_le (i := ten b n i) ⟨u4, u3, u5⟩) (fun τ => if_pos rfl) (fun k q2 τ2 e2 f2 v2 s2 k2 => ?_)
        have b2 := pKd_b e2
        have h3 := hu.fc f2
        have hc3 := hcu.fc f2
        rw [if_neg (show ¬ (1 : Int32) = 0 from by decide), pnm_e, v2]
        refine cL_bd (c_lk h3 ti hc3 ten_le k2) (fun τ => if_pos rfl) (fun v q3 τ3 e3 f3 v3 s3 k3 => ?_)
        obtain ⟨b3, b4⟩ := pLk_b e3
        subst b3
        have h4 := h3.fc f3
        obtain ⟨τ, t1, t2, t3, t4⟩ := c_addP h4 ti hP wo b2.1 (lokf_lt b n (ten b n q2) t.ms)
        rw [if_neg (show ¬ (1 : Int32) = 0 from by decide), h4.town, prfc_s, v3, t1, pbd1_s, b4]
        exact cL_r rfl t2 (by rw [b4] at k3; exact ⟨by rw [t3 _ _ (by omega)]; exact k3.at_, by rw [t3 _ _ (by omega)]; exact k3.end_, by rw [t3 _ _ (by omega)]; exact k3.tok⟩) (t3 _ _ (by omega)) t4
  · rw [if_neg (show ¬ zI (tkd b n i) = 2 from by rw [show (2 : Int32) = zI 2 from rfl, zI_eq (by omega) (by omega)]; omega), if_neg (show ¬ (tkd b n i = 2 ∧ lin b n i = 7) from fun c => h2 c.1)]
    exact cL_fail s1
theorem fx3_once {A1 A2 A3 β : Type} (F : (A1 → A2 → A3 → Option β) → A1 → A2 → A3 → Option β) (x : A1) (y : A2) (z : A3) : fx3 FU F x y z = F (fx3 99999 F) x y z := rfl
theorem fx3_pgn {A1 A2 A3 β : Type} {F : (A1 → A2 → A3 → Option β) → A1 → A2 → A3 → Option β} (Inv : Nat → A1 → A2 → A3 → Prop) (Post : Option β → Prop) (N : Nat) (he : ∀ k x y z, Inv N x y z → Post (F k x y z)) (hs : ∀ i, i < N → ∀ x y z, Inv i x y z → ∀ k, Post (F k x y z) ∨ ∃ x' y' z', Inv (i + 1) x' y' z' ∧ F k x y z = k x' y' z') : ∀ n i, i + n = N → ∀ x y z, Inv i x y z → ∀ m, Post (fx3 (n + 1 + m) F x y z) := by
  intro n
  induction n with
  | zero =>
    intro i hi x y z hx m
    rw [show 0 + 1 + m = m + 1 from by omega]
    show Post (F (fx3 m F) x y z)
    obtain rfl : N = i := by omega
    exact he _ _ _ _ hx
  | succ n ih =>
    intro i hi x y z hx m
    rw [show n + 1 + 1 + m = (n + 1 + m) + 1 from by omega]
    show Post (F (fx3 (n + 1 + m) F) x y z)
    rcases hs i (by omega) x y z hx (fx3 (n + 1 + m) F) with h | ⟨x', y', z', hy, e⟩
    · exact h
    · rw [e]; exact ih (i + 1) (by omega) x' y' z' hy m
theorem fx3_pg {A1 A2 A3 β : Type} {F : (A1 → A2 → A3 → Option β) → A1 → A2 → A3 → Option β} (Inv : Nat → A1 → A2 → A3 → Prop) (Post : Option β → Prop) (N : Nat) (hN : N < 100000) (he : ∀ k x y z, Inv N x y z → Post (F k x y z)) (hs : ∀ i, i < N → ∀ x y z, Inv i x y z → ∀ k, Post (F k x y z) ∨ ∃ x' y' z', Inv (i + 1) x' y' z' ∧ F k x y z = k x' y' z') (x : A1) (y : A2) (z : A3) (hx : Inv 0 x y z) : Post (fx3 FU F x y z) := by
  have := fx3_pgn Inv Post N he hs (N - 0) 0 (by omega) x y z hx (100000 - (N - 0) - 1)
  rw [show N - 0 + 1 + (100000 - (N - 0) - 1) = 100000 from by omega] at this
  exact this
theorem bt_shl : ((List.range 6).all fun m => (List.range 4).all fun v => (nI v <<< ((2 * nI m) &&& 31)) == nI (v * 4 ^ m)) = true := by decide +kernel
theorem bt_shl' {m v : Nat} (hm : m < 6) (hv : v < 4) : zI (v : Nat) <<< ((2 * zI (m : Nat)) &&& 31) = zI (v * 4 ^ m : Nat) := by
  have h := bt_shl
  rw [List.all_eq_true] at h
  have h := h m (List.mem_range.2 hm)
  rw [List.all_eq_true] at h
  have h := h v (List.mem_range.2 hv)
  rw [← zI_nI, ← zI_nI, ← zI_nI]
  exact of_decide_eq_true h
theorem e4_or {b : Nat → Nat} {n i m : Nat} (hm : m < 6) (h : b (tpl b n i + m) < 101) : zI (e4 (lokf b n i m) : Nat) ||| zI ((b (tpl b n i + m) - 97) * 4 ^ m : Nat) = zI (e4 (lokf b n i (m + 1)) : Nat) := by
  rw [zI_or]
  congr 2
  have h1 : ∀ x, x < m → lokf b n i (m + 1) x = lokf b n i m x := fun x hx => by
    unfold lokf; rw [if_pos (show x < m + 1 from by omega), if_pos hx]
  have h2 : lokf b n i (m + 1) m = b (tpl b n i + m) - 97 := by
    unfold lokf; rw [if_pos (show m < m + 1 from by omega)]; omega
  have h3 : ∀ x, m ≤ x → lokf b n i m x = 0 := fun x hx => lokf_z hx
  have h4 : ∀ x, m + 1 ≤ x → lokf b n i (m + 1) x = 0 := fun x hx => lokf_z hx
  have hl : ∀ x, lokf b n i m x < 4 := lokf_lt b n i m
  have l0 := hl 0
  have l1 := hl 1
  have l2 := hl 2
  have l3 := hl 3
  have l4 := hl 4
  have key : e4 (lokf b n i m) < 4 ^ m ∧ e4 (lokf b n i (m + 1)) = e4 (lokf b n i m) + (b (tpl b n i + m) - 97) * 4 ^ m := by
    unfold e4
    have : m = 0 ∨ m = 1 ∨ m = 2 ∨ m = 3 ∨ m = 4 ∨ m = 5 := by omega
    rcases this with rfl | rfl | rfl | rfl | rfl | rfl
    · rw [h2, h4 1 (by omega), h4 2 (by omega), h4 3 (by omega), h4 4 (by omega), h4 5 (by omega), h3 0 (by omega), h3 1 (by omega), h3 2 (by omega), h3 3 (by omega), h3 4 (by omega), h3 5 (by omega)]; omega
    · rw [h2, h1 0 (by omega), h4 2 (by omega), h4 3 (by omega), h4 4 (by omega), h4 5 (by omega), h3 1 (by omega), h3 2 (by omega), h3 3 (by omega), h3 4 (by omega), h3 5 (by omega)]; omega
    · rw [h2, h1 0 (by omega), h1 1 (by omega), h4 3 (by omega), h4 4 (by omega), h4 5 (by omega), h3 2 (by omega), h3 3 (by omega), h3 4 (by omega), h3 5 (by omega)]; omega
    · rw [h2, h1 0 (by omega), h1 1 (by omega), h1 2 (by omega), h4 4 (by omega), h4 5 (by omega), h3 3 (by omega), h3 4 (by omega), h3 5 (by omega)]; omega
    · rw [h2, h1 0 (by omega), h1 1 (by omega), h1 2 (by omega), h1 3 (by omega), h4 5 (by omega), h3 4 (by omega), h3 5 (by omega)]; omega
    · rw [h2, h1 0 (by omega), h1 1 (by omega), h1 2 (by omega), h1 3 (by omega), h1 4 (by omega), h3 5 (by omega)]; omega
  rw [key.2, show 4 ^ m = 2 ^ (2 * m) from by rw [Nat.pow_mul]] at *
  have hlt : e4 (lokf b n i m) < 2 ^ (2 * m) := key.1
  rw [Nat.or_comm, ← Nat.shiftLeft_eq, ← Nat.shiftLeft_add_eq_or_of_lt hlt, Nat.add_comm]
theorem MTk.of {σ x : Mem} {b : Nat → Nat} {n i : Nat} (h : MTk σ b n i) (e : ∀ a j, a ≠ 68 → x.1 a j = σ.1 a j) : MTk x b n i := by
  refine ⟨by rw [e _ _ (by omega)]; exact h.at_, by rw [e _ _ (by omega)]; exact h.end_, by rw [e _ _ (by omega)]; exact h.tok, by rw [e _ _ (by omega)]; exact h.size, fun q x hx => by rw [e _ _ (by omega)]; exact h.let_ q x hx, fun q => by rw [e _ _ (by omega)]; exact h.whole q⟩
theorem ml_Per {σ : Mem} {b : Nat → Nat} {n i : Nat} {t : TT} {N : Nat → Nat × (Nat → Nat)} (h : MI σ t N) (ti : TI t) (hP : t.P < 5) (h3 : 3 ≤ t.ms) (hk : TKm σ b n) (hi : i ≤ n) (ht : MTk σ b n i) (hf : σ.1 64 13 = 0) : mL σ b n (pPer b n t N i) (f_X13_personLine σ) := by
  have tb := ti.tb
  have tms := tb.ms
  unfold f_X13_personLine pPer
  rw [if_pos hf, x68_l (by decide), pnm_e, show σ.1 68 (4 : Int32).toNatClampNeg = zI t.P from h.mr.P, m_nameOk hk.n8 hi ht hf, pbd1_s, jn1_e]
  dsimp only
  by_cases h2 : tkd b n i = 2 ∧ lin b n i = 7
  · have wo := wrd_ok hi h2.1
    obtain ⟨w1, w2, w3, w4, w5⟩ := tk_w hi h2.1
    obtain ⟨z, z1, z2, z3, -⟩ := ht.size
    rw [if_pos h2, if_pos h2, if_pos hf, m_find h.mn wo (by rw [z1, z3 h2.1]; rfl) (fun x hx => ht.let_ h2.1 x hx), pbd1_s]
    by_cases q : fnd N t.P (wrd b n i) < t.P
    · rw [if_pos q, if_pos q, if_neg (show ¬ (zI (fnd N t.P (wrd b n i) : Nat) < 0) from by rw [show (0 : Int32) = zI 0 from rfl, zI_lt (by omega) (by omega)]; omega), ht.at_, show (3 : Int32) = zI (3 : Nat) from rfl, m_wrong hf, pbd1_s, if_neg (by rw [wr_13]; decide)]
      exact mL_w (mF_s (wr_13 _ _ _)) (FrV.refl _)
    rw [if_neg q, if_neg q, if_pos (show (-1 : Int32) < 0 from by decide), if_pos hf, z1, z3 h2.1, pnm_e]
    have ip : ∀ u : Nat, ((135 : Int32) + 8 * zI (t.P : Nat)) + zI (u : Nat) = zI (135 + 8 * t.P + u : Nat) := fun u => by show (zI 135 + zI 8 * _) + _ = _; rw [zI_mul, zI_add, zI_add]; congr 1
    have i1 : (130 : Int32) + zI (t.P : Nat) = zI (130 + t.P : Nat) := by show zI 130 + _ = _; rw [zI_add]; rfl
    have i2 : (10 : Int32) + 2 * zI (t.P : Nat) = zI (10 + 2 * t.P : Nat) := by show zI 10 + zI 2 * _ = _; rw [zI_mul, zI_add]; congr 1
    have i3 : zI (10 + 2 * t.P : Nat) + 1 = zI (11 + 2 * t.P : Nat) := by rw [zI_sc]; congr 2; omega
    rw [i1, i2, i3, tnI _ (by omega), tnI _ (by omega), tnI _ (by omega)]
    refine fx2_pi (fun m => zI (m : Nat)) (fun m x => (∀ a j, a ≠ 68 → x.1 a j = σ.1 a j) ∧ x.2 = σ.2 ∧ (∀ j, ¬ (135 + 8 * t.P ≤ j ∧ j < 135 + 8 * t.P + 8) → x.1 68 j = σ.1 68 j) ∧ ∀ u, u < m → x.1 68 (135 + 8 * t.P + u) = zI (b (tpl b n i + u))) (fun o => mL σ b n (sbd (pKd b n (ten b n i)) (fun k q1 => sbd (pLk b n t.ms (ten b n q1)) (fun _ q2 => .inr ((tPer t k (lokf b n q2 t.ms), nPer N t.P (wrd b n i)), ten b n q2)))) o) (ten b n i - tpl b n i) (by omega) (fun k x hx => ?_) (fun m hm x hx k => ?_) 0 (Nat.zero_le _) rfl σ ⟨fun _ _ _ => rfl, rfl, fun _ _ => rfl, fun u hu => absurd hu (Nat.not_lt_zero u)⟩
    · obtain ⟨x1, x2, x3, x4⟩ := hx
      have fx : FrV σ x := ⟨fun a j _ y _ => x1 a j y, x2, fun _ => ⟨hf, x1 _ _ (by omega)⟩⟩
      have hkx := hk.fv fx
      have htx := ht.of x1
      have zx : x.1 64 13 = 0 := (x1 _ _ (by omega)).trans hf
      show mL σ b n _ (if zI ((ten b n i - tpl b n i : Nat) : Int) ≤ zI ((ten b n i - tpl b n i : Nat) : Int) then _ else _)
      rw [if_pos (by rw [zI_le (by omega) (by omega)]; omega)]
      obtain ⟨y, y1, y2, y3⟩ := m_next hkx (i := ten b n i) ten_le htx.end_
      have hky := hkx.fm y2.toM
      have zy : y.1 64 13 = 0 := by rw [y2.1 _ _ (by omega) (by omega)]; exact zx
      have Fy : ∀ j, y.1 68 j = x.1 68 j := fun j => y2.1 _ _ (by omega) (by omega)
      rw [y1, pbd1_s, m_isWord hk.n8 ten_le y3 (by omega) zy, m_isWord hk.n8 ten_le y3 (by omega) zy, m_isWord hk.n8 ten_le y3 (by omega) zy, m_isWord hk.n8 ten_le y3 (by omega) zy, pbd1_s, jn1_e]
      dsimp only
      refine mL_fr (fx.trans y2.toM.toV) ?_
      -- a kind was told
      have good : ∀ k : Nat, k ≤ 3 → mL y b n (sbd (pLk b n t.ms (ten b n (ten b n i))) (fun _ q2 => .inr ((tPer t k (lokf b n q2 t.ms), nPer N t.P (wrd b n i)), ten b n q2))) (bd1 (f_X13_next y) (fun (σ_15 : Mem) => jn1 (fun (σ_16 : Mem) => ixd 0 (aln 68) (jn1 (fun (i_18 : Int32) => fx3 FU (fun k_23 (i_20 : Int32) (i_21 : Int32) (i_22 : Int32) => jn0 (jn1 (fun (σ_25 : Mem) => (if (σ_25.1 64 13) = 0 then bd1 (f_X13_next σ_25) (fun (σ_27 : Mem) => ixd (zI (130 + t.P : Nat)) (aln 68) (nm (sI σ_27 68 (130 + t.P) (zI (ten b n i - tpl b n i : Nat))) (fun (σ_28 : Mem) => ixd (zI (10 + 2 * t.P : Nat)) (aln 68) (nm (sI σ_28 68 (10 + 2 * t.P) (zI k)) (fun (σ_29 : Mem) => ixd (zI (11 + 2 * t.P : Nat)) (aln 68) (nm (sI σ_29 68 (11 + 2 * t.P) i_21) (fun (σ_30 : Mem) => ixd 4 (aln 68) (ixd 4 (aln 68) (nm (sI σ_30 68 (4 : Int32).toNatClampNeg ((σ_30.1 68 (4 : Int32).toNatClampNeg) + 1)) (fun (σ_31 : Mem) => some σ_31)))))))))) else some σ_25)) (fun k_26 => (if (σ_16.1 64 13) = 0 then (if i_20 = 0 then bd1 (f_X13_wrong σ_16 7 (σ_16.1 64 4)) (fun (σ_32 : Mem) => k_26 σ_32) else k_26 σ_16) else k_26 σ_16))) (fun k_24 => (if (σ_16.1 64 8) ≤ i_22 then k_24 else (if i_20 = 0 then k_24 else ixd i_22 (aln 66) (bd1 (f_X13_in (σ_16.1 66 i_22.toNatClampNeg) 97 100) (fun (r_33 : Int32) => ixd i_22 (aln 66) (nm (i_21 ||| (((σ_16.1 66 i_22.toNatClampNeg) - 97) <<< ((2 * i_22) &&& 31))) (fun (x_34 : Int32) => nm (i_22 + 1) (fun (x_35 : Int32) => k_23 r_33 x_34 x_35))))))))) i_18 0 0) (fun k_19 => (if (σ_16.1 64 8) = (σ_16.1 68 (0 : Int32).toNatClampNeg) then k_19 1 else k_19 0)))) (fun k_17 => (if (σ_15.1 64 6) = 2 then k_17 σ_15 else bd1 (f_X13_wrong σ_15 1 (σ_15.1 64 4)) (fun (σ_37 : Mem) => k_17 σ_37))))) := by
        intro k hk3
        obtain ⟨u, u1, u2, u3⟩ := m_next hky (i := ten b n (ten b n i)) ten_le y3.end_
        have hku := hky.fm u2.toM
        have zu : u.1 64 13 = 0 := by rw [u2.1 _ _ (by omega) (by omega)]; exact zy
        have Fu : ∀ j, u.1 68 j = x.1 68 j := fun j => (u2.1 _ _ (by omega) (by omega)).trans (Fy j)
        have k5 := tkd_5 b n (ten b n (ten b n i))
        obtain ⟨v, v1, v2, v3, v4⟩ := u3.size
        have c0 : u.1 68 (0 : Int32).toNatClampNeg = zI t.ms := (Fu 0).trans ((x3 0 (by omega)).trans h.mr.ms)
        rw [u1, pbd1_s, jn1_e]
        dsimp only
        refine mL_fr u2.toM.toV ?_
        unfold pLk
        by_cases g2 : tkd b n (ten b n (ten b n i)) = 2
        · obtain ⟨p1, p2, p3, p4, p5⟩ := tk_w ten_le g2
          rw [if_pos (show u.1 64 6 = 2 from by rw [u3.tok]; exact (tk4_2 _ k5).2 g2), x68_l (by decide), jn1_e, c0, v1, v3 g2, if_pos g2]
          dsimp only
          have badL : ∀ l : Int32, mL u b n (.inl (7, tpl b n (ten b n (ten b n i)))) (bd1 (f_X13_wrong u 7 (u.1 64 4)) (fun (σ_32 : Mem) => (if (σ_32.1 64 13) = 0 then bd1 (f_X13_next σ_32) (fun (σ_27 : Mem) => ixd (zI (130 + t.P : Nat)) (aln 68) (nm (sI σ_27 68 (130 + t.P) (zI (ten b n i - tpl b n i : Nat))) (fun (σ_28 : Mem) => ixd (zI (10 + 2 * t.P : Nat)) (aln 68) (nm (sI σ_28 68 (10 + 2 * t.P) (zI k)) (fun (σ_29 : Mem) => ixd (zI (11 + 2 * t.P : Nat)) (aln 68) (nm (sI σ_29 68 (11 + 2 * t.P) l) (fun (σ_30 : Mem) => ixd 4 (aln 68) (ixd 4 (aln 68) (nm (sI σ_30 68 (4 : Int32).toNatClampNeg ((σ_30.1 68 (4 : Int32).toNatClampNeg) + 1)) (fun (σ_31 : Mem) => some σ_31)))))))))) else some σ_32))) := fun l => by
            rw [u3.at_, show (7 : Int32) = zI (7 : Nat) from rfl, m_wrong zu, pbd1_s, if_neg (by rw [wr_13]; decide)]
            exact mL_w (mF_s (wr_13 _ _ _)) (FrV.refl _)
          have hL0 : ten b n (ten b n (ten b n i)) - tpl b n (ten b n (ten b n i)) ≠ t.ms → isL b n (ten b n (ten b n i)) t.ms = false := fun c => decide_eq_false (fun d => c d.1)
          by_cases gl : ten b n (ten b n (ten b n i)) - tpl b n (ten b n (ten b n i)) = t.ms
          · rw [if_pos (show zI ((ten b n (ten b n (ten b n i)) - tpl b n (ten b n (ten b n i)) : Nat) : Int) = zI t.ms from by rw [gl]), gl]
            refine fx3_pg (fun m f l j => j = zI (m : Nat) ∧ ((f = 1 ∧ (∀ w, w < m → b (tpl b n (ten b n (ten b n i)) + w) < 101) ∧ l = zI (e4 (lokf b n (ten b n (ten b n i)) m) : Nat)) ∨ (f = 0 ∧ isL b n (ten b n (ten b n i)) t.ms = false))) (fun o => mL u b n _ o) t.ms (by omega) (fun kk f l j hh => ?_) (fun m hm f l j hh kk => ?_) 1 0 0 ⟨rfl, Or.inl ⟨rfl, fun w hw => absurd hw (Nat.not_lt_zero w), ?_⟩⟩
            · obtain ⟨rfl, hh⟩ := hh
              show mL u b n _ (jn0 _ _)
              rw [jn0_e, if_pos (show zI (t.ms : Nat) ≤ zI (t.ms : Nat) from by rw [zI_le (by omega) (by omega)]; omega), jn1_e]
              dsimp only
              rw [if_pos zu]
              rcases hh with ⟨rfl, hw, rfl⟩ | ⟨rfl, hw⟩
              · have il : isL b n (ten b n (ten b n i)) t.ms = true := decide_eq_true ⟨gl, hw⟩
                obtain ⟨s, s1, s2, s3⟩ := m_next hku (i := ten b n (ten b n (ten b n i))) ten_le u3.end_
                have zt : s.1 64 13 = 0 := by rw [s2.1 _ _ (by omega) (by omega)]; exact zu
                have Fs : ∀ j, s.1 68 j = x.1 68 j := fun j => (s2.1 _ _ (by omega) (by omega)).trans (Fu j)
                have c4 : ∀ l : Int32, (sI (sI (sI s 68 (130 + t.P) (zI (ten b n i - tpl b n i : Nat))) 68 (10 + 2 * t.P) (zI k)) 68 (11 + 2 * t.P) l).1 68 (4 : Int32).toNatClampNeg = zI t.P := fun l => by
                  show (sI (sI (sI s 68 (130 + t.P) (zI (ten b n i - tpl b n i : Nat))) 68 (10 + 2 * t.P) (zI k)) 68 (11 + 2 * t.P) l).1 68 4 = zI t.P
                  rw [sI_1, if_neg (by omega), sI_1, if_neg (by omega), sI_1, if_neg (by omega)]
                  exact (Fs 4).trans ((x3 4 (by omega)).trans h.mr.P)
                rw [if_neg (show ¬ (1 : Int32) = 0 from by decide), if_pos zu, s1, pbd1_s, x68 (by omega), pnm_e, x68 (by omega), pnm_e, x68 (by omega), pnm_e, x68_l (by decide), x68_l (by decide), pnm_e, c4, show (4 : Int32).toNatClampNeg = 4 from rfl, zI_sc t.P, if_pos il, sbd_r]
                refine mL_r rfl ((((s2.toM.toV.s8 _ _).s8 _ _).s8 _ _).s8 4 _) ((((s3.s8 _ _).s8 _ _).s8 _ _).s8 4 _) (s13 (s13 (s13 (s13 zt)))) ?_
                refine MI_Per h tb hP wo (fun j j4 j1 j2 j3 j5 => ?_) ?_ ?_ ?_ ?_ (fun w hw => ?_)
                · rw [sI_1, if_neg (by omega), sI_1, if_neg (by omega), sI_1, if_neg (by omega), sI_1, if_neg (by omega)]; exact (Fs j).trans (x3 j j5)
                · rw [sI_1, if_pos ⟨rfl, rfl⟩]
                · rw [sI_1, if_neg (by omega), sI_1, if_neg (by omega), sI_1, if_pos ⟨rfl, rfl⟩]
                · rw [sI_1, if_neg (by omega), sI_1, if_pos ⟨rfl, rfl⟩]
                · rw [sI_1, if_neg (by omega), sI_1, if_neg (by omega), sI_1, if_neg (by omega), sI_1, if_pos ⟨rfl, rfl⟩]; rfl
                · have hw : w < ten b n i - tpl b n i := hw
                  rw [sI_1, if_neg (by omega), sI_1, if_neg (by omega), sI_1, if_neg (by omega), sI_1, if_neg (by omega)]; exact (Fs _).trans (x4 w hw)
              · rw [if_pos rfl, if_neg (show ¬ (isL b n (ten b n (ten b n i)) t.ms = true) from by rw [hw]; decide), sbd_l]
                exact badL l
            · obtain ⟨rfl, hh⟩ := hh
              rw [jn0_e, if_neg (show ¬ (zI (t.ms : Nat) ≤ zI (m : Nat)) from by rw [zI_le (by omega) (by omega)]; omega), jn1_e]
              dsimp only
              rw [if_pos zu]
              rcases hh with ⟨rfl, hw, rfl⟩ | ⟨rfl, hw⟩
              · right
                have pm := p5 (tpl b n (ten b n (ten b n i)) + m) (by omega) (by omega)
                have l66 : u.1 66 m = zI (b (tpl b n (ten b n (ten b n i)) + m) : Nat) := u3.let_ g2 m (by omega)
                rw [if_neg (show ¬ (1 : Int32) = 0 from by decide), show aln 66 = 8 from rfl, ixd_in (by omega), tnI _ (by omega), l66, show f_X13_in (zI (b (tpl b n (ten b n (ten b n i)) + m) : Nat)) 97 100 = some (bI (decide (97 ≤ b (tpl b n (ten b n (ten b n i)) + m) ∧ b (tpl b n (ten b n (ten b n i)) + m) ≤ 100))) from m_in _ 97 100 (by omega), pbd1_s, ixd_in (by omega), pnm_e, pnm_e, zI_sc]
                by_cases c : b (tpl b n (ten b n (ten b n i)) + m) < 101
                · refine ⟨1, zI (e4 (lokf b n (ten b n (ten b n i)) (m + 1)) : Nat), zI (m + 1 : Nat), ⟨rfl, Or.inl ⟨rfl, fun w hw2 => ?_, rfl⟩⟩, ?_⟩
                  · rcases Nat.lt_or_ge w m with g | g
                    · exact hw w g
                    · obtain rfl : w = m := by omega
                      exact c
                  · rw [decide_eq_true (show 97 ≤ b (tpl b n (ten b n (ten b n i)) + m) ∧ b (tpl b n (ten b n (ten b n i)) + m) ≤ 100 from by omega), show zI (b (tpl b n (ten b n (ten b n i)) + m) : Nat) - 97 = zI (b (tpl b n (ten b n (ten b n i)) + m) - 97 : Nat) from by show _ - zI 97 = _; rw [zI_sub]; congr 1; omega, bt_shl' (by omega) (by omega), e4_or (by omega) c]
                    rfl
                · refine ⟨0, zI (e4 (lokf b n (ten b n (ten b n i)) m) : Nat) ||| ((zI (b (tpl b n (ten b n (ten b n i)) + m) : Nat) - 97) <<< ((2 * zI (m : Nat)) &&& 31)), zI (m + 1 : Nat), ⟨rfl, Or.inr ⟨rfl, decide_eq_false (fun d => c (d.2 m hm))⟩⟩, ?_⟩
                  rw [decide_eq_false (show ¬ (97 ≤ b (tpl b n (ten b n (ten b n i)) + m) ∧ b (tpl b n (ten b n (ten b n i)) + m) ≤ 100) from by omega)]
                  rfl
              · left
                rw [if_pos rfl, if_pos rfl, if_neg (show ¬ (isL b n (ten b n (ten b n i)) t.ms = true) from by rw [hw]; decide), sbd_l]
                exact badL l
            · show (0 : Int32) = _
              have : e4 (lokf b n (ten b n (ten b n i)) 0) = e4 (fun _ => 0) := e4_congr (fun x _ => lokf_z (Nat.zero_le _))
              rw [this]; rfl
          · rw [if_neg (show ¬ zI ((ten b n (ten b n (ten b n i)) - tpl b n (ten b n (ten b n i)) : Nat) : Int) = zI t.ms from by rw [zI_eq (by omega) (by omega)]; omega), if_neg (show ¬ (isL b n (ten b n (ten b n i)) t.ms = true) from by rw [hL0 gl]; decide), sbd_l, fx3_once, jn0_e, if_neg (show ¬ (zI ((ten b n (ten b n (ten b n i)) - tpl b n (ten b n (ten b n i)) : Nat) : Int) ≤ 0) from by rw [show (0 : Int32) = zI 0 from rfl, zI_le (by omega) (by omega)]; omega), if_pos rfl, jn1_e]
            dsimp only
            rw [if_pos zu, if_pos rfl]
            exact badL 0
        · have v0 := v4 g2
          have ne : ¬ u.1 64 6 = 2 := by rw [u3.tok]; exact fun c => g2 ((tk4_2 _ k5).1 c)
          have o8 : (wr u (zI (1 : Nat)) (zI (tpl b n (ten b n (ten b n i)) : Nat))).1 64 8 = zI v := (wr_o _ _ _ (by omega)).trans v1
          have o0 : (wr u (zI (1 : Nat)) (zI (tpl b n (ten b n (ten b n i)) : Nat))).1 68 (0 : Int32).toNatClampNeg = zI t.ms := (wr_o _ _ _ (by omega)).trans c0
          have o13 : ¬ (wr u (zI (1 : Nat)) (zI (tpl b n (ten b n (ten b n i)) : Nat))).1 64 13 = 0 := by rw [wr_13]; decide
          rw [if_neg ne, if_neg g2, sbd_l, u3.at_, show f_X13_wrong u 1 (zI (tpl b n (ten b n (ten b n i)) : Nat)) = some (wr u (zI (1 : Nat)) (zI (tpl b n (ten b n (ten b n i)) : Nat))) from m_wrong zu _ _, pbd1_s, x68_l (by decide), jn1_e, o8, o0]
          dsimp only
          rw [if_neg (show ¬ zI (v : Nat) = zI t.ms from by rw [zI_eq (by omega) (by omega)]; omega), fx3_once, jn0_e]
          have fin : mL u b n (.inl (1, tpl b n (ten b n (ten b n i)))) (some (wr u (zI (1 : Nat)) (zI (tpl b n (ten b n (ten b n i)) : Nat)))) := mL_w (mF_s (wr_13 _ _ _)) (FrV.refl _)
          rw [if_pos (show (0 : Int32) = 0 from rfl), ite_self, jn1_e]
          dsimp only
          rw [if_neg o13, if_neg o13]
          exact fin
      unfold pKd
      by_cases w0 : isw b n (ten b n i) 15 = true
      · rw [w0, if_pos (show true = true from rfl), if_neg (show ¬ bI true = 0 from by decide), sbd_r, jn1_e]; dsimp only; rw [if_pos (show (0 : Int32) ≤ 0 from by decide), if_pos zy]; exact good 0 (by omega)
      have w0 : isw b n (ten b n i) 15 = false := by simpa using w0
      rw [w0, if_neg (show ¬ (false = true) from by decide), if_pos (show bI false = 0 from rfl), pbd1_s]
      by_cases w1 : isw b n (ten b n i) 16 = true
      · rw [w1, if_pos (show true = true from rfl), if_neg (show ¬ bI true = 0 from by decide), sbd_r, jn1_e]; dsimp only; rw [if_pos (show (0 : Int32) ≤ 1 from by decide), if_pos zy]; exact good 1 (by omega)
      have w1 : isw b n (ten b n i) 16 = false := by simpa using w1
      rw [w1, if_neg (show ¬ (false = true) from by decide), if_pos (show bI false = 0 from rfl), pbd1_s]
      by_cases w2 : isw b n (ten b n i) 17 = true
      · rw [w2, if_pos (show true = true from rfl), if_neg (show ¬ bI true = 0 from by decide), sbd_r, jn1_e]; dsimp only; rw [if_pos (show (0 : Int32) ≤ 2 from by decide), if_pos zy]; exact good 2 (by omega)
      have w2 : isw b n (ten b n i) 17 = false := by simpa using w2
      rw [w2, if_neg (show ¬ (false = true) from by decide), if_pos (show bI false = 0 from rfl), pbd1_s]
      by_cases w3 : isw b n (ten b n i) 18 = true
      · rw [w3, if_pos (show true = true from rfl), if_neg (show ¬ bI true = 0 from by decide), sbd_r, jn1_e]; dsimp only; rw [if_pos (show (0 : Int32) ≤ 3 from by decide), if_pos zy]; exact good 3 (by omega)
      have w3 : isw b n (ten b n i) 18 = false := by simpa using w3
      rw [w3, if_neg (show ¬ (false = true) from by decide), if_pos (show bI false = 0 from rfl), sbd_l, jn1_e]
      dsimp only
      rw [if_neg (show ¬ ((0 : Int32) ≤ -1) from by decide), y3.at_, show f_X13_wrong y 1 (zI (tpl b n (ten b n i) : Nat)) = some (wr y (zI (1 : Nat)) (zI (tpl b n (ten b n i) : Nat))) from m_wrong zy _ _, pbd1_s, if_neg (by rw [wr_13]; decide)]
      exact mL_w (mF_s (wr_13 _ _ _)) (FrV.refl _)
    · obtain ⟨x1, x2, x3, x4⟩ := hx
      right
      have bl : x.1 66 m = zI (b (tpl b n i + m) : Nat) := (x1 _ _ (by omega)).trans (ht.let_ h2.1 m hm)
      rw [if_neg (show ¬ (zI ((ten b n i - tpl b n i : Nat) : Int) ≤ zI (m : Nat)) from by rw [zI_le (by omega) (by omega)]; omega), show aln 66 = 8 from rfl, ixd_in (by omega), ip, x68 (by omega), tnI _ (by omega), tnI _ (by omega), bl, pnm_e, pnm_e, zI_sc]
      refine ⟨sI x 68 (135 + 8 * t.P + m) (zI (b (tpl b n i + m) : Nat)), ⟨fun a j ha => ?_, x2, fun j hj => ?_, fun w hw => ?_⟩, rfl⟩
      · rw [sI_1, if_neg (by omega)]; exact x1 a j ha
      · rw [sI_1, if_neg (by omega)]; exact x3 j hj
      · by_cases g : w = m
        · rw [g, sI_1, if_pos ⟨rfl, rfl⟩]
        · rw [sI_1, if_neg (by omega)]; exact x4 w (by omega)
  · rw [if_neg h2, if_neg h2, if_neg (by rw [wr_13]; decide), if_neg (by rw [wr_13]; decide)]
    exact mL_w (mF_s (wr_13 _ _ _)) (FrV.refl _)
