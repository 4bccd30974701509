abbrev Mem : Type := (Nat → Nat → Int32) × (Nat → Nat → Int64) × (Nat → Nat → Option Nat)
def sI (σ : Mem) (a j : Nat) (v : Int32) : Mem := (fun b => if b = a then upd (σ.1 a) j v else σ.1 b, σ.2)
def sL (σ : Mem) (a j : Nat) (v : Int64) : Mem := (σ.1, (fun b => if b = a then vp_updL (σ.2.1 a) j v else σ.2.1 b), σ.2.2)
def sR (σ : Mem) (a j : Nat) (v : Option Nat) : Mem := (σ.1, σ.2.1, fun b => if b = a then va_up (σ.2.2 a) j v else σ.2.2 b)
def sA (σ : Mem) (a : Nat) (f : Nat → Int32) : Mem := (fun b => if b = a then f else σ.1 b, σ.2)
/-- places of the world: D, class numbers of arrays, the first address, addresses of the constants of Line, of the texts, of their bytes, of LINES and of the switch table -/
abbrev XG : Type := va_G × (Nat → ClassId) × Nat × (Nat → Nat) × (Nat → Nat) × (Nat → Nat) × Nat × Nat
def bs (g : XG) (k : Nat) : Nat := g.2.2.1 + k
def adE (g : XG) (i : Nat) : Nat := g.2.2.2.1 i
def adS (g : XG) (i : Nat) : Nat := g.2.2.2.2.1 i
def adV (g : XG) (i : Nat) : Nat := g.2.2.2.2.2.1 i
def tLn (g : XG) : Nat := g.2.2.2.2.2.2.1
def tSw (g : XG) : Nat := g.2.2.2.2.2.2.2
def xI (g : XG) : ClassId := g.2.1 0
def xB (g : XG) : ClassId := g.2.1 1
def xJ (g : XG) : ClassId := g.2.1 2
def xO (g : XG) : ClassId := g.2.1 3
abbrev tysX (g : XG) : List (ClassId × FieldType) := [(xI g, .int), (xB g, .byte), (xJ g, .long), (xO g, .object RX9)]
def A0 (g : XG) : Nat → Prop := fun q => g.2.2.1 ≤ q
def Ag (g : XG) (lo : Nat) : Nat → Prop := fun q => g.2.2.1 + lo ≤ q
theorem bs_inj (g : XG) {a b : Nat} (h : bs g a = bs g b) : a = b := Nat.add_left_cancel h
theorem ag_a0 (g : XG) (lo q : Nat) (h : Ag g lo q) : A0 g q := Nat.le_trans (Nat.le_add_right _ _) h
def K0l : List Nat := [12, 10, 21, 11, 20, 22, 20, 20, 5, 20, 20, 20, 20, 20, 20, 11, 20, 22, 20, 20, 5, 20, 20, 20, 20, 20, 20, 6, 9, 20, 5, 20, 9, 20, 5, 20, 23, 9, 20, 5, 20, 9, 20, 5, 20, 9, 20, 5, 20, 1, 20, 3, 20, 20, 20, 8, 20, 20, 20, 2, 22, 7, 20, 20, 13, 20, 20, 20, 20, 20, 20, 20, 20, 20, 20, 20, 20, 20, 20, 20, 22]
def K0 (k : Nat) : Nat := K0l.getD k 99
def alnl : List Nat := [0, 0, 800, 0, 7, 5, 5, 5, 0, 150, 30, 5, 5, 25, 5, 0, 7, 5, 5, 5, 0, 150, 30, 5, 5, 25, 5, 0, 0, 30, 0, 150, 0, 30, 0, 150, 3, 0, 30, 0, 150, 0, 30, 0, 150, 0, 30, 0, 150, 0, 64, 0, 150, 5, 3, 0, 5, 5, 5, 0, 6, 0, 25, 35, 0, 800, 8, 175, 175, 80, 1280, 240, 30, 30, 3, 3, 5, 5, 5, 35, 1]
def aln (k : Nat) : Nat := alnl.getD k 0
def szq (c : Nat) : Nat := match c with | 1 => 2 | 2 => 2 | 3 => 4 | 5 => 2 | 6 => 1 | 7 => 3 | 8 => 4 | 9 => 4 | 10 => 2 | 11 => 12 | 12 => 64 | 13 => 16 | _ => 1
def tp (c lo n a : Nat) : Prop := K0 a = c ∧ lo ≤ a ∧ a + szq c ≤ n
theorem tp.k {c lo n a : Nat} (h : tp c lo n a) : K0 a = c := h.1
theorem tp.in {c lo n a : Nat} (h : tp c lo n a) : lo ≤ a ∧ a < n := by
  refine ⟨h.2.1, Nat.lt_of_lt_of_le (Nat.lt_add_of_pos_right ?_) h.2.2⟩
  unfold szq; split <;> decide
def subok (c c2 off : Nat) : Bool := ((List.range 81).all fun a => (K0 a != c) || (K0 (a + off) == c2)) && Nat.ble (off + szq c2) (szq c) && c != 99
theorem K0_lt {a c : Nat} (h : K0 a = c) (hc : c ≠ 99) : a < 81 := by
  apply Classical.byContradiction
  intro hn
  apply hc
  rw [← h, K0, List.getD_eq_getElem?_getD, List.getElem?_eq_none (by show 81 ≤ a; omega)]
  rfl
theorem tp.sub {c lo n a : Nat} (h : tp c lo n a) (c2 off : Nat) (ho : subok c c2 off = true) : tp c2 lo n (a + off) := by
  unfold subok at ho
  simp only [Bool.and_eq_true, bne_iff_ne, ne_eq] at ho
  obtain ⟨⟨h1, h2⟩, h3⟩ := ho
  have ha := K0_lt h.1 h3
  have h4 := List.all_eq_true.mp h1 a (List.mem_range.mpr ha)
  simp only [Bool.or_eq_true, bne_iff_ne, ne_eq, beq_iff_eq] at h4
  have h5 : K0 (a + off) = c2 := h4.resolve_left (fun q => q h.1)
  have h6 := Nat.le_of_ble_eq_true h2
  exact ⟨h5, Nat.le_trans h.2.1 (Nat.le_add_right _ _), by have := h.2.2; omega⟩
def rv (g : XG) (r : Option Nat) : Value := va_rf (r.map (bs g))
def fl1 (g : XG) (k : Nat) (f : Nat → Int32) (r : Nat → Option Nat) : List Value := [.ref (bs g (k + 1)), .int (f 1)]
def fl2 (g : XG) (k : Nat) (f : Nat → Int32) (r : Nat → Option Nat) : List Value := [.ref (bs g (k + 1))]
def fl3 (g : XG) (k : Nat) (f : Nat → Int32) (r : Nat → Option Nat) : List Value := [.ref (bs g (k + 1)), .ref (bs g (k + 2)), .ref (bs g (k + 3)), .int (f 3), .int (f 4), .int (f 5), .int (f 6)]
def fl5 (g : XG) (k : Nat) (f : Nat → Int32) (r : Nat → Option Nat) : List Value := [.ref (bs g (k + 1))]
def fl6 (g : XG) (k : Nat) (f : Nat → Int32) (r : Nat → Option Nat) : List Value := [.ref (bs g 1), rv g (r 1), .int (f 2), .int (f 3), .int (f 4)]
def fl7 (g : XG) (k : Nat) (f : Nat → Int32) (r : Nat → Option Nat) : List Value := [.ref (bs g (k + 1)), .ref (bs g (k + 2)), .int (f 2), .int (f 3), .int (f 4)]
def fl8 (g : XG) (k : Nat) (f : Nat → Int32) (r : Nat → Option Nat) : List Value := [.ref (bs g (k + 1)), .ref (bs g (k + 2)), .ref (bs g (k + 3))]
def fl9 (g : XG) (k : Nat) (f : Nat → Int32) (r : Nat → Option Nat) : List Value := [rv g (r 0), .int (f 1), .int (f 2), .ref (bs g (k + 1)), .ref (bs g (k + 2))]
def fl10 (g : XG) (k : Nat) (f : Nat → Int32) (r : Nat → Option Nat) : List Value := [.ref (bs g (k + 1)), .int (f 1), .int (f 2), .int (f 3), .int (f 4), .int (f 5)]
def fl11 (g : XG) (k : Nat) (f : Nat → Int32) (r : Nat → Option Nat) : List Value := [.int (f 0), .int (f 1), .int (f 2), .int (f 3), .ref (bs g (k + 1)), .ref (bs g (k + 2)), .ref (bs g (k + 3)), .ref (bs g (k + 4)), .ref (bs g (k + 5)), .ref (bs g (k + 7)), .ref (bs g (k + 8)), .ref (bs g (k + 9)), .ref (bs g (k + 10)), .ref (bs g (k + 11))]
def fl12 (g : XG) (k : Nat) (f : Nat → Int32) (r : Nat → Option Nat) : List Value := [.ref (bs g 1), .ref (bs g 27), .ref (bs g 28), .ref (bs g 32), .ref (bs g 36), .ref (bs g 49), .ref (bs g 51), .ref (bs g 55), .ref (bs g 59), .ref (bs g 61), rv g (r 10), rv g (r 11), .int (f 12), .int (f 13), .int (f 14), .int (f 15)]
def fl13 (g : XG) (k : Nat) (f : Nat → Int32) (r : Nat → Option Nat) : List Value := [.int (f 0), .ref (bs g 65), .int (f 2), .int (f 3), .int (f 4), .int (f 5), .int (f 6), .int (f 7), .int (f 8), .int (f 9), .int (f 10), .int (f 11), .ref (bs g 66), .int (f 13), .int (f 14), .ref (bs g 67), .ref (bs g 68), .ref (bs g 69), .ref (bs g 70), .ref (bs g 71), .int (f 20), .int (f 21), .ref (bs g 72), .ref (bs g 73), .int (f 24), .ref (bs g 74), .ref (bs g 75), .ref (bs g 76), .ref (bs g 77), .ref (bs g 78), .int (f 30), .ref (bs g 79), .int (f 32)]
def ctk (g : XG) (c k : Nat) (f : Nat → Int32) (l : Nat → Int64) (r : Nat → Option Nat) : va_E := match c with
  | 1 => .inr (0, fl1 g k f r)
  | 2 => .inr (1, fl2 g k f r)
  | 3 => .inr (2, fl3 g k f r)
  | 5 => .inr (3, fl5 g k f r)
  | 6 => .inr (4, fl6 g k f r)
  | 7 => .inr (5, fl7 g k f r)
  | 8 => .inr (6, fl8 g k f r)
  | 9 => .inr (7, fl9 g k f r)
  | 10 => .inr (8, fl10 g k f r)
  | 11 => .inr (9, fl11 g k f r)
  | 12 => .inr (10, fl12 g k f r)
  | 13 => .inr (11, fl13 g k f r)
  | 20 => .inl (xI g, aln k, .inl f)
  | 21 => .inl (xB g, aln k, .inl f)
  | 22 => .inl (xJ g, aln k, .inr (.inl l))
  | 23 => .inl (xO g, aln k, .inr (.inr (.inr (.inr (fun j => (r j).map (bs g))))))
  | _ => .inr (99, [])
def ct (g : XG) (σ : Mem) (k : Nat) : va_E := ctk g (K0 k) k (σ.1 k) (σ.2.1 k) (σ.2.2 k)
theorem ct_1 (g : XG) (σ : Mem) {k : Nat} (h : K0 k = 1) : ct g σ k = .inr (0, fl1 g k (σ.1 k) (σ.2.2 k)) := by rw [ct, h]; rfl
theorem ct_2 (g : XG) (σ : Mem) {k : Nat} (h : K0 k = 2) : ct g σ k = .inr (1, fl2 g k (σ.1 k) (σ.2.2 k)) := by rw [ct, h]; rfl
theorem ct_3 (g : XG) (σ : Mem) {k : Nat} (h : K0 k = 3) : ct g σ k = .inr (2, fl3 g k (σ.1 k) (σ.2.2 k)) := by rw [ct, h]; rfl
theorem ct_5 (g : XG) (σ : Mem) {k : Nat} (h : K0 k = 5) : ct g σ k = .inr (3, fl5 g k (σ.1 k) (σ.2.2 k)) := by rw [ct, h]; rfl
theorem ct_6 (g : XG) (σ : Mem) {k : Nat} (h : K0 k = 6) : ct g σ k = .inr (4, fl6 g k (σ.1 k) (σ.2.2 k)) := by rw [ct, h]; rfl
theorem ct_7 (g : XG) (σ : Mem) {k : Nat} (h : K0 k = 7) : ct g σ k = .inr (5, fl7 g k (σ.1 k) (σ.2.2 k)) := by rw [ct, h]; rfl
theorem ct_8 (g : XG) (σ : Mem) {k : Nat} (h : K0 k = 8) : ct g σ k = .inr (6, fl8 g k (σ.1 k) (σ.2.2 k)) := by rw [ct, h]; rfl
theorem ct_9 (g : XG) (σ : Mem) {k : Nat} (h : K0 k = 9) : ct g σ k = .inr (7, fl9 g k (σ.1 k) (σ.2.2 k)) := by rw [ct, h]; rfl
theorem ct_10 (g : XG) (σ : Mem) {k : Nat} (h : K0 k = 10) : ct g σ k = .inr (8, fl10 g k (σ.1 k) (σ.2.2 k)) := by rw [ct, h]; rfl
theorem ct_11 (g : XG) (σ : Mem) {k : Nat} (h : K0 k = 11) : ct g σ k = .inr (9, fl11 g k (σ.1 k) (σ.2.2 k)) := by rw [ct, h]; rfl
theorem ct_12 (g : XG) (σ : Mem) {k : Nat} (h : K0 k = 12) : ct g σ k = .inr (10, fl12 g k (σ.1 k) (σ.2.2 k)) := by rw [ct, h]; rfl
theorem ct_13 (g : XG) (σ : Mem) {k : Nat} (h : K0 k = 13) : ct g σ k = .inr (11, fl13 g k (σ.1 k) (σ.2.2 k)) := by rw [ct, h]; rfl
theorem ct_20 (g : XG) (σ : Mem) {k : Nat} (h : K0 k = 20) : ct g σ k = .inl (xI g, aln k, .inl (σ.1 k)) := by rw [ct, h]; rfl
theorem ct_21 (g : XG) (σ : Mem) {k : Nat} (h : K0 k = 21) : ct g σ k = .inl (xB g, aln k, .inl (σ.1 k)) := by rw [ct, h]; rfl
theorem ct_22 (g : XG) (σ : Mem) {k : Nat} (h : K0 k = 22) : ct g σ k = .inl (xJ g, aln k, .inr (.inl (σ.2.1 k))) := by rw [ct, h]; rfl
theorem ct_23 (g : XG) (σ : Mem) {k : Nat} (h : K0 k = 23) : ct g σ k = .inl (xO g, aln k, .inr (.inr (.inr (.inr (fun j => (σ.2.2 k j).map (bs g)))))) := by rw [ct, h]; rfl
theorem sI_ne (σ : Mem) {a b : Nat} (j : Nat) (v : Int32) (h : b ≠ a) : (sI σ a j v).1 b = σ.1 b := if_neg h
theorem sI_eq (σ : Mem) (a j : Nat) (v : Int32) : (sI σ a j v).1 a = upd (σ.1 a) j v := if_pos rfl
theorem ct_sI_ne (g : XG) (σ : Mem) {a b : Nat} (j : Nat) (v : Int32) (h : b ≠ a) : ct g (sI σ a j v) b = ct g σ b := by rw [ct, sI_ne σ j v h]; rfl
theorem ct_sA_ne (g : XG) (σ : Mem) {a b : Nat} (f : Nat → Int32) (h : b ≠ a) : ct g (sA σ a f) b = ct g σ b := by rw [ct, show (sA σ a f).1 b = σ.1 b from if_neg h]; rfl
theorem ct_sL_ne (g : XG) (σ : Mem) {a b : Nat} (j : Nat) (v : Int64) (h : b ≠ a) : ct g (sL σ a j v) b = ct g σ b := by rw [ct, show (sL σ a j v).2.1 b = σ.2.1 b from if_neg h]; rfl
theorem ct_sR_ne (g : XG) (σ : Mem) {a b : Nat} (j : Nat) (v : Option Nat) (h : b ≠ a) : ct g (sR σ a j v) b = ct g σ b := by rw [ct, show (sR σ a j v).2.2 b = σ.2.2 b from if_neg h]; rfl
/-- every reference that is not null leads to a Town, or to a State -/
def TR (lo n : Nat) (σ : Mem) : Prop := ∀ k j T : Nat, lo ≤ k → k < n → σ.2.2 k j = some T → (K0 k = 23 → tp 9 lo n T) ∧ (K0 k ≠ 23 → tp 11 lo n T)
def wl (g : XG) (lo n : Nat) (σ : Mem) : va_W := (List.range (n - lo)).map fun i => (bs g (lo + i), ct g σ (lo + i))
def Wd (g : XG) (lo n : Nat) (σ : Mem) (H : Heap) : Prop := va_P g.1 vwCl (wl g lo n σ) H ∧ TR lo n σ
theorem wl_get (g : XG) (σ : Mem) {lo n k : Nat} (h : lo ≤ k ∧ k < n) : (wl g lo n σ)[k - lo]? = some (bs g k, ct g σ k) := by
  have e : lo + (k - lo) = k := by omega
  rw [wl, List.getElem?_map, List.getElem?_range (by omega)]
  show some (bs g (lo + (k - lo)), ct g σ (lo + (k - lo))) = _
  rw [e]
theorem wl_of (g : XG) (σ : Mem) {lo n i : Nat} {q : Nat × va_E} (h : (wl g lo n σ)[i]? = some q) : i < n - lo ∧ q = (bs g (lo + i), ct g σ (lo + i)) := by
  rw [wl, List.getElem?_map] at h
  by_cases hi : i < n - lo
  · rw [List.getElem?_range hi] at h
    exact ⟨hi, (Option.some.inj h).symm⟩
  · rw [List.getElem?_eq_none (by simp; omega)] at h
    cases h
theorem wl_D (g : XG) (σ : Mem) (lo n : Nat) : va_D (Ag g lo) (wl g lo n σ) := by
  refine ⟨fun i j p q hi hj e => ?_, fun i q hi => ?_⟩
  · obtain ⟨-, rfl⟩ := wl_of g σ hi
    obtain ⟨-, rfl⟩ := wl_of g σ hj
    have := bs_inj g e
    omega
  · obtain ⟨-, rfl⟩ := wl_of g σ hi
    show g.2.2.1 + lo ≤ g.2.2.1 + (lo + i)
    omega
theorem wl_set (g : XG) (σ τ : Mem) {lo n k : Nat} {e : va_E} (h : lo ≤ k ∧ k < n) (he : ct g τ k = e) (ho : ∀ j, j ≠ k → ct g τ j = ct g σ j) : (wl g lo n σ).set (k - lo) (bs g k, e) = wl g lo n τ := by
  apply List.ext_getElem?
  intro i
  by_cases hi : i = k - lo
  · subst hi
    rw [wl_get g τ h, he]
    exact List.getElem?_set_self (by rw [wl, List.length_map, List.length_range]; omega)
  · rw [List.getElem?_set_ne (Ne.symm hi), wl, wl, List.getElem?_map, List.getElem?_map]
    by_cases hl : i < n - lo
    · rw [List.getElem?_range hl]
      show some (bs g (lo + i), ct g σ (lo + i)) = some (bs g (lo + i), ct g τ (lo + i))
      rw [ho (lo + i) (by omega)]
    · rw [List.getElem?_eq_none (by simp; omega)]
      rfl
/-- statics that nobody writes -/
def lnNames : List String := ["TOWN", "PERSON", "CHANGE", "VISIT", "WISH", "ASKS", "STARE"]
def lnNum : List Int32 := [0, 1, 2, 3, 4, 5, 6]
def lnRoom : List Int32 := [1, 5, 10, 10, 5, 8, 5]
def lnF : List (String × String × String × List Int32) := [("MirrorHour$Line", "numbe\x72", "I", lnNum), ("MirrorHour$Line", "room", "I", lnRoom), ("java/lang/Enum", "ordinal", "I", lnNum)]
def swl : List Int32 := [1, 2, 3, 4, 5, 6, 0]
def strs : List String := ["town", "person", "change", "visit", "wish", "asks", "stare", "marks", "within", "late", "shut", "day", "mark", "by", "odds", "plain", "aged", "bearded", "vain"]
def strLen : List Nat := [4, 6, 6, 5, 4, 4, 5, 5, 6, 4, 4, 3, 4, 2, 4, 5, 4, 7, 4]
def strB : List (List Int32) := [[116, 111, 119, 110], [112, 101, 114, 115, 111, 110], [99, 104, 97, 110, 103, 101], [118, 105, 115, 105, 116], [119, 105, 115, 104], [97, 115, 107, 115], [115, 116, 97, 114, 101], [109, 97, 114, 107, 115], [119, 105, 116, 104, 105, 110], [108, 97, 116, 101], [115, 104, 117, 116], [100, 97, 121], [109, 97, 114, 107], [98, 121], [111, 100, 100, 115], [112, 108, 97, 105, 110], [97, 103, 101, 100], [98, 101, 97, 114, 100, 101, 100], [118, 97, 105, 110]]
def ST (g : XG) (U : State) (H : Heap) : Prop :=
  (va_En RX4 "LMirrorHour$Line;" lnNames lnF (adE g) (A0 g) U H ∧ va_Z RX12 "LINES" "[LMirrorHour$Line;" (.ref (tLn g)) (A0 g) U H ∧ va_T (.object RX4) (tLn g) 7 (fun j => .ref (adE g j)) (A0 g) U H) ∧
  (va_Z RX0 "$SwitchMap$MirrorHour$Line" "[I" (.ref (tSw g)) (A0 g) U H ∧ va_T .int (tSw g) 7 (fun j => .int (swl.getD j 0)) (A0 g) U H) ∧
  va_Ef 7 RX4 "word" "Ljava/lang/String;" (fun i => .ref (adS g i)) (adE g) (A0 g) U H ∧ vk_S 19 strLen strB (adS g) (adV g) (A0 g) U H ∧ va_Z "java/lang/String" "COMPACT_STRINGS" "Z" (.int 1) (A0 g) U H ∧ (vx_Zq Bundle.tN "UNASSIGNED_STACK" Bundle.steD (A0 g) U H ∧ vx_Zq Bundle.tN "SUPPRESSED_SENTINEL" Bundle.listD (A0 g) U H) ∧ va_Zq "jdk/internal/util/Preconditions" "SIOOBE_FORMATTER" "Ljava/util/function/BiFunction;" (A0 g) U H
theorem ST.moved {g : XG} {u U : State} {H : Heap} (hvm : u.vm.Alike U.vm) (h : ST g u H) : ST g U H :=
  ⟨⟨va_En.moved hvm h.1.1, va_Z.moved hvm h.1.2.1, va_T.moved hvm h.1.2.2⟩, ⟨va_Z.moved hvm h.2.1.1, va_T.moved hvm h.2.1.2⟩, va_Ef.moved hvm h.2.2.1, vk_S.moved hvm h.2.2.2.1, va_Z.moved hvm h.2.2.2.2.1, ⟨vx_Zq.moved hvm h.2.2.2.2.2.1.1, vx_Zq.moved hvm h.2.2.2.2.2.1.2⟩, va_Zq.moved hvm h.2.2.2.2.2.2⟩
theorem ST.kept {g : XG} {U : State} {H H1 : Heap} (h : ST g U H) (hq : ∀ a : Nat, a < H.size → ¬ A0 g a → H1[a]? = H[a]?) : ST g U H1 :=
  ⟨⟨h.1.1.kept hq, h.1.2.1.kept hq, h.1.2.2.kept hq⟩, ⟨h.2.1.1.kept hq, h.2.1.2.kept hq⟩, h.2.2.1.kept hq, h.2.2.2.1.kept hq, h.2.2.2.2.1.kept hq, ⟨h.2.2.2.2.2.1.1.kept hq, h.2.2.2.2.2.1.2.kept hq⟩, h.2.2.2.2.2.2.kept hq⟩

def fnL : List (String × Nat × String × String × String × String) := [("MirrorHou\x72", 94, "MirrorHour$Tape", "count", "I", "MirrorHou\x72"), ("MirrorHour$Reade\x72", 44, "MirrorHour$Tape", "place", "I", "MirrorHou\x72"), ("MirrorHour$Reade\x72", 38, "MirrorHour$Tape", "sort", "I", "MirrorHou\x72"), ("MirrorHour$Town", 9, "MirrorHou\x72", "LINES", "[LMirrorHour$Line;", "MirrorHou\x72"), ("MirrorHour$Riddle", 28, "MirrorHour$Town", "marks", "I", "MirrorHou\x72"), ("MirrorHour$Reade\x72", 130, "MirrorHour$Town", "marks", "I", "MirrorHou\x72"), ("MirrorHour$State", 142, "MirrorHour$Town", "marks", "I", "MirrorHou\x72"), ("MirrorHou\x72", 285, "MirrorHour$Town", "marks", "I", "MirrorHou\x72"), ("MirrorHour$Reade\x72", 134, "MirrorHour$Town", "within", "I", "MirrorHou\x72"), ("MirrorHour$State", 106, "MirrorHour$Town", "within", "I", "MirrorHou\x72"), ("MirrorHou\x72", 338, "MirrorHour$Town", "within", "I", "MirrorHou\x72"), ("MirrorHour$Reade\x72", 138, "MirrorHour$Town", "late", "I", "MirrorHou\x72"), ("MirrorHour$State", 84, "MirrorHour$Town", "late", "I", "MirrorHou\x72"), ("MirrorHou\x72", 341, "MirrorHour$Town", "late", "I", "MirrorHou\x72"), ("MirrorHour$Reade\x72", 142, "MirrorHour$Town", "shut", "I", "MirrorHou\x72"), ("MirrorHou\x72", 344, "MirrorHour$Town", "shut", "I", "MirrorHou\x72"), ("MirrorHou\x72", 161, "MirrorHour$Town", "kinds", "[I", "MirrorHou\x72"), ("MirrorHour$State", 93, "MirrorHour$Town", "kinds", "[I", "MirrorHou\x72"), ("MirrorHour$Riddle", 75, "MirrorHour$Town", "told", "[I", "MirrorHou\x72"), ("MirrorHour$State", 81, "MirrorHour$Town", "told", "[I", "MirrorHou\x72"), ("MirrorHour$State", 44, "MirrorHour$Town", "looks", "LMirrorHour$Looks;", "MirrorHou\x72"), ("MirrorHour$Reade\x72", 171, "MirrorHour$Town", "looks", "LMirrorHour$Looks;", "MirrorHou\x72"), ("MirrorHour$State", 37, "MirrorHour$Town", "visits", "[I", "MirrorHou\x72"), ("MirrorHour$Reade\x72", 181, "MirrorHour$Town", "visits", "[I", "MirrorHou\x72"), ("MirrorHour$Fewest", 33, "MirrorHour$Town", "wishPerson", "[I", "MirrorHou\x72"), ("MirrorHour$Reade\x72", 202, "MirrorHour$Town", "wishPerson", "[I", "MirrorHou\x72"), ("MirrorHour$State", 122, "MirrorHour$Town", "wishPerson", "[I", "MirrorHou\x72"), ("MirrorHour$Fewest", 40, "MirrorHour$Town", "wishDay", "[I", "MirrorHou\x72"), ("MirrorHour$Reade\x72", 205, "MirrorHour$Town", "wishDay", "[I", "MirrorHou\x72"), ("MirrorHour$State", 125, "MirrorHour$Town", "wishDay", "[I", "MirrorHou\x72"), ("MirrorHour$Reade\x72", 213, "MirrorHour$Town", "odds", "[I", "MirrorHou\x72"), ("MirrorHour$Riddle", 88, "MirrorHour$Town", "stares", "[I", "MirrorHou\x72"), ("MirrorHour$Reade\x72", 221, "MirrorHour$Town", "stares", "[I", "MirrorHou\x72"), ("MirrorHou\x72", 109, "MirrorHour$Reade\x72", "spot", "I", "MirrorHou\x72"), ("MirrorHour$Fewest", 21, "MirrorHour$State", "town", "LMirrorHour$Town;", "MirrorHou\x72"), ("MirrorHour$Rings", 21, "MirrorHour$State", "town", "LMirrorHour$Town;", "MirrorHou\x72"), ("MirrorHour$Riddle", 22, "MirrorHour$State", "town", "LMirrorHour$Town;", "MirrorHou\x72"), ("MirrorHour$Rings", 52, "MirrorHour$State", "day", "I", "MirrorHou\x72"), ("MirrorHour$Acts", 43, "MirrorHour$State", "day", "I", "MirrorHou\x72"), ("MirrorHou\x72", 311, "MirrorHour$State", "day", "I", "MirrorHou\x72"), ("MirrorHour$Acts", 52, "MirrorHour$State", "shocks", "I", "MirrorHou\x72"), ("MirrorHou\x72", 317, "MirrorHour$State", "shocks", "I", "MirrorHou\x72"), ("MirrorHour$Riddle", 55, "MirrorHour$State", "looks", "LMirrorHour$Looks;", "MirrorHou\x72"), ("MirrorHour$Acts", 39, "MirrorHour$State", "looks", "LMirrorHour$Looks;", "MirrorHou\x72"), ("MirrorHou\x72", 138, "MirrorHour$State", "looks", "LMirrorHour$Looks;", "MirrorHou\x72"), ("MirrorHou\x72", 323, "MirrorHour$Acts", "count", "I", "MirrorHou\x72"), ("MirrorHou\x72", 218, "MirrorHour$Fewest", "chosen", "[I", "MirrorHou\x72"), ("MirrorHou\x72", 214, "MirrorHour$Fewest", "count", "I", "MirrorHou\x72"), ("MirrorHou\x72", 227, "MirrorHour$Rings", "has", "[I", "MirrorHou\x72"), ("MirrorHou\x72", 224, "MirrorHour$Rings", "gets", "[I", "MirrorHou\x72"), ("MirrorHou\x72", 294, "MirrorHour$Riddle", "passBy", "I", "MirrorHou\x72"), ("MirrorHou\x72", 297, "MirrorHour$Riddle", "passLeft", "I", "MirrorHou\x72"), ("MirrorHour$Reade\x72", 109, "MirrorHou\x72", "LINES", "[LMirrorHour$Line;", "MirrorHou\x72"), ("MirrorHour$Reade\x72", 113, "MirrorHour$Line", "word", "Ljava/lang/String;", "MirrorHou\x72"), ("MirrorHour$Town", 71, "MirrorHour$Line", "numbe\x72", "I", "MirrorHou\x72"), ("MirrorHour$Reade\x72", 72, "MirrorHour$Line", "room", "I", "MirrorHou\x72")]
def mnL : List (String × Nat × MethodName × String) := [("MirrorHou\x72", 9, ⟨"MirrorHour$Tape", "<init>", "()V"⟩, "MirrorHou\x72"), ("MirrorHour$Town", 31, ⟨"MirrorHour$Looks", "<init>", "()V"⟩, "MirrorHou\x72"), ("MirrorHour$Town", 67, ⟨"MirrorHou\x72", "fill", "([II)V"⟩, "MirrorHou\x72"), ("MirrorHour$State", 17, ⟨"MirrorHour$Looks", "<init>", "()V"⟩, "MirrorHou\x72"), ("MirrorHour$State", 40, ⟨"MirrorHou\x72", "copyRow", "([I[I)V"⟩, "MirrorHou\x72"), ("MirrorHour$Looks", 36, ⟨"MirrorHou\x72", "copyRow", "([I[I)V"⟩, "MirrorHou\x72"), ("MirrorHou\x72", 53, ⟨"MirrorHour$Acts", "<init>", "()V"⟩, "MirrorHou\x72"), ("MirrorHou\x72", 60, ⟨"MirrorHour$Fewest", "<init>", "()V"⟩, "MirrorHou\x72"), ("MirrorHou\x72", 67, ⟨"MirrorHour$Rings", "<init>", "()V"⟩, "MirrorHou\x72"), ("MirrorHou\x72", 74, ⟨"MirrorHour$Asking", "<init>", "()V"⟩, "MirrorHou\x72"), ("MirrorHou\x72", 81, ⟨"MirrorHour$Riddle", "<init>", "()V"⟩, "MirrorHou\x72"), ("MirrorHour$Tape", 19, ⟨"MirrorHou\x72", "inside", "(II)Z"⟩, "MirrorHou\x72"), ("MirrorHour$Town", 76, ⟨"MirrorHou\x72", "get", "([II)I"⟩, "MirrorHou\x72"), ("MirrorHour$Town", 99, ⟨"MirrorHou\x72", "inside", "(II)Z"⟩, "MirrorHou\x72"), ("MirrorHour$Town", 84, ⟨"MirrorHou\x72", "set", "([III)V"⟩, "MirrorHou\x72"), ("MirrorHour$Looks", 15, ⟨"MirrorHou\x72", "inside", "(II)Z"⟩, "MirrorHou\x72"), ("MirrorHour$Looks", 19, ⟨"MirrorHou\x72", "set", "([III)V"⟩, "MirrorHou\x72"), ("MirrorHour$Reade\x72", 184, ⟨"MirrorHou\x72", "get", "([II)I"⟩, "MirrorHou\x72"), ("MirrorHour$Reade\x72", 191, ⟨"MirrorHou\x72", "set", "([III)V"⟩, "MirrorHou\x72"), ("MirrorHour$State", 49, ⟨"MirrorHou\x72", "inside", "(II)Z"⟩, "MirrorHou\x72"), ("MirrorHour$State", 53, ⟨"MirrorHou\x72", "get", "([II)I"⟩, "MirrorHou\x72"), ("MirrorHour$Fewest", 36, ⟨"MirrorHou\x72", "get", "([II)I"⟩, "MirrorHou\x72"), ("MirrorHour$Fewest", 47, ⟨"MirrorHou\x72", "set", "([III)V"⟩, "MirrorHou\x72"), ("MirrorHour$Rings", 41, ⟨"MirrorHou\x72", "set", "([III)V"⟩, "MirrorHou\x72"), ("MirrorHour$Rings", 59, ⟨"MirrorHou\x72", "get", "([II)I"⟩, "MirrorHou\x72"), ("MirrorHour$State", 57, ⟨"MirrorHou\x72", "set", "([III)V"⟩, "MirrorHou\x72"), ("MirrorHour$Riddle", 67, ⟨"MirrorHou\x72", "set", "([III)V"⟩, "MirrorHou\x72"), ("MirrorHour$Riddle", 71, ⟨"MirrorHou\x72", "get", "([II)I"⟩, "MirrorHou\x72"), ("MirrorHour$Riddle", 116, ⟨"MirrorHou\x72", "fill", "([II)V"⟩, "MirrorHou\x72"), ("MirrorHour$Acts", 25, ⟨"MirrorHou\x72", "set", "([III)V"⟩, "MirrorHou\x72"), ("MirrorHour$Acts", 29, ⟨"MirrorHou\x72", "get", "([II)I"⟩, "MirrorHou\x72")]
def srL : List (String × Nat × String × Nat) := [("MirrorHour$Reade\x72", 121, "marks", 7), ("MirrorHour$Reade\x72", 132, "within", 8), ("MirrorHour$Reade\x72", 136, "late", 9), ("MirrorHour$Reade\x72", 140, "shut", 10), ("MirrorHour$Reade\x72", 226, "plain", 15), ("MirrorHour$Reade\x72", 228, "aged", 16), ("MirrorHour$Reade\x72", 230, "bearded", 17), ("MirrorHour$Reade\x72", 232, "vain", 18), ("MirrorHour$Reade\x72", 165, "day", 11), ("MirrorHour$Reade\x72", 167, "mark", 12), ("MirrorHour$Reade\x72", 169, "by", 13), ("MirrorHour$Reade\x72", 211, "odds", 14), ("MirrorHou\x72", 333, "nobody of that number is led astray", 19), ("MirrorHourModel", 128, "town", 0), ("MirrorHourModel", 213, "marks", 7), ("MirrorHourModel", 219, "within", 8), ("MirrorHourModel", 221, "late", 9), ("MirrorHourModel", 223, "shut", 10), ("MirrorHourModel", 130, "person", 1), ("MirrorHourModel", 132, "change", 2), ("MirrorHourModel", 134, "visit", 3), ("MirrorHourModel", 136, "wish", 4), ("MirrorHourModel", 138, "asks", 5), ("MirrorHourModel", 140, "stare", 6), ("MirrorHourModel", 225, "plain", 15), ("MirrorHourModel", 227, "aged", 16), ("MirrorHourModel", 229, "bearded", 17), ("MirrorHourModel", 231, "vain", 18), ("MirrorHourModel", 236, "day", 11), ("MirrorHourModel", 238, "mark", 12), ("MirrorHourModel", 240, "by", 13), ("MirrorHourModel", 245, "odds", 14), ("MirrorHour$Line", 58, "town", 0), ("MirrorHour$Line", 64, "person", 1), ("MirrorHour$Line", 73, "wish", 4), ("MirrorHour$Line", 67, "change", 2), ("MirrorHour$Line", 76, "asks", 5), ("MirrorHour$Line", 79, "stare", 6), ("MirrorHour$Line", 70, "visit", 3)]
def NU (g : XG) (U : State) : Prop := (∀ q ∈ fnL, va_Nw (.fieldLinkNest q.1 q.2.1 q.2.2.1 q.2.2.2.1 q.2.2.2.2.1 q.2.2.2.2.2) U) ∧ (∀ q ∈ mnL, va_Nw (.methodLinkNest q.1 q.2.1 q.2.2.1 q.2.2.2) U) ∧ ∀ q ∈ srL, vk_R q.1 q.2.1 q.2.2.1 (adS g q.2.2.2) U
theorem NU.same {g : XG} {u U : State} (h : u.vm = U.vm) (hN : NU g u) : NU g U :=
  ⟨fun q hq => va_Nw.same rfl h (hN.1 q hq), fun q hq => va_Nw.same rfl h (hN.2.1 q hq), fun q hq => vk_R.same h.symm (hN.2.2 q hq)⟩
theorem NU.warm {g : XG} {s U : State} (hW : s.WarmedH U.vm) (hN : NU g s) : NU g U :=
  ⟨fun q hq => va_Nw.warmF hW (hN.1 q hq), fun q hq => va_Nw.warmM hW (hN.2.1 q hq), fun q hq => vk_R.warm hW (hN.2.2 q hq)⟩
/-- what is known of the tables and never changes -/
def ZS (g : XG) (U : State) : Prop := va_K g.1 vwCl (tysX g) U ∧ NU g U
def WS (g : XG) (lo n : Nat) (σ : Mem) (U : State) : Prop := ZS g U ∧ ST g U U.heap ∧ Wd g lo n σ U.heap
theorem WS.blind (g : XG) (lo n : Nat) (σ : Mem) (av : List Value) : FrameBlind (va_Pc av (WS g lo n σ)) := by
  intro a U fr mk h
  obtain ⟨h1, ⟨h2, h3⟩, h4, h5⟩ := h
  exact ⟨h1, ⟨va_K.moved (u := U) (U := U.calling fr mk a) (Vm.Alike.refl U.vm) h2, NU.same (u := U) (U := U.calling fr mk a) rfl h3⟩, ST.moved (u := U) (U := U.calling fr mk a) (Vm.Alike.refl U.vm) h4, h5⟩
theorem ws_of {g : XG} {lo n : Nat} {σ : Mem} {s U : State} {H : Heap} {locs : List Loc} (hZ : ZS g s) (hT : ST g s s.heap) (hS : va_S (Ag g lo) s.heap H locs) (hW : Wd g lo n σ H) (hU : U.heap = H) (hw : s.WarmedH U.vm) : WS g lo n σ U :=
  ⟨⟨va_K.moved hw.alike hZ.1, NU.warm hw hZ.2⟩, ST.moved hw.alike (hT.kept (fun a h1 h2 => by rw [hU]; exact hS.2.1 a h1 (fun q => h2 (ag_a0 g lo a q)))), by rw [hU]; exact hW⟩
abbrev Qv' (g : XG) (lo n : Nat) (σ : Mem) := va_Qv (fun u : Mem => u = σ) (WS g lo n) (Ag g lo)
abbrev Qi' (g : XG) (lo n : Nat) (r : Int32) (σ : Mem) := va_Qi (fun (x : Int32) (u : Mem) => x = r ∧ u = σ) (WS g lo n) (Ag g lo)
abbrev Ql' (g : XG) (lo n : Nat) (r : Int64) (σ : Mem) := va_Ql (fun (x : Int64) (u : Mem) => x = r ∧ u = σ) (WS g lo n) (Ag g lo)
abbrev Qq' (g : XG) (lo n : Nat) (r : Option Nat) (σ : Mem) := va_Qq (fun (x : Option Nat) (u : Mem) => x = r.map (bs g) ∧ u = σ) (WS g lo n) (Ag g lo)
abbrev Qe' (g : XG) (lo n : Nat) (r : Option Nat) (σ : Mem) := va_Qe (adE g) (fun (x : Option Nat) (u : Mem) => x = r ∧ u = σ) (WS g lo n) (Ag g lo)

