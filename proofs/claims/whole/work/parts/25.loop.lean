section LOOP
variable {p : Program} {l : Launch} {e : Env} {s : State} {m : MethodId} {below : List Frame} {meth : Method} {c : Code} {H : Heap} {locs : List Loc} {ls : Array Slot} {g : XG} {σ : Mem} {b L : Nat} {xs : Nat → Int32}
theorem vp_zI {a : Int} {L : Nat} (h0 : 0 ≤ a) (h : a < L) (hL : L ≤ 3072) : vp_in (zI a) L := by
  intro q
  rcases q with q | q
  · rw [show (0 : Int32) = zI 0 from by decide, zI_lt (by omega) (by omega)] at q; omega
  · rw [zI_nat (by omega)] at q; omega
theorem lwI_of {j L : Nat} (h : 6 * j + 6 ≤ L) (hL : L ≤ 3072) : vp_in (zI ((6 * j : Nat) : Int)) L ∧ LwI L (zI ((6 * j : Nat) : Int)) := by
  refine ⟨vp_zI (by omega) (by omega) hL, ?_, ?_, ?_, ?_, ?_⟩
  · rw [show (1 : Int32) = zI 1 from by decide, zI_add]; exact vp_zI (by omega) (by omega) hL
  · rw [show (2 : Int32) = zI 2 from by decide, zI_add]; exact vp_zI (by omega) (by omega) hL
  · rw [show (3 : Int32) = zI 3 from by decide, zI_add]; exact vp_zI (by omega) (by omega) hL
  · rw [show (4 : Int32) = zI 4 from by decide, zI_add]; exact vp_zI (by omega) (by omega) hL
  · rw [show (5 : Int32) = zI 5 from by decide, zI_add]; exact vp_zI (by omega) (by omega) hL
theorem law_head (C : LwC p s m c b L xs g) (hL : L ≤ 3072) (hg : g.2.2.1 = s.heap.size) (hr : meth.sig.returnType = ret) (hlocks : meth.locks = false) {S0 j : Nat} (hS0 : S0 + 3072 ≤ 7293034) (hj : j ≤ 512) (hS : va_S (Ag g 0) s.heap H locs) (hl : lv_has ls 7 (lwL b g (zI ((6 * j : Nat) : Int))))
    (k1 : 6 * j + 6 ≤ L → W p l e room_1 s m #[Value.ref b] below meth c H locs (81 + j) (S0 + 6 * j) (lw_Z below #[Value.ref b] s) (F0 m 33 ls [])) : W p l e room_1 s m #[Value.ref b] below meth c H locs (81 + j) (S0 + 6 * j) (lw_Z below #[Value.ref b] s) (F0 m 23 ls []) := by
  obtain ⟨hx, hb, hml, hown, hts, hX, hbl, hbA, hZ, hT, hXN⟩ := C
  refine lv_iload hx hb dL_law_23 (lv_at hl 4 rfl) ?_
  refine lv_aload_n hx hb dL_law_25 rfl (lv_at hl 0 rfl) ?_
  refine va_slen hx hb hX hbl hbA hS dL_law_26 ?_
  refine lv_bipush (v := 6) hx hb dL_law_27 (by decide) ?_
  refine lv_isub hx hb dL_law_29 ?_
  have e6 : Int32.ofNat L - 6 = zI ((L : Int) - 6) := by
    rw [show Int32.ofNat L = zI (L : Int) from (Int32.ofInt_eq_ofNat (n := L)).symm, show (6 : Int32) = zI 6 from by decide, zI_sub]
  rw [e6]
  refine lv_icmp_gt (tgt := 1615) hx hb dL_law_30 (by decide) (fun hc => ?_) (fun hc => k1 ?_)
  · refine lv_iconst (v := 1) hx hb dL_law_1615 (by decide) ?_
    refine W.widen (k := 601024) (n := 7293034) (by omega) (by omega) ?_
    refine va_forget (fun q hq => ?_) ?_
    · have h9 : g.2.2.1 + 0 ≤ q.base := hS.2.2 q hq
      omega
    · exact lw_ret hx hb hr hlocks dL_law_1616
  · rw [zI_lt (by omega) (by omega)] at hc
    omega
theorem law_next (C : LwC p s m c b L xs g) {S0 j : Nat} (hj : j < 512) (ih : ∀ (σ : Mem) (H : Heap) (locs : List Loc) (ls : Array Slot), RLq σ → Wd g 0 81 σ H → va_S (Ag g 0) s.heap H locs → lv_has ls 7 (lwL b g (zI ((6 * (j + 1) : Nat) : Int))) → W p l e room_1 s m #[Value.ref b] below meth c H locs (81 + (j + 1)) (S0 + 6 * (j + 1)) (lw_Z below #[Value.ref b] s) (F0 m 23 ls [])) : LwK p l e s m below meth c b g (zI ((6 * j : Nat) : Int)) (81 + j + 1) (S0 + 6 * j + 6) (lw_Z below #[Value.ref b] s) := by
  obtain ⟨hx, hb, -⟩ := C
  intro τ H locs ls hR hW hS hl
  refine lv_iinc (v := zI ((6 * (j + 1) : Nat) : Int)) (lv' := [(4, .int (zI ((6 * (j + 1) : Nat) : Int))), (0, .ref b), (1, .ref (bs g 0)), (2, .ref (bs g 64)), (3, .ref (bs g 80))]) hx hb dL_law_1609 hl (k := 4) rfl ?_ (by decide) rfl (fun ls hl => ?_)
  · rw [show (((6 * (j + 1) : Nat)) : Int) = ((6 * j : Nat) : Int) + 6 from by omega, ← zI_add]; rfl
  refine lv_goto (tgt := 23) hx hb dL_law_1612 (by decide) ?_
  rw [show 81 + j + 1 = 81 + (j + 1) from by omega, show S0 + 6 * j + 6 = S0 + 6 * (j + 1) from by omega]
  exact ih τ H locs ls hR hW hS (lv_sub hl [1, 2, 3, 4, 0] rfl)
set_option maxHeartbeats 4000000 in
set_option maxRecDepth 100000 in
theorem law_body (C : LwC p s m c b L xs g) (hfl : l.stackTraces = false) {cells slots : Nat} {Q : State → Prop} {i : Int32} (hi : vp_in i L) (hin : LwI L i) (hR : RLq σ) (hW : Wd g 0 81 σ H) (hS : va_S (Ag g 0) s.heap H locs) (hl : lv_has ls 7 (lwL b g i)) (hcs : cells + 1 ≤ 601024 ∧ slots + 6 ≤ 7293034) (kk : LwK p l e s m below meth c b g i (cells + 1) (slots + 6) Q) : W p l e room_1 s m #[Value.ref b] below meth c H locs cells slots Q (F0 m 33 ls []) := by
  have C0 := C
  obtain ⟨hx, hb, hml, hown, hts, hX, hbl, hbA, hZ, hT, hXN⟩ := C
  refine lv_aload_n hx hb dL_law_33 rfl (lv_at hl 0 rfl) ?_
  refine lv_iload hx hb dL_law_34 (lv_at hl 4 rfl) ?_
  refine va_sld hx hb hX hbl hbA hS hi dL_law_36 ?_
  refine lv_bipush (v := 63) hx hb dL_law_37 (by decide) ?_
  refine lv_iand hx hb dL_law_39 ?_
  generalize xs i.toNatClampNeg &&& 63 = v
  by_cases h0 : v.toInt < 0 ∨ 47 < v.toInt
  · exact lv_tableOut (tgt := 1609) hx hb dL_law_40 h0 (by decide) (W.widen (k := cells + 1) (n := slots + 6) (Nat.le_succ _) (Nat.le_add_right _ _) (kk σ H locs ls hR hW hS hl))
  · have h1 : ¬ v.toInt < 0 := fun h => h0 (Or.inl h)
    have h2 : ¬ 47 < v.toInt := fun h => h0 (Or.inr h)
    obtain ⟨n, hn⟩ : ∃ n : Nat, v.toInt = (n : Int) := ⟨v.toInt.toNat, by omega⟩
    have hn48 : n < 48 := by omega
    have hm : n ∈ List.range 48 := List.mem_range.mpr hn48
    have key : ∀ n ∈ List.range 48, v.toInt = (n : Int) → W p l e room_1 s m #[Value.ref b] below meth c H locs cells slots Q (F0 m 40 ls [.int v]) := by
      rw [show List.range 48 = [0, 1, 2, 3, 4, 5, 6, 7, 8, 9, 10, 11, 12, 13, 14, 15, 16, 17, 18, 19, 20, 21, 22, 23, 24, 25, 26, 27, 28, 29, 30, 31, 32, 33, 34, 35, 36, 37, 38, 39, 40, 41, 42, 43, 44, 45, 46, 47] from by decide]
      refine List.forall_mem_cons.mpr ⟨?_, List.forall_mem_cons.mpr ⟨?_, List.forall_mem_cons.mpr ⟨?_, List.forall_mem_cons.mpr ⟨?_, List.forall_mem_cons.mpr ⟨?_, List.forall_mem_cons.mpr ⟨?_, List.forall_mem_cons.mpr ⟨?_, List.forall_mem_cons.mpr ⟨?_, List.forall_mem_cons.mpr ⟨?_, List.forall_mem_cons.mpr ⟨?_, List.forall_mem_cons.mpr ⟨?_, List.forall_mem_cons.mpr ⟨?_, List.forall_mem_cons.mpr ⟨?_, List.forall_mem_cons.mpr ⟨?_, List.forall_mem_cons.mpr ⟨?_, List.forall_mem_cons.mpr ⟨?_, List.forall_mem_cons.mpr ⟨?_, List.forall_mem_cons.mpr ⟨?_, List.forall_mem_cons.mpr ⟨?_, List.forall_mem_cons.mpr ⟨?_, List.forall_mem_cons.mpr ⟨?_, List.forall_mem_cons.mpr ⟨?_, List.forall_mem_cons.mpr ⟨?_, List.forall_mem_cons.mpr ⟨?_, List.forall_mem_cons.mpr ⟨?_, List.forall_mem_cons.mpr ⟨?_, List.forall_mem_cons.mpr ⟨?_, List.forall_mem_cons.mpr ⟨?_, List.forall_mem_cons.mpr ⟨?_, List.forall_mem_cons.mpr ⟨?_, List.forall_mem_cons.mpr ⟨?_, List.forall_mem_cons.mpr ⟨?_, List.forall_mem_cons.mpr ⟨?_, List.forall_mem_cons.mpr ⟨?_, List.forall_mem_cons.mpr ⟨?_, List.forall_mem_cons.mpr ⟨?_, List.forall_mem_cons.mpr ⟨?_, List.forall_mem_cons.mpr ⟨?_, List.forall_mem_cons.mpr ⟨?_, List.forall_mem_cons.mpr ⟨?_, List.forall_mem_cons.mpr ⟨?_, List.forall_mem_cons.mpr ⟨?_, List.forall_mem_cons.mpr ⟨?_, List.forall_mem_cons.mpr ⟨?_, List.forall_mem_cons.mpr ⟨?_, List.forall_mem_cons.mpr ⟨?_, List.forall_mem_cons.mpr ⟨?_, List.forall_mem_cons.mpr ⟨?_, fun _ h => absurd h List.not_mem_nil⟩⟩⟩⟩⟩⟩⟩⟩⟩⟩⟩⟩⟩⟩⟩⟩⟩⟩⟩⟩⟩⟩⟩⟩⟩⟩⟩⟩⟩⟩⟩⟩⟩⟩⟩⟩⟩⟩⟩⟩⟩⟩⟩⟩⟩⟩⟩⟩
      · intro hn
        exact lv_tableIn (off := 208) (tgt := 248) hx hb dL_law_40 h1 h2 (by rw [hn]; rfl) (by decide) (lwc_0 C0 hin hR hW hS hl hcs kk)
      · intro hn
        exact lv_tableIn (off := 281) (tgt := 321) hx hb dL_law_40 h1 h2 (by rw [hn]; rfl) (by decide) (lwc_1 C0 hin hR hW hS hl hcs kk)
      · intro hn
        exact lv_tableIn (off := 306) (tgt := 346) hx hb dL_law_40 h1 h2 (by rw [hn]; rfl) (by decide) (lwc_2 C0 hin hR hW hS hl hcs kk)
      · intro hn
        exact lv_tableIn (off := 319) (tgt := 359) hx hb dL_law_40 h1 h2 (by rw [hn]; rfl) (by decide) (lwc_3 C0 hin hR hW hS hl hcs kk)
      · intro hn
        exact lv_tableIn (off := 332) (tgt := 372) hx hb dL_law_40 h1 h2 (by rw [hn]; rfl) (by decide) (lwc_4 C0 hin hR hW hS hl hcs kk)
      · intro hn
        exact lv_tableIn (off := 381) (tgt := 421) hx hb dL_law_40 h1 h2 (by rw [hn]; rfl) (by decide) (lwc_5 C0 hin hR hW hS hl hcs kk)
      · intro hn
        exact lv_tableIn (off := 430) (tgt := 470) hx hb dL_law_40 h1 h2 (by rw [hn]; rfl) (by decide) (lwc_6 C0 hin hR hW hS hl hcs kk)
      · intro hn
        exact lv_tableIn (off := 479) (tgt := 519) hx hb dL_law_40 h1 h2 (by rw [hn]; rfl) (by decide) (lwc_7 C0 hin hR hW hS hl hcs kk)
      · intro hn
        exact lv_tableIn (off := 504) (tgt := 544) hx hb dL_law_40 h1 h2 (by rw [hn]; rfl) (by decide) (lwc_8 C0 hin hR hW hS hl hcs kk)
      · intro hn
        exact lv_tableIn (off := 541) (tgt := 581) hx hb dL_law_40 h1 h2 (by rw [hn]; rfl) (by decide) (lwc_9 C0 hin hR hW hS hl hcs kk)
      · intro hn
        exact lv_tableIn (off := 566) (tgt := 606) hx hb dL_law_40 h1 h2 (by rw [hn]; rfl) (by decide) (lwc_10 C0 hin hR hW hS hl hcs kk)
      · intro hn
        exact lv_tableIn (off := 603) (tgt := 643) hx hb dL_law_40 h1 h2 (by rw [hn]; rfl) (by decide) (lwc_11 C0 hin hR hW hS hl hcs kk)
      · intro hn
        exact lv_tableIn (off := 628) (tgt := 668) hx hb dL_law_40 h1 h2 (by rw [hn]; rfl) (by decide) (lwc_12 C0 hin hR hW hS hl hcs kk)
      · intro hn
        exact lv_tableIn (off := 653) (tgt := 693) hx hb dL_law_40 h1 h2 (by rw [hn]; rfl) (by decide) (lwc_13 C0 hin hR hW hS hl hcs kk)
      · intro hn
        exact lv_tableIn (off := 690) (tgt := 730) hx hb dL_law_40 h1 h2 (by rw [hn]; rfl) (by decide) (lwc_14 C0 hin hR hW hS hl hcs kk)
      · intro hn
        exact lv_tableIn (off := 727) (tgt := 767) hx hb dL_law_40 h1 h2 (by rw [hn]; rfl) (by decide) (lwc_15 C0 hin hR hW hS hl hcs kk)
      · intro hn
        exact lv_tableIn (off := 752) (tgt := 792) hx hb dL_law_40 h1 h2 (by rw [hn]; rfl) (by decide) (lwc_16 C0 hin hR hW hS hl hcs kk)
      · intro hn
        exact lv_tableIn (off := 777) (tgt := 817) hx hb dL_law_40 h1 h2 (by rw [hn]; rfl) (by decide) (lwc_17 C0 hin hR hW hS hl hcs kk)
      · intro hn
        exact lv_tableIn (off := 802) (tgt := 842) hx hb dL_law_40 h1 h2 (by rw [hn]; rfl) (by decide) (lwc_18 C0 hin hR hW hS hl hcs kk)
      · intro hn
        exact lv_tableIn (off := 815) (tgt := 855) hx hb dL_law_40 h1 h2 (by rw [hn]; rfl) (by decide) (lwc_19 C0 hin hR hW hS hl hcs kk)
      · intro hn
        exact lv_tableIn (off := 828) (tgt := 868) hx hb dL_law_40 h1 h2 (by rw [hn]; rfl) (by decide) (lwc_20 C0 hin hR hW hS hl hcs kk)
      · intro hn
        exact lv_tableIn (off := 841) (tgt := 881) hx hb dL_law_40 h1 h2 (by rw [hn]; rfl) (by decide) (lwc_21 C0 hin hR hW hS hl hcs kk)
      · intro hn
        exact lv_tableIn (off := 866) (tgt := 906) hx hb dL_law_40 h1 h2 (by rw [hn]; rfl) (by decide) (lwc_22 C0 hin hR hW hS hl hcs kk)
      · intro hn
        exact lv_tableIn (off := 891) (tgt := 931) hx hb dL_law_40 h1 h2 (by rw [hn]; rfl) (by decide) (lwc_23 C0 hin hR hW hS hl hcs kk)
      · intro hn
        exact lv_tableIn (off := 904) (tgt := 944) hx hb dL_law_40 h1 h2 (by rw [hn]; rfl) (by decide) (lwc_24 C0 hin hR hW hS hl hcs kk)
      · intro hn
        exact lv_tableIn (off := 929) (tgt := 969) hx hb dL_law_40 h1 h2 (by rw [hn]; rfl) (by decide) (lwc_25 C0 hin hR hW hS hl hcs kk)
      · intro hn
        exact lv_tableIn (off := 942) (tgt := 982) hx hb dL_law_40 h1 h2 (by rw [hn]; rfl) (by decide) (lwc_26 C0 hin hR hW hS hl hcs kk)
      · intro hn
        exact lv_tableIn (off := 979) (tgt := 1019) hx hb dL_law_40 h1 h2 (by rw [hn]; rfl) (by decide) (lwc_27 C0 hin hR hW hS hl hcs kk)
      · intro hn
        exact lv_tableIn (off := 992) (tgt := 1032) hx hb dL_law_40 h1 h2 (by rw [hn]; rfl) (by decide) (lwc_28 C0 hin hR hW hS hl hcs kk)
      · intro hn
        exact lv_tableIn (off := 1017) (tgt := 1057) hx hb dL_law_40 h1 h2 (by rw [hn]; rfl) (by decide) (lwc_29 C0 hin hR hW hS hl hcs kk)
      · intro hn
        exact lv_tableIn (off := 1071) (tgt := 1111) hx hb dL_law_40 h1 h2 (by rw [hn]; rfl) (by decide) (lwc_30 C0 hin hR hW hS hl hcs kk)
      · intro hn
        exact lv_tableIn (off := 1125) (tgt := 1165) hx hb dL_law_40 h1 h2 (by rw [hn]; rfl) (by decide) (lwc_31 C0 hin hR hW hS hl hcs kk)
      · intro hn
        exact lv_tableIn (off := 1150) (tgt := 1190) hx hb dL_law_40 h1 h2 (by rw [hn]; rfl) (by decide) (lwc_32 C0 hin hR hW hS hl hcs kk)
      · intro hn
        exact lv_tableIn (off := 1163) (tgt := 1203) hx hb dL_law_40 h1 h2 (by rw [hn]; rfl) (by decide) (lwc_33 C0 hin hR hW hS hl hcs kk)
      · intro hn
        exact lv_tableIn (off := 1188) (tgt := 1228) hx hb dL_law_40 h1 h2 (by rw [hn]; rfl) (by decide) (lwc_34 C0 hin hR hW hS hl hcs kk)
      · intro hn
        exact lv_tableIn (off := 1201) (tgt := 1241) hx hb dL_law_40 h1 h2 (by rw [hn]; rfl) (by decide) (lwc_35 C0 hin hR hW hS hl hcs kk)
      · intro hn
        exact lv_tableIn (off := 1214) (tgt := 1254) hx hb dL_law_40 h1 h2 (by rw [hn]; rfl) (by decide) (lwc_36 C0 hin hR hW hS hl hcs kk)
      · intro hn
        exact lv_tableIn (off := 1239) (tgt := 1279) hx hb dL_law_40 h1 h2 (by rw [hn]; rfl) (by decide) (lwc_37 C0 hin hR hW hS hl hcs kk)
      · intro hn
        exact lv_tableIn (off := 1288) (tgt := 1328) hx hb dL_law_40 h1 h2 (by rw [hn]; rfl) (by decide) (lwc_38 C0 hin hR hW hS hl hcs kk)
      · intro hn
        exact lv_tableIn (off := 1325) (tgt := 1365) hx hb dL_law_40 h1 h2 (by rw [hn]; rfl) (by decide) (lwc_39 C0 hin hR hW hS hl hcs kk)
      · intro hn
        exact lv_tableIn (off := 1350) (tgt := 1390) hx hb dL_law_40 h1 h2 (by rw [hn]; rfl) (by decide) (lwc_40 C0 hin hR hW hS hl hcs kk)
      · intro hn
        exact lv_tableIn (off := 1399) (tgt := 1439) hx hb dL_law_40 h1 h2 (by rw [hn]; rfl) (by decide) (lwc_41 C0 hin hR hW hS hl hcs kk)
      · intro hn
        exact lv_tableIn (off := 1424) (tgt := 1464) hx hb dL_law_40 h1 h2 (by rw [hn]; rfl) (by decide) (lwc_42 C0 hin hR hW hS hl hcs kk)
      · intro hn
        exact lv_tableIn (off := 1437) (tgt := 1477) hx hb dL_law_40 h1 h2 (by rw [hn]; rfl) (by decide) (lwc_43 C0 hin hR hW hS hl hcs kk)
      · intro hn
        exact lv_tableIn (off := 1450) (tgt := 1490) hx hb dL_law_40 h1 h2 (by rw [hn]; rfl) (by decide) (lwc_44 C0 hin hR hW hS hl hcs kk)
      · intro hn
        exact lv_tableIn (off := 1475) (tgt := 1515) hx hb dL_law_40 h1 h2 (by rw [hn]; rfl) (by decide) (lwc_45 hfl C0 hin hR hW hS hl hcs kk)
      · intro hn
        exact lv_tableIn (off := 1531) (tgt := 1571) hx hb dL_law_40 h1 h2 (by rw [hn]; rfl) (by decide) (lwc_46 C0 hin hR hW hS hl hcs kk)
      · intro hn
        exact lv_tableIn (off := 1556) (tgt := 1596) hx hb dL_law_40 h1 h2 (by rw [hn]; rfl) (by decide) (lwc_47 C0 hin hR hW hS hl hcs kk)
    exact key n hm hn
theorem law_loop (C : LwC p s m c b L xs g) (hfl : l.stackTraces = false) (hL : L ≤ 3072) (hg : g.2.2.1 = s.heap.size) (hr : meth.sig.returnType = ret) (hlocks : meth.locks = false) {S0 : Nat} (hS0 : S0 + 3072 ≤ 7293034) : ∀ n j : Nat, j + n = 512 → ∀ (σ : Mem) (H : Heap) (locs : List Loc) (ls : Array Slot), RLq σ → Wd g 0 81 σ H → va_S (Ag g 0) s.heap H locs → lv_has ls 7 (lwL b g (zI ((6 * j : Nat) : Int))) → W p l e room_1 s m #[Value.ref b] below meth c H locs (81 + j) (S0 + 6 * j) (lw_Z below #[Value.ref b] s) (F0 m 23 ls [])
  | 0, j, hj, σ, H, locs, ls, hR, hW, hS, hl => law_head C hL hg hr hlocks hS0 (by omega) hS hl (fun h => absurd h (by omega))
  | n + 1, j, hj, σ, H, locs, ls, hR, hW, hS, hl => law_head C hL hg hr hlocks hS0 (by omega) hS hl (fun h => law_body C hfl (lwI_of h hL).1 (lwI_of h hL).2 hR hW hS hl ⟨by omega, by omega⟩ (law_next C (by omega) (law_loop C hfl hL hg hr hlocks hS0 n (j + 1) (by omega))))
end LOOP
