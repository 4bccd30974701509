theorem lm_X10_3 : Cond.methodLink RX10 3 objectInit ∈ lwg := lwg_1 40 (by decide +kernel) (by decide +kernel)
theorem lim_obj : Cond.instanceMethod objectInit ∈ lwg := lwg_1 33 (by decide +kernel) (by decide +kernel)
theorem lc_obj : Cond.code objectInit ⟨#[0xb1]⟩ 1 none ∈ lwg := lwg_1 34 (by decide +kernel) (by decide +kernel)
theorem lac_byte : Cond.arrayClass .byte ∈ lwg := lwg_1 63 (by decide +kernel) (by decide +kernel)
theorem al_10_1 {a : Nat} (h : K0 a = 10) : aln (a + 1) = 800 := aln_sub h (by decide +kernel)
theorem K0sub_10_1 {a : Nat} (h : K0 a = 10) : K0 (a + 1) = 21 := (tp.sub (lo := a) (n := a + szq 10) ⟨h, Nat.le_refl _, Nat.le_refl _⟩ 21 1 (by decide +kernel)).k
theorem lc_X10_init : Cond.code yX10_init cX10_init 1 none ∈ lwg := lwg_1 39 (by decide +kernel) (by decide +kernel)
theorem lim_X10_init : Cond.instanceMethod yX10_init ∈ lwg := lwg_1 38 (by decide +kernel) (by decide +kernel)
theorem lm_X5_3 : Cond.methodLink RX5 3 objectInit ∈ lwg := lwg_1 77 (by decide +kernel) (by decide +kernel)
theorem lac_int : Cond.arrayClass .int ∈ lwg := lwg_1 82 (by decide +kernel) (by decide +kernel)
theorem al_5_1 {a : Nat} (h : K0 a = 5) : aln (a + 1) = 150 := aln_sub h (by decide +kernel)
theorem K0sub_5_1 {a : Nat} (h : K0 a = 5) : K0 (a + 1) = 20 := (tp.sub (lo := a) (n := a + szq 5) ⟨h, Nat.le_refl _, Nat.le_refl _⟩ 20 1 (by decide +kernel)).k
theorem lc_X5_init : Cond.code yX5_init cX5_init 1 none ∈ lwg := lwg_1 76 (by decide +kernel) (by decide +kernel)
theorem lim_X5_init : Cond.instanceMethod yX5_init ∈ lwg := lwg_1 75 (by decide +kernel) (by decide +kernel)
theorem lm_X1_3 : Cond.methodLink RX1 3 objectInit ∈ lwg := lwg_2 5 (by decide +kernel) (by decide +kernel)
theorem al_1_1 {a : Nat} (h : K0 a = 1) : aln (a + 1) = 64 := aln_sub h (by decide +kernel)
theorem K0sub_1_1 {a : Nat} (h : K0 a = 1) : K0 (a + 1) = 20 := (tp.sub (lo := a) (n := a + szq 1) ⟨h, Nat.le_refl _, Nat.le_refl _⟩ 20 1 (by decide +kernel)).k
theorem lc_X1_init : Cond.code yX1_init cX1_init 1 none ∈ lwg := lwg_2 4 (by decide +kernel) (by decide +kernel)
theorem lim_X1_init : Cond.instanceMethod yX1_init ∈ lwg := lwg_2 3 (by decide +kernel) (by decide +kernel)
theorem lm_X2_3 : Cond.methodLink RX2 3 objectInit ∈ lwg := lwg_2 67 (by decide +kernel) (by decide +kernel)
theorem lac_long : Cond.arrayClass .long ∈ lwg := lwg_1 83 (by decide +kernel) (by decide +kernel)
theorem al_2_1 {a : Nat} (h : K0 a = 2) : aln (a + 1) = 6 := aln_sub h (by decide +kernel)
theorem K0sub_2_1 {a : Nat} (h : K0 a = 2) : K0 (a + 1) = 22 := (tp.sub (lo := a) (n := a + szq 2) ⟨h, Nat.le_refl _, Nat.le_refl _⟩ 22 1 (by decide +kernel)).k
theorem lc_X2_init : Cond.code yX2_init cX2_init 1 none ∈ lwg := lwg_2 66 (by decide +kernel) (by decide +kernel)
theorem lim_X2_init : Cond.instanceMethod yX2_init ∈ lwg := lwg_2 65 (by decide +kernel) (by decide +kernel)
theorem lm_X3_3 : Cond.methodLink RX3 3 objectInit ∈ lwg := lwg_2 19 (by decide +kernel) (by decide +kernel)
theorem al_3_1 {a : Nat} (h : K0 a = 3) : aln (a + 1) = 150 := aln_sub h (by decide +kernel)
theorem K0sub_3_1 {a : Nat} (h : K0 a = 3) : K0 (a + 1) = 20 := (tp.sub (lo := a) (n := a + szq 3) ⟨h, Nat.le_refl _, Nat.le_refl _⟩ 20 1 (by decide +kernel)).k
theorem al_3_2 {a : Nat} (h : K0 a = 3) : aln (a + 2) = 5 := aln_sub h (by decide +kernel)
theorem K0sub_3_2 {a : Nat} (h : K0 a = 3) : K0 (a + 2) = 20 := (tp.sub (lo := a) (n := a + szq 3) ⟨h, Nat.le_refl _, Nat.le_refl _⟩ 20 2 (by decide +kernel)).k
theorem al_3_3 {a : Nat} (h : K0 a = 3) : aln (a + 3) = 3 := aln_sub h (by decide +kernel)
theorem K0sub_3_3 {a : Nat} (h : K0 a = 3) : K0 (a + 3) = 20 := (tp.sub (lo := a) (n := a + szq 3) ⟨h, Nat.le_refl _, Nat.le_refl _⟩ 20 3 (by decide +kernel)).k
theorem lc_X3_init : Cond.code yX3_init cX3_init 1 none ∈ lwg := lwg_2 18 (by decide +kernel) (by decide +kernel)
theorem lim_X3_init : Cond.instanceMethod yX3_init ∈ lwg := lwg_2 17 (by decide +kernel) (by decide +kernel)
theorem lm_X8_3 : Cond.methodLink RX8 3 objectInit ∈ lwg := lwg_2 49 (by decide +kernel) (by decide +kernel)
theorem al_8_1 {a : Nat} (h : K0 a = 8) : aln (a + 1) = 5 := aln_sub h (by decide +kernel)
theorem K0sub_8_1 {a : Nat} (h : K0 a = 8) : K0 (a + 1) = 20 := (tp.sub (lo := a) (n := a + szq 8) ⟨h, Nat.le_refl _, Nat.le_refl _⟩ 20 1 (by decide +kernel)).k
theorem al_8_2 {a : Nat} (h : K0 a = 8) : aln (a + 2) = 5 := aln_sub h (by decide +kernel)
theorem K0sub_8_2 {a : Nat} (h : K0 a = 8) : K0 (a + 2) = 20 := (tp.sub (lo := a) (n := a + szq 8) ⟨h, Nat.le_refl _, Nat.le_refl _⟩ 20 2 (by decide +kernel)).k
theorem al_8_3 {a : Nat} (h : K0 a = 8) : aln (a + 3) = 5 := aln_sub h (by decide +kernel)
theorem K0sub_8_3 {a : Nat} (h : K0 a = 8) : K0 (a + 3) = 20 := (tp.sub (lo := a) (n := a + szq 8) ⟨h, Nat.le_refl _, Nat.le_refl _⟩ 20 3 (by decide +kernel)).k
theorem lc_X8_init : Cond.code yX8_init cX8_init 1 none ∈ lwg := lwg_2 48 (by decide +kernel) (by decide +kernel)
theorem lim_X8_init : Cond.instanceMethod yX8_init ∈ lwg := lwg_2 47 (by decide +kernel) (by decide +kernel)
theorem lm_X7_3 : Cond.methodLink RX7 3 objectInit ∈ lwg := lwg_2 77 (by decide +kernel) (by decide +kernel)
theorem al_7_1 {a : Nat} (h : K0 a = 7) : aln (a + 1) = 25 := aln_sub h (by decide +kernel)
theorem K0sub_7_1 {a : Nat} (h : K0 a = 7) : K0 (a + 1) = 20 := (tp.sub (lo := a) (n := a + szq 7) ⟨h, Nat.le_refl _, Nat.le_refl _⟩ 20 1 (by decide +kernel)).k
theorem al_7_2 {a : Nat} (h : K0 a = 7) : aln (a + 2) = 35 := aln_sub h (by decide +kernel)
theorem K0sub_7_2 {a : Nat} (h : K0 a = 7) : K0 (a + 2) = 20 := (tp.sub (lo := a) (n := a + szq 7) ⟨h, Nat.le_refl _, Nat.le_refl _⟩ 20 2 (by decide +kernel)).k
theorem lc_X7_init : Cond.code yX7_init cX7_init 1 none ∈ lwg := lwg_2 76 (by decide +kernel) (by decide +kernel)
theorem lim_X7_init : Cond.instanceMethod yX7_init ∈ lwg := lwg_2 75 (by decide +kernel) (by decide +kernel)
theorem lm_X11_3 : Cond.methodLink RX11 3 objectInit ∈ lwg := lwg_1 69 (by decide +kernel) (by decide +kernel)
theorem ln_X11_9 : ((RX11, 9, "MirrorHou\x72", "LINES", "[LMirrorHour$Line;", "MirrorHou\x72") : String × Nat × String × String × String × String) ∈ fnL := List.mem_of_getElem? (i := 3) rfl
theorem al_11_1 {a : Nat} (h : K0 a = 11) : aln (a + 1) = 7 := aln_sub h (by decide +kernel)
theorem K0sub_11_1 {a : Nat} (h : K0 a = 11) : K0 (a + 1) = 20 := (tp.sub (lo := a) (n := a + szq 11) ⟨h, Nat.le_refl _, Nat.le_refl _⟩ 20 1 (by decide +kernel)).k
theorem al_11_2 {a : Nat} (h : K0 a = 11) : aln (a + 2) = 5 := aln_sub h (by decide +kernel)
theorem K0sub_11_2 {a : Nat} (h : K0 a = 11) : K0 (a + 2) = 22 := (tp.sub (lo := a) (n := a + szq 11) ⟨h, Nat.le_refl _, Nat.le_refl _⟩ 22 2 (by decide +kernel)).k
theorem al_11_3 {a : Nat} (h : K0 a = 11) : aln (a + 3) = 5 := aln_sub h (by decide +kernel)
theorem K0sub_11_3 {a : Nat} (h : K0 a = 11) : K0 (a + 3) = 20 := (tp.sub (lo := a) (n := a + szq 11) ⟨h, Nat.le_refl _, Nat.le_refl _⟩ 20 3 (by decide +kernel)).k
theorem al_11_4 {a : Nat} (h : K0 a = 11) : aln (a + 4) = 5 := aln_sub h (by decide +kernel)
theorem K0sub_11_4 {a : Nat} (h : K0 a = 11) : K0 (a + 4) = 20 := (tp.sub (lo := a) (n := a + szq 11) ⟨h, Nat.le_refl _, Nat.le_refl _⟩ 20 4 (by decide +kernel)).k
theorem lcl_X11_29 : Cond.classLink RX11 29 RX5 ∈ lwg := lwg_1 72 (by decide +kernel) (by decide +kernel)
theorem lin_X5 : Cond.instantiable RX5 1 ∈ lwg := lwg_1 73 (by decide +kernel) (by decide +kernel)
theorem K0sub_11_5 {a : Nat} (h : K0 a = 11) : K0 (a + 5) = 5 := (tp.sub (lo := a) (n := a + szq 11) ⟨h, Nat.le_refl _, Nat.le_refl _⟩ 5 5 (by decide +kernel)).k
theorem mln_X11_31 : ((RX11, 31, yX5_init, "MirrorHou\x72") : String × Nat × MethodName × String) ∈ mnL := List.mem_of_getElem? (i := 1) rfl
theorem cl_X11_31 {args : Array Value} {s : State} {R : Room} {x : Cond} {g : XG} (hts : ∀ w ∈ wx x, w.before args s = true) (hZ : ZS g s) (hR : 1 + 1 ≤ R.frames ∧ 8 + (1 + 11) + 60 ≤ R.locals) : va_CN R s args RX11 31 yX5_init "MirrorHou\x72" cX5_init 1 none (wx (.code yX5_init cX5_init 1 none)) ({ frames := 1, cells := 1, slots := 150, locals := 60 } : Room) 1 150 0 ∧ yX5_init.name = "<init>" ∧ (Cond.instanceMethod yX5_init).before args s = true := ⟨va_cnB 0 hts (gdC lc_X5_init) rfl rfl rfl (nuM hZ mln_X11_31) (hts _ (List.mem_cons_of_mem _ ini_X5)) (by decide +kernel) hR, rfl, hts _ (List.mem_cons_of_mem _ lim_X5_init)⟩
theorem al_11_7 {a : Nat} (h : K0 a = 11) : aln (a + 7) = 30 := aln_sub h (by decide +kernel)
theorem K0sub_11_7 {a : Nat} (h : K0 a = 11) : K0 (a + 7) = 20 := (tp.sub (lo := a) (n := a + szq 11) ⟨h, Nat.le_refl _, Nat.le_refl _⟩ 20 7 (by decide +kernel)).k
theorem al_11_8 {a : Nat} (h : K0 a = 11) : aln (a + 8) = 5 := aln_sub h (by decide +kernel)
theorem K0sub_11_8 {a : Nat} (h : K0 a = 11) : K0 (a + 8) = 20 := (tp.sub (lo := a) (n := a + szq 11) ⟨h, Nat.le_refl _, Nat.le_refl _⟩ 20 8 (by decide +kernel)).k
theorem al_11_9 {a : Nat} (h : K0 a = 11) : aln (a + 9) = 5 := aln_sub h (by decide +kernel)
theorem K0sub_11_9 {a : Nat} (h : K0 a = 11) : K0 (a + 9) = 20 := (tp.sub (lo := a) (n := a + szq 11) ⟨h, Nat.le_refl _, Nat.le_refl _⟩ 20 9 (by decide +kernel)).k
theorem al_11_10 {a : Nat} (h : K0 a = 11) : aln (a + 10) = 25 := aln_sub h (by decide +kernel)
theorem K0sub_11_10 {a : Nat} (h : K0 a = 11) : K0 (a + 10) = 20 := (tp.sub (lo := a) (n := a + szq 11) ⟨h, Nat.le_refl _, Nat.le_refl _⟩ 20 10 (by decide +kernel)).k
theorem al_11_11 {a : Nat} (h : K0 a = 11) : aln (a + 11) = 5 := aln_sub h (by decide +kernel)
theorem K0sub_11_11 {a : Nat} (h : K0 a = 11) : K0 (a + 11) = 20 := (tp.sub (lo := a) (n := a + szq 11) ⟨h, Nat.le_refl _, Nat.le_refl _⟩ 20 11 (by decide +kernel)).k
theorem lm_X11_51 : Cond.methodLink RX11 51 yX11_forget ∈ lwg := lwg_1 84 (by decide +kernel) (by decide +kernel)
theorem cl_X11_51 {args : Array Value} {s : State} {R : Room} {x : Cond} {f k : Nat} (hts : ∀ w ∈ wx x, w.before args s = true) (hR : f + 1 ≤ R.frames ∧ 8 + (1 + 11) + k ≤ R.locals) : CallW R s args RX11 RX11 51 yX11_forget cX11_forget 1 none (wx (.code yX11_forget cX11_forget 1 none)) (kr f k) 0 0 0 := cwV 0 hts (gdV lm_X11_51 lim_X11_forget lse_X11_forget ini_X11 lc_X11_forget) rfl rfl rfl (by decide +kernel) hR
theorem lc_X11_init : Cond.code yX11_init cX11_init 1 none ∈ lwg := lwg_1 68 (by decide +kernel) (by decide +kernel)
theorem lim_X11_init : Cond.instanceMethod yX11_init ∈ lwg := lwg_1 67 (by decide +kernel) (by decide +kernel)
theorem lm_X9_3 : Cond.methodLink RX9 3 objectInit ∈ lwg := lwg_1 191 (by decide +kernel) (by decide +kernel)
theorem al_9_1 {a : Nat} (h : K0 a = 9) : aln (a + 1) = 30 := aln_sub h (by decide +kernel)
theorem K0sub_9_1 {a : Nat} (h : K0 a = 9) : K0 (a + 1) = 20 := (tp.sub (lo := a) (n := a + szq 9) ⟨h, Nat.le_refl _, Nat.le_refl _⟩ 20 1 (by decide +kernel)).k
theorem lcl_X9_15 : Cond.classLink RX9 15 RX5 ∈ lwg := lwg_1 192 (by decide +kernel) (by decide +kernel)
theorem K0sub_9_2 {a : Nat} (h : K0 a = 9) : K0 (a + 2) = 5 := (tp.sub (lo := a) (n := a + szq 9) ⟨h, Nat.le_refl _, Nat.le_refl _⟩ 5 2 (by decide +kernel)).k
theorem mln_X9_17 : ((RX9, 17, yX5_init, "MirrorHou\x72") : String × Nat × MethodName × String) ∈ mnL := List.mem_of_getElem? (i := 3) rfl
theorem cl_X9_17 {args : Array Value} {s : State} {R : Room} {x : Cond} {g : XG} (hts : ∀ w ∈ wx x, w.before args s = true) (hZ : ZS g s) (hR : 1 + 1 ≤ R.frames ∧ 8 + (1 + 11) + 60 ≤ R.locals) : va_CN R s args RX9 17 yX5_init "MirrorHou\x72" cX5_init 1 none (wx (.code yX5_init cX5_init 1 none)) ({ frames := 1, cells := 1, slots := 150, locals := 60 } : Room) 1 150 0 ∧ yX5_init.name = "<init>" ∧ (Cond.instanceMethod yX5_init).before args s = true := ⟨va_cnB 0 hts (gdC lc_X5_init) rfl rfl rfl (nuM hZ mln_X9_17) (hts _ (List.mem_cons_of_mem _ ini_X5)) (by decide +kernel) hR, rfl, hts _ (List.mem_cons_of_mem _ lim_X5_init)⟩
theorem lm_X9_22 : Cond.methodLink RX9 22 yX9_begin ∈ lwg := lwg_1 194 (by decide +kernel) (by decide +kernel)
theorem cl_X9_22 {args : Array Value} {s : State} {R : Room} {x : Cond} {f k : Nat} (hts : ∀ w ∈ wx x, w.before args s = true) (hR : f + 1 ≤ R.frames ∧ 8 + (2 + 11) + k ≤ R.locals) : CallW R s args RX9 RX9 22 yX9_begin cX9_begin 2 none (wx (.code yX9_begin cX9_begin 2 none)) (kr f k) 0 0 1 := cwV 1 hts (gdV lm_X9_22 lim_X9_begin lse_X9_begin ini_X9 lc_X9_begin) rfl rfl rfl (by decide +kernel) hR
theorem lc_X9_init : Cond.code yX9_init cX9_init 2 none ∈ lwg := lwg_1 190 (by decide +kernel) (by decide +kernel)
theorem lim_X9_init : Cond.instanceMethod yX9_init ∈ lwg := lwg_1 189 (by decide +kernel) (by decide +kernel)
theorem lm_X6_3 : Cond.methodLink RX6 3 objectInit ∈ lwg := lwg_1 168 (by decide +kernel) (by decide +kernel)
theorem lc_X6_init : Cond.code yX6_init cX6_init 3 none ∈ lwg := lwg_1 167 (by decide +kernel) (by decide +kernel)
theorem lim_X6_init : Cond.instanceMethod yX6_init ∈ lwg := lwg_1 166 (by decide +kernel) (by decide +kernel)
theorem lm_X13_1 : Cond.methodLink RX13 1 objectInit ∈ lwg := lwg_6 82 (by decide +kernel) (by decide +kernel)
theorem al_13_1 {a : Nat} (h : K0 a = 13) : aln (a + 1) = 800 := aln_sub h (by decide +kernel)
theorem K0sub_13_1 {a : Nat} (h : K0 a = 13) : K0 (a + 1) = 20 := (tp.sub (lo := a) (n := a + szq 13) ⟨h, Nat.le_refl _, Nat.le_refl _⟩ 20 1 (by decide +kernel)).k
theorem al_13_2 {a : Nat} (h : K0 a = 13) : aln (a + 2) = 8 := aln_sub h (by decide +kernel)
theorem K0sub_13_2 {a : Nat} (h : K0 a = 13) : K0 (a + 2) = 20 := (tp.sub (lo := a) (n := a + szq 13) ⟨h, Nat.le_refl _, Nat.le_refl _⟩ 20 2 (by decide +kernel)).k
theorem al_13_3 {a : Nat} (h : K0 a = 13) : aln (a + 3) = 175 := aln_sub h (by decide +kernel)
theorem K0sub_13_3 {a : Nat} (h : K0 a = 13) : K0 (a + 3) = 20 := (tp.sub (lo := a) (n := a + szq 13) ⟨h, Nat.le_refl _, Nat.le_refl _⟩ 20 3 (by decide +kernel)).k
theorem al_13_4 {a : Nat} (h : K0 a = 13) : aln (a + 4) = 175 := aln_sub h (by decide +kernel)
theorem K0sub_13_4 {a : Nat} (h : K0 a = 13) : K0 (a + 4) = 20 := (tp.sub (lo := a) (n := a + szq 13) ⟨h, Nat.le_refl _, Nat.le_refl _⟩ 20 4 (by decide +kernel)).k
theorem al_13_5 {a : Nat} (h : K0 a = 13) : aln (a + 5) = 80 := aln_sub h (by decide +kernel)
theorem K0sub_13_5 {a : Nat} (h : K0 a = 13) : K0 (a + 5) = 20 := (tp.sub (lo := a) (n := a + szq 13) ⟨h, Nat.le_refl _, Nat.le_refl _⟩ 20 5 (by decide +kernel)).k
theorem al_13_6 {a : Nat} (h : K0 a = 13) : aln (a + 6) = 1280 := aln_sub h (by decide +kernel)
theorem K0sub_13_6 {a : Nat} (h : K0 a = 13) : K0 (a + 6) = 20 := (tp.sub (lo := a) (n := a + szq 13) ⟨h, Nat.le_refl _, Nat.le_refl _⟩ 20 6 (by decide +kernel)).k
theorem al_13_7 {a : Nat} (h : K0 a = 13) : aln (a + 7) = 240 := aln_sub h (by decide +kernel)
theorem K0sub_13_7 {a : Nat} (h : K0 a = 13) : K0 (a + 7) = 20 := (tp.sub (lo := a) (n := a + szq 13) ⟨h, Nat.le_refl _, Nat.le_refl _⟩ 20 7 (by decide +kernel)).k
theorem al_13_8 {a : Nat} (h : K0 a = 13) : aln (a + 8) = 30 := aln_sub h (by decide +kernel)
theorem K0sub_13_8 {a : Nat} (h : K0 a = 13) : K0 (a + 8) = 20 := (tp.sub (lo := a) (n := a + szq 13) ⟨h, Nat.le_refl _, Nat.le_refl _⟩ 20 8 (by decide +kernel)).k
theorem al_13_9 {a : Nat} (h : K0 a = 13) : aln (a + 9) = 30 := aln_sub h (by decide +kernel)
theorem K0sub_13_9 {a : Nat} (h : K0 a = 13) : K0 (a + 9) = 20 := (tp.sub (lo := a) (n := a + szq 13) ⟨h, Nat.le_refl _, Nat.le_refl _⟩ 20 9 (by decide +kernel)).k
theorem al_13_10 {a : Nat} (h : K0 a = 13) : aln (a + 10) = 3 := aln_sub h (by decide +kernel)
theorem K0sub_13_10 {a : Nat} (h : K0 a = 13) : K0 (a + 10) = 20 := (tp.sub (lo := a) (n := a + szq 13) ⟨h, Nat.le_refl _, Nat.le_refl _⟩ 20 10 (by decide +kernel)).k
theorem al_13_11 {a : Nat} (h : K0 a = 13) : aln (a + 11) = 3 := aln_sub h (by decide +kernel)
theorem K0sub_13_11 {a : Nat} (h : K0 a = 13) : K0 (a + 11) = 20 := (tp.sub (lo := a) (n := a + szq 13) ⟨h, Nat.le_refl _, Nat.le_refl _⟩ 20 11 (by decide +kernel)).k
theorem al_13_12 {a : Nat} (h : K0 a = 13) : aln (a + 12) = 5 := aln_sub h (by decide +kernel)
theorem K0sub_13_12 {a : Nat} (h : K0 a = 13) : K0 (a + 12) = 20 := (tp.sub (lo := a) (n := a + szq 13) ⟨h, Nat.le_refl _, Nat.le_refl _⟩ 20 12 (by decide +kernel)).k
theorem al_13_13 {a : Nat} (h : K0 a = 13) : aln (a + 13) = 5 := aln_sub h (by decide +kernel)
theorem K0sub_13_13 {a : Nat} (h : K0 a = 13) : K0 (a + 13) = 20 := (tp.sub (lo := a) (n := a + szq 13) ⟨h, Nat.le_refl _, Nat.le_refl _⟩ 20 13 (by decide +kernel)).k
theorem al_13_14 {a : Nat} (h : K0 a = 13) : aln (a + 14) = 5 := aln_sub h (by decide +kernel)
theorem K0sub_13_14 {a : Nat} (h : K0 a = 13) : K0 (a + 14) = 20 := (tp.sub (lo := a) (n := a + szq 13) ⟨h, Nat.le_refl _, Nat.le_refl _⟩ 20 14 (by decide +kernel)).k
theorem al_13_15 {a : Nat} (h : K0 a = 13) : aln (a + 15) = 35 := aln_sub h (by decide +kernel)
theorem K0sub_13_15 {a : Nat} (h : K0 a = 13) : K0 (a + 15) = 20 := (tp.sub (lo := a) (n := a + szq 13) ⟨h, Nat.le_refl _, Nat.le_refl _⟩ 20 15 (by decide +kernel)).k
theorem lc_X13_init : Cond.code yX13_init cX13_init 1 none ∈ lwg := lwg_6 81 (by decide +kernel) (by decide +kernel)
theorem lim_X13_init : Cond.instanceMethod yX13_init ∈ lwg := lwg_6 80 (by decide +kernel) (by decide +kernel)
