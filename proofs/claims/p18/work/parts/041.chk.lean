theorem am_hh_ki (x : Nat) (h : am_ki x = 1) : am_hh x = [] := by
  unfold am_hh
  split <;> first | rfl | (exact absurd h (by decide))
def am_hok (mid : Nat) : Bool := (am_hh mid).all fun q => am_pl (am_catz q.2.2.2) (.classLink (am_own mid) q.2.2.2 (am_en (am_cat q.2.2.2))) && (Nat.blt (am_cat q.2.2.2) 3 && Nat.blt 0 q.2.2.2)
theorem am_hk (k : Nat) : am_hok k = true := match k with
  | 74 => by decide +kernel
  | 75 => by decide +kernel
  | 76 => by decide +kernel
  | 77 => by decide +kernel
  | 78 => by decide +kernel
  | 79 => by decide +kernel
  | k => by
    unfold am_hok am_hh
    split <;> first | rfl | decide +kernel
theorem am_occ (k : Nat) (hk : k < am_nm) (hm : k ≠ am_M) (hl : am_ki k = 1) : am_C (am_oc k) = (am_y k).cls ∧ am_oc k < 6 := match k, hk, hm, hl with
  | 0, _, _, _ => ⟨rfl, by decide⟩
  | 1, _, _, _ => ⟨rfl, by decide⟩
  | 2, _, _, _ => ⟨rfl, by decide⟩
  | 3, _, _, _ => ⟨rfl, by decide⟩
  | 4, _, _, _ => ⟨rfl, by decide⟩
  | 5, _, _, _ => ⟨rfl, by decide⟩
  | 6, _, _, _ => ⟨rfl, by decide⟩
  | 7, _, _, _ => ⟨rfl, by decide⟩
  | 8, _, _, _ => ⟨rfl, by decide⟩
  | 9, _, _, _ => ⟨rfl, by decide⟩
  | 10, _, _, _ => ⟨rfl, by decide⟩
  | 11, _, _, _ => ⟨rfl, by decide⟩
  | 12, _, _, _ => ⟨rfl, by decide⟩
  | 13, _, _, _ => ⟨rfl, by decide⟩
  | 14, _, _, _ => ⟨rfl, by decide⟩
  | 15, _, _, _ => ⟨rfl, by decide⟩
  | 16, _, _, _ => ⟨rfl, by decide⟩
  | 17, _, _, _ => ⟨rfl, by decide⟩
  | 18, _, _, _ => ⟨rfl, by decide⟩
  | 19, _, _, _ => ⟨rfl, by decide⟩
  | 20, _, _, _ => ⟨rfl, by decide⟩
  | 21, _, _, _ => ⟨rfl, by decide⟩
  | 22, _, _, _ => ⟨rfl, by decide⟩
  | 23, _, _, _ => ⟨rfl, by decide⟩
  | 24, _, _, _ => ⟨rfl, by decide⟩
  | 25, _, _, _ => ⟨rfl, by decide⟩
  | 26, _, _, _ => ⟨rfl, by decide⟩
  | 27, _, _, _ => ⟨rfl, by decide⟩
  | 28, _, _, _ => ⟨rfl, by decide⟩
  | 29, _, _, _ => ⟨rfl, by decide⟩
  | 30, _, _, _ => ⟨rfl, by decide⟩
  | 31, _, _, _ => ⟨rfl, by decide⟩
  | 32, _, _, _ => ⟨rfl, by decide⟩
  | 33, _, _, _ => ⟨rfl, by decide⟩
  | 34, _, _, _ => ⟨rfl, by decide⟩
  | 35, _, _, _ => ⟨rfl, by decide⟩
  | 36, _, _, _ => ⟨rfl, by decide⟩
  | 37, _, _, _ => ⟨rfl, by decide⟩
  | 38, _, _, _ => ⟨rfl, by decide⟩
  | 39, _, _, _ => ⟨rfl, by decide⟩
  | 40, _, _, _ => ⟨rfl, by decide⟩
  | 41, _, _, _ => ⟨rfl, by decide⟩
  | 42, _, _, _ => ⟨rfl, by decide⟩
  | 43, _, _, _ => ⟨rfl, by decide⟩
  | 44, _, _, _ => ⟨rfl, by decide⟩
  | 45, _, _, _ => ⟨rfl, by decide⟩
  | 46, _, _, _ => ⟨rfl, by decide⟩
  | 47, _, _, _ => ⟨rfl, by decide⟩
  | 48, _, _, _ => ⟨rfl, by decide⟩
  | 49, _, _, _ => ⟨rfl, by decide⟩
  | 50, _, _, _ => ⟨rfl, by decide⟩
  | 51, _, _, _ => ⟨rfl, by decide⟩
  | 52, _, _, _ => ⟨rfl, by decide⟩
  | 53, _, _, _ => ⟨rfl, by decide⟩
  | 54, _, _, _ => ⟨rfl, by decide⟩
  | 55, _, _, _ => ⟨rfl, by decide⟩
  | 56, _, _, _ => ⟨rfl, by decide⟩
  | 57, _, _, _ => ⟨rfl, by decide⟩
  | 58, _, _, _ => ⟨rfl, by decide⟩
  | 59, _, _, _ => ⟨rfl, by decide⟩
  | 60, _, _, _ => ⟨rfl, by decide⟩
  | 61, _, _, _ => ⟨rfl, by decide⟩
  | 62, _, _, _ => ⟨rfl, by decide⟩
  | 63, _, _, _ => ⟨rfl, by decide⟩
  | 64, _, _, _ => ⟨rfl, by decide⟩
  | 65, _, _, _ => ⟨rfl, by decide⟩
  | 66, _, _, _ => ⟨rfl, by decide⟩
  | 67, _, _, _ => ⟨rfl, by decide⟩
  | 68, _, _, _ => ⟨rfl, by decide⟩
  | 70, _, _, _ => ⟨rfl, by decide⟩
  | 71, _, _, _ => ⟨rfl, by decide⟩
  | 72, _, _, _ => ⟨rfl, by decide⟩
  | 73, _, _, _ => ⟨rfl, by decide⟩
  | 69, _, _, hl => absurd hl (by decide)
  | 74, _, _, hl => absurd hl (by decide)
  | 75, _, _, hl => absurd hl (by decide)
  | 76, _, _, hl => absurd hl (by decide)
  | 77, _, _, hl => absurd hl (by decide)
  | 78, _, _, hl => absurd hl (by decide)
  | 79, _, _, hl => absurd hl (by decide)
  | 80, _, _, hl => absurd hl (by decide)
  | 82, _, _, hl => absurd hl (by decide)
  | 81, _, hm, _ => absurd rfl hm
  | k + 83, hk, _, _ => absurd hk (Nat.not_lt.mpr (Nat.le_add_left 83 k))
theorem am_rti (k : Nat) (hk : k < am_nm) : (am_y k).name = "<init>" → am_rt k = none := match k, hk with
  | 0, _ => fun _ => rfl
  | 1, _ => fun h => absurd h (by decide)
  | 2, _ => fun h => absurd h (by decide)
  | 3, _ => fun h => absurd h (by decide)
  | 4, _ => fun h => absurd h (by decide)
  | 5, _ => fun h => absurd h (by decide)
  | 6, _ => fun h => absurd h (by decide)
  | 7, _ => fun _ => rfl
  | 8, _ => fun h => absurd h (by decide)
  | 9, _ => fun h => absurd h (by decide)
  | 10, _ => fun h => absurd h (by decide)
  | 11, _ => fun h => absurd h (by decide)
  | 12, _ => fun h => absurd h (by decide)
  | 13, _ => fun h => absurd h (by decide)
  | 14, _ => fun h => absurd h (by decide)
  | 15, _ => fun h => absurd h (by decide)
  | 16, _ => fun h => absurd h (by decide)
  | 17, _ => fun _ => rfl
  | 18, _ => fun h => absurd h (by decide)
  | 19, _ => fun h => absurd h (by decide)
  | 20, _ => fun h => absurd h (by decide)
  | 21, _ => fun h => absurd h (by decide)
  | 22, _ => fun h => absurd h (by decide)
  | 23, _ => fun h => absurd h (by decide)
  | 24, _ => fun h => absurd h (by decide)
  | 25, _ => fun _ => rfl
  | 26, _ => fun h => absurd h (by decide)
  | 27, _ => fun h => absurd h (by decide)
  | 28, _ => fun h => absurd h (by decide)
  | 29, _ => fun h => absurd h (by decide)
  | 30, _ => fun h => absurd h (by decide)
  | 31, _ => fun h => absurd h (by decide)
  | 32, _ => fun h => absurd h (by decide)
  | 33, _ => fun h => absurd h (by decide)
  | 34, _ => fun h => absurd h (by decide)
  | 35, _ => fun h => absurd h (by decide)
  | 36, _ => fun h => absurd h (by decide)
  | 37, _ => fun h => absurd h (by decide)
  | 38, _ => fun h => absurd h (by decide)
  | 39, _ => fun h => absurd h (by decide)
  | 40, _ => fun h => absurd h (by decide)
  | 41, _ => fun h => absurd h (by decide)
  | 42, _ => fun h => absurd h (by decide)
  | 43, _ => fun h => absurd h (by decide)
  | 44, _ => fun h => absurd h (by decide)
  | 45, _ => fun _ => rfl
  | 46, _ => fun h => absurd h (by decide)
  | 47, _ => fun h => absurd h (by decide)
  | 48, _ => fun h => absurd h (by decide)
  | 49, _ => fun h => absurd h (by decide)
  | 50, _ => fun h => absurd h (by decide)
  | 51, _ => fun h => absurd h (by decide)
  | 52, _ => fun h => absurd h (by decide)
  | 53, _ => fun h => absurd h (by decide)
  | 54, _ => fun h => absurd h (by decide)
  | 55, _ => fun _ => rfl
  | 56, _ => fun h => absurd h (by decide)
  | 57, _ => fun h => absurd h (by decide)
  | 58, _ => fun h => absurd h (by decide)
  | 59, _ => fun h => absurd h (by decide)
  | 60, _ => fun h => absurd h (by decide)
  | 61, _ => fun h => absurd h (by decide)
  | 62, _ => fun h => absurd h (by decide)
  | 63, _ => fun h => absurd h (by decide)
  | 64, _ => fun h => absurd h (by decide)
  | 65, _ => fun h => absurd h (by decide)
  | 66, _ => fun h => absurd h (by decide)
  | 67, _ => fun h => absurd h (by decide)
  | 68, _ => fun h => absurd h (by decide)
  | 69, _ => fun h => absurd h (by decide)
  | 70, _ => fun h => absurd h (by decide)
  | 71, _ => fun h => absurd h (by decide)
  | 72, _ => fun h => absurd h (by decide)
  | 73, _ => fun h => absurd h (by decide)
  | 74, _ => fun h => absurd h (by decide)
  | 75, _ => fun h => absurd h (by decide)
  | 76, _ => fun h => absurd h (by decide)
  | 77, _ => fun h => absurd h (by decide)
  | 78, _ => fun h => absurd h (by decide)
  | 79, _ => fun h => absurd h (by decide)
  | 80, _ => fun h => absurd h (by decide)
  | 81, _ => fun h => absurd h (by decide)
  | 82, _ => fun h => absurd h (by decide)
  | k + 83, hk => absurd hk (Nat.not_lt.mpr (Nat.le_add_left 83 k))
def am_nko (k : Nat) : Bool := (am_code k).all fun l => l.all fun e => Nat.beq (e.2.2.2.1 % 2) 0 || (am_hh e.2.2.1).isEmpty
theorem am_nk (k : Nat) : am_nko k = true := match k with
  | 0 => by decide +kernel
  | 1 => by decide +kernel
  | 2 => by decide +kernel
  | 3 => by decide +kernel
  | 4 => by decide +kernel
  | 5 => by decide +kernel
  | 6 => by decide +kernel
  | 7 => by decide +kernel
  | 8 => by decide +kernel
  | 9 => by decide +kernel
  | 10 => by decide +kernel
  | 11 => by decide +kernel
  | 12 => by decide +kernel
  | 13 => by decide +kernel
  | 14 => by decide +kernel
  | 15 => by decide +kernel
  | 16 => by decide +kernel
  | 17 => by decide +kernel
  | 18 => by decide +kernel
  | 19 => by decide +kernel
  | 20 => by decide +kernel
  | 21 => by decide +kernel
  | 22 => by decide +kernel
  | 23 => by decide +kernel
  | 24 => by decide +kernel
  | 25 => by decide +kernel
  | 26 => by decide +kernel
  | 27 => by decide +kernel
  | 28 => by decide +kernel
  | 29 => by decide +kernel
  | 30 => by decide +kernel
  | 31 => by decide +kernel
  | 32 => by decide +kernel
  | 33 => by decide +kernel
  | 34 => by decide +kernel
  | 35 => by decide +kernel
  | 36 => by decide +kernel
  | 37 => by decide +kernel
  | 38 => by decide +kernel
  | 39 => by decide +kernel
  | 40 => by decide +kernel
  | 41 => by decide +kernel
  | 42 => by decide +kernel
  | 43 => by decide +kernel
  | 44 => by decide +kernel
  | 45 => by decide +kernel
  | 46 => by decide +kernel
  | 47 => by decide +kernel
  | 48 => by decide +kernel
  | 49 => by decide +kernel
  | 50 => by decide +kernel
  | 51 => by decide +kernel
  | 52 => by decide +kernel
  | 53 => by decide +kernel
  | 54 => by decide +kernel
  | 55 => by decide +kernel
  | 56 => by decide +kernel
  | 57 => by decide +kernel
  | 58 => by decide +kernel
  | 59 => by decide +kernel
  | 60 => by decide +kernel
  | 61 => by decide +kernel
  | 62 => by decide +kernel
  | 63 => by decide +kernel
  | 64 => by decide +kernel
  | 65 => by decide +kernel
  | 66 => by decide +kernel
  | 67 => by decide +kernel
  | 68 => by decide +kernel
  | 69 => by decide +kernel
  | 70 => by decide +kernel
  | 71 => by decide +kernel
  | 72 => by decide +kernel
  | 73 => by decide +kernel
  | 74 => by decide +kernel
  | 75 => by decide +kernel
  | 76 => by decide +kernel
  | 77 => by decide +kernel
  | 78 => by decide +kernel
  | 79 => by decide +kernel
  | 80 => by decide +kernel
  | 81 => by decide +kernel
  | 82 => by decide +kernel
  | _ + 83 => rfl
def am_ns : List String := ["java/lang/RuntimeException", "java/lang/Exception"]
def am_tw (w : Cond) : Bool := (goodWord w && decide (w ∈ lw_tbl)) || (match w with
  | .methodLinkNest .. => decide (w ∈ lw_tbl)
  | .castable .. => decide (w ∈ lw_tbl)
  | .declares .. => decide (w ∈ lw_tbl)
  | _ => false)
theorem am_tk0 : (vx_atS RX1 74 (am_en 1) am_ns).all am_tw = true := by decide +kernel
theorem am_tk1 : (vx_atS RX1 113 (am_en 2) am_ns).all am_tw = true := by decide +kernel
theorem am_tk2 : (vx_atS RX3 75 (am_en 2) am_ns).all am_tw = true := by decide +kernel
theorem am_tk3 : (vx_atS RX4 44 (am_en 2) am_ns).all am_tw = true := by decide +kernel
theorem am_tk4 : (vx_atS RX5 161 (am_en 0) am_ns).all am_tw = true := by decide +kernel
theorem am_th0 : (vx_atS (am_own 10) 74 (am_en 1) am_ns).all am_tw = true := am_tk0
theorem am_th1 : (vx_atS (am_own 11) 74 (am_en 1) am_ns).all am_tw = true := am_tk0
theorem am_th2 : (vx_atS (am_own 14) 74 (am_en 1) am_ns).all am_tw = true := am_tk0
theorem am_th3 : (vx_atS (am_own 14) 74 (am_en 1) am_ns).all am_tw = true := am_tk0
theorem am_th4 : (vx_atS (am_own 15) 113 (am_en 2) am_ns).all am_tw = true := am_tk1
theorem am_th5 : (vx_atS (am_own 16) 113 (am_en 2) am_ns).all am_tw = true := am_tk1
theorem am_th6 : (vx_atS (am_own 40) 75 (am_en 2) am_ns).all am_tw = true := am_tk2
theorem am_th7 : (vx_atS (am_own 48) 44 (am_en 2) am_ns).all am_tw = true := am_tk3
theorem am_th8 : (vx_atS (am_own 48) 44 (am_en 2) am_ns).all am_tw = true := am_tk3
theorem am_th9 : (vx_atS (am_own 48) 44 (am_en 2) am_ns).all am_tw = true := am_tk3
theorem am_th10 : (vx_atS (am_own 54) 44 (am_en 2) am_ns).all am_tw = true := am_tk3
theorem am_th11 : (vx_atS (am_own 71) 161 (am_en 0) am_ns).all am_tw = true := am_tk4
theorem am_thw (j : Nat) (q : Nat × Nat × Nat × Nat × Nat × Nat × String × Nat) (h : am_thr[j]? = some q) : (vx_atS (am_own q.1) q.2.2.2.2.1 (am_en q.2.2.2.2.2.1) am_ns).all am_tw = true := match j, h with
  | 0, h => by cases h; exact am_th0
  | 1, h => by cases h; exact am_th1
  | 2, h => by cases h; exact am_th2
  | 3, h => by cases h; exact am_th3
  | 4, h => by cases h; exact am_th4
  | 5, h => by cases h; exact am_th5
  | 6, h => by cases h; exact am_th6
  | 7, h => by cases h; exact am_th7
  | 8, h => by cases h; exact am_th8
  | 9, h => by cases h; exact am_th9
  | 10, h => by cases h; exact am_th10
  | 11, h => by cases h; exact am_th11
  | j + 12, h => nomatch h
def am_thchk (q : Nat × Nat × Nat × Nat × Nat × Nat × String × Nat) : Bool := decide (decode (am_b q.1) q.2.1 = .ok (.new q.2.2.1, 3)) && (decide (decode (am_b q.1) (q.2.1 + 3) = .ok (.dup, 1)) && (decide (decode (am_b q.1) (q.2.1 + 4) = .ok (.ldc q.2.2.2.1, 2)) && (decide (decode (am_b q.1) (q.2.1 + 6) = .ok (.invokespecial q.2.2.2.2.1, 3)) && (decide (decode (am_b q.1) (q.2.1 + 9) = .ok (.athrow, 1)) && am_pl q.2.2.2.2.2.2.2 (.classLink (am_own q.1) q.2.2.1 (am_en q.2.2.2.2.2.1))))))
theorem am_thc : am_thr.all am_thchk = true := by decide +kernel
def am_ez : Nat → Nat := fun k => match k with
  | 0 => 31
  | 1 => 32
  | 2 => 33
  | _ => 0
theorem am_ezk : (am_pl (am_ez 0) (.initialized (am_en 0)) && (am_pl (am_ez 1) (.initialized (am_en 1)) && am_pl (am_ez 2) (.initialized (am_en 2)))) = true := by decide +kernel
theorem am_fitE : (∀ k, k < 3 → Bundle.fit (am_en k) = true) ∧ ∀ n ∈ am_ns, Bundle.fit n = true := ⟨fun k hk => match k, hk with
  | 0, _ => by decide +kernel
  | 1, _ => by decide +kernel
  | 2, _ => by decide +kernel
  | k + 3, hk => absurd hk (Nat.not_lt.mpr (Nat.le_add_left 3 k)), by decide +kernel⟩
abbrev am_yJ : MethodName := yJ7_copyOf_59c91
abbrev am_bJ : ByteArray := cJ7_copyOf_59c91
abbrev am_RJ : String := RJ7
def am_mJ : Nat := 3
set_option maxRecDepth 100000 in
theorem am_jz : lw_tbl[384]? = some (.code am_yJ am_bJ am_mJ (some (.array .int))) := rfl
theorem am_jw : (am_pl 382 (.methodLink RX3 78 am_yJ) && (am_pl 383 (.static am_yJ) && (am_pl 34 (.initialized am_RJ) && (am_pl 392 (.methodLink am_RJ 304 Lib.Math.min.name) && (am_pl 393 (.static Lib.Math.min.name) && (am_pl 395 (.methodLink am_RJ 150 arraycopyName) && (am_pl 397 (.native arraycopyName) && (am_pl 396 (.static arraycopyName) && am_pl 35 (.initialized "java/lang/System"))))))))) = true := by decide +kernel
set_option maxRecDepth 100000 in
theorem am_jm : lw_tbl[394]? = some (.code Lib.Math.min.name Lib.Math.min.code 2 (some .int)) := rfl
theorem am_dJ_0 : decode am_bJ 0 = .ok (.iload_n 1, 1) := by decide +kernel
theorem am_dJ_1 : decode am_bJ 1 = .ok (.aload_n 0, 1) := by decide +kernel
theorem am_dJ_2 : decode am_bJ 2 = .ok (.arraylength, 1) := by decide +kernel
theorem am_dJ_3 : decode am_bJ 3 = .ok (.if_icmp .ne 11, 3) := by decide +kernel
theorem am_dJ_6 : decode am_bJ 6 = .ok (.aload_n 0, 1) := by decide +kernel
theorem am_dJ_7 : decode am_bJ 7 = .ok (.invokevirtual 316, 3) := by decide +kernel
theorem am_dJ_10 : decode am_bJ 10 = .ok (.checkcast 317, 3) := by decide +kernel
theorem am_dJ_13 : decode am_bJ 13 = .ok (.areturn, 1) := by decide +kernel
theorem am_dJ_14 : decode am_bJ 14 = .ok (.iload_n 1, 1) := by decide +kernel
theorem am_dJ_15 : decode am_bJ 15 = .ok (.newarray .int, 2) := by decide +kernel
theorem am_dJ_17 : decode am_bJ 17 = .ok (.astore_n 2, 1) := by decide +kernel
theorem am_dJ_18 : decode am_bJ 18 = .ok (.aload_n 0, 1) := by decide +kernel
theorem am_dJ_19 : decode am_bJ 19 = .ok (.iconst 0, 1) := by decide +kernel
theorem am_dJ_20 : decode am_bJ 20 = .ok (.aload_n 2, 1) := by decide +kernel
theorem am_dJ_21 : decode am_bJ 21 = .ok (.iconst 0, 1) := by decide +kernel
theorem am_dJ_22 : decode am_bJ 22 = .ok (.aload_n 0, 1) := by decide +kernel
theorem am_dJ_23 : decode am_bJ 23 = .ok (.arraylength, 1) := by decide +kernel
theorem am_dJ_24 : decode am_bJ 24 = .ok (.iload_n 1, 1) := by decide +kernel
theorem am_dJ_25 : decode am_bJ 25 = .ok (.invokestatic 304, 3) := by decide +kernel
theorem am_dJ_28 : decode am_bJ 28 = .ok (.invokestatic 150, 3) := by decide +kernel
theorem am_dJ_31 : decode am_bJ 31 = .ok (.aload_n 2, 1) := by decide +kernel
theorem am_dJ_32 : decode am_bJ 32 = .ok (.areturn, 1) := by decide +kernel
theorem am_dG_0 : decode (am_b am_G) 0 = .ok (.aload_n 0, 1) := by decide +kernel
theorem am_dG_1 : decode (am_b am_G) 1 = .ok (.getfield 9, 3) := by decide +kernel
theorem am_dG_4 : decode (am_b am_G) 4 = .ok (.arraylength, 1) := by decide +kernel
theorem am_dG_5 : decode (am_b am_G) 5 = .ok (.iconst 2, 1) := by decide +kernel
theorem am_dG_6 : decode (am_b am_G) 6 = .ok (.imul, 1) := by decide +kernel
theorem am_dG_7 : decode (am_b am_G) 7 = .ok (.istore_n 1, 1) := by decide +kernel
theorem am_dG_8 : decode (am_b am_G) 8 = .ok (.iload_n 1, 1) := by decide +kernel
theorem am_dG_9 : decode (am_b am_G) 9 = .ok (.ldc 70, 2) := by decide +kernel
theorem am_dG_11 : decode (am_b am_G) 11 = .ok (.if_icmp .le 13, 3) := by decide +kernel
theorem am_dG_14 : decode (am_b am_G) 14 = .ok (.new 71, 3) := by decide +kernel
theorem am_dG_17 : decode (am_b am_G) 17 = .ok (.dup, 1) := by decide +kernel
theorem am_dG_18 : decode (am_b am_G) 18 = .ok (.ldc 73, 2) := by decide +kernel
theorem am_dG_20 : decode (am_b am_G) 20 = .ok (.invokespecial 75, 3) := by decide +kernel
theorem am_dG_23 : decode (am_b am_G) 23 = .ok (.athrow, 1) := by decide +kernel
theorem am_dG_24 : decode (am_b am_G) 24 = .ok (.aload_n 0, 1) := by decide +kernel
theorem am_dG_25 : decode (am_b am_G) 25 = .ok (.aload_n 0, 1) := by decide +kernel
theorem am_dG_26 : decode (am_b am_G) 26 = .ok (.getfield 9, 3) := by decide +kernel
theorem am_dG_29 : decode (am_b am_G) 29 = .ok (.iload_n 1, 1) := by decide +kernel
theorem am_dG_30 : decode (am_b am_G) 30 = .ok (.invokestatic 78, 3) := by decide +kernel
theorem am_dG_33 : decode (am_b am_G) 33 = .ok (.putfield 9, 3) := by decide +kernel
theorem am_dG_36 : decode (am_b am_G) 36 = .ok (.aload_n 0, 1) := by decide +kernel
theorem am_dG_37 : decode (am_b am_G) 37 = .ok (.aload_n 0, 1) := by decide +kernel
theorem am_dG_38 : decode (am_b am_G) 38 = .ok (.getfield 15, 3) := by decide +kernel
theorem am_dG_41 : decode (am_b am_G) 41 = .ok (.iload_n 1, 1) := by decide +kernel
theorem am_dG_42 : decode (am_b am_G) 42 = .ok (.invokestatic 78, 3) := by decide +kernel
theorem am_dG_45 : decode (am_b am_G) 45 = .ok (.putfield 15, 3) := by decide +kernel
theorem am_dG_48 : decode (am_b am_G) 48 = .ok (.aload_n 0, 1) := by decide +kernel
theorem am_dG_49 : decode (am_b am_G) 49 = .ok (.aload_n 0, 1) := by decide +kernel
theorem am_dG_50 : decode (am_b am_G) 50 = .ok (.getfield 18, 3) := by decide +kernel
theorem am_dG_53 : decode (am_b am_G) 53 = .ok (.iload_n 1, 1) := by decide +kernel
theorem am_dG_54 : decode (am_b am_G) 54 = .ok (.invokestatic 78, 3) := by decide +kernel
theorem am_dG_57 : decode (am_b am_G) 57 = .ok (.putfield 18, 3) := by decide +kernel
theorem am_dG_60 : decode (am_b am_G) 60 = .ok (.aload_n 0, 1) := by decide +kernel
theorem am_dG_61 : decode (am_b am_G) 61 = .ok (.aload_n 0, 1) := by decide +kernel
theorem am_dG_62 : decode (am_b am_G) 62 = .ok (.getfield 21, 3) := by decide +kernel
theorem am_dG_65 : decode (am_b am_G) 65 = .ok (.iload_n 1, 1) := by decide +kernel
theorem am_dG_66 : decode (am_b am_G) 66 = .ok (.invokestatic 78, 3) := by decide +kernel
theorem am_dG_69 : decode (am_b am_G) 69 = .ok (.putfield 21, 3) := by decide +kernel
theorem am_dG_72 : decode (am_b am_G) 72 = .ok (.aload_n 0, 1) := by decide +kernel
theorem am_dG_73 : decode (am_b am_G) 73 = .ok (.aload_n 0, 1) := by decide +kernel
theorem am_dG_74 : decode (am_b am_G) 74 = .ok (.getfield 24, 3) := by decide +kernel
theorem am_dG_77 : decode (am_b am_G) 77 = .ok (.iload_n 1, 1) := by decide +kernel
theorem am_dG_78 : decode (am_b am_G) 78 = .ok (.invokestatic 78, 3) := by decide +kernel
theorem am_dG_81 : decode (am_b am_G) 81 = .ok (.putfield 24, 3) := by decide +kernel
theorem am_dG_84 : decode (am_b am_G) 84 = .ok (.return_, 1) := by decide +kernel
theorem am_wG0 : am_pl 50 (.fieldLink (am_own am_G) 9 (am_T 3 0).1 (am_T 3 0).2.1 (am_T 3 0).2.2.1) = true := by decide +kernel
theorem am_wG1 : am_pl 51 (.fieldLink (am_own am_G) 15 (am_T 3 1).1 (am_T 3 1).2.1 (am_T 3 1).2.2.1) = true := by decide +kernel
theorem am_wG2 : am_pl 52 (.fieldLink (am_own am_G) 18 (am_T 3 2).1 (am_T 3 2).2.1 (am_T 3 2).2.2.1) = true := by decide +kernel
theorem am_wG3 : am_pl 53 (.fieldLink (am_own am_G) 21 (am_T 3 3).1 (am_T 3 3).2.1 (am_T 3 3).2.2.1) = true := by decide +kernel
theorem am_wG4 : am_pl 54 (.fieldLink (am_own am_G) 24 (am_T 3 4).1 (am_T 3 4).2.1 (am_T 3 4).2.2.1) = true := by decide +kernel
theorem am_wGc : am_pl 313 (.constant (am_own am_G) 70 65536) = true := by decide +kernel
