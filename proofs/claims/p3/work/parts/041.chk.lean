theorem am_hh_ki (x : Nat) (h : am_ki x = 1) : am_hh x = [] := by
  unfold am_hh
  split <;> first | rfl | (exact absurd h (by decide))
def am_hok (mid : Nat) : Bool := (am_hh mid).all fun q => am_pl (am_catz q.2.2.2) (.classLink (am_own mid) q.2.2.2 (am_en (am_cat q.2.2.2))) && (Nat.blt (am_cat q.2.2.2) 3 && Nat.blt 0 q.2.2.2)
theorem am_hk (k : Nat) : am_hok k = true := match k with
  | 125 => by decide +kernel
  | 126 => by decide +kernel
  | 127 => by decide +kernel
  | 128 => by decide +kernel
  | 129 => by decide +kernel
  | 130 => by decide +kernel
  | k => by
    unfold am_hok am_hh
    split <;> first | rfl | decide +kernel
theorem am_occ (k : Nat) (hk : k < am_nm) (hm : k ≠ am_M) (hl : am_ki k = 1) : am_C (am_oc k) = (am_y k).cls ∧ am_oc k < 7 := match k, hk, hm, hl with
  | 0, _, _, _ => ⟨rfl, by decide⟩
  | 1, _, _, _ => ⟨rfl, by decide⟩
  | 2, _, _, _ => ⟨rfl, by decide⟩
  | 3, _, _, _ => ⟨rfl, by decide⟩
  | 4, _, _, _ => ⟨rfl, by decide⟩
  | 5, _, _, _ => ⟨rfl, by decide⟩
  | 6, _, _, _ => ⟨rfl, by decide⟩
  | 7, _, _, _ => ⟨rfl, by decide⟩
  | 8, _, _, _ => ⟨rfl, by decide⟩
  | 9, _, _, _ => ⟨rfl, by decide⟩
  | 10, _, _, _ => ⟨rfl, by decide⟩
  | 11, _, _, _ => ⟨rfl, by decide⟩
  | 12, _, _, _ => ⟨rfl, by decide⟩
  | 13, _, _, _ => ⟨rfl, by decide⟩
  | 14, _, _, _ => ⟨rfl, by decide⟩
  | 15, _, _, _ => ⟨rfl, by decide⟩
  | 16, _, _, _ => ⟨rfl, by decide⟩
  | 17, _, _, _ => ⟨rfl, by decide⟩
  | 18, _, _, _ => ⟨rfl, by decide⟩
  | 19, _, _, _ => ⟨rfl, by decide⟩
  | 20, _, _, _ => ⟨rfl, by decide⟩
  | 21, _, _, _ => ⟨rfl, by decide⟩
  | 22, _, _, _ => ⟨rfl, by decide⟩
  | 23, _, _, _ => ⟨rfl, by decide⟩
  | 24, _, _, _ => ⟨rfl, by decide⟩
  | 25, _, _, _ => ⟨rfl, by decide⟩
  | 26, _, _, _ => ⟨rfl, by decide⟩
  | 27, _, _, _ => ⟨rfl, by decide⟩
  | 28, _, _, _ => ⟨rfl, by decide⟩
  | 29, _, _, _ => ⟨rfl, by decide⟩
  | 30, _, _, _ => ⟨rfl, by decide⟩
  | 31, _, _, _ => ⟨rfl, by decide⟩
  | 32, _, _, _ => ⟨rfl, by decide⟩
  | 33, _, _, _ => ⟨rfl, by decide⟩
  | 34, _, _, _ => ⟨rfl, by decide⟩
  | 35, _, _, _ => ⟨rfl, by decide⟩
  | 36, _, _, _ => ⟨rfl, by decide⟩
  | 37, _, _, _ => ⟨rfl, by decide⟩
  | 38, _, _, _ => ⟨rfl, by decide⟩
  | 39, _, _, _ => ⟨rfl, by decide⟩
  | 40, _, _, _ => ⟨rfl, by decide⟩
  | 41, _, _, _ => ⟨rfl, by decide⟩
  | 42, _, _, _ => ⟨rfl, by decide⟩
  | 43, _, _, _ => ⟨rfl, by decide⟩
  | 44, _, _, _ => ⟨rfl, by decide⟩
  | 45, _, _, _ => ⟨rfl, by decide⟩
  | 46, _, _, _ => ⟨rfl, by decide⟩
  | 47, _, _, _ => ⟨rfl, by decide⟩
  | 48, _, _, _ => ⟨rfl, by decide⟩
  | 49, _, _, _ => ⟨rfl, by decide⟩
  | 50, _, _, _ => ⟨rfl, by decide⟩
  | 51, _, _, _ => ⟨rfl, by decide⟩
  | 52, _, _, _ => ⟨rfl, by decide⟩
  | 53, _, _, _ => ⟨rfl, by decide⟩
  | 54, _, _, _ => ⟨rfl, by decide⟩
  | 55, _, _, _ => ⟨rfl, by decide⟩
  | 56, _, _, _ => ⟨rfl, by decide⟩
  | 57, _, _, _ => ⟨rfl, by decide⟩
  | 58, _, _, _ => ⟨rfl, by decide⟩
  | 59, _, _, _ => ⟨rfl, by decide⟩
  | 60, _, _, _ => ⟨rfl, by decide⟩
  | 61, _, _, _ => ⟨rfl, by decide⟩
  | 62, _, _, _ => ⟨rfl, by decide⟩
  | 63, _, _, _ => ⟨rfl, by decide⟩
  | 64, _, _, _ => ⟨rfl, by decide⟩
  | 65, _, _, _ => ⟨rfl, by decide⟩
  | 66, _, _, _ => ⟨rfl, by decide⟩
  | 67, _, _, _ => ⟨rfl, by decide⟩
  | 68, _, _, _ => ⟨rfl, by decide⟩
  | 69, _, _, _ => ⟨rfl, by decide⟩
  | 70, _, _, _ => ⟨rfl, by decide⟩
  | 72, _, _, _ => ⟨rfl, by decide⟩
  | 73, _, _, _ => ⟨rfl, by decide⟩
  | 74, _, _, _ => ⟨rfl, by decide⟩
  | 75, _, _, _ => ⟨rfl, by decide⟩
  | 76, _, _, _ => ⟨rfl, by decide⟩
  | 77, _, _, _ => ⟨rfl, by decide⟩
  | 81, _, _, _ => ⟨rfl, by decide⟩
  | 82, _, _, _ => ⟨rfl, by decide⟩
  | 83, _, _, _ => ⟨rfl, by decide⟩
  | 84, _, _, _ => ⟨rfl, by decide⟩
  | 85, _, _, _ => ⟨rfl, by decide⟩
  | 86, _, _, _ => ⟨rfl, by decide⟩
  | 87, _, _, _ => ⟨rfl, by decide⟩
  | 88, _, _, _ => ⟨rfl, by decide⟩
  | 89, _, _, _ => ⟨rfl, by decide⟩
  | 90, _, _, _ => ⟨rfl, by decide⟩
  | 91, _, _, _ => ⟨rfl, by decide⟩
  | 92, _, _, _ => ⟨rfl, by decide⟩
  | 93, _, _, _ => ⟨rfl, by decide⟩
  | 94, _, _, _ => ⟨rfl, by decide⟩
  | 95, _, _, _ => ⟨rfl, by decide⟩
  | 96, _, _, _ => ⟨rfl, by decide⟩
  | 97, _, _, _ => ⟨rfl, by decide⟩
  | 98, _, _, _ => ⟨rfl, by decide⟩
  | 99, _, _, _ => ⟨rfl, by decide⟩
  | 100, _, _, _ => ⟨rfl, by decide⟩
  | 101, _, _, _ => ⟨rfl, by decide⟩
  | 102, _, _, _ => ⟨rfl, by decide⟩
  | 103, _, _, _ => ⟨rfl, by decide⟩
  | 104, _, _, _ => ⟨rfl, by decide⟩
  | 105, _, _, _ => ⟨rfl, by decide⟩
  | 106, _, _, _ => ⟨rfl, by decide⟩
  | 107, _, _, _ => ⟨rfl, by decide⟩
  | 108, _, _, _ => ⟨rfl, by decide⟩
  | 109, _, _, _ => ⟨rfl, by decide⟩
  | 110, _, _, _ => ⟨rfl, by decide⟩
  | 111, _, _, _ => ⟨rfl, by decide⟩
  | 112, _, _, _ => ⟨rfl, by decide⟩
  | 113, _, _, _ => ⟨rfl, by decide⟩
  | 114, _, _, _ => ⟨rfl, by decide⟩
  | 115, _, _, _ => ⟨rfl, by decide⟩
  | 116, _, _, _ => ⟨rfl, by decide⟩
  | 117, _, _, _ => ⟨rfl, by decide⟩
  | 118, _, _, _ => ⟨rfl, by decide⟩
  | 119, _, _, _ => ⟨rfl, by decide⟩
  | 120, _, _, _ => ⟨rfl, by decide⟩
  | 121, _, _, _ => ⟨rfl, by decide⟩
  | 122, _, _, _ => ⟨rfl, by decide⟩
  | 123, _, _, _ => ⟨rfl, by decide⟩
  | 124, _, _, _ => ⟨rfl, by decide⟩
  | 71, _, _, hl => absurd hl (by decide)
  | 78, _, _, hl => absurd hl (by decide)
  | 79, _, _, hl => absurd hl (by decide)
  | 80, _, _, hl => absurd hl (by decide)
  | 125, _, _, hl => absurd hl (by decide)
  | 126, _, _, hl => absurd hl (by decide)
  | 127, _, _, hl => absurd hl (by decide)
  | 128, _, _, hl => absurd hl (by decide)
  | 129, _, _, hl => absurd hl (by decide)
  | 130, _, _, hl => absurd hl (by decide)
  | 131, _, hm, _ => absurd rfl hm
  | k + 132, hk, _, _ => absurd hk (Nat.not_lt.mpr (Nat.le_add_left 132 k))
def am_ns : List String := ["java/lang/RuntimeException", "java/lang/Exception"]
def am_tw (w : Cond) : Bool := (goodWord w && decide (w ∈ lw_tbl)) || (match w with
  | .methodLinkNest .. => decide (w ∈ lw_tbl)
  | .castable .. => decide (w ∈ lw_tbl)
  | .declares .. => decide (w ∈ lw_tbl)
  | _ => false)
theorem am_tk0 : (vx_atS RX1 74 (am_en 1) am_ns).all am_tw = true := by decide +kernel
theorem am_tk1 : (vx_atS RX1 113 (am_en 2) am_ns).all am_tw = true := by decide +kernel
theorem am_tk2 : (vx_atS RX3 75 (am_en 2) am_ns).all am_tw = true := by decide +kernel
theorem am_tk3 : (vx_atS RX4 44 (am_en 2) am_ns).all am_tw = true := by decide +kernel
theorem am_tk4 : (vx_atS RX5 161 (am_en 0) am_ns).all am_tw = true := by decide +kernel
theorem am_th0 : (vx_atS (am_own 10) 74 (am_en 1) am_ns).all am_tw = true := am_tk0
theorem am_th1 : (vx_atS (am_own 11) 74 (am_en 1) am_ns).all am_tw = true := am_tk0
theorem am_th2 : (vx_atS (am_own 14) 74 (am_en 1) am_ns).all am_tw = true := am_tk0
theorem am_th3 : (vx_atS (am_own 14) 74 (am_en 1) am_ns).all am_tw = true := am_tk0
theorem am_th4 : (vx_atS (am_own 15) 113 (am_en 2) am_ns).all am_tw = true := am_tk1
theorem am_th5 : (vx_atS (am_own 16) 113 (am_en 2) am_ns).all am_tw = true := am_tk1
theorem am_th6 : (vx_atS (am_own 40) 75 (am_en 2) am_ns).all am_tw = true := am_tk2
theorem am_th7 : (vx_atS (am_own 48) 44 (am_en 2) am_ns).all am_tw = true := am_tk3
theorem am_th8 : (vx_atS (am_own 48) 44 (am_en 2) am_ns).all am_tw = true := am_tk3
theorem am_th9 : (vx_atS (am_own 48) 44 (am_en 2) am_ns).all am_tw = true := am_tk3
theorem am_th10 : (vx_atS (am_own 54) 44 (am_en 2) am_ns).all am_tw = true := am_tk3
theorem am_th11 : (vx_atS (am_own 73) 161 (am_en 0) am_ns).all am_tw = true := am_tk4
