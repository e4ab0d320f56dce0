def am_ki : Nat → Nat := fun k => match k with
  | 69 => 0
  | 74 => 0
  | 75 => 0
  | 76 => 0
  | 77 => 0
  | 78 => 0
  | 79 => 0
  | 80 => 0
  | 82 => 0
  | _ => 1
/-! ===== the tables hold what the class files hold ===== -/
def am_decok (mid : Nat) (e : Nat × am_I) : Bool := match e.2.1 with
  | .tableswitch d lo hi os => decide (decode (am_b mid) e.1 = .ok (.tableswitch d lo hi os, e.2.2.2.1))
  | .lookupswitch d ps => decide (decode (am_b mid) e.1 = .ok (.lookupswitch d ps, e.2.2.2.1))
  | i => decide (decode (am_b mid) e.1 = .ok (i, am_len i))
def am_pl (z : Nat) (w : Cond) : Bool := decide (lw_tbl[z]? = some w) && goodWord w
def am_at : Nat → FieldType
  | 0 => .int
  | 1 => .boolean
  | _ => .long
def am_inv (mid : Nat) (idx x y z : Nat) : Bool := Nat.blt x am_nm && (if y % 2 = 1 then decide (lw_tbl[z]? = some (.methodLinkNest (am_own mid) idx (am_y x) "TermJudge")) else am_pl z (.methodLink (am_own mid) idx (am_y x)))
def am_offs (pc : Nat) (os : List Int) : Bool := os.all fun o => decide (0 ≤ (pc : Int) + o)
def am_wok (mid : Nat) (e : Nat × am_I) : Bool := match e.2.1, e.2.2.1, e.2.2.2.1, e.2.2.2.2 with
  | .bipush c, _, _, _ => decide ((Int8.ofInt c).toInt32 = Int32.ofInt c)
  | .sipush c, _, _, _ => decide ((Int16.ofInt c).toInt32 = Int32.ofInt c)
  | .getfield idx, x, y, z => am_pl z (.fieldLink (am_own mid) idx (am_T x y).1 (am_T x y).2.1 (am_T x y).2.2.1) && (Nat.blt x 6 && Nat.blt y (am_N x))
  | .putfield idx, x, y, z => am_pl z (.fieldLink (am_own mid) idx (am_T x y).1 (am_T x y).2.1 (am_T x y).2.2.1) && (Nat.blt x 6 && Nat.blt y (am_N x)) && (!(am_T x y).2.2.2 || (decide ((am_y mid).name = "<init>") && decide ((am_T x y).1 = am_own mid)))
  | .new idx, x, _, z => !Nat.blt x 6 || am_pl z (.classLink (am_own mid) idx (am_C x))
  | .ldc idx, x, _, z => am_pl z (.constant (am_own mid) idx (Int32.ofNat x))
  | .newarray at', x, _, _ => decide (newarray.typeOf at' = am_at x) && Nat.blt x 1
  | .invokevirtual idx, x, y, z => am_inv mid idx x y z && (decide ((am_y x).name ≠ "<init>") && am_ki x == 1)
  | .invokespecial idx, x, y, z => if x = 1001 then am_pl z (.methodLink (am_own mid) idx Lib.objectInit) else am_inv mid idx x y z && (decide ((am_y x).name = "<init>") && am_ki x == 1)
  | .invokestatic idx, x, y, z => if x = 1002 then am_pl z (.methodLink (am_own mid) idx Lib.Math.max.name) else x = 1003 || (am_inv mid idx x y z && am_ki x == 0)
  | .tableswitch d lo hi os, _, _, _ => decide (0 ≤ (e.1 : Int) + d) && (am_offs e.1 os.toList && (decide (hi - lo + 1 = os.size) && (decide (-2147483648 ≤ lo) && decide (hi < 2147483648))))
  | .lookupswitch d ps, _, _, _ => decide (0 ≤ (e.1 : Int) + d) && (am_offs e.1 (ps.toList.map Prod.snd) && ((ps.toList.zip (ps.toList.drop 1)).all (fun (a, next) => a.1 < next.1) && ps.toList.all (fun q => decide (-2147483648 ≤ q.1) && decide (q.1 < 2147483648))))
  | _, _, _, _ => true
def am_cok (mid : Nat) : Bool := (am_code mid).all fun l => l.all fun e => am_decok mid e && am_wok mid e
/-- a method's own words -/
def am_mok (mid : Nat) : Bool := (if am_ki mid = 0 then am_pl (am_mz mid).2.1 (.static (am_y mid)) else am_pl (am_mz mid).2.1 (.instanceMethod (am_y mid)) && (decide ((am_y mid).name = "<init>") || am_pl (am_mz mid).2.2.1 (.selects (am_y mid).cls (am_y mid) (am_y mid)))) &&
  (am_pl (am_mz mid).2.2.2 (.initialized (am_y mid).cls) && (decide ((am_y mid).cls = am_own mid) && (decide ((am_y mid).cls ≠ "java/lang/invoke/MethodHandle") && (decide ((am_y mid).cls ≠ "java/lang/invoke/VarHandle") && (plainName (am_y mid).cls && (decide ((parseMethodDescriptor (am_y mid).desc).map (fun d => d.parameters.length) = some (am_na mid)) && Nat.ble (am_ml mid) 30))))))
theorem am_ck0 : am_cok 0 = true := by decide +kernel
theorem am_ck1 : am_cok 1 = true := by decide +kernel
theorem am_ck2 : am_cok 2 = true := by decide +kernel
theorem am_ck3 : am_cok 3 = true := by decide +kernel
theorem am_ck4 : am_cok 4 = true := by decide +kernel
theorem am_ck5 : am_cok 5 = true := by decide +kernel
theorem am_ck6 : am_cok 6 = true := by decide +kernel
theorem am_ck7 : am_cok 7 = true := by decide +kernel
theorem am_ck8 : am_cok 8 = true := by decide +kernel
theorem am_ck9 : am_cok 9 = true := by decide +kernel
theorem am_ck10 : am_cok 10 = true := by decide +kernel
theorem am_ck11 : am_cok 11 = true := by decide +kernel
theorem am_ck12 : am_cok 12 = true := by decide +kernel
theorem am_ck13 : am_cok 13 = true := by decide +kernel
theorem am_ck14 : am_cok 14 = true := by decide +kernel
theorem am_ck15 : am_cok 15 = true := by decide +kernel
theorem am_ck16 : am_cok 16 = true := by decide +kernel
theorem am_ck17 : am_cok 17 = true := by decide +kernel
theorem am_ck18 : am_cok 18 = true := by decide +kernel
theorem am_ck19 : am_cok 19 = true := by decide +kernel
theorem am_ck20 : am_cok 20 = true := by decide +kernel
theorem am_ck21 : am_cok 21 = true := by decide +kernel
theorem am_ck22 : am_cok 22 = true := by decide +kernel
theorem am_ck23 : am_cok 23 = true := by decide +kernel
theorem am_ck24 : am_cok 24 = true := by decide +kernel
theorem am_ck25 : am_cok 25 = true := by decide +kernel
theorem am_ck26 : am_cok 26 = true := by decide +kernel
theorem am_ck27 : am_cok 27 = true := by decide +kernel
theorem am_ck28 : am_cok 28 = true := by decide +kernel
theorem am_ck29 : am_cok 29 = true := by decide +kernel
theorem am_ck30 : am_cok 30 = true := by decide +kernel
theorem am_ck31 : am_cok 31 = true := by decide +kernel
theorem am_ck32 : am_cok 32 = true := by decide +kernel
theorem am_ck33 : am_cok 33 = true := by decide +kernel
theorem am_ck34 : am_cok 34 = true := by decide +kernel
theorem am_ck35 : am_cok 35 = true := by decide +kernel
theorem am_ck36 : am_cok 36 = true := by decide +kernel
theorem am_ck37 : am_cok 37 = true := by decide +kernel
theorem am_ck38 : am_cok 38 = true := by decide +kernel
theorem am_ck39 : am_cok 39 = true := by decide +kernel
theorem am_ck40 : am_cok 40 = true := by decide +kernel
theorem am_ck41 : am_cok 41 = true := by decide +kernel
theorem am_ck42 : am_cok 42 = true := by decide +kernel
theorem am_ck43 : am_cok 43 = true := by decide +kernel
theorem am_ck44 : am_cok 44 = true := by decide +kernel
theorem am_ck45 : am_cok 45 = true := by decide +kernel
theorem am_ck46 : am_cok 46 = true := by decide +kernel
theorem am_ck47 : am_cok 47 = true := by decide +kernel
theorem am_ck48 : am_cok 48 = true := by decide +kernel
theorem am_ck49 : am_cok 49 = true := by decide +kernel
theorem am_ck50 : am_cok 50 = true := by decide +kernel
theorem am_ck51 : am_cok 51 = true := by decide +kernel
theorem am_ck52 : am_cok 52 = true := by decide +kernel
theorem am_ck53 : am_cok 53 = true := by decide +kernel
theorem am_ck54 : am_cok 54 = true := by decide +kernel
theorem am_ck55 : am_cok 55 = true := by decide +kernel
theorem am_ck56 : am_cok 56 = true := by decide +kernel
theorem am_ck57 : am_cok 57 = true := by decide +kernel
theorem am_ck58 : am_cok 58 = true := by decide +kernel
theorem am_ck59 : am_cok 59 = true := by decide +kernel
theorem am_ck60 : am_cok 60 = true := by decide +kernel
theorem am_ck61 : am_cok 61 = true := by decide +kernel
theorem am_ck62 : am_cok 62 = true := by decide +kernel
theorem am_ck63 : am_cok 63 = true := by decide +kernel
theorem am_ck64 : am_cok 64 = true := by decide +kernel
theorem am_ck65 : am_cok 65 = true := by decide +kernel
theorem am_ck66 : am_cok 66 = true := by decide +kernel
theorem am_ck67 : am_cok 67 = true := by decide +kernel
theorem am_ck68 : am_cok 68 = true := by decide +kernel
theorem am_ck69 : am_cok 69 = true := by decide +kernel
theorem am_ck70 : am_cok 70 = true := by decide +kernel
theorem am_ck71 : am_cok 71 = true := by decide +kernel
theorem am_ck72 : am_cok 72 = true := by decide +kernel
theorem am_ck73 : am_cok 73 = true := by decide +kernel
theorem am_ck74 : am_cok 74 = true := by decide +kernel
theorem am_ck75 : am_cok 75 = true := by decide +kernel
theorem am_ck76 : am_cok 76 = true := by decide +kernel
theorem am_ck77 : am_cok 77 = true := by decide +kernel
theorem am_ck78 : am_cok 78 = true := by decide +kernel
theorem am_ck79 : am_cok 79 = true := by decide +kernel
theorem am_ck80 : am_cok 80 = true := by decide +kernel
theorem am_ck81 : am_cok 81 = true := by decide +kernel
theorem am_ck82 : am_cok 82 = true := by decide +kernel
theorem am_mk0 : am_mok 0 = true := by decide +kernel
theorem am_mk1 : am_mok 1 = true := by decide +kernel
theorem am_mk2 : am_mok 2 = true := by decide +kernel
theorem am_mk3 : am_mok 3 = true := by decide +kernel
theorem am_mk4 : am_mok 4 = true := by decide +kernel
theorem am_mk5 : am_mok 5 = true := by decide +kernel
theorem am_mk6 : am_mok 6 = true := by decide +kernel
theorem am_mk7 : am_mok 7 = true := by decide +kernel
theorem am_mk8 : am_mok 8 = true := by decide +kernel
theorem am_mk9 : am_mok 9 = true := by decide +kernel
theorem am_mk10 : am_mok 10 = true := by decide +kernel
theorem am_mk11 : am_mok 11 = true := by decide +kernel
theorem am_mk12 : am_mok 12 = true := by decide +kernel
theorem am_mk13 : am_mok 13 = true := by decide +kernel
theorem am_mk14 : am_mok 14 = true := by decide +kernel
theorem am_mk15 : am_mok 15 = true := by decide +kernel
theorem am_mk16 : am_mok 16 = true := by decide +kernel
theorem am_mk17 : am_mok 17 = true := by decide +kernel
theorem am_mk18 : am_mok 18 = true := by decide +kernel
theorem am_mk19 : am_mok 19 = true := by decide +kernel
theorem am_mk20 : am_mok 20 = true := by decide +kernel
theorem am_mk21 : am_mok 21 = true := by decide +kernel
theorem am_mk22 : am_mok 22 = true := by decide +kernel
theorem am_mk23 : am_mok 23 = true := by decide +kernel
theorem am_mk24 : am_mok 24 = true := by decide +kernel
theorem am_mk25 : am_mok 25 = true := by decide +kernel
theorem am_mk26 : am_mok 26 = true := by decide +kernel
theorem am_mk27 : am_mok 27 = true := by decide +kernel
theorem am_mk28 : am_mok 28 = true := by decide +kernel
theorem am_mk29 : am_mok 29 = true := by decide +kernel
theorem am_mk30 : am_mok 30 = true := by decide +kernel
theorem am_mk31 : am_mok 31 = true := by decide +kernel
theorem am_mk32 : am_mok 32 = true := by decide +kernel
theorem am_mk33 : am_mok 33 = true := by decide +kernel
theorem am_mk34 : am_mok 34 = true := by decide +kernel
theorem am_mk35 : am_mok 35 = true := by decide +kernel
theorem am_mk36 : am_mok 36 = true := by decide +kernel
theorem am_mk37 : am_mok 37 = true := by decide +kernel
theorem am_mk38 : am_mok 38 = true := by decide +kernel
theorem am_mk39 : am_mok 39 = true := by decide +kernel
theorem am_mk40 : am_mok 40 = true := by decide +kernel
theorem am_mk41 : am_mok 41 = true := by decide +kernel
theorem am_mk42 : am_mok 42 = true := by decide +kernel
theorem am_mk43 : am_mok 43 = true := by decide +kernel
theorem am_mk44 : am_mok 44 = true := by decide +kernel
theorem am_mk45 : am_mok 45 = true := by decide +kernel
theorem am_mk46 : am_mok 46 = true := by decide +kernel
theorem am_mk47 : am_mok 47 = true := by decide +kernel
theorem am_mk48 : am_mok 48 = true := by decide +kernel
theorem am_mk49 : am_mok 49 = true := by decide +kernel
theorem am_mk50 : am_mok 50 = true := by decide +kernel
theorem am_mk51 : am_mok 51 = true := by decide +kernel
theorem am_mk52 : am_mok 52 = true := by decide +kernel
theorem am_mk53 : am_mok 53 = true := by decide +kernel
theorem am_mk54 : am_mok 54 = true := by decide +kernel
theorem am_mk55 : am_mok 55 = true := by decide +kernel
theorem am_mk56 : am_mok 56 = true := by decide +kernel
theorem am_mk57 : am_mok 57 = true := by decide +kernel
theorem am_mk58 : am_mok 58 = true := by decide +kernel
theorem am_mk59 : am_mok 59 = true := by decide +kernel
theorem am_mk60 : am_mok 60 = true := by decide +kernel
theorem am_mk61 : am_mok 61 = true := by decide +kernel
theorem am_mk62 : am_mok 62 = true := by decide +kernel
theorem am_mk63 : am_mok 63 = true := by decide +kernel
theorem am_mk64 : am_mok 64 = true := by decide +kernel
theorem am_mk65 : am_mok 65 = true := by decide +kernel
theorem am_mk66 : am_mok 66 = true := by decide +kernel
theorem am_mk67 : am_mok 67 = true := by decide +kernel
theorem am_mk68 : am_mok 68 = true := by decide +kernel
theorem am_mk69 : am_mok 69 = true := by decide +kernel
theorem am_mk70 : am_mok 70 = true := by decide +kernel
theorem am_mk71 : am_mok 71 = true := by decide +kernel
theorem am_mk72 : am_mok 72 = true := by decide +kernel
theorem am_mk73 : am_mok 73 = true := by decide +kernel
theorem am_mk74 : am_mok 74 = true := by decide +kernel
theorem am_mk75 : am_mok 75 = true := by decide +kernel
theorem am_mk76 : am_mok 76 = true := by decide +kernel
theorem am_mk77 : am_mok 77 = true := by decide +kernel
theorem am_mk78 : am_mok 78 = true := by decide +kernel
theorem am_mk79 : am_mok 79 = true := by decide +kernel
theorem am_mk80 : am_mok 80 = true := by decide +kernel
theorem am_mk82 : am_mok 82 = true := by decide +kernel
set_option maxRecDepth 100000 in
theorem am_zk0 : lw_tbl[80]? = some (.code (am_y 0) (am_b 0) (am_ml 0) (am_rt 0)) := rfl
set_option maxRecDepth 100000 in
theorem am_zk1 : lw_tbl[234]? = some (.code (am_y 1) (am_b 1) (am_ml 1) (am_rt 1)) := rfl
set_option maxRecDepth 100000 in
theorem am_zk2 : lw_tbl[607]? = some (.code (am_y 2) (am_b 2) (am_ml 2) (am_rt 2)) := rfl
set_option maxRecDepth 100000 in
theorem am_zk3 : lw_tbl[188]? = some (.code (am_y 3) (am_b 3) (am_ml 3) (am_rt 3)) := rfl
set_option maxRecDepth 100000 in
theorem am_zk4 : lw_tbl[251]? = some (.code (am_y 4) (am_b 4) (am_ml 4) (am_rt 4)) := rfl
set_option maxRecDepth 100000 in
theorem am_zk5 : lw_tbl[242]? = some (.code (am_y 5) (am_b 5) (am_ml 5) (am_rt 5)) := rfl
set_option maxRecDepth 100000 in
theorem am_zk6 : lw_tbl[623]? = some (.code (am_y 6) (am_b 6) (am_ml 6) (am_rt 6)) := rfl
set_option maxRecDepth 100000 in
theorem am_zk7 : lw_tbl[124]? = some (.code (am_y 7) (am_b 7) (am_ml 7) (am_rt 7)) := rfl
set_option maxRecDepth 100000 in
theorem am_zk8 : lw_tbl[451]? = some (.code (am_y 8) (am_b 8) (am_ml 8) (am_rt 8)) := rfl
set_option maxRecDepth 100000 in
theorem am_zk9 : lw_tbl[455]? = some (.code (am_y 9) (am_b 9) (am_ml 9) (am_rt 9)) := rfl
set_option maxRecDepth 100000 in
theorem am_zk10 : lw_tbl[496]? = some (.code (am_y 10) (am_b 10) (am_ml 10) (am_rt 10)) := rfl
set_option maxRecDepth 100000 in
theorem am_zk11 : lw_tbl[462]? = some (.code (am_y 11) (am_b 11) (am_ml 11) (am_rt 11)) := rfl
set_option maxRecDepth 100000 in
theorem am_zk12 : lw_tbl[491]? = some (.code (am_y 12) (am_b 12) (am_ml 12) (am_rt 12)) := rfl
set_option maxRecDepth 100000 in
theorem am_zk13 : lw_tbl[536]? = some (.code (am_y 13) (am_b 13) (am_ml 13) (am_rt 13)) := rfl
set_option maxRecDepth 100000 in
theorem am_zk14 : lw_tbl[546]? = some (.code (am_y 14) (am_b 14) (am_ml 14) (am_rt 14)) := rfl
set_option maxRecDepth 100000 in
theorem am_zk15 : lw_tbl[528]? = some (.code (am_y 15) (am_b 15) (am_ml 15) (am_rt 15)) := rfl
set_option maxRecDepth 100000 in
theorem am_zk16 : lw_tbl[540]? = some (.code (am_y 16) (am_b 16) (am_ml 16) (am_rt 16)) := rfl
set_option maxRecDepth 100000 in
theorem am_zk17 : lw_tbl[146]? = some (.code (am_y 17) (am_b 17) (am_ml 17) (am_rt 17)) := rfl
set_option maxRecDepth 100000 in
theorem am_zk18 : lw_tbl[280]? = some (.code (am_y 18) (am_b 18) (am_ml 18) (am_rt 18)) := rfl
set_option maxRecDepth 100000 in
theorem am_zk19 : lw_tbl[288]? = some (.code (am_y 19) (am_b 19) (am_ml 19) (am_rt 19)) := rfl
set_option maxRecDepth 100000 in
theorem am_zk20 : lw_tbl[284]? = some (.code (am_y 20) (am_b 20) (am_ml 20) (am_rt 20)) := rfl
set_option maxRecDepth 100000 in
theorem am_zk21 : lw_tbl[255]? = some (.code (am_y 21) (am_b 21) (am_ml 21) (am_rt 21)) := rfl
set_option maxRecDepth 100000 in
theorem am_zk22 : lw_tbl[259]? = some (.code (am_y 22) (am_b 22) (am_ml 22) (am_rt 22)) := rfl
set_option maxRecDepth 100000 in
theorem am_zk23 : lw_tbl[292]? = some (.code (am_y 23) (am_b 23) (am_ml 23) (am_rt 23)) := rfl
set_option maxRecDepth 100000 in
theorem am_zk24 : lw_tbl[296]? = some (.code (am_y 24) (am_b 24) (am_ml 24) (am_rt 24)) := rfl
set_option maxRecDepth 100000 in
theorem am_zk25 : lw_tbl[48]? = some (.code (am_y 25) (am_b 25) (am_ml 25) (am_rt 25)) := rfl
set_option maxRecDepth 100000 in
theorem am_zk26 : lw_tbl[226]? = some (.code (am_y 26) (am_b 26) (am_ml 26) (am_rt 26)) := rfl
set_option maxRecDepth 100000 in
theorem am_zk27 : lw_tbl[195]? = some (.code (am_y 27) (am_b 27) (am_ml 27) (am_rt 27)) := rfl
set_option maxRecDepth 100000 in
theorem am_zk28 : lw_tbl[263]? = some (.code (am_y 28) (am_b 28) (am_ml 28) (am_rt 28)) := rfl
set_option maxRecDepth 100000 in
theorem am_zk29 : lw_tbl[268]? = some (.code (am_y 29) (am_b 29) (am_ml 29) (am_rt 29)) := rfl
set_option maxRecDepth 100000 in
theorem am_zk30 : lw_tbl[272]? = some (.code (am_y 30) (am_b 30) (am_ml 30) (am_rt 30)) := rfl
set_option maxRecDepth 100000 in
theorem am_zk31 : lw_tbl[203]? = some (.code (am_y 31) (am_b 31) (am_ml 31) (am_rt 31)) := rfl
set_option maxRecDepth 100000 in
theorem am_zk32 : lw_tbl[207]? = some (.code (am_y 32) (am_b 32) (am_ml 32) (am_rt 32)) := rfl
set_option maxRecDepth 100000 in
theorem am_zk33 : lw_tbl[199]? = some (.code (am_y 33) (am_b 33) (am_ml 33) (am_rt 33)) := rfl
set_option maxRecDepth 100000 in
theorem am_zk34 : lw_tbl[521]? = some (.code (am_y 34) (am_b 34) (am_ml 34) (am_rt 34)) := rfl
set_option maxRecDepth 100000 in
theorem am_zk35 : lw_tbl[214]? = some (.code (am_y 35) (am_b 35) (am_ml 35) (am_rt 35)) := rfl
set_option maxRecDepth 100000 in
theorem am_zk36 : lw_tbl[300]? = some (.code (am_y 36) (am_b 36) (am_ml 36) (am_rt 36)) := rfl
set_option maxRecDepth 100000 in
theorem am_zk37 : lw_tbl[401]? = some (.code (am_y 37) (am_b 37) (am_ml 37) (am_rt 37)) := rfl
set_option maxRecDepth 100000 in
theorem am_zk38 : lw_tbl[308]? = some (.code (am_y 38) (am_b 38) (am_ml 38) (am_rt 38)) := rfl
set_option maxRecDepth 100000 in
theorem am_zk39 : lw_tbl[218]? = some (.code (am_y 39) (am_b 39) (am_ml 39) (am_rt 39)) := rfl
set_option maxRecDepth 100000 in
theorem am_zk40 : lw_tbl[312]? = some (.code (am_y 40) (am_b 40) (am_ml 40) (am_rt 40)) := rfl
set_option maxRecDepth 100000 in
theorem am_zk41 : lw_tbl[443]? = some (.code (am_y 41) (am_b 41) (am_ml 41) (am_rt 41)) := rfl
set_option maxRecDepth 100000 in
theorem am_zk42 : lw_tbl[619]? = some (.code (am_y 42) (am_b 42) (am_ml 42) (am_rt 42)) := rfl
set_option maxRecDepth 100000 in
theorem am_zk43 : lw_tbl[482]? = some (.code (am_y 43) (am_b 43) (am_ml 43) (am_rt 43)) := rfl
set_option maxRecDepth 100000 in
theorem am_zk44 : lw_tbl[516]? = some (.code (am_y 44) (am_b 44) (am_ml 44) (am_rt 44)) := rfl
set_option maxRecDepth 100000 in
theorem am_zk45 : lw_tbl[96]? = some (.code (am_y 45) (am_b 45) (am_ml 45) (am_rt 45)) := rfl
set_option maxRecDepth 100000 in
theorem am_zk46 : lw_tbl[447]? = some (.code (am_y 46) (am_b 46) (am_ml 46) (am_rt 46)) := rfl
set_option maxRecDepth 100000 in
theorem am_zk47 : lw_tbl[409]? = some (.code (am_y 47) (am_b 47) (am_ml 47) (am_rt 47)) := rfl
set_option maxRecDepth 100000 in
theorem am_zk48 : lw_tbl[500]? = some (.code (am_y 48) (am_b 48) (am_ml 48) (am_rt 48)) := rfl
set_option maxRecDepth 100000 in
theorem am_zk49 : lw_tbl[504]? = some (.code (am_y 49) (am_b 49) (am_ml 49) (am_rt 49)) := rfl
set_option maxRecDepth 100000 in
theorem am_zk50 : lw_tbl[551]? = some (.code (am_y 50) (am_b 50) (am_ml 50) (am_rt 50)) := rfl
set_option maxRecDepth 100000 in
theorem am_zk51 : lw_tbl[561]? = some (.code (am_y 51) (am_b 51) (am_ml 51) (am_rt 51)) := rfl
set_option maxRecDepth 100000 in
theorem am_zk52 : lw_tbl[566]? = some (.code (am_y 52) (am_b 52) (am_ml 52) (am_rt 52)) := rfl
set_option maxRecDepth 100000 in
theorem am_zk53 : lw_tbl[571]? = some (.code (am_y 53) (am_b 53) (am_ml 53) (am_rt 53)) := rfl
set_option maxRecDepth 100000 in
theorem am_zk54 : lw_tbl[555]? = some (.code (am_y 54) (am_b 54) (am_ml 54) (am_rt 54)) := rfl
set_option maxRecDepth 100000 in
theorem am_zk55 : lw_tbl[40]? = some (.code (am_y 55) (am_b 55) (am_ml 55) (am_rt 55)) := rfl
set_option maxRecDepth 100000 in
theorem am_zk56 : lw_tbl[180]? = some (.code (am_y 56) (am_b 56) (am_ml 56) (am_rt 56)) := rfl
set_option maxRecDepth 100000 in
theorem am_zk57 : lw_tbl[222]? = some (.code (am_y 57) (am_b 57) (am_ml 57) (am_rt 57)) := rfl
set_option maxRecDepth 100000 in
theorem am_zk58 : lw_tbl[419]? = some (.code (am_y 58) (am_b 58) (am_ml 58) (am_rt 58)) := rfl
set_option maxRecDepth 100000 in
theorem am_zk59 : lw_tbl[579]? = some (.code (am_y 59) (am_b 59) (am_ml 59) (am_rt 59)) := rfl
set_option maxRecDepth 100000 in
theorem am_zk60 : lw_tbl[587]? = some (.code (am_y 60) (am_b 60) (am_ml 60) (am_rt 60)) := rfl
set_option maxRecDepth 100000 in
theorem am_zk61 : lw_tbl[595]? = some (.code (am_y 61) (am_b 61) (am_ml 61) (am_rt 61)) := rfl
set_option maxRecDepth 100000 in
theorem am_zk62 : lw_tbl[633]? = some (.code (am_y 62) (am_b 62) (am_ml 62) (am_rt 62)) := rfl
set_option maxRecDepth 100000 in
theorem am_zk63 : lw_tbl[603]? = some (.code (am_y 63) (am_b 63) (am_ml 63) (am_rt 63)) := rfl
set_option maxRecDepth 100000 in
theorem am_zk64 : lw_tbl[230]? = some (.code (am_y 64) (am_b 64) (am_ml 64) (am_rt 64)) := rfl
set_option maxRecDepth 100000 in
theorem am_zk65 : lw_tbl[238]? = some (.code (am_y 65) (am_b 65) (am_ml 65) (am_rt 65)) := rfl
set_option maxRecDepth 100000 in
theorem am_zk66 : lw_tbl[247]? = some (.code (am_y 66) (am_b 66) (am_ml 66) (am_rt 66)) := rfl
set_option maxRecDepth 100000 in
theorem am_zk67 : lw_tbl[276]? = some (.code (am_y 67) (am_b 67) (am_ml 67) (am_rt 67)) := rfl
set_option maxRecDepth 100000 in
theorem am_zk68 : lw_tbl[405]? = some (.code (am_y 68) (am_b 68) (am_ml 68) (am_rt 68)) := rfl
set_option maxRecDepth 100000 in
theorem am_zk69 : lw_tbl[191]? = some (.code (am_y 69) (am_b 69) (am_ml 69) (am_rt 69)) := rfl
set_option maxRecDepth 100000 in
theorem am_zk70 : lw_tbl[184]? = some (.code (am_y 70) (am_b 70) (am_ml 70) (am_rt 70)) := rfl
set_option maxRecDepth 100000 in
theorem am_zk71 : lw_tbl[423]? = some (.code (am_y 71) (am_b 71) (am_ml 71) (am_rt 71)) := rfl
set_option maxRecDepth 100000 in
theorem am_zk72 : lw_tbl[611]? = some (.code (am_y 72) (am_b 72) (am_ml 72) (am_rt 72)) := rfl
set_option maxRecDepth 100000 in
theorem am_zk73 : lw_tbl[615]? = some (.code (am_y 73) (am_b 73) (am_ml 73) (am_rt 73)) := rfl
set_option maxRecDepth 100000 in
theorem am_zk74 : lw_tbl[412]? = some (.codeWith (am_y 74) (am_b 74) (am_ml 74) (am_rt 74) (am_hh 74)) := rfl
set_option maxRecDepth 100000 in
theorem am_zk75 : lw_tbl[575]? = some (.codeWith (am_y 75) (am_b 75) (am_ml 75) (am_rt 75) (am_hh 75)) := rfl
set_option maxRecDepth 100000 in
theorem am_zk76 : lw_tbl[583]? = some (.codeWith (am_y 76) (am_b 76) (am_ml 76) (am_rt 76) (am_hh 76)) := rfl
set_option maxRecDepth 100000 in
theorem am_zk77 : lw_tbl[591]? = some (.codeWith (am_y 77) (am_b 77) (am_ml 77) (am_rt 77) (am_hh 77)) := rfl
set_option maxRecDepth 100000 in
theorem am_zk78 : lw_tbl[629]? = some (.codeWith (am_y 78) (am_b 78) (am_ml 78) (am_rt 78) (am_hh 78)) := rfl
set_option maxRecDepth 100000 in
theorem am_zk79 : lw_tbl[599]? = some (.codeWith (am_y 79) (am_b 79) (am_ml 79) (am_rt 79) (am_hh 79)) := rfl
set_option maxRecDepth 100000 in
theorem am_zk80 : lw_tbl[626]? = some (.code (am_y 80) (am_b 80) (am_ml 80) (am_rt 80)) := rfl
set_option maxRecDepth 100000 in
theorem am_zk82 : lw_tbl[636]? = some (.code (am_y 82) (am_b 82) (am_ml 82) (am_rt 82)) := rfl
theorem am_ck (k : Nat) : am_cok k = true := match k with
  | 0 => am_ck0
  | 1 => am_ck1
  | 2 => am_ck2
  | 3 => am_ck3
  | 4 => am_ck4
  | 5 => am_ck5
  | 6 => am_ck6
  | 7 => am_ck7
  | 8 => am_ck8
  | 9 => am_ck9
  | 10 => am_ck10
  | 11 => am_ck11
  | 12 => am_ck12
  | 13 => am_ck13
  | 14 => am_ck14
  | 15 => am_ck15
  | 16 => am_ck16
  | 17 => am_ck17
  | 18 => am_ck18
  | 19 => am_ck19
  | 20 => am_ck20
  | 21 => am_ck21
  | 22 => am_ck22
  | 23 => am_ck23
  | 24 => am_ck24
  | 25 => am_ck25
  | 26 => am_ck26
  | 27 => am_ck27
  | 28 => am_ck28
  | 29 => am_ck29
  | 30 => am_ck30
  | 31 => am_ck31
  | 32 => am_ck32
  | 33 => am_ck33
  | 34 => am_ck34
  | 35 => am_ck35
  | 36 => am_ck36
  | 37 => am_ck37
  | 38 => am_ck38
  | 39 => am_ck39
  | 40 => am_ck40
  | 41 => am_ck41
  | 42 => am_ck42
  | 43 => am_ck43
  | 44 => am_ck44
  | 45 => am_ck45
  | 46 => am_ck46
  | 47 => am_ck47
  | 48 => am_ck48
  | 49 => am_ck49
  | 50 => am_ck50
  | 51 => am_ck51
  | 52 => am_ck52
  | 53 => am_ck53
  | 54 => am_ck54
  | 55 => am_ck55
  | 56 => am_ck56
  | 57 => am_ck57
  | 58 => am_ck58
  | 59 => am_ck59
  | 60 => am_ck60
  | 61 => am_ck61
  | 62 => am_ck62
  | 63 => am_ck63
  | 64 => am_ck64
  | 65 => am_ck65
  | 66 => am_ck66
  | 67 => am_ck67
  | 68 => am_ck68
  | 69 => am_ck69
  | 70 => am_ck70
  | 71 => am_ck71
  | 72 => am_ck72
  | 73 => am_ck73
  | 74 => am_ck74
  | 75 => am_ck75
  | 76 => am_ck76
  | 77 => am_ck77
  | 78 => am_ck78
  | 79 => am_ck79
  | 80 => am_ck80
  | 81 => am_ck81
  | 82 => am_ck82
  | _ + 83 => rfl
theorem am_mk (k : Nat) (hk : k < am_nm) (hl : k ≠ am_M) : am_mok k = true := match k, hk, hl with
  | 0, _, _ => am_mk0
  | 1, _, _ => am_mk1
  | 2, _, _ => am_mk2
  | 3, _, _ => am_mk3
  | 4, _, _ => am_mk4
  | 5, _, _ => am_mk5
  | 6, _, _ => am_mk6
  | 7, _, _ => am_mk7
  | 8, _, _ => am_mk8
  | 9, _, _ => am_mk9
  | 10, _, _ => am_mk10
  | 11, _, _ => am_mk11
  | 12, _, _ => am_mk12
  | 13, _, _ => am_mk13
  | 14, _, _ => am_mk14
  | 15, _, _ => am_mk15
  | 16, _, _ => am_mk16
  | 17, _, _ => am_mk17
  | 18, _, _ => am_mk18
  | 19, _, _ => am_mk19
  | 20, _, _ => am_mk20
  | 21, _, _ => am_mk21
  | 22, _, _ => am_mk22
  | 23, _, _ => am_mk23
  | 24, _, _ => am_mk24
  | 25, _, _ => am_mk25
  | 26, _, _ => am_mk26
  | 27, _, _ => am_mk27
  | 28, _, _ => am_mk28
  | 29, _, _ => am_mk29
  | 30, _, _ => am_mk30
  | 31, _, _ => am_mk31
  | 32, _, _ => am_mk32
  | 33, _, _ => am_mk33
  | 34, _, _ => am_mk34
  | 35, _, _ => am_mk35
  | 36, _, _ => am_mk36
  | 37, _, _ => am_mk37
  | 38, _, _ => am_mk38
  | 39, _, _ => am_mk39
  | 40, _, _ => am_mk40
  | 41, _, _ => am_mk41
  | 42, _, _ => am_mk42
  | 43, _, _ => am_mk43
  | 44, _, _ => am_mk44
  | 45, _, _ => am_mk45
  | 46, _, _ => am_mk46
  | 47, _, _ => am_mk47
  | 48, _, _ => am_mk48
  | 49, _, _ => am_mk49
  | 50, _, _ => am_mk50
  | 51, _, _ => am_mk51
  | 52, _, _ => am_mk52
  | 53, _, _ => am_mk53
  | 54, _, _ => am_mk54
  | 55, _, _ => am_mk55
  | 56, _, _ => am_mk56
  | 57, _, _ => am_mk57
  | 58, _, _ => am_mk58
  | 59, _, _ => am_mk59
  | 60, _, _ => am_mk60
  | 61, _, _ => am_mk61
  | 62, _, _ => am_mk62
  | 63, _, _ => am_mk63
  | 64, _, _ => am_mk64
  | 65, _, _ => am_mk65
  | 66, _, _ => am_mk66
  | 67, _, _ => am_mk67
  | 68, _, _ => am_mk68
  | 69, _, _ => am_mk69
  | 70, _, _ => am_mk70
  | 71, _, _ => am_mk71
  | 72, _, _ => am_mk72
  | 73, _, _ => am_mk73
  | 74, _, _ => am_mk74
  | 75, _, _ => am_mk75
  | 76, _, _ => am_mk76
  | 77, _, _ => am_mk77
  | 78, _, _ => am_mk78
  | 79, _, _ => am_mk79
  | 80, _, _ => am_mk80
  | 82, _, _ => am_mk82
  | 81, _, hl => absurd rfl hl
  | k + 83, hk, _ => absurd hk (Nat.not_lt.mpr (Nat.le_add_left 83 k))
def am_cw (k : Nat) : Cond := match am_hh k with
  | [] => .code (am_y k) (am_b k) (am_ml k) (am_rt k)
  | q :: r => .codeWith (am_y k) (am_b k) (am_ml k) (am_rt k) (q :: r)
set_option maxRecDepth 100000 in
theorem am_zk (k : Nat) (hk : k < am_nm) (hl : k ≠ am_M) : lw_tbl[(am_mz k).1]? = some (am_cw k) := match k, hk, hl with
  | 0, _, _ => am_zk0
  | 1, _, _ => am_zk1
  | 2, _, _ => am_zk2
  | 3, _, _ => am_zk3
  | 4, _, _ => am_zk4
  | 5, _, _ => am_zk5
  | 6, _, _ => am_zk6
  | 7, _, _ => am_zk7
  | 8, _, _ => am_zk8
  | 9, _, _ => am_zk9
  | 10, _, _ => am_zk10
  | 11, _, _ => am_zk11
  | 12, _, _ => am_zk12
  | 13, _, _ => am_zk13
  | 14, _, _ => am_zk14
  | 15, _, _ => am_zk15
  | 16, _, _ => am_zk16
  | 17, _, _ => am_zk17
  | 18, _, _ => am_zk18
  | 19, _, _ => am_zk19
  | 20, _, _ => am_zk20
  | 21, _, _ => am_zk21
  | 22, _, _ => am_zk22
  | 23, _, _ => am_zk23
  | 24, _, _ => am_zk24
  | 25, _, _ => am_zk25
  | 26, _, _ => am_zk26
  | 27, _, _ => am_zk27
  | 28, _, _ => am_zk28
  | 29, _, _ => am_zk29
  | 30, _, _ => am_zk30
  | 31, _, _ => am_zk31
  | 32, _, _ => am_zk32
  | 33, _, _ => am_zk33
  | 34, _, _ => am_zk34
  | 35, _, _ => am_zk35
  | 36, _, _ => am_zk36
  | 37, _, _ => am_zk37
  | 38, _, _ => am_zk38
  | 39, _, _ => am_zk39
  | 40, _, _ => am_zk40
  | 41, _, _ => am_zk41
  | 42, _, _ => am_zk42
  | 43, _, _ => am_zk43
  | 44, _, _ => am_zk44
  | 45, _, _ => am_zk45
  | 46, _, _ => am_zk46
  | 47, _, _ => am_zk47
  | 48, _, _ => am_zk48
  | 49, _, _ => am_zk49
  | 50, _, _ => am_zk50
  | 51, _, _ => am_zk51
  | 52, _, _ => am_zk52
  | 53, _, _ => am_zk53
  | 54, _, _ => am_zk54
  | 55, _, _ => am_zk55
  | 56, _, _ => am_zk56
  | 57, _, _ => am_zk57
  | 58, _, _ => am_zk58
  | 59, _, _ => am_zk59
  | 60, _, _ => am_zk60
  | 61, _, _ => am_zk61
  | 62, _, _ => am_zk62
  | 63, _, _ => am_zk63
  | 64, _, _ => am_zk64
  | 65, _, _ => am_zk65
  | 66, _, _ => am_zk66
  | 67, _, _ => am_zk67
  | 68, _, _ => am_zk68
  | 69, _, _ => am_zk69
  | 70, _, _ => am_zk70
  | 71, _, _ => am_zk71
  | 72, _, _ => am_zk72
  | 73, _, _ => am_zk73
  | 74, _, _ => am_zk74
  | 75, _, _ => am_zk75
  | 76, _, _ => am_zk76
  | 77, _, _ => am_zk77
  | 78, _, _ => am_zk78
  | 79, _, _ => am_zk79
  | 80, _, _ => am_zk80
  | 82, _, _ => am_zk82
  | 81, _, hl => absurd rfl hl
  | k + 83, hk, _ => absurd hk (Nat.not_lt.mpr (Nat.le_add_left 83 k))
theorem am_lk0 : u_ws (am_C 0) (am_T 0) (am_N 0) = (am_lz 0).filterMap (fun i => lw_tbl[i]?) ∧ (u_ws (am_C 0) (am_T 0) (am_N 0)).all goodWord = true := ⟨by decide +kernel, by decide +kernel⟩
theorem am_ok0 : (am_pl (am_cz 0).1 (.instantiable (am_C 0) (am_N 0)) && am_pl (am_cz 0).2 (.initialized (am_C 0))) = true ∧ (am_df 0).length = am_N 0 ∧ (∀ j, j < am_N 0 → defaultValue (am_ty 0 j) = vp_V (am_df 0) j) := ⟨by decide +kernel, rfl, by decide +kernel⟩
theorem am_lk1 : u_ws (am_C 1) (am_T 1) (am_N 1) = (am_lz 1).filterMap (fun i => lw_tbl[i]?) ∧ (u_ws (am_C 1) (am_T 1) (am_N 1)).all goodWord = true := ⟨by decide +kernel, by decide +kernel⟩
theorem am_ok1 : (am_pl (am_cz 1).1 (.instantiable (am_C 1) (am_N 1)) && am_pl (am_cz 1).2 (.initialized (am_C 1))) = true ∧ (am_df 1).length = am_N 1 ∧ (∀ j, j < am_N 1 → defaultValue (am_ty 1 j) = vp_V (am_df 1) j) := ⟨by decide +kernel, rfl, by decide +kernel⟩
theorem am_lk2 : u_ws (am_C 2) (am_T 2) (am_N 2) = (am_lz 2).filterMap (fun i => lw_tbl[i]?) ∧ (u_ws (am_C 2) (am_T 2) (am_N 2)).all goodWord = true := ⟨by decide +kernel, by decide +kernel⟩
theorem am_ok2 : (am_pl (am_cz 2).1 (.instantiable (am_C 2) (am_N 2)) && am_pl (am_cz 2).2 (.initialized (am_C 2))) = true ∧ (am_df 2).length = am_N 2 ∧ (∀ j, j < am_N 2 → defaultValue (am_ty 2 j) = vp_V (am_df 2) j) := ⟨by decide +kernel, rfl, by decide +kernel⟩
theorem am_lk3 : u_ws (am_C 3) (am_T 3) (am_N 3) = (am_lz 3).filterMap (fun i => lw_tbl[i]?) ∧ (u_ws (am_C 3) (am_T 3) (am_N 3)).all goodWord = true := ⟨by decide +kernel, by decide +kernel⟩
theorem am_ok3 : (am_pl (am_cz 3).1 (.instantiable (am_C 3) (am_N 3)) && am_pl (am_cz 3).2 (.initialized (am_C 3))) = true ∧ (am_df 3).length = am_N 3 ∧ (∀ j, j < am_N 3 → defaultValue (am_ty 3 j) = vp_V (am_df 3) j) := ⟨by decide +kernel, rfl, by decide +kernel⟩
theorem am_lk4 : u_ws (am_C 4) (am_T 4) (am_N 4) = (am_lz 4).filterMap (fun i => lw_tbl[i]?) ∧ (u_ws (am_C 4) (am_T 4) (am_N 4)).all goodWord = true := ⟨by decide +kernel, by decide +kernel⟩
theorem am_ok4 : (am_pl (am_cz 4).1 (.instantiable (am_C 4) (am_N 4)) && am_pl (am_cz 4).2 (.initialized (am_C 4))) = true ∧ (am_df 4).length = am_N 4 ∧ (∀ j, j < am_N 4 → defaultValue (am_ty 4 j) = vp_V (am_df 4) j) := ⟨by decide +kernel, rfl, by decide +kernel⟩
theorem am_lk5 : u_ws (am_C 5) (am_T 5) (am_N 5) = (am_lz 5).filterMap (fun i => lw_tbl[i]?) ∧ (u_ws (am_C 5) (am_T 5) (am_N 5)).all goodWord = true := ⟨by decide +kernel, by decide +kernel⟩
theorem am_ok5 : (am_pl (am_cz 5).1 (.instantiable (am_C 5) (am_N 5)) && am_pl (am_cz 5).2 (.initialized (am_C 5))) = true ∧ (am_df 5).length = am_N 5 ∧ (∀ j, j < am_N 5 → defaultValue (am_ty 5 j) = vp_V (am_df 5) j) := ⟨by decide +kernel, rfl, by decide +kernel⟩
theorem am_lk (k : Nat) (hk : k < 6) : u_ws (am_C k) (am_T k) (am_N k) = (am_lz k).filterMap (fun i => lw_tbl[i]?) ∧ (u_ws (am_C k) (am_T k) (am_N k)).all goodWord = true := match k, hk with
  | 0, _ => am_lk0
  | 1, _ => am_lk1
  | 2, _ => am_lk2
  | 3, _ => am_lk3
  | 4, _ => am_lk4
  | 5, _ => am_lk5
  | k + 6, hk => absurd hk (Nat.not_lt.mpr (Nat.le_add_left 6 k))
theorem am_ok (k : Nat) (hk : k < 6) : (am_pl (am_cz k).1 (.instantiable (am_C k) (am_N k)) && am_pl (am_cz k).2 (.initialized (am_C k))) = true ∧ (am_df k).length = am_N k ∧ (∀ j, j < am_N k → defaultValue (am_ty k j) = vp_V (am_df k) j) := match k, hk with
  | 0, _ => am_ok0
  | 1, _ => am_ok1
  | 2, _ => am_ok2
  | 3, _ => am_ok3
  | 4, _ => am_ok4
  | 5, _ => am_ok5
  | k + 6, hk => absurd hk (Nat.not_lt.mpr (Nat.le_add_left 6 k))
theorem am_vw (k : Nat) (hk : k < 6) : vwCl[k]? = some (am_C k, am_T k, am_N k) := match k, hk with
  | 0, _ => rfl
  | 1, _ => rfl
  | 2, _ => rfl
  | 3, _ => rfl
  | 4, _ => rfl
  | 5, _ => rfl
  | k + 6, hk => absurd hk (Nat.not_lt.mpr (Nat.le_add_left 6 k))
theorem am_tyok (k : Nat) (hk : k < 6) : ∀ j, j < am_N k → parseFieldDescriptor (am_T k j).2.2.1 = some (am_ty k j) := match k, hk with
  | 0, _ => tyX0_ok
  | 1, _ => tyX1_ok
  | 2, _ => tyX2_ok
  | 3, _ => tyX3_ok
  | 4, _ => tyX4_ok
  | 5, _ => tyX5_ok
  | k + 6, hk => absurd hk (Nat.not_lt.mpr (Nat.le_add_left 6 k))
theorem am_nmok (k : Nat) (hk : k < 6) : ∀ a, a < am_N k → ∀ b, b < am_N k → a ≠ b → (am_T k a).2.1 ≠ (am_T k b).2.1 := match k, hk with
  | 0, _ => nmX0
  | 1, _ => nmX1
  | 2, _ => nmX2
  | 3, _ => nmX3
  | 4, _ => nmX4
  | 5, _ => nmX5
  | k + 6, hk => absurd hk (Nat.not_lt.mpr (Nat.le_add_left 6 k))
theorem am_azok : (am_pl (am_az 0) (.arrayClass .int) && true) = true := by decide +kernel
theorem am_ozok : am_pl am_oz.1 (.instanceMethod Lib.objectInit) = true := by decide +kernel
set_option maxRecDepth 100000 in
theorem am_ozk : lw_tbl[am_oz.2]? = some (.code Lib.objectInit ⟨#[0xb1]⟩ 1 none) := rfl
theorem am_xzok : (am_pl am_xz.1 (.static Lib.Math.max.name) && am_pl am_xz.2.1 (.initialized "java/lang/Math")) = true := by decide +kernel
set_option maxRecDepth 100000 in
theorem am_xzk : lw_tbl[am_xz.2.2]? = some (.code Lib.Math.max.name Lib.Math.max.code 2 (some .int)) := rfl
