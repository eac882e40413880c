def g_fck (q : Nat × Nat × Nat × Nat × Bool × Nat × Nat) : Bool := match q with
  | (oc, i, x, y, ne, k, j) => match vwCl[x]? with
    | some (C, T, N) => decide (y < N) && (decide ((T y).1 = C) && (bif ne then g_wnB k j (.fieldLinkNest (g_cn oc) i C (T y).2.1 (T y).2.2.1 "GustHome") else g_wkB k j (.fieldLink (g_cn oc) i C (T y).2.1 (T y).2.2.1)))
    | none => false
noncomputable def g_cck (q : Nat × Nat × Nat × Bool × Nat × Nat) : Bool := match q with
  | (oc, i, x, ne, k, j) => match g_ml[x]? with
    | some M => bif ne then g_wnB k j (.methodLinkNest (g_cn oc) i M.2.1 "GustHome") else g_wkB k j (.methodLink (g_cn oc) i M.2.1)
    | none => false
def g_nck (q : Nat × Nat × Nat × Nat × Nat × Nat × Nat × Nat × Nat) : Bool := match q with
  | (oc, i, x, k, j, k2, j2, k3, j3) => match vwCl[x]? with
    | some (C, _, N) => g_wkB k j (.classLink (g_cn oc) i C) && (g_wkB k2 j2 (.instantiable C N) && g_wkB k3 j3 (.initialized C))
    | none => false
def g_kck (q : Nat × Nat × Int × Bool × Nat × Nat) : Bool := match q with
  | (oc, i, v, lg, k, j) => bif lg then g_wkB k j (.constantLong (g_cn oc) i (Int64.ofInt v)) else g_wkB k j (.constant (g_cn oc) i (Int32.ofInt v))
def g_ack (q : Nat × Nat × Nat × Nat) : Bool := match q with
  | (oc, i, k, j) => g_wkB k j (.classLink (g_cn oc) i "GustHome$Ward")
def g_yck (q : Nat × Nat × Nat × Nat) : Bool := match q with
  | (oc, i, k, j) => g_wkB k j (.methodLink (g_cn oc) i arraycopyName)
def g_zn (x : Nat) : MethodName := bif x == 99997 then Lib.Math.max.name else bif x == 99996 then Lib.Math.min.name else Lib.Math.abs.name
def g_zck (q : Nat × Nat × Nat × Nat × Nat) : Bool := match q with
  | (oc, i, x, k, j) => g_wkB k j (.methodLink (g_cn oc) i (g_zn x))
def g_ock (q : Nat × Nat × Nat × Nat) : Bool := match q with
  | (oc, i, k, j) => g_wkB k j (.methodLink (g_cn oc) i objectInit)
set_option maxRecDepth 100000 in
theorem g_FL_ok : g_FL.all g_fck = true := by decide +kernel
set_option maxRecDepth 100000 in
theorem g_CL_ok : g_CL.all g_cck = true := by decide +kernel
set_option maxRecDepth 100000 in
theorem g_NL_ok : g_NL.all g_nck = true := by decide +kernel
set_option maxRecDepth 100000 in
theorem g_KL_ok : g_KL.all g_kck = true := by decide +kernel
set_option maxRecDepth 100000 in
theorem g_AL_ok : g_AL.all g_ack = true := by decide +kernel
set_option maxRecDepth 100000 in
theorem g_YL_ok : g_YL.all g_yck = true := by decide +kernel
set_option maxRecDepth 100000 in
theorem g_ZL_ok : g_ZL.all g_zck = true := by decide +kernel
set_option maxRecDepth 100000 in
theorem g_OL_ok : g_OL.all g_ock = true := by decide +kernel
theorem g_o1 : Cond.instanceMethod objectInit ∈ g_wk := g_wkB_in (k := 1) (j := 29) (by decide +kernel)
theorem g_o2 : Cond.code objectInit ⟨#[0xb1]⟩ 1 none ∈ g_wk := g_wkB_in (k := 1) (j := 30) (by decide +kernel)
theorem g_y1 : Cond.native arraycopyName ∈ g_wk := g_wkB_in (k := 4) (j := 72) (by decide +kernel)
theorem g_y2 : Cond.static arraycopyName ∈ g_wk := g_wkB_in (k := 4) (j := 71) (by decide +kernel)
theorem g_y3 : Cond.initialized "java/lang/System" ∈ g_wk := g_wkB_in (k := 1) (j := 21) (by decide +kernel)
theorem g_z0 : Cond.initialized "java/lang/Math" ∈ g_wk := g_wkB_in (k := 1) (j := 17) (by decide +kernel)
theorem g_wk_of {k j : Nat} {w : Cond} (h1 : (g_tb k)[j]? = some w) (h2 : goodWord w = true) : w ∈ g_wk := List.mem_filter.mpr ⟨g_tb_in k w (List.mem_of_getElem? h1), h2⟩
theorem g_zs_max : Cond.static Lib.Math.max.name ∈ g_wk := g_wkB_in (k := 3) (j := 150) (by decide +kernel)
theorem g_zc_max : Cond.code Lib.Math.max.name Lib.Math.max.code 2 (some .int) ∈ g_wk := g_wkB_in (k := 3) (j := 151) (by decide +kernel)
theorem g_zs_min : Cond.static Lib.Math.min.name ∈ g_wk := g_wkB_in (k := 3) (j := 153) (by decide +kernel)
theorem g_zc_min : Cond.code Lib.Math.min.name Lib.Math.min.code 2 (some .int) ∈ g_wk := g_wkB_in (k := 3) (j := 154) (by decide +kernel)
theorem g_zs_abs : Cond.static Lib.Math.abs.name ∈ g_wk := g_wkB_in (k := 5) (j := 184) (by decide +kernel)
theorem g_zc_abs : Cond.code Lib.Math.abs.name Lib.Math.abs.code 1 (some .int) ∈ g_wk := g_wkB_in (k := 5) (j := 185) (by decide +kernel)
theorem g_ac_int : Cond.arrayClass .int ∈ g_wk := g_wkB_in (k := 1) (j := 122) (by decide +kernel)
theorem g_ac_byte : Cond.arrayClass .byte ∈ g_wk := g_wkB_in (k := 4) (j := 27) (by decide +kernel)
theorem g_ac_boolean : Cond.arrayClass .boolean ∈ g_wk := g_wkB_in (k := 7) (j := 120) (by decide +kernel)
def g_uck (C : String) (T : u_T) (q : Nat × Nat × Nat) : Bool := g_wkB q.2.1 q.2.2 (u_lay C T q.1)
def g_up0 : List (Nat × Nat × Nat) := [(0, 2, 50), (1, 2, 52), (2, 2, 54), (3, 2, 56), (4, 2, 58), (5, 2, 60), (6, 2, 62), (7, 2, 64)]
set_option maxRecDepth 100000 in
theorem g_uok0 : g_up0.all (g_uck RX0 TX0) = true ∧ g_up0.map (fun q => q.1) = List.range 8 := by decide +kernel
def g_up1 : List (Nat × Nat × Nat) := [(0, 1, 209), (1, 1, 211), (2, 1, 213), (3, 1, 215), (4, 1, 217), (5, 1, 219), (6, 1, 221), (7, 1, 223)]
set_option maxRecDepth 100000 in
theorem g_uok1 : g_up1.all (g_uck RX1 TX1) = true ∧ g_up1.map (fun q => q.1) = List.range 8 := by decide +kernel
def g_up2 : List (Nat × Nat × Nat) := [(0, 2, 176), (1, 2, 178), (2, 2, 180), (3, 2, 182), (4, 2, 184)]
set_option maxRecDepth 100000 in
theorem g_uok2 : g_up2.all (g_uck RX2 TX2) = true ∧ g_up2.map (fun q => q.1) = List.range 5 := by decide +kernel
def g_up3 : List (Nat × Nat × Nat) := [(0, 1, 230), (1, 1, 232), (2, 1, 234), (3, 1, 236)]
set_option maxRecDepth 100000 in
theorem g_uok3 : g_up3.all (g_uck RX3 TX3) = true ∧ g_up3.map (fun q => q.1) = List.range 4 := by decide +kernel
def g_up4 : List (Nat × Nat × Nat) := [(0, 2, 88), (1, 2, 90), (2, 2, 92), (3, 2, 94), (4, 2, 96), (5, 2, 98), (6, 2, 100), (7, 2, 102), (8, 2, 104), (9, 2, 106), (10, 2, 108), (11, 2, 110), (12, 2, 112), (13, 2, 114)]
set_option maxRecDepth 100000 in
theorem g_uok4 : g_up4.all (g_uck RX4 TX4) = true ∧ g_up4.map (fun q => q.1) = List.range 14 := by decide +kernel
def g_up5 : List (Nat × Nat × Nat) := [(0, 2, 16), (1, 2, 18), (2, 2, 20), (3, 2, 22), (4, 2, 24), (5, 2, 26), (6, 2, 28)]
set_option maxRecDepth 100000 in
theorem g_uok5 : g_up5.all (g_uck RX5 TX5) = true ∧ g_up5.map (fun q => q.1) = List.range 7 := by decide +kernel
def g_up6 : List (Nat × Nat × Nat) := [(0, 1, 179), (1, 1, 181)]
set_option maxRecDepth 100000 in
theorem g_uok6 : g_up6.all (g_uck RX6 TX6) = true ∧ g_up6.map (fun q => q.1) = List.range 2 := by decide +kernel
def g_up7 : List (Nat × Nat × Nat) := [(0, 1, 91), (1, 1, 93), (2, 1, 95), (3, 1, 97), (4, 1, 99), (5, 1, 101), (6, 1, 103), (7, 1, 105), (8, 1, 107), (9, 1, 109), (10, 1, 111), (11, 1, 113), (12, 1, 115), (13, 1, 117), (14, 1, 119)]
set_option maxRecDepth 100000 in
theorem g_uok7 : g_up7.all (g_uck RX7 TX7) = true ∧ g_up7.map (fun q => q.1) = List.range 15 := by decide +kernel
def g_up8 : List (Nat × Nat × Nat) := [(0, 1, 163), (1, 1, 165)]
set_option maxRecDepth 100000 in
theorem g_uok8 : g_up8.all (g_uck RX8 TX8) = true ∧ g_up8.map (fun q => q.1) = List.range 2 := by decide +kernel
def g_up9 : List (Nat × Nat × Nat) := [(0, 1, 143), (1, 1, 145), (2, 1, 147), (3, 1, 149), (4, 1, 151)]
set_option maxRecDepth 100000 in
theorem g_uok9 : g_up9.all (g_uck RX9 TX9) = true ∧ g_up9.map (fun q => q.1) = List.range 5 := by decide +kernel
def g_up10 : List (Nat × Nat × Nat) := [(0, 2, 139), (1, 2, 141), (2, 2, 143), (3, 2, 145), (4, 2, 147), (5, 2, 149), (6, 2, 151), (7, 2, 153), (8, 2, 155), (9, 2, 157), (10, 2, 159)]
set_option maxRecDepth 100000 in
theorem g_uok10 : g_up10.all (g_uck RX10 TX10) = true ∧ g_up10.map (fun q => q.1) = List.range 11 := by decide +kernel
def g_up11 : List (Nat × Nat × Nat) := [(0, 2, 202), (1, 2, 204), (2, 2, 206), (3, 2, 208), (4, 2, 210), (5, 2, 212), (6, 2, 214), (7, 2, 216), (8, 2, 218), (9, 2, 220), (10, 2, 222), (11, 2, 224), (12, 2, 226), (13, 2, 228), (14, 2, 230)]
set_option maxRecDepth 100000 in
theorem g_uok11 : g_up11.all (g_uck RX11 TX11) = true ∧ g_up11.map (fun q => q.1) = List.range 15 := by decide +kernel
def g_up12 : List (Nat × Nat × Nat) := [(0, 6, 121), (1, 6, 123), (2, 6, 125), (3, 6, 127), (4, 6, 129), (5, 6, 131), (6, 6, 133), (7, 6, 135), (8, 6, 137), (9, 6, 139), (10, 6, 141), (11, 6, 143), (12, 6, 145), (13, 6, 147), (14, 6, 149), (15, 6, 151), (16, 6, 153), (17, 6, 155), (18, 6, 157), (19, 6, 159), (20, 6, 161), (21, 6, 163), (22, 6, 165), (23, 6, 167), (24, 6, 169), (25, 6, 171), (26, 6, 173), (27, 6, 175), (28, 6, 177), (29, 6, 179), (30, 6, 181), (31, 6, 183), (32, 6, 185), (33, 6, 187), (34, 6, 189), (35, 6, 191), (36, 6, 193), (37, 6, 195), (38, 6, 197), (39, 6, 199), (40, 6, 201), (41, 6, 203), (42, 6, 205), (43, 6, 207), (44, 6, 209), (45, 6, 211), (46, 6, 213), (47, 6, 215), (48, 6, 217), (49, 6, 219), (50, 6, 221), (51, 6, 223), (52, 6, 225), (53, 6, 227), (54, 6, 229), (55, 6, 231), (56, 6, 233), (57, 6, 235), (58, 6, 237), (59, 6, 239), (60, 7, 1), (61, 7, 3), (62, 7, 5), (63, 7, 7), (64, 7, 9), (65, 7, 11), (66, 7, 13), (67, 7, 15), (68, 7, 17), (69, 7, 19), (70, 7, 21), (71, 7, 23), (72, 7, 25), (73, 7, 27), (74, 7, 29), (75, 7, 31), (76, 7, 33), (77, 7, 35), (78, 7, 37), (79, 7, 39), (80, 7, 41), (81, 7, 43), (82, 7, 45), (83, 7, 47), (84, 7, 49), (85, 7, 51), (86, 7, 53), (87, 7, 55), (88, 7, 57), (89, 7, 59), (90, 7, 61), (91, 7, 63), (92, 7, 65), (93, 7, 67), (94, 7, 69), (95, 7, 71), (96, 7, 73), (97, 7, 75), (98, 7, 77), (99, 7, 79), (100, 7, 81), (101, 7, 83), (102, 7, 85), (103, 7, 87), (104, 7, 89), (105, 7, 91), (106, 7, 93), (107, 7, 95), (108, 7, 97), (109, 7, 99), (110, 7, 101), (111, 7, 103), (112, 7, 105), (113, 7, 107), (114, 7, 109), (115, 7, 111), (116, 7, 113), (117, 7, 115), (118, 7, 117)]
set_option maxRecDepth 100000 in
theorem g_uok12 : g_up12.all (g_uck RX12 TX12) = true ∧ g_up12.map (fun q => q.1) = List.range 119 := by decide +kernel
theorem g_u_in {C : String} {T : u_T} {N : Nat} {l : List (Nat × Nat × Nat)} (h : l.all (g_uck C T) = true ∧ l.map (fun q => q.1) = List.range N) : ∀ w ∈ u_ws C T N, w ∈ g_wk := by
  intro w hw
  unfold u_ws at hw
  rw [← h.2, List.map_map] at hw
  obtain ⟨q, hq, rfl⟩ := List.mem_map.mp hw
  exact g_wkB_in (List.all_eq_true.mp h.1 q hq)
theorem g_clsIn_ok : g_clsIn := by
  intro ci C T N h
  match ci, h with
  | 0, h => cases h; exact g_u_in g_uok0
  | 1, h => cases h; exact g_u_in g_uok1
  | 2, h => cases h; exact g_u_in g_uok2
  | 3, h => cases h; exact g_u_in g_uok3
  | 4, h => cases h; exact g_u_in g_uok4
  | 5, h => cases h; exact g_u_in g_uok5
  | 6, h => cases h; exact g_u_in g_uok6
  | 7, h => cases h; exact g_u_in g_uok7
  | 8, h => cases h; exact g_u_in g_uok8
  | 9, h => cases h; exact g_u_in g_uok9
  | 10, h => cases h; exact g_u_in g_uok10
  | 11, h => cases h; exact g_u_in g_uok11
  | 12, h => cases h; exact g_u_in g_uok12
  | n + 13, h => simp [vwCl] at h
/-- one instruction's links, by the tables -/
noncomputable def g_cL (oc : Nat) (ini : Bool) (ins : Instr) (x y : Nat) (z : Int) : Bool := match ins with
  | .getfield i => match g_FL[z.toNat]? with
    | some q => (q.1 == oc && q.2.1 == i) && (q.2.2.1 == x && q.2.2.2.1 == y)
    | none => false
  | .putfield i => match g_FL[z.toNat]? with
    | some q => ((q.1 == oc && q.2.1 == i) && (q.2.2.1 == x && q.2.2.2.1 == y)) && (match vwCl[x]? with
      | some (_, T, _) => bif (T y).2.2.2 then ini && (x == oc && !q.2.2.2.2.1) else true
      | none => false)
    | none => false
  | .new i => match g_NL[z.toNat]? with
    | some q => (q.1 == oc && q.2.1 == i) && q.2.2.1 == x
    | none => false
  | .newarray t => match g_tag t with
    | some _ => true
    | none => false
  | .anewarray i => g_AL.any (fun q => q.1 == oc && q.2.1 == i)
  | .ldc i => g_KL.any (fun q => (q.1 == oc && q.2.1 == i) && (q.2.2.1 == z && !q.2.2.2.1))
  | .ldc_w i => g_KL.any (fun q => (q.1 == oc && q.2.1 == i) && (q.2.2.1 == z && !q.2.2.2.1))
  | .ldc2_w i => g_KL.any (fun q => (q.1 == oc && q.2.1 == i) && (q.2.2.1 == z && q.2.2.2.1))
  | .invokestatic i => bif x == 77777 then true else bif x == 99998 then g_YL.any (fun q => q.1 == oc && q.2.1 == i) else bif (x == 99997 || (x == 99996 || x == 99995)) then g_ZL.any (fun q => (q.1 == oc && q.2.1 == i) && q.2.2.1 == x) else (match g_CL[z.toNat]? with
    | some q => ((q.1 == oc && q.2.1 == i) && q.2.2.1 == x) && (match g_MF[x]? with
      | some f => f.1 == 0 && f.2.1 == y
      | none => false)
    | none => false)
  | .invokevirtual i => bif x == 77777 then true else (match g_CL[z.toNat]? with
    | some q => ((q.1 == oc && q.2.1 == i) && q.2.2.1 == x) && (match g_MF[x]? with
      | some f => f.1 == 1 && f.2.1 == y
      | none => false)
    | none => false)
  | .invokespecial i => bif x == 99999 then g_OL.any (fun q => q.1 == oc && q.2.1 == i) else (match g_CL[z.toNat]? with
    | some q => ((q.1 == oc && q.2.1 == i) && q.2.2.1 == x) && (match g_MF[x]? with
      | some f => f.1 == 2 && f.2.1 == y
      | none => false)
    | none => false)
  | _ => true
noncomputable def g_cE (oc : Nat) (ini : Bool) (code : ByteArray) (q : Nat × g_En) : Bool :=
  decide (decode code q.1 = .ok q.2.1) && ((g_sw q.2.1.1 || q.2.1.2 == g_len q.2.1.1) && ((match g_off q.2.1.1 with
    | some off => decide ((q.1 : Int) + off = (q.2.2.1 : Int))
    | none => true) && g_cL oc ini q.2.1.1 q.2.2.1 q.2.2.2.1 q.2.2.2.2))
/-- a method's own facts, by the tables -/
def g_mck (f : Nat × Nat × Nat × Nat × Nat × Nat × Nat × Nat × Nat × Nat) (M : g_M) : Bool := match f with
  | (kd, n, k1, j1, k2, j2, k3, j3, k4, j4) => (plainName M.2.1.cls && (decide (M.2.2.2.1 ≤ 45) && (decide (M.2.1.cls = M.1) && (decide (M.2.1.cls ≠ "java/lang/invoke/MethodHandle") && decide (M.2.1.cls ≠ "java/lang/invoke/VarHandle"))))) && (decide ((parseMethodDescriptor M.2.1.desc).map (fun d => d.parameters.length) = some n) && (g_wkB k2 j2 (.initialized M.2.1.cls) && (match kd with
    | 0 => g_wkB k3 j3 (.static M.2.1)
    | 1 => g_wkB k3 j3 (.instanceMethod M.2.1) && g_wkB k4 j4 (.selects M.2.1.cls M.2.1 M.2.1)
    | 2 => g_wkB k3 j3 (.instanceMethod M.2.1) && (decide (M.2.1.name = "<init>") && decide (M.2.2.2.2.1 = none))
    | _ => false)))
