theorem xwords (ws : List Cond) (ps : List Nat) (h : ws = ps.filterMap (fun i => lw_tbl[i]?)) (g : ws.all goodWord = true) : ∀ w ∈ ws, w ∈ xGw := by
  intro w hw
  have hg := List.all_eq_true.mp g w hw
  rw [h] at hw
  obtain ⟨i, -, hi⟩ := List.mem_filterMap.mp hw
  exact xGw_in (List.mem_of_getElem? hi) hg
theorem uX0 : ∀ w ∈ u_ws RX0 TX0 4, w ∈ xGw := xwords _ [222, 224, 226, 228] (by decide +kernel) (by decide +kernel)
theorem uX1 : ∀ w ∈ u_ws RX1 TX1 2, w ∈ xGw := xwords _ [202, 204] (by decide +kernel) (by decide +kernel)
theorem uX2 : ∀ w ∈ u_ws RX2 TX2 15, w ∈ xGw := xwords _ [153, 155, 157, 159, 161, 163, 165, 167, 169, 171, 173, 175, 177, 179, 181] (by decide +kernel) (by decide +kernel)
theorem uX3 : ∀ w ∈ u_ws RX3 TX3 6, w ∈ xGw := xwords _ [793, 795, 797, 799, 801, 803] (by decide +kernel) (by decide +kernel)
theorem uX4 : ∀ w ∈ u_ws RX4 TX4 3, w ∈ xGw := xwords _ [307, 309, 311] (by decide +kernel) (by decide +kernel)
theorem uX5 : ∀ w ∈ u_ws RX5 TX5 6, w ∈ xGw := xwords _ [269, 271, 273, 275, 277, 279] (by decide +kernel) (by decide +kernel)
theorem uX6 : ∀ w ∈ u_ws RX6 TX6 4, w ∈ xGw := xwords _ [243, 245, 247, 249] (by decide +kernel) (by decide +kernel)
theorem uX7 : ∀ w ∈ u_ws RX7 TX7 2, w ∈ xGw := xwords _ [293, 295] (by decide +kernel) (by decide +kernel)
theorem uX8 : ∀ w ∈ u_ws RX8 TX8 12, w ∈ xGw := xwords _ [326, 328, 330, 332, 334, 336, 338, 340, 342, 344, 346, 348] (by decide +kernel) (by decide +kernel)
theorem uX9 : ∀ w ∈ u_ws RX9 TX9 57, w ∈ xGw := xwords _ [981, 983, 985, 987, 989, 991, 993, 995, 997, 999, 1001, 1003, 1005, 1007, 1009, 1011, 1013, 1015, 1017, 1019, 1021, 1023, 1025, 1027, 1029, 1031, 1033, 1035, 1037, 1039, 1041, 1043, 1045, 1047, 1049, 1051, 1053, 1055, 1057, 1059, 1061, 1063, 1065, 1067, 1069, 1071, 1073, 1075, 1077, 1079, 1081, 1083, 1085, 1087, 1089, 1091, 1093] (by decide +kernel) (by decide +kernel)
def xTy (ci : Nat) : Nat → FieldType := match ci with
  | 0 => tyX0
  | 1 => tyX1
  | 2 => tyX2
  | 3 => tyX3
  | 4 => tyX4
  | 5 => tyX5
  | 6 => tyX6
  | 7 => tyX7
  | 8 => tyX8
  | _ => tyX9
theorem xty_ok {ci : Nat} {r : vw_C} (h : vwCl[ci]? = some r) : ∀ k, k < r.2.2 → parseFieldDescriptor (r.2.1 k).2.2.1 = some (xTy ci k) := by
  match ci, h with
  | 0, h => cases h; exact tyX0_ok
  | 1, h => cases h; exact tyX1_ok
  | 2, h => cases h; exact tyX2_ok
  | 3, h => cases h; exact tyX3_ok
  | 4, h => cases h; exact tyX4_ok
  | 5, h => cases h; exact tyX5_ok
  | 6, h => cases h; exact tyX6_ok
  | 7, h => cases h; exact tyX7_ok
  | 8, h => cases h; exact tyX8_ok
  | 9, h => cases h; exact tyX9_ok
  | n + 10, h => simp [vwCl] at h
theorem xnm_ok {ci : Nat} {r : vw_C} (h : vwCl[ci]? = some r) : ∀ a, a < r.2.2 → ∀ b, b < r.2.2 → a ≠ b → (r.2.1 a).2.1 ≠ (r.2.1 b).2.1 := by
  match ci, h with
  | 0, h => cases h; exact nmX0
  | 1, h => cases h; exact nmX1
  | 2, h => cases h; exact nmX2
  | 3, h => cases h; exact nmX3
  | 4, h => cases h; exact nmX4
  | 5, h => cases h; exact nmX5
  | 6, h => cases h; exact nmX6
  | 7, h => cases h; exact nmX7
  | 8, h => cases h; exact nmX8
  | 9, h => cases h; exact nmX9
  | n + 10, h => simp [vwCl] at h
theorem xus_ok {ci : Nat} {r : vw_C} (h : vwCl[ci]? = some r) : ∀ w ∈ u_ws r.1 r.2.1 r.2.2, w ∈ xGw := by
  match ci, h with
  | 0, h => cases h; exact uX0
  | 1, h => cases h; exact uX1
  | 2, h => cases h; exact uX2
  | 3, h => cases h; exact uX3
  | 4, h => cases h; exact uX4
  | 5, h => cases h; exact uX5
  | 6, h => cases h; exact uX6
  | 7, h => cases h; exact uX7
  | 8, h => cases h; exact uX8
  | 9, h => cases h; exact uX9
  | n + 10, h => simp [vwCl] at h
def xFin (ci k : Nat) : Bool := match vwCl[ci]? with
  | some r => (r.2.1 k).2.2.2
  | none => false
theorem xlen {ci : Nat} {r : vw_C} (h : vwCl[ci]? = some r) : ci < 10 := (List.getElem?_eq_some_iff.mp h).1
