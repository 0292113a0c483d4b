/-! facts of the tables: by wip/whole/gen4.py -/
theorem mm_find_mem {β : Type} : ∀ {l : List (Nat × β)} {i : Nat} {b : β}, mm_find l i = some b → (i, b) ∈ l
  | [], _, _, h => by cases h
  | (k, x) :: r, i, b, h => by
    unfold mm_find at h
    by_cases hk : k = i
    · rw [if_pos hk] at h
      cases h
      rw [hk]
      exact List.mem_cons_self
    · rw [if_neg hk] at h
      exact List.mem_cons_of_mem _ (mm_find_mem h)
theorem mm_zip_all {α β : Type} {f : α × β → Bool} : ∀ {l : List α} {P : List β}, l.length = P.length → (l.zip P).all f = true → ∀ a ∈ l, ∃ b, f (a, b) = true
  | [], _, _, _, a, h => by cases h
  | x :: l, [], hl, _, _, _ => by cases hl
  | x :: l, y :: P, hl, h, a, ha => by
    rw [List.zip_cons_cons, List.all_cons, Bool.and_eq_true] at h
    rcases List.mem_cons.mp ha with rfl | ha
    · exact ⟨y, h.1⟩
    · exact mm_zip_all (Nat.succ.inj hl) h.2 a ha
theorem mm_gd_of {i : Nat} {w : Cond} (h : lw_tbl[i]? = some w) (hg : goodWord w = true) : w ∈ mm_gd := List.mem_filter.mpr ⟨List.mem_of_getElem? h, hg⟩
theorem mm_ns_of {i : Nat} {w : Cond} (h : lw_tbl[i]? = some w) (hg : mm_isN w = true) : w ∈ mm_ns := List.mem_filter.mpr ⟨List.mem_of_getElem? h, hg⟩
def mm_at (i : Nat) (w : Cond) : Bool := decide (lw_tbl[i]? = some w) && goodWord w
theorem mm_at_gd {i : Nat} {w : Cond} (h : mm_at i w = true) : w ∈ mm_gd := by
  unfold mm_at at h
  rw [Bool.and_eq_true] at h
  exact mm_gd_of (of_decide_eq_true h.1) h.2
def mm_flP0 : List Nat := [274, 275, 276, 277]
theorem mm_flK0 : mm_fl0.length = mm_flP0.length ∧ (mm_fl0.zip mm_flP0).all (fun q => mm_at q.2 (.fieldLink (mm_nm 0) q.1.1 (mm_T q.1.2.1 q.1.2.2).1 (mm_T q.1.2.1 q.1.2.2).2.1 (mm_T q.1.2.1 q.1.2.2).2.2.1) && decide (q.1.2.1 < 12 ∧ q.1.2.2 < mm_nf q.1.2.1)) = true := by decide +kernel
def mm_flP1 : List Nat := [192, 193, 194, 196, 198, 200, 202, 163, 169, 171, 173, 166]
theorem mm_flK1 : mm_fl1.length = mm_flP1.length ∧ (mm_fl1.zip mm_flP1).all (fun q => mm_at q.2 (.fieldLink (mm_nm 1) q.1.1 (mm_T q.1.2.1 q.1.2.2).1 (mm_T q.1.2.1 q.1.2.2).2.1 (mm_T q.1.2.1 q.1.2.2).2.2.1) && decide (q.1.2.1 < 12 ∧ q.1.2.2 < mm_nf q.1.2.1)) = true := by decide +kernel
def mm_flP2 : List Nat := [295, 296, 297, 298, 299, 300, 301, 303, 304, 305]
theorem mm_flK2 : mm_fl2.length = mm_flP2.length ∧ (mm_fl2.zip mm_flP2).all (fun q => mm_at q.2 (.fieldLink (mm_nm 2) q.1.1 (mm_T q.1.2.1 q.1.2.2).1 (mm_T q.1.2.1 q.1.2.2).2.1 (mm_T q.1.2.1 q.1.2.2).2.2.1) && decide (q.1.2.1 < 12 ∧ q.1.2.2 < mm_nf q.1.2.1)) = true := by decide +kernel
def mm_flP3 : List Nat := [351, 352, 353, 354, 356]
theorem mm_flK3 : mm_fl3.length = mm_flP3.length ∧ (mm_fl3.zip mm_flP3).all (fun q => mm_at q.2 (.fieldLink (mm_nm 3) q.1.1 (mm_T q.1.2.1 q.1.2.2).1 (mm_T q.1.2.1 q.1.2.2).2.1 (mm_T q.1.2.1 q.1.2.2).2.2.1) && decide (q.1.2.1 < 12 ∧ q.1.2.2 < mm_nf q.1.2.1)) = true := by decide +kernel
def mm_flP4 : List Nat := [134, 135, 137, 138]
theorem mm_flK4 : mm_fl4.length = mm_flP4.length ∧ (mm_fl4.zip mm_flP4).all (fun q => mm_at q.2 (.fieldLink (mm_nm 4) q.1.1 (mm_T q.1.2.1 q.1.2.2).1 (mm_T q.1.2.1 q.1.2.2).2.1 (mm_T q.1.2.1 q.1.2.2).2.2.1) && decide (q.1.2.1 < 12 ∧ q.1.2.2 < mm_nf q.1.2.1)) = true := by decide +kernel
def mm_flP5 : List Nat := [102, 103, 104, 105, 106, 107, 108, 109, 165, 157, 159, 161]
theorem mm_flK5 : mm_fl5.length = mm_flP5.length ∧ (mm_fl5.zip mm_flP5).all (fun q => mm_at q.2 (.fieldLink (mm_nm 5) q.1.1 (mm_T q.1.2.1 q.1.2.2).1 (mm_T q.1.2.1 q.1.2.2).2.1 (mm_T q.1.2.1 q.1.2.2).2.2.1) && decide (q.1.2.1 < 12 ∧ q.1.2.2 < mm_nf q.1.2.1)) = true := by decide +kernel
def mm_flP6 : List Nat := [333, 334, 335]
theorem mm_flK6 : mm_fl6.length = mm_flP6.length ∧ (mm_fl6.zip mm_flP6).all (fun q => mm_at q.2 (.fieldLink (mm_nm 6) q.1.1 (mm_T q.1.2.1 q.1.2.2).1 (mm_T q.1.2.1 q.1.2.2).2.1 (mm_T q.1.2.1 q.1.2.2).2.2.1) && decide (q.1.2.1 < 12 ∧ q.1.2.2 < mm_nf q.1.2.1)) = true := by decide +kernel
def mm_flP7 : List Nat := [156, 158, 160, 162, 164, 167, 170, 172]
theorem mm_flK7 : mm_fl7.length = mm_flP7.length ∧ (mm_fl7.zip mm_flP7).all (fun q => mm_at q.2 (.fieldLink (mm_nm 7) q.1.1 (mm_T q.1.2.1 q.1.2.2).1 (mm_T q.1.2.1 q.1.2.2).2.1 (mm_T q.1.2.1 q.1.2.2).2.2.1) && decide (q.1.2.1 < 12 ∧ q.1.2.2 < mm_nf q.1.2.1)) = true := by decide +kernel
def mm_flP8 : List Nat := [224, 225, 227, 228, 250]
theorem mm_flK8 : mm_fl8.length = mm_flP8.length ∧ (mm_fl8.zip mm_flP8).all (fun q => mm_at q.2 (.fieldLink (mm_nm 8) q.1.1 (mm_T q.1.2.1 q.1.2.2).1 (mm_T q.1.2.1 q.1.2.2).2.1 (mm_T q.1.2.1 q.1.2.2).2.2.1) && decide (q.1.2.1 < 12 ∧ q.1.2.2 < mm_nf q.1.2.1)) = true := by decide +kernel
def mm_flP9 : List Nat := [244, 245, 246, 247, 248, 249]
theorem mm_flK9 : mm_fl9.length = mm_flP9.length ∧ (mm_fl9.zip mm_flP9).all (fun q => mm_at q.2 (.fieldLink (mm_nm 9) q.1.1 (mm_T q.1.2.1 q.1.2.2).1 (mm_T q.1.2.1 q.1.2.2).2.1 (mm_T q.1.2.1 q.1.2.2).2.2.1) && decide (q.1.2.1 < 12 ∧ q.1.2.2 < mm_nf q.1.2.1)) = true := by decide +kernel
def mm_flP10 : List Nat := [369, 370, 371, 372, 373, 374, 375, 376, 377, 168, 195, 139, 251, 201, 302, 336, 357, 197, 199, 136, 226, 355]
theorem mm_flK10 : mm_fl10.length = mm_flP10.length ∧ (mm_fl10.zip mm_flP10).all (fun q => mm_at q.2 (.fieldLink (mm_nm 10) q.1.1 (mm_T q.1.2.1 q.1.2.2).1 (mm_T q.1.2.1 q.1.2.2).2.1 (mm_T q.1.2.1 q.1.2.2).2.2.1) && decide (q.1.2.1 < 12 ∧ q.1.2.2 < mm_nf q.1.2.1)) = true := by decide +kernel
def mm_flP11 : List Nat := [1051, 1052, 1053, 1054, 1055, 1056, 1057, 1060, 1061, 1062, 1064, 1069, 1070, 1072, 1080, 1082, 1083, 1084, 1085, 1087, 1088, 1089, 1090, 1091, 1092, 1094, 1095, 1097, 1098, 1099, 1050, 1058, 1059, 1063, 1065, 1066, 1067, 1068, 1071, 1073, 1074, 1076, 1077, 1075, 1078, 1079, 1081, 1086, 1093, 1096]
theorem mm_flK11 : mm_fl11.length = mm_flP11.length ∧ (mm_fl11.zip mm_flP11).all (fun q => mm_at q.2 (.fieldLink (mm_nm 11) q.1.1 (mm_T q.1.2.1 q.1.2.2).1 (mm_T q.1.2.1 q.1.2.2).2.1 (mm_T q.1.2.1 q.1.2.2).2.2.1) && decide (q.1.2.1 < 12 ∧ q.1.2.2 < mm_nf q.1.2.1)) = true := by decide +kernel
theorem mm_fl_ok {c0 i c k : Nat} (h : mm_find (mm_fls c0) i = some (c, k)) : Cond.fieldLink (mm_nm c0) i (mm_T c k).1 (mm_T c k).2.1 (mm_T c k).2.2.1 ∈ mm_gd ∧ c < 12 ∧ k < mm_nf c := by
  have hm := mm_find_mem h
  have go : ∀ {l : List (Nat × Nat × Nat)} {P : List Nat}, (l.length = P.length ∧ (l.zip P).all (fun q => mm_at q.2 (.fieldLink (mm_nm c0) q.1.1 (mm_T q.1.2.1 q.1.2.2).1 (mm_T q.1.2.1 q.1.2.2).2.1 (mm_T q.1.2.1 q.1.2.2).2.2.1) && decide (q.1.2.1 < 12 ∧ q.1.2.2 < mm_nf q.1.2.1)) = true) → (i, c, k) ∈ l → Cond.fieldLink (mm_nm c0) i (mm_T c k).1 (mm_T c k).2.1 (mm_T c k).2.2.1 ∈ mm_gd ∧ c < 12 ∧ k < mm_nf c := by
    intro l P hK hin
    obtain ⟨b, hb⟩ := mm_zip_all hK.1 hK.2 _ hin
    rw [Bool.and_eq_true] at hb
    exact ⟨mm_at_gd hb.1, of_decide_eq_true hb.2⟩
  match c0, hm with
  | 0, hm => exact go mm_flK0 hm
  | 1, hm => exact go mm_flK1 hm
  | 2, hm => exact go mm_flK2 hm
  | 3, hm => exact go mm_flK3 hm
  | 4, hm => exact go mm_flK4 hm
  | 5, hm => exact go mm_flK5 hm
  | 6, hm => exact go mm_flK6 hm
  | 7, hm => exact go mm_flK7 hm
  | 8, hm => exact go mm_flK8 hm
  | 9, hm => exact go mm_flK9 hm
  | 10, hm => exact go mm_flK10 hm
  | 11, hm => exact go mm_flK11 hm
  | 12, hm => cases hm
  | 13, hm => cases hm
  | 14, hm => cases hm
  | 15, hm => cases hm
  | n + 16, hm => cases hm
def mm_usP0 : List Nat := [278, 280, 282, 284]
theorem mm_usK0 : (u_ws RX0 TX0 4).length = mm_usP0.length ∧ ((u_ws RX0 TX0 4).zip mm_usP0).all (fun q => mm_at q.2 q.1) = true := by decide +kernel
def mm_usP1 : List Nat := [203, 205, 207, 209, 211, 213, 215]
theorem mm_usK1 : (u_ws RX1 TX1 7).length = mm_usP1.length ∧ ((u_ws RX1 TX1 7).zip mm_usP1).all (fun q => mm_at q.2 q.1) = true := by decide +kernel
def mm_usP2 : List Nat := [306, 308, 310, 312, 314, 316, 318, 320, 322, 324]
theorem mm_usK2 : (u_ws RX2 TX2 10).length = mm_usP2.length ∧ ((u_ws RX2 TX2 10).zip mm_usP2).all (fun q => mm_at q.2 q.1) = true := by decide +kernel
def mm_usP3 : List Nat := [358, 360, 362, 364, 366]
theorem mm_usK3 : (u_ws RX3 TX3 5).length = mm_usP3.length ∧ ((u_ws RX3 TX3 5).zip mm_usP3).all (fun q => mm_at q.2 q.1) = true := by decide +kernel
def mm_usP4 : List Nat := [140, 142, 144, 146]
theorem mm_usK4 : (u_ws RX4 TX4 4).length = mm_usP4.length ∧ ((u_ws RX4 TX4 4).zip mm_usP4).all (fun q => mm_at q.2 q.1) = true := by decide +kernel
def mm_usP5 : List Nat := [110, 112, 114, 116, 118, 120, 122, 124]
theorem mm_usK5 : (u_ws RX5 TX5 8).length = mm_usP5.length ∧ ((u_ws RX5 TX5 8).zip mm_usP5).all (fun q => mm_at q.2 q.1) = true := by decide +kernel
def mm_usP6 : List Nat := [337, 339, 341]
theorem mm_usK6 : (u_ws RX6 TX6 3).length = mm_usP6.length ∧ ((u_ws RX6 TX6 3).zip mm_usP6).all (fun q => mm_at q.2 q.1) = true := by decide +kernel
def mm_usP7 : List Nat := [174, 176, 178, 180, 182, 184, 186, 188]
theorem mm_usK7 : (u_ws RX7 TX7 8).length = mm_usP7.length ∧ ((u_ws RX7 TX7 8).zip mm_usP7).all (fun q => mm_at q.2 q.1) = true := by decide +kernel
def mm_usP8 : List Nat := [229, 231, 233, 235]
theorem mm_usK8 : (u_ws RX8 TX8 4).length = mm_usP8.length ∧ ((u_ws RX8 TX8 4).zip mm_usP8).all (fun q => mm_at q.2 q.1) = true := by decide +kernel
def mm_usP9 : List Nat := [252, 254, 256, 258, 260, 262]
theorem mm_usK9 : (u_ws RX9 TX9 6).length = mm_usP9.length ∧ ((u_ws RX9 TX9 6).zip mm_usP9).all (fun q => mm_at q.2 q.1) = true := by decide +kernel
def mm_usP10 : List Nat := [378, 380, 382, 384, 386, 388, 390, 392, 394]
theorem mm_usK10 : (u_ws RX10 TX10 9).length = mm_usP10.length ∧ ((u_ws RX10 TX10 9).zip mm_usP10).all (fun q => mm_at q.2 q.1) = true := by decide +kernel
def mm_usP11 : List Nat := [1100, 1102, 1104, 1106, 1108, 1110, 1112, 1114, 1116, 1118, 1120, 1122, 1124, 1126, 1128, 1130, 1132, 1134, 1136, 1138, 1140, 1142, 1144, 1146, 1148, 1150, 1152, 1154, 1156, 1158, 1160, 1162, 1164, 1166, 1168, 1170, 1172, 1174, 1176, 1178, 1180, 1182, 1184, 1186, 1188, 1190, 1192, 1194, 1196, 1198]
theorem mm_usK11 : (u_ws RX11 TX11 50).length = mm_usP11.length ∧ ((u_ws RX11 TX11 50).zip mm_usP11).all (fun q => mm_at q.2 q.1) = true := by decide +kernel
theorem mm_cls_ok {c : Nat} (h : c < 12) : mm_cl[c]? = some (mm_nm c, mm_T c, mm_nf c) ∧ (∀ w ∈ u_ws (mm_nm c) (mm_T c) (mm_nf c), w ∈ mm_gd) ∧ (∀ k, k < mm_nf c → parseFieldDescriptor (mm_T c k).2.2.1 = some (mm_ty c k)) ∧ (∀ a, a < mm_nf c → ∀ b, b < mm_nf c → a ≠ b → (mm_T c a).2.1 ≠ (mm_T c b).2.1) ∧ (∀ k, k < mm_nf c → (mm_T c k).1 = mm_nm c) := by
  have go : ∀ {l : List Cond} {P : List Nat}, (l.length = P.length ∧ (l.zip P).all (fun q => mm_at q.2 q.1) = true) → ∀ w ∈ l, w ∈ mm_gd := by
    intro l P hK w hw
    obtain ⟨b, hb⟩ := mm_zip_all hK.1 hK.2 w hw
    exact mm_at_gd hb
  match c, h with
  | 0, _ => exact ⟨rfl, go mm_usK0, tyX0_ok, nmX0, by decide +kernel⟩
  | 1, _ => exact ⟨rfl, go mm_usK1, tyX1_ok, nmX1, by decide +kernel⟩
  | 2, _ => exact ⟨rfl, go mm_usK2, tyX2_ok, nmX2, by decide +kernel⟩
  | 3, _ => exact ⟨rfl, go mm_usK3, tyX3_ok, nmX3, by decide +kernel⟩
  | 4, _ => exact ⟨rfl, go mm_usK4, tyX4_ok, nmX4, by decide +kernel⟩
  | 5, _ => exact ⟨rfl, go mm_usK5, tyX5_ok, nmX5, by decide +kernel⟩
  | 6, _ => exact ⟨rfl, go mm_usK6, tyX6_ok, nmX6, by decide +kernel⟩
  | 7, _ => exact ⟨rfl, go mm_usK7, tyX7_ok, nmX7, by decide +kernel⟩
  | 8, _ => exact ⟨rfl, go mm_usK8, tyX8_ok, nmX8, by decide +kernel⟩
  | 9, _ => exact ⟨rfl, go mm_usK9, tyX9_ok, nmX9, by decide +kernel⟩
  | 10, _ => exact ⟨rfl, go mm_usK10, tyX10_ok, nmX10, by decide +kernel⟩
  | 11, _ => exact ⟨rfl, go mm_usK11, tyX11_ok, nmX11, by decide +kernel⟩
  | n + 12, h => exact absurd h (by omega)
def mm_nwT : List (Nat × Nat × Nat) := [(1, 9, 7), (1, 17, 5), (1, 24, 4), (7, 21, 5), (10, 7, 1), (10, 20, 8), (10, 27, 9), (10, 37, 0), (10, 44, 2), (10, 51, 6), (10, 58, 3), (12, 7, 10), (12, 10, 11)]
def mm_nwP : List (Nat × Nat × Nat) := [(94, 149, 64), (96, 97, 62), (128, 129, 63), (154, 97, 62), (88, 89, 61), (218, 219, 65), (238, 239, 66), (265, 266, 67), (287, 288, 68), (327, 328, 69), (345, 346, 70), (80, 81, 60), (1044, 1045, 71)]
theorem mm_nw_ok {c0 i c : Nat} (h : mm_find (mm_nws c0) i = some c) : (Cond.classLink (mm_nm c0) i (mm_nm c) ∈ mm_gd ∧ Cond.instantiable (mm_nm c) (mm_nf c) ∈ mm_gd ∧ Cond.initialized (mm_nm c) ∈ mm_gd) ∧ c < 12 := by
  have hm := mm_find_mem h
  have e : (mm_nwT.zip mm_nwP).all (fun q => mm_at q.2.1 (.classLink (mm_nm q.1.1) q.1.2.1 (mm_nm q.1.2.2)) && mm_at q.2.2.1 (.instantiable (mm_nm q.1.2.2) (mm_nf q.1.2.2)) && mm_at q.2.2.2 (.initialized (mm_nm q.1.2.2)) && decide (q.1.2.2 < 12)) = true := by decide +kernel
  have hin : (c0, i, c) ∈ mm_nwT := by
    match c0, hm with
    | 1, hm => exact (show ∀ q ∈ mm_nws 1, ((1 : Nat), q.1, q.2) ∈ mm_nwT from by decide) _ hm
    | 7, hm => exact (show ∀ q ∈ mm_nws 7, ((7 : Nat), q.1, q.2) ∈ mm_nwT from by decide) _ hm
    | 10, hm => exact (show ∀ q ∈ mm_nws 10, ((10 : Nat), q.1, q.2) ∈ mm_nwT from by decide) _ hm
    | 12, hm => exact (show ∀ q ∈ mm_nws 12, ((12 : Nat), q.1, q.2) ∈ mm_nwT from by decide) _ hm
    | 0, hm => cases hm
    | 2, hm => cases hm
    | 3, hm => cases hm
    | 4, hm => cases hm
    | 5, hm => cases hm
    | 6, hm => cases hm
    | 8, hm => cases hm
    | 9, hm => cases hm
    | 11, hm => cases hm
    | n + 13, hm => cases hm
  obtain ⟨b, hb⟩ := mm_zip_all (by decide) e _ hin
  simp only [Bool.and_eq_true, decide_eq_true_eq] at hb
  exact ⟨⟨mm_at_gd hb.1.1.1, mm_at_gd hb.1.1.2, mm_at_gd hb.1.2⟩, hb.2⟩
def mm_ctP6 : List Nat := [1000]
theorem mm_ctK6 : (mm_cts 6).length = mm_ctP6.length ∧ ((mm_cts 6).zip mm_ctP6).all (fun q => mm_at q.2 (.constant (mm_nm 6) q.1.1 q.1.2)) = true := by decide +kernel
def mm_ctP10 : List Nat := [975]
theorem mm_ctK10 : (mm_cts 10).length = mm_ctP10.length ∧ ((mm_cts 10).zip mm_ctP10).all (fun q => mm_at q.2 (.constant (mm_nm 10) q.1.1 q.1.2)) = true := by decide +kernel
def mm_ctP11 : List Nat := [1443, 1499]
theorem mm_ctK11 : (mm_cts 11).length = mm_ctP11.length ∧ ((mm_cts 11).zip mm_ctP11).all (fun q => mm_at q.2 (.constant (mm_nm 11) q.1.1 q.1.2)) = true := by decide +kernel
def mm_ctP13 : List Nat := [866, 867, 868]
theorem mm_ctK13 : (mm_cts 13).length = mm_ctP13.length ∧ ((mm_cts 13).zip mm_ctP13).all (fun q => mm_at q.2 (.constant (mm_nm 13) q.1.1 q.1.2)) = true := by decide +kernel
theorem mm_ct_ok {c0 i : Nat} {v : Int32} (h : mm_find (mm_cts c0) i = some v) : Cond.constant (mm_nm c0) i v ∈ mm_gd := by
  have hm := mm_find_mem h
  have go : ∀ {l : List (Nat × Int32)} {P : List Nat}, (l.length = P.length ∧ (l.zip P).all (fun q => mm_at q.2 (.constant (mm_nm c0) q.1.1 q.1.2)) = true) → (i, v) ∈ l → Cond.constant (mm_nm c0) i v ∈ mm_gd := by
    intro l P hK hin
    obtain ⟨b, hb⟩ := mm_zip_all hK.1 hK.2 _ hin
    exact mm_at_gd hb
  match c0, hm with
  | 6, hm => exact go mm_ctK6 hm
  | 10, hm => exact go mm_ctK10 hm
  | 11, hm => exact go mm_ctK11 hm
  | 13, hm => exact go mm_ctK13 hm
  | 0, hm => cases hm
  | 1, hm => cases hm
  | 2, hm => cases hm
  | 3, hm => cases hm
  | 4, hm => cases hm
  | 5, hm => cases hm
  | 7, hm => cases hm
  | 8, hm => cases hm
  | 9, hm => cases hm
  | 12, hm => cases hm
  | 14, hm => cases hm
  | 15, hm => cases hm
  | n + 16, hm => cases hm
def mm_clP0 : List Nat := [273]
theorem mm_clK0 : (mm_cls 0).length = mm_clP0.length ∧ ((mm_cls 0).zip mm_clP0).all (fun q => mm_at q.2 (.constantLong (mm_nm 0) q.1.1 q.1.2)) = true := by decide +kernel
def mm_clP1 : List Nat := [494]
theorem mm_clK1 : (mm_cls 1).length = mm_clP1.length ∧ ((mm_cls 1).zip mm_clP1).all (fun q => mm_at q.2 (.constantLong (mm_nm 1) q.1.1 q.1.2)) = true := by decide +kernel
def mm_clP4 : List Nat := [504, 508, 502, 503, 637]
theorem mm_clK4 : (mm_cls 4).length = mm_clP4.length ∧ ((mm_cls 4).zip mm_clP4).all (fun q => mm_at q.2 (.constantLong (mm_nm 4) q.1.1 q.1.2)) = true := by decide +kernel
def mm_clP5 : List Nat := [568]
theorem mm_clK5 : (mm_cls 5).length = mm_clP5.length ∧ ((mm_cls 5).zip mm_clP5).all (fun q => mm_at q.2 (.constantLong (mm_nm 5) q.1.1 q.1.2)) = true := by decide +kernel
def mm_clP8 : List Nat := [684]
theorem mm_clK8 : (mm_cls 8).length = mm_clP8.length ∧ ((mm_cls 8).zip mm_clP8).all (fun q => mm_at q.2 (.constantLong (mm_nm 8) q.1.1 q.1.2)) = true := by decide +kernel
def mm_clP10 : List Nat := [891]
theorem mm_clK10 : (mm_cls 10).length = mm_clP10.length ∧ ((mm_cls 10).zip mm_clP10).all (fun q => mm_at q.2 (.constantLong (mm_nm 10) q.1.1 q.1.2)) = true := by decide +kernel
def mm_clP11 : List Nat := [1366, 1387, 1388, 1389, 1390, 1391, 1392, 1393, 1394, 1395]
theorem mm_clK11 : (mm_cls 11).length = mm_clP11.length ∧ ((mm_cls 11).zip mm_clP11).all (fun q => mm_at q.2 (.constantLong (mm_nm 11) q.1.1 q.1.2)) = true := by decide +kernel
def mm_clP12 : List Nat := [1524]
theorem mm_clK12 : (mm_cls 12).length = mm_clP12.length ∧ ((mm_cls 12).zip mm_clP12).all (fun q => mm_at q.2 (.constantLong (mm_nm 12) q.1.1 q.1.2)) = true := by decide +kernel
def mm_clP14 : List Nat := [546, 547, 548]
theorem mm_clK14 : (mm_cls 14).length = mm_clP14.length ∧ ((mm_cls 14).zip mm_clP14).all (fun q => mm_at q.2 (.constantLong (mm_nm 14) q.1.1 q.1.2)) = true := by decide +kernel
theorem mm_cl_ok {c0 i : Nat} {v : Int64} (h : mm_find (mm_cls c0) i = some v) : Cond.constantLong (mm_nm c0) i v ∈ mm_gd := by
  have hm := mm_find_mem h
  have go : ∀ {l : List (Nat × Int64)} {P : List Nat}, (l.length = P.length ∧ (l.zip P).all (fun q => mm_at q.2 (.constantLong (mm_nm c0) q.1.1 q.1.2)) = true) → (i, v) ∈ l → Cond.constantLong (mm_nm c0) i v ∈ mm_gd := by
    intro l P hK hin
    obtain ⟨b, hb⟩ := mm_zip_all hK.1 hK.2 _ hin
    exact mm_at_gd hb
  match c0, hm with
  | 0, hm => exact go mm_clK0 hm
  | 1, hm => exact go mm_clK1 hm
  | 4, hm => exact go mm_clK4 hm
  | 5, hm => exact go mm_clK5 hm
  | 8, hm => exact go mm_clK8 hm
  | 10, hm => exact go mm_clK10 hm
  | 11, hm => exact go mm_clK11 hm
  | 12, hm => exact go mm_clK12 hm
  | 14, hm => exact go mm_clK14 hm
  | 2, hm => cases hm
  | 3, hm => cases hm
  | 6, hm => cases hm
  | 7, hm => cases hm
  | 9, hm => cases hm
  | 13, hm => cases hm
  | 15, hm => cases hm
  | n + 16, hm => cases hm
theorem mm_oi_ok {c i : Nat} (h : mm_oi c i = true) : Cond.methodLink (mm_nm c) i Lib.objectInit ∈ mm_gd ∧ Cond.instanceMethod Lib.objectInit ∈ mm_gd ∧ Cond.code Lib.objectInit ⟨#[0xb1]⟩ 1 none ∈ mm_gd := by
  refine ⟨?_, mm_at_gd (i := 86) (by decide +kernel), mm_at_gd (i := 87) (by decide +kernel)⟩
  have hc : (c < 10 ∧ i = 3) ∨ ((c = 10 ∨ c = 11) ∧ i = 1) := by
    simp only [mm_oi, Bool.or_eq_true, Bool.and_eq_true, decide_eq_true_eq] at h
    rcases h with h | h
    · exact Or.inr h
    · exact Or.inl h
  rcases hc with ⟨hc, rfl⟩ | ⟨hc, rfl⟩
  · match c, hc with
    | 0, _ => exact mm_at_gd (i := 270) (by decide +kernel)
    | 1, _ => exact mm_at_gd (i := 93) (by decide +kernel)
    | 2, _ => exact mm_at_gd (i := 292) (by decide +kernel)
    | 3, _ => exact mm_at_gd (i := 350) (by decide +kernel)
    | 4, _ => exact mm_at_gd (i := 133) (by decide +kernel)
    | 5, _ => exact mm_at_gd (i := 101) (by decide +kernel)
    | 6, _ => exact mm_at_gd (i := 332) (by decide +kernel)
    | 7, _ => exact mm_at_gd (i := 153) (by decide +kernel)
    | 8, _ => exact mm_at_gd (i := 223) (by decide +kernel)
    | 9, _ => exact mm_at_gd (i := 243) (by decide +kernel)
    | n + 10, h => exact absurd h (by omega)
  · rcases hc with rfl | rfl
    · exact mm_at_gd (i := 85) (by decide +kernel)
    · exact mm_at_gd (i := 1049) (by decide +kernel)
