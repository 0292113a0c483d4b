/-! the numbers of all cells once both objects are made: by wip/whole/gen7.py -/
def mm_H0 (L : Nat) (xs : Nat → Int32) : mm_H := ((2, 0, fun r => if r = 1 then .inr (6, L) else .inl 99), fun _ _ => .null, fun r => if r = 1 then xs else fun _ => 0, fun _ _ => 0)
def mm_kt : List (Nat ⊕ (Nat × Nat)) := [.inl 99, .inl 99, .inl 10, .inl 1, .inr (3, 8), .inl 5, .inr (1, 10), .inl 4, .inr (1, 64), .inl 7, .inr (0, 16), .inr (0, 16), .inr (0, 16), .inl 5, .inr (1, 10), .inl 7, .inr (0, 16), .inr (0, 16), .inr (0, 16), .inl 5, .inr (1, 10), .inl 7, .inr (0, 16), .inr (0, 16), .inr (0, 16), .inl 5, .inr (1, 10), .inl 7, .inr (0, 16), .inr (0, 16), .inr (0, 16), .inl 5, .inr (1, 10), .inl 7, .inr (0, 16), .inr (0, 16), .inr (0, 16), .inl 5, .inr (1, 10), .inl 7, .inr (0, 16), .inr (0, 16), .inr (0, 16), .inl 5, .inr (1, 10), .inl 7, .inr (0, 16), .inr (0, 16), .inr (0, 16), .inl 5, .inr (1, 10), .inl 7, .inr (0, 16), .inr (0, 16), .inr (0, 16), .inl 5, .inr (1, 10), .inr (0, 3), .inl 8, .inr (0, 160), .inl 9, .inr (0, 10), .inr (0, 10), .inr (0, 10), .inr (0, 10), .inr (0, 256), .inl 9, .inr (0, 10), .inr (0, 10), .inr (0, 10), .inr (0, 10), .inr (0, 256), .inl 0, .inr (5, 3), .inr (1, 4), .inr (1, 4), .inr (1, 4), .inr (0, 6), .inr (0, 6), .inr (0, 64), .inl 2, .inr (0, 12), .inr (0, 12), .inr (0, 12), .inr (0, 12), .inr (4, 13), .inr (0, 8), .inr (0, 8), .inr (0, 8), .inr (0, 8), .inr (0, 8), .inr (0, 8), .inr (0, 8), .inr (0, 8), .inr (0, 8), .inr (0, 8), .inr (0, 8), .inr (0, 8), .inr (0, 8), .inr (4, 13), .inr (0, 8), .inr (0, 8), .inr (0, 8), .inr (0, 8), .inr (0, 8), .inr (0, 8), .inr (0, 8), .inr (0, 8), .inr (0, 8), .inr (0, 8), .inr (0, 8), .inr (0, 8), .inr (0, 8), .inl 6, .inr (0, 8), .inr (2, 8), .inl 3, .inr (0, 20), .inr (0, 20), .inr (0, 20), .inl 11, .inr (0, 8), .inr (0, 128), .inr (0, 128), .inr (0, 128), .inr (0, 8), .inr (0, 8), .inr (0, 64), .inr (0, 512), .inr (0, 512), .inr (0, 64), .inr (1, 64), .inr (0, 64), .inr (0, 160), .inr (0, 40), .inr (0, 40), .inr (0, 192), .inr (0, 6), .inr (0, 6), .inr (0, 12), .inr (0, 12), .inr (0, 12), .inr (0, 12), .inr (0, 8), .inr (0, 8), .inr (0, 8), .inr (2, 8), .inr (0, 20), .inr (0, 20), .inr (0, 20)]
def zOK (z : mm_Z) : Prop := z.1 = 150 ∧ ∀ r, 2 ≤ r → r < 150 → z.2.2 r = mm_kt.getD r (.inl 99)
theorem zOK_O {z : mm_Z} (hz : zOK z) {r c : Nat} (h2 : 2 ≤ r) (hr : r < 150) (h : mm_kt.getD r (.inl 99) = .inl c) : mm_zO z r c := ⟨(hz.2 r h2 hr).trans h, by rw [hz.1]; exact hr, h2⟩
theorem zOK_l {z : mm_Z} (hz : zOK z) {r t n : Nat} (h2 : 2 ≤ r) (hr : r < 150) (h : mm_kt.getD r (.inl 99) = .inr (t, n)) : mm_zl z r = n := by
  unfold mm_zl
  rw [hz.2 r h2 hr, h]
theorem zOK_T {z : mm_Z} (hz : zOK z) {r t n : Nat} (h2 : 2 ≤ r) (hr : r < 150) (h : mm_kt.getD r (.inl 99) = .inr (t, n)) : mm_zT z r t := ⟨by rw [zOK_l hz h2 hr h]; exact (hz.2 r h2 hr).trans h, by rw [hz.1]; exact hr, h2⟩
theorem zO_2 {z : mm_Z} (hz : zOK z) : mm_zO z 2 10 := zOK_O hz (by decide) (by decide) rfl
theorem zO_3 {z : mm_Z} (hz : zOK z) : mm_zO z 3 1 := zOK_O hz (by decide) (by decide) rfl
theorem zT_4 {z : mm_Z} (hz : zOK z) : mm_zT z 4 3 := zOK_T hz (by decide) (by decide) (n := 8) rfl
theorem zl_4 {z : mm_Z} (hz : zOK z) : mm_zl z 4 = 8 := zOK_l hz (by decide) (by decide) (t := 3) rfl
theorem zO_5 {z : mm_Z} (hz : zOK z) : mm_zO z 5 5 := zOK_O hz (by decide) (by decide) rfl
theorem zT_6 {z : mm_Z} (hz : zOK z) : mm_zT z 6 1 := zOK_T hz (by decide) (by decide) (n := 10) rfl
theorem zl_6 {z : mm_Z} (hz : zOK z) : mm_zl z 6 = 10 := zOK_l hz (by decide) (by decide) (t := 1) rfl
theorem zO_7 {z : mm_Z} (hz : zOK z) : mm_zO z 7 4 := zOK_O hz (by decide) (by decide) rfl
theorem zT_8 {z : mm_Z} (hz : zOK z) : mm_zT z 8 1 := zOK_T hz (by decide) (by decide) (n := 64) rfl
theorem zl_8 {z : mm_Z} (hz : zOK z) : mm_zl z 8 = 64 := zOK_l hz (by decide) (by decide) (t := 1) rfl
theorem zT_57 {z : mm_Z} (hz : zOK z) : mm_zT z 57 0 := zOK_T hz (by decide) (by decide) (n := 3) rfl
theorem zl_57 {z : mm_Z} (hz : zOK z) : mm_zl z 57 = 3 := zOK_l hz (by decide) (by decide) (t := 0) rfl
theorem zO_58 {z : mm_Z} (hz : zOK z) : mm_zO z 58 8 := zOK_O hz (by decide) (by decide) rfl
theorem zT_59 {z : mm_Z} (hz : zOK z) : mm_zT z 59 0 := zOK_T hz (by decide) (by decide) (n := 160) rfl
theorem zl_59 {z : mm_Z} (hz : zOK z) : mm_zl z 59 = 160 := zOK_l hz (by decide) (by decide) (t := 0) rfl
theorem zO_60 {z : mm_Z} (hz : zOK z) : mm_zO z 60 9 := zOK_O hz (by decide) (by decide) rfl
theorem zT_61 {z : mm_Z} (hz : zOK z) : mm_zT z 61 0 := zOK_T hz (by decide) (by decide) (n := 10) rfl
theorem zl_61 {z : mm_Z} (hz : zOK z) : mm_zl z 61 = 10 := zOK_l hz (by decide) (by decide) (t := 0) rfl
theorem zT_62 {z : mm_Z} (hz : zOK z) : mm_zT z 62 0 := zOK_T hz (by decide) (by decide) (n := 10) rfl
theorem zl_62 {z : mm_Z} (hz : zOK z) : mm_zl z 62 = 10 := zOK_l hz (by decide) (by decide) (t := 0) rfl
theorem zT_63 {z : mm_Z} (hz : zOK z) : mm_zT z 63 0 := zOK_T hz (by decide) (by decide) (n := 10) rfl
theorem zl_63 {z : mm_Z} (hz : zOK z) : mm_zl z 63 = 10 := zOK_l hz (by decide) (by decide) (t := 0) rfl
theorem zT_64 {z : mm_Z} (hz : zOK z) : mm_zT z 64 0 := zOK_T hz (by decide) (by decide) (n := 10) rfl
theorem zl_64 {z : mm_Z} (hz : zOK z) : mm_zl z 64 = 10 := zOK_l hz (by decide) (by decide) (t := 0) rfl
theorem zT_65 {z : mm_Z} (hz : zOK z) : mm_zT z 65 0 := zOK_T hz (by decide) (by decide) (n := 256) rfl
theorem zl_65 {z : mm_Z} (hz : zOK z) : mm_zl z 65 = 256 := zOK_l hz (by decide) (by decide) (t := 0) rfl
theorem zO_66 {z : mm_Z} (hz : zOK z) : mm_zO z 66 9 := zOK_O hz (by decide) (by decide) rfl
theorem zT_67 {z : mm_Z} (hz : zOK z) : mm_zT z 67 0 := zOK_T hz (by decide) (by decide) (n := 10) rfl
theorem zl_67 {z : mm_Z} (hz : zOK z) : mm_zl z 67 = 10 := zOK_l hz (by decide) (by decide) (t := 0) rfl
theorem zT_68 {z : mm_Z} (hz : zOK z) : mm_zT z 68 0 := zOK_T hz (by decide) (by decide) (n := 10) rfl
theorem zl_68 {z : mm_Z} (hz : zOK z) : mm_zl z 68 = 10 := zOK_l hz (by decide) (by decide) (t := 0) rfl
theorem zT_69 {z : mm_Z} (hz : zOK z) : mm_zT z 69 0 := zOK_T hz (by decide) (by decide) (n := 10) rfl
theorem zl_69 {z : mm_Z} (hz : zOK z) : mm_zl z 69 = 10 := zOK_l hz (by decide) (by decide) (t := 0) rfl
theorem zT_70 {z : mm_Z} (hz : zOK z) : mm_zT z 70 0 := zOK_T hz (by decide) (by decide) (n := 10) rfl
theorem zl_70 {z : mm_Z} (hz : zOK z) : mm_zl z 70 = 10 := zOK_l hz (by decide) (by decide) (t := 0) rfl
theorem zT_71 {z : mm_Z} (hz : zOK z) : mm_zT z 71 0 := zOK_T hz (by decide) (by decide) (n := 256) rfl
theorem zl_71 {z : mm_Z} (hz : zOK z) : mm_zl z 71 = 256 := zOK_l hz (by decide) (by decide) (t := 0) rfl
theorem zO_72 {z : mm_Z} (hz : zOK z) : mm_zO z 72 0 := zOK_O hz (by decide) (by decide) rfl
theorem zT_73 {z : mm_Z} (hz : zOK z) : mm_zT z 73 5 := zOK_T hz (by decide) (by decide) (n := 3) rfl
theorem zl_73 {z : mm_Z} (hz : zOK z) : mm_zl z 73 = 3 := zOK_l hz (by decide) (by decide) (t := 5) rfl
theorem zT_77 {z : mm_Z} (hz : zOK z) : mm_zT z 77 0 := zOK_T hz (by decide) (by decide) (n := 6) rfl
theorem zl_77 {z : mm_Z} (hz : zOK z) : mm_zl z 77 = 6 := zOK_l hz (by decide) (by decide) (t := 0) rfl
theorem zT_78 {z : mm_Z} (hz : zOK z) : mm_zT z 78 0 := zOK_T hz (by decide) (by decide) (n := 6) rfl
theorem zl_78 {z : mm_Z} (hz : zOK z) : mm_zl z 78 = 6 := zOK_l hz (by decide) (by decide) (t := 0) rfl
theorem zT_79 {z : mm_Z} (hz : zOK z) : mm_zT z 79 0 := zOK_T hz (by decide) (by decide) (n := 64) rfl
theorem zl_79 {z : mm_Z} (hz : zOK z) : mm_zl z 79 = 64 := zOK_l hz (by decide) (by decide) (t := 0) rfl
theorem zO_80 {z : mm_Z} (hz : zOK z) : mm_zO z 80 2 := zOK_O hz (by decide) (by decide) rfl
theorem zT_81 {z : mm_Z} (hz : zOK z) : mm_zT z 81 0 := zOK_T hz (by decide) (by decide) (n := 12) rfl
theorem zl_81 {z : mm_Z} (hz : zOK z) : mm_zl z 81 = 12 := zOK_l hz (by decide) (by decide) (t := 0) rfl
theorem zT_82 {z : mm_Z} (hz : zOK z) : mm_zT z 82 0 := zOK_T hz (by decide) (by decide) (n := 12) rfl
theorem zl_82 {z : mm_Z} (hz : zOK z) : mm_zl z 82 = 12 := zOK_l hz (by decide) (by decide) (t := 0) rfl
theorem zT_83 {z : mm_Z} (hz : zOK z) : mm_zT z 83 0 := zOK_T hz (by decide) (by decide) (n := 12) rfl
theorem zl_83 {z : mm_Z} (hz : zOK z) : mm_zl z 83 = 12 := zOK_l hz (by decide) (by decide) (t := 0) rfl
theorem zT_84 {z : mm_Z} (hz : zOK z) : mm_zT z 84 0 := zOK_T hz (by decide) (by decide) (n := 12) rfl
theorem zl_84 {z : mm_Z} (hz : zOK z) : mm_zl z 84 = 12 := zOK_l hz (by decide) (by decide) (t := 0) rfl
theorem zT_85 {z : mm_Z} (hz : zOK z) : mm_zT z 85 4 := zOK_T hz (by decide) (by decide) (n := 13) rfl
theorem zl_85 {z : mm_Z} (hz : zOK z) : mm_zl z 85 = 13 := zOK_l hz (by decide) (by decide) (t := 4) rfl
theorem zT_99 {z : mm_Z} (hz : zOK z) : mm_zT z 99 4 := zOK_T hz (by decide) (by decide) (n := 13) rfl
theorem zl_99 {z : mm_Z} (hz : zOK z) : mm_zl z 99 = 13 := zOK_l hz (by decide) (by decide) (t := 4) rfl
theorem zO_113 {z : mm_Z} (hz : zOK z) : mm_zO z 113 6 := zOK_O hz (by decide) (by decide) rfl
theorem zT_114 {z : mm_Z} (hz : zOK z) : mm_zT z 114 0 := zOK_T hz (by decide) (by decide) (n := 8) rfl
theorem zl_114 {z : mm_Z} (hz : zOK z) : mm_zl z 114 = 8 := zOK_l hz (by decide) (by decide) (t := 0) rfl
theorem zT_115 {z : mm_Z} (hz : zOK z) : mm_zT z 115 2 := zOK_T hz (by decide) (by decide) (n := 8) rfl
theorem zl_115 {z : mm_Z} (hz : zOK z) : mm_zl z 115 = 8 := zOK_l hz (by decide) (by decide) (t := 2) rfl
theorem zO_116 {z : mm_Z} (hz : zOK z) : mm_zO z 116 3 := zOK_O hz (by decide) (by decide) rfl
theorem zT_117 {z : mm_Z} (hz : zOK z) : mm_zT z 117 0 := zOK_T hz (by decide) (by decide) (n := 20) rfl
theorem zl_117 {z : mm_Z} (hz : zOK z) : mm_zl z 117 = 20 := zOK_l hz (by decide) (by decide) (t := 0) rfl
theorem zT_118 {z : mm_Z} (hz : zOK z) : mm_zT z 118 0 := zOK_T hz (by decide) (by decide) (n := 20) rfl
theorem zl_118 {z : mm_Z} (hz : zOK z) : mm_zl z 118 = 20 := zOK_l hz (by decide) (by decide) (t := 0) rfl
theorem zT_119 {z : mm_Z} (hz : zOK z) : mm_zT z 119 0 := zOK_T hz (by decide) (by decide) (n := 20) rfl
theorem zl_119 {z : mm_Z} (hz : zOK z) : mm_zl z 119 = 20 := zOK_l hz (by decide) (by decide) (t := 0) rfl
theorem zO_120 {z : mm_Z} (hz : zOK z) : mm_zO z 120 11 := zOK_O hz (by decide) (by decide) rfl
theorem zT_121 {z : mm_Z} (hz : zOK z) : mm_zT z 121 0 := zOK_T hz (by decide) (by decide) (n := 8) rfl
theorem zl_121 {z : mm_Z} (hz : zOK z) : mm_zl z 121 = 8 := zOK_l hz (by decide) (by decide) (t := 0) rfl
theorem zT_122 {z : mm_Z} (hz : zOK z) : mm_zT z 122 0 := zOK_T hz (by decide) (by decide) (n := 128) rfl
theorem zl_122 {z : mm_Z} (hz : zOK z) : mm_zl z 122 = 128 := zOK_l hz (by decide) (by decide) (t := 0) rfl
theorem zT_123 {z : mm_Z} (hz : zOK z) : mm_zT z 123 0 := zOK_T hz (by decide) (by decide) (n := 128) rfl
theorem zl_123 {z : mm_Z} (hz : zOK z) : mm_zl z 123 = 128 := zOK_l hz (by decide) (by decide) (t := 0) rfl
theorem zT_124 {z : mm_Z} (hz : zOK z) : mm_zT z 124 0 := zOK_T hz (by decide) (by decide) (n := 128) rfl
theorem zl_124 {z : mm_Z} (hz : zOK z) : mm_zl z 124 = 128 := zOK_l hz (by decide) (by decide) (t := 0) rfl
theorem zT_125 {z : mm_Z} (hz : zOK z) : mm_zT z 125 0 := zOK_T hz (by decide) (by decide) (n := 8) rfl
theorem zl_125 {z : mm_Z} (hz : zOK z) : mm_zl z 125 = 8 := zOK_l hz (by decide) (by decide) (t := 0) rfl
theorem zT_126 {z : mm_Z} (hz : zOK z) : mm_zT z 126 0 := zOK_T hz (by decide) (by decide) (n := 8) rfl
theorem zl_126 {z : mm_Z} (hz : zOK z) : mm_zl z 126 = 8 := zOK_l hz (by decide) (by decide) (t := 0) rfl
theorem zT_127 {z : mm_Z} (hz : zOK z) : mm_zT z 127 0 := zOK_T hz (by decide) (by decide) (n := 64) rfl
theorem zl_127 {z : mm_Z} (hz : zOK z) : mm_zl z 127 = 64 := zOK_l hz (by decide) (by decide) (t := 0) rfl
theorem zT_128 {z : mm_Z} (hz : zOK z) : mm_zT z 128 0 := zOK_T hz (by decide) (by decide) (n := 512) rfl
theorem zl_128 {z : mm_Z} (hz : zOK z) : mm_zl z 128 = 512 := zOK_l hz (by decide) (by decide) (t := 0) rfl
theorem zT_129 {z : mm_Z} (hz : zOK z) : mm_zT z 129 0 := zOK_T hz (by decide) (by decide) (n := 512) rfl
theorem zl_129 {z : mm_Z} (hz : zOK z) : mm_zl z 129 = 512 := zOK_l hz (by decide) (by decide) (t := 0) rfl
theorem zT_130 {z : mm_Z} (hz : zOK z) : mm_zT z 130 0 := zOK_T hz (by decide) (by decide) (n := 64) rfl
theorem zl_130 {z : mm_Z} (hz : zOK z) : mm_zl z 130 = 64 := zOK_l hz (by decide) (by decide) (t := 0) rfl
theorem zT_131 {z : mm_Z} (hz : zOK z) : mm_zT z 131 1 := zOK_T hz (by decide) (by decide) (n := 64) rfl
theorem zl_131 {z : mm_Z} (hz : zOK z) : mm_zl z 131 = 64 := zOK_l hz (by decide) (by decide) (t := 1) rfl
theorem zT_132 {z : mm_Z} (hz : zOK z) : mm_zT z 132 0 := zOK_T hz (by decide) (by decide) (n := 64) rfl
theorem zl_132 {z : mm_Z} (hz : zOK z) : mm_zl z 132 = 64 := zOK_l hz (by decide) (by decide) (t := 0) rfl
theorem zT_133 {z : mm_Z} (hz : zOK z) : mm_zT z 133 0 := zOK_T hz (by decide) (by decide) (n := 160) rfl
theorem zl_133 {z : mm_Z} (hz : zOK z) : mm_zl z 133 = 160 := zOK_l hz (by decide) (by decide) (t := 0) rfl
theorem zT_134 {z : mm_Z} (hz : zOK z) : mm_zT z 134 0 := zOK_T hz (by decide) (by decide) (n := 40) rfl
theorem zl_134 {z : mm_Z} (hz : zOK z) : mm_zl z 134 = 40 := zOK_l hz (by decide) (by decide) (t := 0) rfl
theorem zT_135 {z : mm_Z} (hz : zOK z) : mm_zT z 135 0 := zOK_T hz (by decide) (by decide) (n := 40) rfl
theorem zl_135 {z : mm_Z} (hz : zOK z) : mm_zl z 135 = 40 := zOK_l hz (by decide) (by decide) (t := 0) rfl
theorem zT_136 {z : mm_Z} (hz : zOK z) : mm_zT z 136 0 := zOK_T hz (by decide) (by decide) (n := 192) rfl
theorem zl_136 {z : mm_Z} (hz : zOK z) : mm_zl z 136 = 192 := zOK_l hz (by decide) (by decide) (t := 0) rfl
theorem zT_137 {z : mm_Z} (hz : zOK z) : mm_zT z 137 0 := zOK_T hz (by decide) (by decide) (n := 6) rfl
theorem zl_137 {z : mm_Z} (hz : zOK z) : mm_zl z 137 = 6 := zOK_l hz (by decide) (by decide) (t := 0) rfl
theorem zT_138 {z : mm_Z} (hz : zOK z) : mm_zT z 138 0 := zOK_T hz (by decide) (by decide) (n := 6) rfl
theorem zl_138 {z : mm_Z} (hz : zOK z) : mm_zl z 138 = 6 := zOK_l hz (by decide) (by decide) (t := 0) rfl
theorem zT_139 {z : mm_Z} (hz : zOK z) : mm_zT z 139 0 := zOK_T hz (by decide) (by decide) (n := 12) rfl
theorem zl_139 {z : mm_Z} (hz : zOK z) : mm_zl z 139 = 12 := zOK_l hz (by decide) (by decide) (t := 0) rfl
theorem zT_140 {z : mm_Z} (hz : zOK z) : mm_zT z 140 0 := zOK_T hz (by decide) (by decide) (n := 12) rfl
theorem zl_140 {z : mm_Z} (hz : zOK z) : mm_zl z 140 = 12 := zOK_l hz (by decide) (by decide) (t := 0) rfl
theorem zT_141 {z : mm_Z} (hz : zOK z) : mm_zT z 141 0 := zOK_T hz (by decide) (by decide) (n := 12) rfl
theorem zl_141 {z : mm_Z} (hz : zOK z) : mm_zl z 141 = 12 := zOK_l hz (by decide) (by decide) (t := 0) rfl
theorem zT_142 {z : mm_Z} (hz : zOK z) : mm_zT z 142 0 := zOK_T hz (by decide) (by decide) (n := 12) rfl
theorem zl_142 {z : mm_Z} (hz : zOK z) : mm_zl z 142 = 12 := zOK_l hz (by decide) (by decide) (t := 0) rfl
theorem zT_143 {z : mm_Z} (hz : zOK z) : mm_zT z 143 0 := zOK_T hz (by decide) (by decide) (n := 8) rfl
theorem zl_143 {z : mm_Z} (hz : zOK z) : mm_zl z 143 = 8 := zOK_l hz (by decide) (by decide) (t := 0) rfl
theorem zT_144 {z : mm_Z} (hz : zOK z) : mm_zT z 144 0 := zOK_T hz (by decide) (by decide) (n := 8) rfl
theorem zl_144 {z : mm_Z} (hz : zOK z) : mm_zl z 144 = 8 := zOK_l hz (by decide) (by decide) (t := 0) rfl
theorem zT_145 {z : mm_Z} (hz : zOK z) : mm_zT z 145 0 := zOK_T hz (by decide) (by decide) (n := 8) rfl
theorem zl_145 {z : mm_Z} (hz : zOK z) : mm_zl z 145 = 8 := zOK_l hz (by decide) (by decide) (t := 0) rfl
theorem zT_146 {z : mm_Z} (hz : zOK z) : mm_zT z 146 2 := zOK_T hz (by decide) (by decide) (n := 8) rfl
theorem zl_146 {z : mm_Z} (hz : zOK z) : mm_zl z 146 = 8 := zOK_l hz (by decide) (by decide) (t := 2) rfl
theorem zT_147 {z : mm_Z} (hz : zOK z) : mm_zT z 147 0 := zOK_T hz (by decide) (by decide) (n := 20) rfl
theorem zl_147 {z : mm_Z} (hz : zOK z) : mm_zl z 147 = 20 := zOK_l hz (by decide) (by decide) (t := 0) rfl
theorem zT_148 {z : mm_Z} (hz : zOK z) : mm_zT z 148 0 := zOK_T hz (by decide) (by decide) (n := 20) rfl
theorem zl_148 {z : mm_Z} (hz : zOK z) : mm_zl z 148 = 20 := zOK_l hz (by decide) (by decide) (t := 0) rfl
theorem zT_149 {z : mm_Z} (hz : zOK z) : mm_zT z 149 0 := zOK_T hz (by decide) (by decide) (n := 20) rfl
theorem zl_149 {z : mm_Z} (hz : zOK z) : mm_zl z 149 = 20 := zOK_l hz (by decide) (by decide) (t := 0) rfl
theorem zSw_k : ∀ s, s < 8 → mm_kt.getD (9 + 6 * s) (.inl 99) = .inl 7 := by decide
theorem zSw {z : mm_Z} (hz : zOK z) {s : Nat} (hs : s < 8) : mm_zO z (9 + 6 * s) 7 := zOK_O hz (by omega) (by omega) (zSw_k s hs)
theorem zSx_k : ∀ s, s < 8 → mm_kt.getD (10 + 6 * s) (.inl 99) = .inr (0, 16) := by decide
theorem zSx {z : mm_Z} (hz : zOK z) {s : Nat} (hs : s < 8) : mm_zT z (10 + 6 * s) 0 := zOK_T hz (by omega) (by omega) (zSx_k s hs)
theorem zSxl {z : mm_Z} (hz : zOK z) {s : Nat} (hs : s < 8) : mm_zl z (10 + 6 * s) = 16 := zOK_l hz (by omega) (by omega) (zSx_k s hs)
theorem zSy_k : ∀ s, s < 8 → mm_kt.getD (11 + 6 * s) (.inl 99) = .inr (0, 16) := by decide
theorem zSy {z : mm_Z} (hz : zOK z) {s : Nat} (hs : s < 8) : mm_zT z (11 + 6 * s) 0 := zOK_T hz (by omega) (by omega) (zSy_k s hs)
theorem zSyl {z : mm_Z} (hz : zOK z) {s : Nat} (hs : s < 8) : mm_zl z (11 + 6 * s) = 16 := zOK_l hz (by omega) (by omega) (zSy_k s hs)
theorem zSm_k : ∀ s, s < 8 → mm_kt.getD (12 + 6 * s) (.inl 99) = .inr (0, 16) := by decide
theorem zSm {z : mm_Z} (hz : zOK z) {s : Nat} (hs : s < 8) : mm_zT z (12 + 6 * s) 0 := zOK_T hz (by omega) (by omega) (zSm_k s hs)
theorem zSml {z : mm_Z} (hz : zOK z) {s : Nat} (hs : s < 8) : mm_zl z (12 + 6 * s) = 16 := zOK_l hz (by omega) (by omega) (zSm_k s hs)
theorem zSp_k : ∀ s, s < 8 → mm_kt.getD (13 + 6 * s) (.inl 99) = .inl 5 := by decide
theorem zSp {z : mm_Z} (hz : zOK z) {s : Nat} (hs : s < 8) : mm_zO z (13 + 6 * s) 5 := zOK_O hz (by omega) (by omega) (zSp_k s hs)
theorem zSd_k : ∀ s, s < 8 → mm_kt.getD (14 + 6 * s) (.inl 99) = .inr (1, 10) := by decide
theorem zSd {z : mm_Z} (hz : zOK z) {s : Nat} (hs : s < 8) : mm_zT z (14 + 6 * s) 1 := zOK_T hz (by omega) (by omega) (zSd_k s hs)
theorem zSdl {z : mm_Z} (hz : zOK z) {s : Nat} (hs : s < 8) : mm_zl z (14 + 6 * s) = 10 := zOK_l hz (by omega) (by omega) (zSd_k s hs)
theorem zJg_k : ∀ s, s < 13 → mm_kt.getD (86 + 1 * s) (.inl 99) = .inr (0, 8) := by decide
theorem zJg {z : mm_Z} (hz : zOK z) {s : Nat} (hs : s < 13) : mm_zT z (86 + 1 * s) 0 := zOK_T hz (by omega) (by omega) (zJg_k s hs)
theorem zJgl {z : mm_Z} (hz : zOK z) {s : Nat} (hs : s < 13) : mm_zl z (86 + 1 * s) = 8 := zOK_l hz (by omega) (by omega) (zJg_k s hs)
theorem zJn_k : ∀ s, s < 13 → mm_kt.getD (100 + 1 * s) (.inl 99) = .inr (0, 8) := by decide
theorem zJn {z : mm_Z} (hz : zOK z) {s : Nat} (hs : s < 13) : mm_zT z (100 + 1 * s) 0 := zOK_T hz (by omega) (by omega) (zJn_k s hs)
theorem zJnl {z : mm_Z} (hz : zOK z) {s : Nat} (hs : s < 13) : mm_zl z (100 + 1 * s) = 8 := zOK_l hz (by omega) (by omega) (zJn_k s hs)
theorem zCw_k : ∀ s, s < 3 → mm_kt.getD (74 + 1 * s) (.inl 99) = .inr (1, 4) := by decide
theorem zCw {z : mm_Z} (hz : zOK z) {s : Nat} (hs : s < 3) : mm_zT z (74 + 1 * s) 1 := zOK_T hz (by omega) (by omega) (zCw_k s hs)
theorem zCwl {z : mm_Z} (hz : zOK z) {s : Nat} (hs : s < 3) : mm_zl z (74 + 1 * s) = 4 := zOK_l hz (by omega) (by omega) (zCw_k s hs)
def mm_stM : List (Nat × Nat) := [(1, 121), (2, 122), (3, 123), (4, 124), (5, 125), (6, 126), (10, 127), (11, 128), (12, 129), (14, 130), (19, 131), (20, 132), (22, 133), (30, 134), (32, 135), (33, 136), (34, 137), (35, 138), (37, 139), (38, 140), (39, 141), (40, 142), (41, 143), (42, 144), (44, 145), (45, 146), (47, 147), (48, 148), (49, 149)]
def FixM (F : Nat → Nat → Value) : Prop := ∀ q ∈ mm_stM, F 120 q.1 = .ref q.2
theorem FixM_up {F : Nat → Nat → Value} {k : Nat} {v : Value} (h : FixM F) (hk : mm_stM.all (fun q => !(q.1 == k)) = true) : FixM (mm_up2 F 120 k v) := by
  intro q hq
  have h1 := List.all_eq_true.mp hk q hq
  have h2 : ¬ q.1 = k := by simpa using h1
  unfold mm_up2
  rw [if_neg (fun z => h2 z.2)]
  exact h q hq
theorem FixM_ne {F : Nat → Nat → Value} {r k : Nat} {v : Value} (h : FixM F) (hr : ¬ r = 120) : FixM (mm_up2 F r k v) := by
  intro q hq
  unfold mm_up2
  rw [if_neg (fun z => hr z.1.symm)]
  exact h q hq
theorem fM_1 {F : Nat → Nat → Value} (h : FixM F) : F 120 1 = .ref 121 := h (1, 121) (by decide)
theorem fM_2 {F : Nat → Nat → Value} (h : FixM F) : F 120 2 = .ref 122 := h (2, 122) (by decide)
theorem fM_3 {F : Nat → Nat → Value} (h : FixM F) : F 120 3 = .ref 123 := h (3, 123) (by decide)
theorem fM_4 {F : Nat → Nat → Value} (h : FixM F) : F 120 4 = .ref 124 := h (4, 124) (by decide)
theorem fM_5 {F : Nat → Nat → Value} (h : FixM F) : F 120 5 = .ref 125 := h (5, 125) (by decide)
theorem fM_6 {F : Nat → Nat → Value} (h : FixM F) : F 120 6 = .ref 126 := h (6, 126) (by decide)
theorem fM_10 {F : Nat → Nat → Value} (h : FixM F) : F 120 10 = .ref 127 := h (10, 127) (by decide)
theorem fM_11 {F : Nat → Nat → Value} (h : FixM F) : F 120 11 = .ref 128 := h (11, 128) (by decide)
theorem fM_12 {F : Nat → Nat → Value} (h : FixM F) : F 120 12 = .ref 129 := h (12, 129) (by decide)
theorem fM_14 {F : Nat → Nat → Value} (h : FixM F) : F 120 14 = .ref 130 := h (14, 130) (by decide)
theorem fM_19 {F : Nat → Nat → Value} (h : FixM F) : F 120 19 = .ref 131 := h (19, 131) (by decide)
theorem fM_20 {F : Nat → Nat → Value} (h : FixM F) : F 120 20 = .ref 132 := h (20, 132) (by decide)
theorem fM_22 {F : Nat → Nat → Value} (h : FixM F) : F 120 22 = .ref 133 := h (22, 133) (by decide)
theorem fM_30 {F : Nat → Nat → Value} (h : FixM F) : F 120 30 = .ref 134 := h (30, 134) (by decide)
theorem fM_32 {F : Nat → Nat → Value} (h : FixM F) : F 120 32 = .ref 135 := h (32, 135) (by decide)
theorem fM_33 {F : Nat → Nat → Value} (h : FixM F) : F 120 33 = .ref 136 := h (33, 136) (by decide)
theorem fM_34 {F : Nat → Nat → Value} (h : FixM F) : F 120 34 = .ref 137 := h (34, 137) (by decide)
theorem fM_35 {F : Nat → Nat → Value} (h : FixM F) : F 120 35 = .ref 138 := h (35, 138) (by decide)
theorem fM_37 {F : Nat → Nat → Value} (h : FixM F) : F 120 37 = .ref 139 := h (37, 139) (by decide)
theorem fM_38 {F : Nat → Nat → Value} (h : FixM F) : F 120 38 = .ref 140 := h (38, 140) (by decide)
theorem fM_39 {F : Nat → Nat → Value} (h : FixM F) : F 120 39 = .ref 141 := h (39, 141) (by decide)
theorem fM_40 {F : Nat → Nat → Value} (h : FixM F) : F 120 40 = .ref 142 := h (40, 142) (by decide)
theorem fM_41 {F : Nat → Nat → Value} (h : FixM F) : F 120 41 = .ref 143 := h (41, 143) (by decide)
theorem fM_42 {F : Nat → Nat → Value} (h : FixM F) : F 120 42 = .ref 144 := h (42, 144) (by decide)
theorem fM_44 {F : Nat → Nat → Value} (h : FixM F) : F 120 44 = .ref 145 := h (44, 145) (by decide)
theorem fM_45 {F : Nat → Nat → Value} (h : FixM F) : F 120 45 = .ref 146 := h (45, 146) (by decide)
theorem fM_47 {F : Nat → Nat → Value} (h : FixM F) : F 120 47 = .ref 147 := h (47, 147) (by decide)
theorem fM_48 {F : Nat → Nat → Value} (h : FixM F) : F 120 48 = .ref 148 := h (48, 148) (by decide)
theorem fM_49 {F : Nat → Nat → Value} (h : FixM F) : F 120 49 = .ref 149 := h (49, 149) (by decide)
def mm_stC : List (Nat × Nat × Nat) := [(2, 0, 3), (2, 1, 57), (2, 2, 58), (2, 5, 72), (2, 6, 80), (2, 7, 113), (2, 8, 116), (3, 0, 4), (3, 1, 5), (3, 2, 7), (5, 0, 6), (7, 0, 8), (58, 0, 59), (60, 0, 61), (60, 1, 62), (60, 2, 63), (60, 3, 64), (60, 4, 65), (66, 0, 67), (66, 1, 68), (66, 2, 69), (66, 3, 70), (66, 4, 71), (72, 0, 73), (72, 1, 77), (72, 2, 78), (72, 3, 79), (80, 0, 81), (80, 1, 82), (80, 2, 83), (80, 3, 84), (80, 4, 85), (80, 5, 99), (113, 0, 114), (113, 1, 115), (116, 0, 117), (116, 1, 118), (116, 2, 119)]
def FixC (F : Nat → Nat → Value) : Prop := (∀ q ∈ mm_stC, F q.1 q.2.1 = .ref q.2.2) ∧ (∀ s, s < 8 → F 4 s = .ref (9 + 6 * s) ∧ F (9 + 6 * s) 0 = .ref (10 + 6 * s) ∧ F (9 + 6 * s) 1 = .ref (11 + 6 * s) ∧ F (9 + 6 * s) 2 = .ref (12 + 6 * s) ∧ F (9 + 6 * s) 3 = .ref (13 + 6 * s) ∧ F (13 + 6 * s) 0 = .ref (14 + 6 * s)) ∧ (∀ i, i < 13 → F 85 i = .ref (86 + 1 * i) ∧ F 99 i = .ref (100 + 1 * i)) ∧ ∀ k, k < 3 → F 73 k = .ref (74 + 1 * k)
theorem fC_2_0 {F : Nat → Nat → Value} (h : FixC F) : F 2 0 = .ref 3 := h.1 (2, 0, 3) (by decide)
theorem fC_2_1 {F : Nat → Nat → Value} (h : FixC F) : F 2 1 = .ref 57 := h.1 (2, 1, 57) (by decide)
theorem fC_2_2 {F : Nat → Nat → Value} (h : FixC F) : F 2 2 = .ref 58 := h.1 (2, 2, 58) (by decide)
theorem fC_2_5 {F : Nat → Nat → Value} (h : FixC F) : F 2 5 = .ref 72 := h.1 (2, 5, 72) (by decide)
theorem fC_2_6 {F : Nat → Nat → Value} (h : FixC F) : F 2 6 = .ref 80 := h.1 (2, 6, 80) (by decide)
theorem fC_2_7 {F : Nat → Nat → Value} (h : FixC F) : F 2 7 = .ref 113 := h.1 (2, 7, 113) (by decide)
theorem fC_2_8 {F : Nat → Nat → Value} (h : FixC F) : F 2 8 = .ref 116 := h.1 (2, 8, 116) (by decide)
theorem fC_3_0 {F : Nat → Nat → Value} (h : FixC F) : F 3 0 = .ref 4 := h.1 (3, 0, 4) (by decide)
theorem fC_3_1 {F : Nat → Nat → Value} (h : FixC F) : F 3 1 = .ref 5 := h.1 (3, 1, 5) (by decide)
theorem fC_3_2 {F : Nat → Nat → Value} (h : FixC F) : F 3 2 = .ref 7 := h.1 (3, 2, 7) (by decide)
theorem fC_5_0 {F : Nat → Nat → Value} (h : FixC F) : F 5 0 = .ref 6 := h.1 (5, 0, 6) (by decide)
theorem fC_7_0 {F : Nat → Nat → Value} (h : FixC F) : F 7 0 = .ref 8 := h.1 (7, 0, 8) (by decide)
theorem fC_58_0 {F : Nat → Nat → Value} (h : FixC F) : F 58 0 = .ref 59 := h.1 (58, 0, 59) (by decide)
theorem fC_60_0 {F : Nat → Nat → Value} (h : FixC F) : F 60 0 = .ref 61 := h.1 (60, 0, 61) (by decide)
theorem fC_60_1 {F : Nat → Nat → Value} (h : FixC F) : F 60 1 = .ref 62 := h.1 (60, 1, 62) (by decide)
theorem fC_60_2 {F : Nat → Nat → Value} (h : FixC F) : F 60 2 = .ref 63 := h.1 (60, 2, 63) (by decide)
theorem fC_60_3 {F : Nat → Nat → Value} (h : FixC F) : F 60 3 = .ref 64 := h.1 (60, 3, 64) (by decide)
theorem fC_60_4 {F : Nat → Nat → Value} (h : FixC F) : F 60 4 = .ref 65 := h.1 (60, 4, 65) (by decide)
theorem fC_66_0 {F : Nat → Nat → Value} (h : FixC F) : F 66 0 = .ref 67 := h.1 (66, 0, 67) (by decide)
theorem fC_66_1 {F : Nat → Nat → Value} (h : FixC F) : F 66 1 = .ref 68 := h.1 (66, 1, 68) (by decide)
theorem fC_66_2 {F : Nat → Nat → Value} (h : FixC F) : F 66 2 = .ref 69 := h.1 (66, 2, 69) (by decide)
theorem fC_66_3 {F : Nat → Nat → Value} (h : FixC F) : F 66 3 = .ref 70 := h.1 (66, 3, 70) (by decide)
theorem fC_66_4 {F : Nat → Nat → Value} (h : FixC F) : F 66 4 = .ref 71 := h.1 (66, 4, 71) (by decide)
theorem fC_72_0 {F : Nat → Nat → Value} (h : FixC F) : F 72 0 = .ref 73 := h.1 (72, 0, 73) (by decide)
theorem fC_72_1 {F : Nat → Nat → Value} (h : FixC F) : F 72 1 = .ref 77 := h.1 (72, 1, 77) (by decide)
theorem fC_72_2 {F : Nat → Nat → Value} (h : FixC F) : F 72 2 = .ref 78 := h.1 (72, 2, 78) (by decide)
theorem fC_72_3 {F : Nat → Nat → Value} (h : FixC F) : F 72 3 = .ref 79 := h.1 (72, 3, 79) (by decide)
theorem fC_80_0 {F : Nat → Nat → Value} (h : FixC F) : F 80 0 = .ref 81 := h.1 (80, 0, 81) (by decide)
theorem fC_80_1 {F : Nat → Nat → Value} (h : FixC F) : F 80 1 = .ref 82 := h.1 (80, 1, 82) (by decide)
theorem fC_80_2 {F : Nat → Nat → Value} (h : FixC F) : F 80 2 = .ref 83 := h.1 (80, 2, 83) (by decide)
theorem fC_80_3 {F : Nat → Nat → Value} (h : FixC F) : F 80 3 = .ref 84 := h.1 (80, 3, 84) (by decide)
theorem fC_80_4 {F : Nat → Nat → Value} (h : FixC F) : F 80 4 = .ref 85 := h.1 (80, 4, 85) (by decide)
theorem fC_80_5 {F : Nat → Nat → Value} (h : FixC F) : F 80 5 = .ref 99 := h.1 (80, 5, 99) (by decide)
theorem fC_113_0 {F : Nat → Nat → Value} (h : FixC F) : F 113 0 = .ref 114 := h.1 (113, 0, 114) (by decide)
theorem fC_113_1 {F : Nat → Nat → Value} (h : FixC F) : F 113 1 = .ref 115 := h.1 (113, 1, 115) (by decide)
theorem fC_116_0 {F : Nat → Nat → Value} (h : FixC F) : F 116 0 = .ref 117 := h.1 (116, 0, 117) (by decide)
theorem fC_116_1 {F : Nat → Nat → Value} (h : FixC F) : F 116 1 = .ref 118 := h.1 (116, 1, 118) (by decide)
theorem fC_116_2 {F : Nat → Nat → Value} (h : FixC F) : F 116 2 = .ref 119 := h.1 (116, 2, 119) (by decide)
