/-! THE PURE CLAIM: the shape of the memory behind both constructors (by program), and how a State's cells are seen -/
def z_T : List Nat := [99, 11, 9, 16, 14, 14, 14, 0, 14, 14, 15, 0, 14, 14, 15, 2, 8, 15, 15, 10, 14, 14, 14, 15, 15, 14, 14, 14, 14, 3, 14, 14, 14, 14, 14, 14, 14, 14, 14, 14, 14, 14, 14, 14, 15, 15, 6, 15, 15, 15, 15, 15, 15, 1, 14, 14, 15, 14, 14, 4, 17, 8, 15, 15, 10, 14, 14, 14, 15, 15, 14, 14, 14, 14, 3, 14, 14, 14, 14, 14, 14, 14, 14, 14, 14, 14, 14, 14, 14, 15, 15, 6, 15, 15, 15, 15, 15, 15, 1, 14, 14, 15, 14, 14, 8, 15, 15, 10, 14, 14, 14, 15, 15, 14, 14, 14, 14, 3, 14, 14, 14, 14, 14, 14, 14, 14, 14, 14, 14, 14, 14, 14, 15, 15, 6, 15, 15, 15, 15, 15, 15, 1, 14, 14, 15, 14, 14, 8, 15, 15, 10, 14, 14, 14, 15, 15, 14, 14, 14, 14, 3, 14, 14, 14, 14, 14, 14, 14, 14, 14, 14, 14, 14, 14, 14, 15, 15, 6, 15, 15, 15, 15, 15, 15, 1, 14, 14, 15, 14, 14, 8, 15, 15, 10, 14, 14, 14, 15, 15, 14, 14, 14, 14, 3, 14, 14, 14, 14, 14, 14, 14, 14, 14, 14, 14, 14, 14, 14, 15, 15, 6, 15, 15, 15, 15, 15, 15, 1, 14, 14, 15, 14, 14, 8, 15, 15, 10, 14, 14, 14, 15, 15, 14, 14, 14, 14, 3, 14, 14, 14, 14, 14, 14, 14, 14, 14, 14, 14, 14, 14, 14, 15, 15, 6, 15, 15, 15, 15, 15, 15, 1, 14, 14, 15, 14, 14, 8, 15, 15, 10, 14, 14, 14, 15, 15, 14, 14, 14, 14, 3, 14, 14, 14, 14, 14, 14, 14, 14, 14, 14, 14, 14, 14, 14, 15, 15, 6, 15, 15, 15, 15, 15, 15, 1, 14, 14, 15, 14, 14, 8, 15, 15, 10, 14, 14, 14, 15, 15, 14, 14, 14, 14, 3, 14, 14, 14, 14, 14, 14, 14, 14, 14, 14, 14, 14, 14, 14, 15, 15, 6, 15, 15, 15, 15, 15, 15, 1, 14, 14, 15, 14, 14, 7, 16, 5, 15, 12, 15, 15, 15, 15, 15, 15, 16, 16, 15, 15, 14, 14, 14, 15, 16]
def z_L : List Nat := [0, 8, 8, 700, 701, 701, 701, 5, 10, 5, 50, 5, 10, 5, 50, 20, 9, 50, 10, 10, 60, 60, 60, 60, 60, 60, 60, 60, 60, 17, 8, 8, 8, 8, 8, 8, 8, 8, 8, 8, 8, 8, 8, 8, 8, 8, 6, 80, 80, 80, 80, 80, 80, 5, 480, 480, 480, 480, 480, 3, 7, 9, 50, 10, 10, 60, 60, 60, 60, 60, 60, 60, 60, 60, 17, 8, 8, 8, 8, 8, 8, 8, 8, 8, 8, 8, 8, 8, 8, 8, 8, 6, 80, 80, 80, 80, 80, 80, 5, 480, 480, 480, 480, 480, 9, 50, 10, 10, 60, 60, 60, 60, 60, 60, 60, 60, 60, 17, 8, 8, 8, 8, 8, 8, 8, 8, 8, 8, 8, 8, 8, 8, 8, 8, 6, 80, 80, 80, 80, 80, 80, 5, 480, 480, 480, 480, 480, 9, 50, 10, 10, 60, 60, 60, 60, 60, 60, 60, 60, 60, 17, 8, 8, 8, 8, 8, 8, 8, 8, 8, 8, 8, 8, 8, 8, 8, 8, 6, 80, 80, 80, 80, 80, 80, 5, 480, 480, 480, 480, 480, 9, 50, 10, 10, 60, 60, 60, 60, 60, 60, 60, 60, 60, 17, 8, 8, 8, 8, 8, 8, 8, 8, 8, 8, 8, 8, 8, 8, 8, 8, 6, 80, 80, 80, 80, 80, 80, 5, 480, 480, 480, 480, 480, 9, 50, 10, 10, 60, 60, 60, 60, 60, 60, 60, 60, 60, 17, 8, 8, 8, 8, 8, 8, 8, 8, 8, 8, 8, 8, 8, 8, 8, 8, 6, 80, 80, 80, 80, 80, 80, 5, 480, 480, 480, 480, 480, 9, 50, 10, 10, 60, 60, 60, 60, 60, 60, 60, 60, 60, 17, 8, 8, 8, 8, 8, 8, 8, 8, 8, 8, 8, 8, 8, 8, 8, 8, 6, 80, 80, 80, 80, 80, 80, 5, 480, 480, 480, 480, 480, 9, 50, 10, 10, 60, 60, 60, 60, 60, 60, 60, 60, 60, 17, 8, 8, 8, 8, 8, 8, 8, 8, 8, 8, 8, 8, 8, 8, 8, 8, 6, 80, 80, 80, 80, 80, 80, 5, 480, 480, 480, 480, 480, 2, 300, 1, 10, 35, 4604, 4604, 4604, 27624, 10, 5, 113, 700, 10, 5, 50, 140, 1400, 10, 400]
def z_R : List (List Nat) := [[], [2, 7, 11, 15, 16, 59, 362, 364], [3, 0, 4, 5, 6], [], [], [], [], [8, 9, 10], [], [], [], [12, 13, 14], [], [], [], [], [17, 18, 19, 29, 46, 53], [], [], [20, 21, 22, 23, 24, 25, 26, 27, 28], [], [], [], [], [], [], [], [], [], [30, 31, 32, 33, 34, 35, 36, 37, 38, 39, 40, 41, 42, 43, 44, 45], [], [], [], [], [], [], [], [], [], [], [], [], [], [], [], [], [47, 48, 49, 50, 51, 52], [], [], [], [], [], [], [54, 55, 56, 57, 58], [], [], [], [], [], [60], [61, 104, 147, 190, 233, 276, 319], [62, 63, 64, 74, 91, 98], [], [], [65, 66, 67, 68, 69, 70, 71, 72, 73], [], [], [], [], [], [], [], [], [], [75, 76, 77, 78, 79, 80, 81, 82, 83, 84, 85, 86, 87, 88, 89, 90], [], [], [], [], [], [], [], [], [], [], [], [], [], [], [], [], [92, 93, 94, 95, 96, 97], [], [], [], [], [], [], [99, 100, 101, 102, 103], [], [], [], [], [], [105, 106, 107, 117, 134, 141], [], [], [108, 109, 110, 111, 112, 113, 114, 115, 116], [], [], [], [], [], [], [], [], [], [118, 119, 120, 121, 122, 123, 124, 125, 126, 127, 128, 129, 130, 131, 132, 133], [], [], [], [], [], [], [], [], [], [], [], [], [], [], [], [], [135, 136, 137, 138, 139, 140], [], [], [], [], [], [], [142, 143, 144, 145, 146], [], [], [], [], [], [148, 149, 150, 160, 177, 184], [], [], [151, 152, 153, 154, 155, 156, 157, 158, 159], [], [], [], [], [], [], [], [], [], [161, 162, 163, 164, 165, 166, 167, 168, 169, 170, 171, 172, 173, 174, 175, 176], [], [], [], [], [], [], [], [], [], [], [], [], [], [], [], [], [178, 179, 180, 181, 182, 183], [], [], [], [], [], [], [185, 186, 187, 188, 189], [], [], [], [], [], [191, 192, 193, 203, 220, 227], [], [], [194, 195, 196, 197, 198, 199, 200, 201, 202], [], [], [], [], [], [], [], [], [], [204, 205, 206, 207, 208, 209, 210, 211, 212, 213, 214, 215, 216, 217, 218, 219], [], [], [], [], [], [], [], [], [], [], [], [], [], [], [], [], [221, 222, 223, 224, 225, 226], [], [], [], [], [], [], [228, 229, 230, 231, 232], [], [], [], [], [], [234, 235, 236, 246, 263, 270], [], [], [237, 238, 239, 240, 241, 242, 243, 244, 245], [], [], [], [], [], [], [], [], [], [247, 248, 249, 250, 251, 252, 253, 254, 255, 256, 257, 258, 259, 260, 261, 262], [], [], [], [], [], [], [], [], [], [], [], [], [], [], [], [], [264, 265, 266, 267, 268, 269], [], [], [], [], [], [], [271, 272, 273, 274, 275], [], [], [], [], [], [277, 278, 279, 289, 306, 313], [], [], [280, 281, 282, 283, 284, 285, 286, 287, 288], [], [], [], [], [], [], [], [], [], [290, 291, 292, 293, 294, 295, 296, 297, 298, 299, 300, 301, 302, 303, 304, 305], [], [], [], [], [], [], [], [], [], [], [], [], [], [], [], [], [307, 308, 309, 310, 311, 312], [], [], [], [], [], [], [314, 315, 316, 317, 318], [], [], [], [], [], [320, 321, 322, 332, 349, 356], [], [], [323, 324, 325, 326, 327, 328, 329, 330, 331], [], [], [], [], [], [], [], [], [], [333, 334, 335, 336, 337, 338, 339, 340, 341, 342, 343, 344, 345, 346, 347, 348], [], [], [], [], [], [], [], [], [], [], [], [], [], [], [], [], [350, 351, 352, 353, 354, 355], [], [], [], [], [], [], [357, 358, 359, 360, 361], [], [], [], [], [], [363], [], [365], [], [0, 367, 368, 369, 370, 0, 0, 0, 371, 372, 373, 374, 0, 0, 0, 0, 0, 0, 0, 0, 0, 0, 0, 0, 375, 376, 377, 0, 0, 378, 379, 0, 380, 381], [], [], [], [], [], [], [], [], [], [], [], [], [], [], []]
def sh_T (c : Nat) : Nat := z_T.getD c 99
def sh_L (c : Nat) : Nat := z_L.getD c 0
def z_r (c k : Nat) : Nat := (z_R.getD c []).getD k 0
def sh_R (bk dr : Nat) (c k : Nat) : Nat := if c = 1 ∧ k = 1 then bk else if c = 1 ∧ k = 2 then dr else z_r c k
def Shp (bk dr : Nat) (X : Mm) : Prop := mT X = sh_T ∧ mL X = sh_L ∧ mR X = sh_R bk dr
/-- where the States lie -/
def st_all : List Nat := [16, 61, 104, 147, 190, 233, 276, 319]
def St (s : Nat) : Prop := s ∈ st_all
theorem sh_R_ne {bk dr c k : Nat} (h : c ≠ 1) : sh_R bk dr c k = z_r c k := by simp [sh_R, h]
theorem st_T : ∀ s, s ∈ st_all → sh_T s = 8 ∧ sh_T (s + 1) = 15 ∧ sh_T (s + 2) = 15 ∧ sh_T (s + 3) = 10 ∧ sh_T (s + 4) = 14 ∧ sh_T (s + 5) = 14 ∧ sh_T (s + 6) = 14 ∧ sh_T (s + 7) = 15 ∧ sh_T (s + 8) = 15 ∧ sh_T (s + 9) = 14 ∧ sh_T (s + 10) = 14 ∧ sh_T (s + 11) = 14 ∧ sh_T (s + 12) = 14 ∧ sh_T (s + 13) = 3 ∧ sh_T (s + 14) = 14 ∧ sh_T (s + 15) = 14 ∧ sh_T (s + 16) = 14 ∧ sh_T (s + 17) = 14 ∧ sh_T (s + 18) = 14 ∧ sh_T (s + 19) = 14 ∧ sh_T (s + 20) = 14 ∧ sh_T (s + 21) = 14 ∧ sh_T (s + 22) = 14 ∧ sh_T (s + 23) = 14 ∧ sh_T (s + 24) = 14 ∧ sh_T (s + 25) = 14 ∧ sh_T (s + 26) = 14 ∧ sh_T (s + 27) = 14 ∧ sh_T (s + 28) = 15 ∧ sh_T (s + 29) = 15 ∧ sh_T (s + 30) = 6 ∧ sh_T (s + 31) = 15 ∧ sh_T (s + 32) = 15 ∧ sh_T (s + 33) = 15 ∧ sh_T (s + 34) = 15 ∧ sh_T (s + 35) = 15 ∧ sh_T (s + 36) = 15 ∧ sh_T (s + 37) = 1 ∧ sh_T (s + 38) = 14 ∧ sh_T (s + 39) = 14 ∧ sh_T (s + 40) = 15 ∧ sh_T (s + 41) = 14 ∧ sh_T (s + 42) = 14 := by decide +kernel
theorem st_L : ∀ s, s ∈ st_all → sh_L (s + 1) = 50 ∧ sh_L (s + 2) = 10 ∧ sh_L (s + 4) = 60 ∧ sh_L (s + 5) = 60 ∧ sh_L (s + 6) = 60 ∧ sh_L (s + 7) = 60 ∧ sh_L (s + 8) = 60 ∧ sh_L (s + 9) = 60 ∧ sh_L (s + 10) = 60 ∧ sh_L (s + 11) = 60 ∧ sh_L (s + 12) = 60 ∧ sh_L (s + 14) = 8 ∧ sh_L (s + 15) = 8 ∧ sh_L (s + 16) = 8 ∧ sh_L (s + 17) = 8 ∧ sh_L (s + 18) = 8 ∧ sh_L (s + 19) = 8 ∧ sh_L (s + 20) = 8 ∧ sh_L (s + 21) = 8 ∧ sh_L (s + 22) = 8 ∧ sh_L (s + 23) = 8 ∧ sh_L (s + 24) = 8 ∧ sh_L (s + 25) = 8 ∧ sh_L (s + 26) = 8 ∧ sh_L (s + 27) = 8 ∧ sh_L (s + 28) = 8 ∧ sh_L (s + 29) = 8 ∧ sh_L (s + 31) = 80 ∧ sh_L (s + 32) = 80 ∧ sh_L (s + 33) = 80 ∧ sh_L (s + 34) = 80 ∧ sh_L (s + 35) = 80 ∧ sh_L (s + 36) = 80 ∧ sh_L (s + 38) = 480 ∧ sh_L (s + 39) = 480 ∧ sh_L (s + 40) = 480 ∧ sh_L (s + 41) = 480 ∧ sh_L (s + 42) = 480 := by decide +kernel
theorem st_r : ∀ s, s ∈ st_all → z_r s 0 = s + 1 ∧ z_r s 1 = s + 2 ∧ z_r s 2 = s + 3 ∧ z_r s 3 = s + 13 ∧ z_r s 4 = s + 30 ∧ z_r s 5 = s + 37 ∧ z_r (s + 3) 0 = s + 4 ∧ z_r (s + 3) 1 = s + 5 ∧ z_r (s + 3) 2 = s + 6 ∧ z_r (s + 3) 3 = s + 7 ∧ z_r (s + 3) 4 = s + 8 ∧ z_r (s + 3) 5 = s + 9 ∧ z_r (s + 3) 6 = s + 10 ∧ z_r (s + 3) 7 = s + 11 ∧ z_r (s + 3) 8 = s + 12 ∧ z_r (s + 13) 0 = s + 14 ∧ z_r (s + 13) 1 = s + 15 ∧ z_r (s + 13) 2 = s + 16 ∧ z_r (s + 13) 3 = s + 17 ∧ z_r (s + 13) 4 = s + 18 ∧ z_r (s + 13) 5 = s + 19 ∧ z_r (s + 13) 6 = s + 20 ∧ z_r (s + 13) 7 = s + 21 ∧ z_r (s + 13) 8 = s + 22 ∧ z_r (s + 13) 9 = s + 23 ∧ z_r (s + 13) 10 = s + 24 ∧ z_r (s + 13) 11 = s + 25 ∧ z_r (s + 13) 12 = s + 26 ∧ z_r (s + 13) 13 = s + 27 ∧ z_r (s + 13) 14 = s + 28 ∧ z_r (s + 13) 15 = s + 29 ∧ z_r (s + 30) 0 = s + 31 ∧ z_r (s + 30) 1 = s + 32 ∧ z_r (s + 30) 2 = s + 33 ∧ z_r (s + 30) 3 = s + 34 ∧ z_r (s + 30) 4 = s + 35 ∧ z_r (s + 30) 5 = s + 36 ∧ z_r (s + 37) 0 = s + 38 ∧ z_r (s + 37) 1 = s + 39 ∧ z_r (s + 37) 2 = s + 40 ∧ z_r (s + 37) 3 = s + 41 ∧ z_r (s + 37) 4 = s + 42 := by decide +kernel
theorem st_ge : ∀ s, s ∈ st_all → 16 ≤ s ∧ s + 42 ≤ 361 := by decide +kernel
theorem st_apart : ∀ s, s ∈ st_all → ∀ t, t ∈ st_all → s ≠ t → s + 42 < t ∨ t + 42 < s := by decide +kernel
theorem st_R {bk dr s : Nat} (h : St s) : sh_R bk dr s 0 = s + 1 ∧ sh_R bk dr s 1 = s + 2 ∧ sh_R bk dr s 2 = s + 3 ∧ sh_R bk dr s 3 = s + 13 ∧ sh_R bk dr s 4 = s + 30 ∧ sh_R bk dr s 5 = s + 37 ∧ sh_R bk dr (s + 3) 0 = s + 4 ∧ sh_R bk dr (s + 3) 1 = s + 5 ∧ sh_R bk dr (s + 3) 2 = s + 6 ∧ sh_R bk dr (s + 3) 3 = s + 7 ∧ sh_R bk dr (s + 3) 4 = s + 8 ∧ sh_R bk dr (s + 3) 5 = s + 9 ∧ sh_R bk dr (s + 3) 6 = s + 10 ∧ sh_R bk dr (s + 3) 7 = s + 11 ∧ sh_R bk dr (s + 3) 8 = s + 12 ∧ sh_R bk dr (s + 13) 0 = s + 14 ∧ sh_R bk dr (s + 13) 1 = s + 15 ∧ sh_R bk dr (s + 13) 2 = s + 16 ∧ sh_R bk dr (s + 13) 3 = s + 17 ∧ sh_R bk dr (s + 13) 4 = s + 18 ∧ sh_R bk dr (s + 13) 5 = s + 19 ∧ sh_R bk dr (s + 13) 6 = s + 20 ∧ sh_R bk dr (s + 13) 7 = s + 21 ∧ sh_R bk dr (s + 13) 8 = s + 22 ∧ sh_R bk dr (s + 13) 9 = s + 23 ∧ sh_R bk dr (s + 13) 10 = s + 24 ∧ sh_R bk dr (s + 13) 11 = s + 25 ∧ sh_R bk dr (s + 13) 12 = s + 26 ∧ sh_R bk dr (s + 13) 13 = s + 27 ∧ sh_R bk dr (s + 13) 14 = s + 28 ∧ sh_R bk dr (s + 13) 15 = s + 29 ∧ sh_R bk dr (s + 30) 0 = s + 31 ∧ sh_R bk dr (s + 30) 1 = s + 32 ∧ sh_R bk dr (s + 30) 2 = s + 33 ∧ sh_R bk dr (s + 30) 3 = s + 34 ∧ sh_R bk dr (s + 30) 4 = s + 35 ∧ sh_R bk dr (s + 30) 5 = s + 36 ∧ sh_R bk dr (s + 37) 0 = s + 38 ∧ sh_R bk dr (s + 37) 1 = s + 39 ∧ sh_R bk dr (s + 37) 2 = s + 40 ∧ sh_R bk dr (s + 37) 3 = s + 41 ∧ sh_R bk dr (s + 37) 4 = s + 42 := by
  have h1 := (st_ge s h).1
  have g0 : s ≠ 1 := by omega
  have g : ∀ d : Nat, s + d ≠ 1 := fun d => by omega
  clear h1
  obtain ⟨e0, e1, e2, e3, e4, e5, e6, e7, e8, e9, e10, e11, e12, e13, e14, e15, e16, e17, e18, e19, e20, e21, e22, e23, e24, e25, e26, e27, e28, e29, e30, e31, e32, e33, e34, e35, e36, e37, e38, e39, e40, e41⟩ := st_r s h
  exact ⟨(sh_R_ne g0).trans e0, (sh_R_ne g0).trans e1, (sh_R_ne g0).trans e2, (sh_R_ne g0).trans e3, (sh_R_ne g0).trans e4, (sh_R_ne g0).trans e5, (sh_R_ne (g 3)).trans e6, (sh_R_ne (g 3)).trans e7, (sh_R_ne (g 3)).trans e8, (sh_R_ne (g 3)).trans e9, (sh_R_ne (g 3)).trans e10, (sh_R_ne (g 3)).trans e11, (sh_R_ne (g 3)).trans e12, (sh_R_ne (g 3)).trans e13, (sh_R_ne (g 3)).trans e14, (sh_R_ne (g 13)).trans e15, (sh_R_ne (g 13)).trans e16, (sh_R_ne (g 13)).trans e17, (sh_R_ne (g 13)).trans e18, (sh_R_ne (g 13)).trans e19, (sh_R_ne (g 13)).trans e20, (sh_R_ne (g 13)).trans e21, (sh_R_ne (g 13)).trans e22, (sh_R_ne (g 13)).trans e23, (sh_R_ne (g 13)).trans e24, (sh_R_ne (g 13)).trans e25, (sh_R_ne (g 13)).trans e26, (sh_R_ne (g 13)).trans e27, (sh_R_ne (g 13)).trans e28, (sh_R_ne (g 13)).trans e29, (sh_R_ne (g 13)).trans e30, (sh_R_ne (g 30)).trans e31, (sh_R_ne (g 30)).trans e32, (sh_R_ne (g 30)).trans e33, (sh_R_ne (g 30)).trans e34, (sh_R_ne (g 30)).trans e35, (sh_R_ne (g 30)).trans e36, (sh_R_ne (g 37)).trans e37, (sh_R_ne (g 37)).trans e38, (sh_R_ne (g 37)).trans e39, (sh_R_ne (g 37)).trans e40, (sh_R_ne (g 37)).trans e41⟩
theorem li_T : sh_T 1 = 11 ∧ sh_T 2 = 9 ∧ sh_T 3 = 16 ∧ sh_T 4 = 14 ∧ sh_T 5 = 14 ∧ sh_T 6 = 14 ∧ sh_T 7 = 0 ∧ sh_T 8 = 14 ∧ sh_T 9 = 14 ∧ sh_T 10 = 15 ∧ sh_T 11 = 0 ∧ sh_T 12 = 14 ∧ sh_T 13 = 14 ∧ sh_T 14 = 15 ∧ sh_T 15 = 2 ∧ sh_T 59 = 4 ∧ sh_T 60 = 17 ∧ sh_T 362 = 7 ∧ sh_T 363 = 16 ∧ sh_T 364 = 5 ∧ sh_T 365 = 15 ∧ sh_T 366 = 12 ∧ sh_T 367 = 15 ∧ sh_T 368 = 15 ∧ sh_T 369 = 15 ∧ sh_T 370 = 15 ∧ sh_T 371 = 15 ∧ sh_T 372 = 15 ∧ sh_T 373 = 16 ∧ sh_T 374 = 16 ∧ sh_T 375 = 15 ∧ sh_T 376 = 15 ∧ sh_T 377 = 14 ∧ sh_T 378 = 14 ∧ sh_T 379 = 14 ∧ sh_T 380 = 15 ∧ sh_T 381 = 16 := by decide +kernel
theorem li_L : sh_L 3 = 700 ∧ sh_L 4 = 701 ∧ sh_L 5 = 701 ∧ sh_L 6 = 701 ∧ sh_L 8 = 10 ∧ sh_L 9 = 5 ∧ sh_L 10 = 50 ∧ sh_L 12 = 10 ∧ sh_L 13 = 5 ∧ sh_L 14 = 50 ∧ sh_L 60 = 7 ∧ sh_L 363 = 300 ∧ sh_L 365 = 10 ∧ sh_L 367 = 4604 ∧ sh_L 368 = 4604 ∧ sh_L 369 = 4604 ∧ sh_L 370 = 27624 ∧ sh_L 371 = 10 ∧ sh_L 372 = 5 ∧ sh_L 373 = 113 ∧ sh_L 374 = 700 ∧ sh_L 375 = 10 ∧ sh_L 376 = 5 ∧ sh_L 377 = 50 ∧ sh_L 378 = 140 ∧ sh_L 379 = 1400 ∧ sh_L 380 = 10 ∧ sh_L 381 = 400 := by decide +kernel
theorem li_R (bk dr : Nat) : sh_R bk dr 1 1 = bk ∧ sh_R bk dr 1 2 = dr ∧ sh_R bk dr 1 0 = 2 ∧ sh_R bk dr 1 3 = 15 ∧ sh_R bk dr 1 4 = 16 ∧ sh_R bk dr 1 5 = 59 ∧ sh_R bk dr 1 6 = 362 ∧ sh_R bk dr 1 7 = 364 ∧ sh_R bk dr 2 0 = 3 ∧ sh_R bk dr 2 2 = 4 ∧ sh_R bk dr 2 3 = 5 ∧ sh_R bk dr 2 4 = 6 ∧ sh_R bk dr 7 0 = 8 ∧ sh_R bk dr 7 1 = 9 ∧ sh_R bk dr 7 2 = 10 ∧ sh_R bk dr 11 0 = 12 ∧ sh_R bk dr 11 1 = 13 ∧ sh_R bk dr 11 2 = 14 ∧ sh_R bk dr 59 0 = 60 ∧ sh_R bk dr 60 0 = 61 ∧ sh_R bk dr 60 1 = 104 ∧ sh_R bk dr 60 2 = 147 ∧ sh_R bk dr 60 3 = 190 ∧ sh_R bk dr 60 4 = 233 ∧ sh_R bk dr 60 5 = 276 ∧ sh_R bk dr 60 6 = 319 ∧ sh_R bk dr 362 0 = 363 ∧ sh_R bk dr 364 0 = 365 ∧ sh_R bk dr 366 1 = 367 ∧ sh_R bk dr 366 2 = 368 ∧ sh_R bk dr 366 3 = 369 ∧ sh_R bk dr 366 4 = 370 ∧ sh_R bk dr 366 8 = 371 ∧ sh_R bk dr 366 9 = 372 ∧ sh_R bk dr 366 10 = 373 ∧ sh_R bk dr 366 11 = 374 ∧ sh_R bk dr 366 24 = 375 ∧ sh_R bk dr 366 25 = 376 ∧ sh_R bk dr 366 26 = 377 ∧ sh_R bk dr 366 29 = 378 ∧ sh_R bk dr 366 30 = 379 ∧ sh_R bk dr 366 32 = 380 ∧ sh_R bk dr 366 33 = 381 := by
  refine ⟨rfl, rfl, ?_, ?_, ?_, ?_, ?_, ?_, ?_, ?_, ?_, ?_, ?_, ?_, ?_, ?_, ?_, ?_, ?_, ?_, ?_, ?_, ?_, ?_, ?_, ?_, ?_, ?_, ?_, ?_, ?_, ?_, ?_, ?_, ?_, ?_, ?_, ?_, ?_, ?_, ?_, ?_, ?_⟩ <;> rfl
/-- a State's cells, by their places behind its first; the memory with other contents there -/
abbrev Wt : Type := (Nat → Nat → Int32) × (Nat → Nat → Int64)
def uI (w : Wt) (a k : Nat) (v : Int32) : Wt := (q_u2 w.1 a k v, w.2)
def uJ (w : Wt) (a k : Nat) (v : Int64) : Wt := (w.1, q_u2 w.2 a k v)
def gW (s : Nat) (X : Mm) : Wt := (fun a k => mI X (s + a) k, fun a k => mJ X (s + a) k)
def pW (s : Nat) (w : Wt) (X : Mm) : Mm := (mN X, mT X, mL X, (fun c k => if s ≤ c ∧ c ≤ s + 42 then w.1 (c - s) k else mI X c k), (fun c k => if s ≤ c ∧ c ≤ s + 42 then w.2 (c - s) k else mJ X c k), mR X, mS X)
theorem q_u2_at {α : Type} (f : Nat → Nat → α) (c k : Nat) (v : α) (a b : Nat) : q_u2 f c k v a b = if a = c ∧ b = k then v else f a b := by
  unfold q_u2 q_u1
  by_cases h : a = c
  · subst h
    by_cases h2 : b = k <;> simp [h2]
  · simp [h]
theorem mT_sI {X : Mm} {c k : Nat} {v : Int32} : mT (sI X c k v) = mT X := rfl
theorem mL_sI {X : Mm} {c k : Nat} {v : Int32} : mL (sI X c k v) = mL X := rfl
theorem mR_sI {X : Mm} {c k : Nat} {v : Int32} : mR (sI X c k v) = mR X := rfl
theorem mJ_sI {X : Mm} {c k : Nat} {v : Int32} : mJ (sI X c k v) = mJ X := rfl
theorem mI_sI {X : Mm} {c k : Nat} {v : Int32} (a b : Nat) : mI (sI X c k v) a b = if a = c ∧ b = k then v else mI X a b := q_u2_at _ _ _ _ _ _
theorem mT_sJ {X : Mm} {c k : Nat} {v : Int64} : mT (sJ X c k v) = mT X := rfl
theorem mL_sJ {X : Mm} {c k : Nat} {v : Int64} : mL (sJ X c k v) = mL X := rfl
theorem mR_sJ {X : Mm} {c k : Nat} {v : Int64} : mR (sJ X c k v) = mR X := rfl
theorem mI_sJ {X : Mm} {c k : Nat} {v : Int64} : mI (sJ X c k v) = mI X := rfl
theorem mJ_sJ {X : Mm} {c k : Nat} {v : Int64} (a b : Nat) : mJ (sJ X c k v) a b = if a = c ∧ b = k then v else mJ X a b := q_u2_at _ _ _ _ _ _
theorem mT_pW {s : Nat} {w : Wt} {X : Mm} : mT (pW s w X) = mT X := rfl
theorem mL_pW {s : Nat} {w : Wt} {X : Mm} : mL (pW s w X) = mL X := rfl
theorem mR_pW {s : Nat} {w : Wt} {X : Mm} : mR (pW s w X) = mR X := rfl
theorem mI_pW {s : Nat} {w : Wt} {X : Mm} (a k : Nat) (h : a ≤ 42) : mI (pW s w X) (s + a) k = w.1 a k := by
  show (if s ≤ s + a ∧ s + a ≤ s + 42 then w.1 (s + a - s) k else _) = _
  rw [if_pos (by omega), Nat.add_sub_cancel_left]
theorem mJ_pW {s : Nat} {w : Wt} {X : Mm} (a k : Nat) (h : a ≤ 42) : mJ (pW s w X) (s + a) k = w.2 a k := by
  show (if s ≤ s + a ∧ s + a ≤ s + 42 then w.2 (s + a - s) k else _) = _
  rw [if_pos (by omega), Nat.add_sub_cancel_left]
theorem mI_pW0 {s : Nat} {w : Wt} {X : Mm} (k : Nat) : mI (pW s w X) s k = w.1 0 k := mI_pW 0 k (by omega)
theorem mJ_pW0 {s : Nat} {w : Wt} {X : Mm} (k : Nat) : mJ (pW s w X) s k = w.2 0 k := mJ_pW 0 k (by omega)
theorem mI_pWo {s : Nat} {w : Wt} {X : Mm} (c k : Nat) (h : c < s ∨ s + 42 < c) : mI (pW s w X) c k = mI X c k := by
  show (if s ≤ c ∧ c ≤ s + 42 then w.1 (c - s) k else _) = _
  rw [if_neg (by omega)]
theorem mJ_pWo {s : Nat} {w : Wt} {X : Mm} (c k : Nat) (h : c < s ∨ s + 42 < c) : mJ (pW s w X) c k = mJ X c k := by
  show (if s ≤ c ∧ c ≤ s + 42 then w.2 (c - s) k else _) = _
  rw [if_neg (by omega)]
theorem sI_pW {s : Nat} {w : Wt} {X : Mm} (a k : Nat) (v : Int32) (h : a ≤ 42) : sI (pW s w X) (s + a) k v = pW s (uI w a k v) X := by
  unfold sI pW uI
  simp only [mN, mT, mL, mI, mJ, mR, mS]
  congr 4
  funext c b
  rw [q_u2_at, q_u2_at]
  by_cases h1 : s ≤ c ∧ c ≤ s + 42
  · rw [if_pos h1, if_pos h1]
    by_cases h2 : c = s + a
    · subst h2; simp
    · rw [if_neg (fun h3 => h2 h3.1), if_neg (fun h3 => h2 (by omega))]
  · rw [if_neg h1, if_neg h1, if_neg (fun h3 => h1 (by omega))]
theorem sJ_pW {s : Nat} {w : Wt} {X : Mm} (a k : Nat) (v : Int64) (h : a ≤ 42) : sJ (pW s w X) (s + a) k v = pW s (uJ w a k v) X := by
  unfold sJ pW uJ
  simp only [mN, mT, mL, mI, mJ, mR, mS]
  congr 5
  funext c b
  rw [q_u2_at, q_u2_at]
  by_cases h1 : s ≤ c ∧ c ≤ s + 42
  · rw [if_pos h1, if_pos h1]
    by_cases h2 : c = s + a
    · subst h2; simp
    · rw [if_neg (fun h3 => h2 h3.1), if_neg (fun h3 => h2 (by omega))]
  · rw [if_neg h1, if_neg h1, if_neg (fun h3 => h1 (by omega))]
theorem sI_pW0 {s : Nat} {w : Wt} {X : Mm} (k : Nat) (v : Int32) : sI (pW s w X) s k v = pW s (uI w 0 k v) X := sI_pW 0 k v (by omega)
theorem pW_gW (s : Nat) (X : Mm) : pW s (gW s X) X = X := by
  obtain ⟨a, b, c, d, e, f, g⟩ := X
  simp only [pW, gW, mN, mT, mL, mI, mJ, mR, mS]
  congr 4
  · funext x k
    by_cases h : s ≤ x ∧ x ≤ s + 42
    · rw [if_pos h, show s + (x - s) = x by omega]
    · rw [if_neg h]
  · congr 1
    funext x k
    by_cases h : s ≤ x ∧ x ≤ s + 42
    · rw [if_pos h, show s + (x - s) = x by omega]
    · rw [if_neg h]
theorem pW_pW {s : Nat} {w w' : Wt} {X : Mm} : pW s w (pW s w' X) = pW s w X := by
  simp only [pW, mN, mT, mL, mI, mJ, mR, mS]
  congr 4
  · funext x k
    by_cases h : s ≤ x ∧ x ≤ s + 42
    · rw [if_pos h, if_pos h]
    · rw [if_neg h, if_neg h, if_neg h]
  · congr 1
    funext x k
    by_cases h : s ≤ x ∧ x ≤ s + 42
    · rw [if_pos h, if_pos h]
    · rw [if_neg h, if_neg h, if_neg h]
theorem Shp.pW {bk dr s : Nat} {w : Wt} {X : Mm} (h : Shp bk dr X) : Shp bk dr (pW s w X) := h
theorem uI_1 (w : Wt) (a k : Nat) (v : Int32) (b j : Nat) : (uI w a k v).1 b j = if b = a ∧ j = k then v else w.1 b j := q_u2_at _ _ _ _ _ _
theorem uI_2 (w : Wt) (a k : Nat) (v : Int32) : (uI w a k v).2 = w.2 := rfl
theorem uJ_2 (w : Wt) (a k : Nat) (v : Int64) (b j : Nat) : (uJ w a k v).2 b j = if b = a ∧ j = k then v else w.2 b j := q_u2_at _ _ _ _ _ _
theorem uJ_1 (w : Wt) (a k : Nat) (v : Int64) : (uJ w a k v).1 = w.1 := rfl
