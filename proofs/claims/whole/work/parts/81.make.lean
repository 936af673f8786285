/-! CONSTRUCTORS: those that make arrays only (generated: wip/gen/p81.py) -/
def kf5 : List Value := [.null]
def ko5 : List zop := [(some 0, 2400, 0, 9, 3, 2400)]
set_option maxRecDepth 100000 in
set_option maxHeartbeats 4000000 in
theorem kb5 : kB 5 cX5_init 4 ko5 = true := by decide +kernel
theorem kl5 : Cond.methodLink (zow 5) 3 Lib.objectInit ∈ ztb := zt_1 31 rfl rfl
set_option maxRecDepth 100000 in
theorem km5 {l : Launch} {D : va_G} {cA : Nat → ClassId} {h0 sz : Nat} : Met l yX5_init [.code yX5_init cX5_init 1 none] { frames := 1, cells := knum ko5, slots := ksum ko5, locals := 12 } (kPc D cA h0 sz 5 kf5) (kQc D cA h0 sz 5 ko5 kf5) (knum ko5) (ksum ko5) (va_A [(h0, .inr (5, kf5))] sz) :=
  k_leaf (by decide +kernel) rfl rfl kl5 (by decide +kernel) (by decide +kernel) kb5 (fun q h => by cases h; rfl)
def kf1 : List Value := [.null, .null, .null, .null, .null, .null, .null, .null, .null, .null, .int 0, .int 0, .int 0, .int 0]
def ko1 : List zop := [(some 0, 16, 0, 11, 2, 16), (some 0, 16, 1, 15, 2, 16), (some 0, 16, 2, 18, 2, 16), (some 0, 61, 3, 21, 2, 61), (some 0, 24, 4, 24, 2, 24), (some 2, 1600, 5, 27, 3, 1600), (some 0, 16, 6, 31, 2, 16), (some 0, 16, 7, 34, 2, 16), (some 0, 100, 8, 37, 2, 100), (some 0, 100, 9, 40, 2, 100)]
set_option maxRecDepth 100000 in
set_option maxHeartbeats 4000000 in
theorem kb1 : kB 1 cX1_init 4 ko1 = true := by decide +kernel
theorem kl1 : Cond.methodLink (zow 1) 3 Lib.objectInit ∈ ztb := zt_1 42 rfl rfl
set_option maxRecDepth 100000 in
theorem km1 {l : Launch} {D : va_G} {cA : Nat → ClassId} {h0 sz : Nat} : Met l yX1_init [.code yX1_init cX1_init 1 none] { frames := 1, cells := knum ko1, slots := ksum ko1, locals := 12 } (kPc D cA h0 sz 1 kf1) (kQc D cA h0 sz 1 ko1 kf1) (knum ko1) (ksum ko1) (va_A [(h0, .inr (1, kf1))] sz) :=
  k_leaf (by decide +kernel) rfl rfl kl1 (by decide +kernel) (by decide +kernel) kb1 (fun q h => by cases h; rfl)
def kf6 : List Value := [.null, .null, .int 0, .int 0]
def ko6 : List zop := [(some 0, 72, 0, 11, 2, 72), (some 0, 6, 1, 15, 2, 6)]
set_option maxRecDepth 100000 in
set_option maxHeartbeats 4000000 in
theorem kb6 : kB 6 cX6_init 4 ko6 = true := by decide +kernel
theorem kl6 : Cond.methodLink (zow 6) 3 Lib.objectInit ∈ ztb := zt_1 93 rfl rfl
set_option maxRecDepth 100000 in
theorem km6 {l : Launch} {D : va_G} {cA : Nat → ClassId} {h0 sz : Nat} : Met l yX6_init [.code yX6_init cX6_init 1 none] { frames := 1, cells := knum ko6, slots := ksum ko6, locals := 12 } (kPc D cA h0 sz 6 kf6) (kQc D cA h0 sz 6 ko6 kf6) (knum ko6) (ksum ko6) (va_A [(h0, .inr (6, kf6))] sz) :=
  k_leaf (by decide +kernel) rfl rfl kl6 (by decide +kernel) (by decide +kernel) kb6 (fun q h => by cases h; rfl)
def kf0 : List Value := [.null, .null, .null, .null, .null, .null, .null, .null, .null, .null, .int 0, .int 0, .int 0, .int 0]
def ko0 : List zop := [(some 0, 14, 0, 11, 2, 14), (some 0, 30, 1, 15, 2, 30), (some 0, 30, 2, 18, 2, 30), (some 0, 30, 3, 21, 2, 30), (some 0, 30, 4, 24, 2, 30), (some 0, 30, 5, 27, 2, 30), (some 0, 30, 6, 30, 2, 30), (some 0, 30, 7, 33, 2, 30), (some 0, 30, 8, 36, 2, 30), (some 0, 30, 9, 39, 2, 30)]
set_option maxRecDepth 100000 in
set_option maxHeartbeats 4000000 in
theorem kb0 : kB 0 cX0_init 4 ko0 = true := by decide +kernel
theorem kl0 : Cond.methodLink (zow 0) 3 Lib.objectInit ∈ ztb := zt_1 114 rfl rfl
set_option maxRecDepth 100000 in
theorem km0 {l : Launch} {D : va_G} {cA : Nat → ClassId} {h0 sz : Nat} : Met l yX0_init [.code yX0_init cX0_init 1 none] { frames := 1, cells := knum ko0, slots := ksum ko0, locals := 12 } (kPc D cA h0 sz 0 kf0) (kQc D cA h0 sz 0 ko0 kf0) (knum ko0) (ksum ko0) (va_A [(h0, .inr (0, kf0))] sz) :=
  k_leaf (by decide +kernel) rfl rfl kl0 (by decide +kernel) (by decide +kernel) kb0 (fun q h => by cases h; rfl)
def kf7 : List Value := [.null, .int 0]
def ko7 : List zop := [(some 2, 400, 0, 9, 3, 400)]
set_option maxRecDepth 100000 in
set_option maxHeartbeats 4000000 in
theorem kb7 : kB 7 cX7_init 4 ko7 = true := by decide +kernel
theorem kl7 : Cond.methodLink (zow 7) 1 Lib.objectInit ∈ ztb := zt_1 165 rfl rfl
set_option maxRecDepth 100000 in
theorem km7 {l : Launch} {D : va_G} {cA : Nat → ClassId} {h0 sz : Nat} : Met l yX7_init [.code yX7_init cX7_init 1 none] { frames := 1, cells := knum ko7, slots := ksum ko7, locals := 12 } (kPc D cA h0 sz 7 kf7) (kQc D cA h0 sz 7 ko7 kf7) (knum ko7) (ksum ko7) (va_A [(h0, .inr (7, kf7))] sz) :=
  k_leaf (by decide +kernel) rfl rfl kl7 (by decide +kernel) (by decide +kernel) kb7 (fun q h => by cases h; rfl)
def kf4 : List Value := [.null, .null, .int 0, .int 0, .int 0]
def ko4 : List zop := [(some 0, 400, 0, 9, 3, 400), (some 0, 400, 1, 15, 3, 400)]
set_option maxRecDepth 100000 in
set_option maxHeartbeats 4000000 in
theorem kb4 : kB 4 cX4_init 4 ko4 = true := by decide +kernel
theorem kl4 : Cond.methodLink (zow 4) 1 Lib.objectInit ∈ ztb := zt_1 181 rfl rfl
set_option maxRecDepth 100000 in
theorem km4 {l : Launch} {D : va_G} {cA : Nat → ClassId} {h0 sz : Nat} : Met l yX4_init [.code yX4_init cX4_init 1 none] { frames := 1, cells := knum ko4, slots := ksum ko4, locals := 12 } (kPc D cA h0 sz 4 kf4) (kQc D cA h0 sz 4 ko4 kf4) (knum ko4) (ksum ko4) (va_A [(h0, .inr (4, kf4))] sz) :=
  k_leaf (by decide +kernel) rfl rfl kl4 (by decide +kernel) (by decide +kernel) kb4 (fun q h => by cases h; rfl)
def kf2 : List Value := [.int 0, .int 0, .int 0, .null, .null, .null, .null, .null, .null, .null, .null, .int 0, .int 0, .int 0]
def ko2 : List zop := [(none, 23, 1, 9, 2, 23), (none, 100, 2, 15, 2, 100), (some 0, 100, 3, 18, 2, 100), (some 0, 100, 4, 22, 2, 100), (some 0, 100, 5, 25, 2, 100), (some 0, 100, 6, 28, 2, 100), (some 0, 100, 7, 31, 2, 100), (some 2, 2400, 8, 34, 3, 2400), (some 0, 60, 9, 38, 2, 60), (some 0, 60, 10, 41, 2, 60)]
set_option maxRecDepth 100000 in
set_option maxHeartbeats 4000000 in
theorem kb2 : kB 2 cX2_init 4 ko2 = true := by decide +kernel
theorem kl2 : Cond.methodLink (zow 2) 3 Lib.objectInit ∈ ztb := zt_1 203 rfl rfl
set_option maxRecDepth 100000 in
theorem km2 {l : Launch} {D : va_G} {cA : Nat → ClassId} {h0 sz : Nat} : Met l yX2_init [.code yX2_init cX2_init 1 none] { frames := 1, cells := knum ko2, slots := ksum ko2, locals := 12 } (kPc D cA h0 sz 2 kf2) (kQc D cA h0 sz 2 ko2 kf2) (knum ko2) (ksum ko2) (va_A [(h0, .inr (2, kf2))] sz) :=
  k_leaf (by decide +kernel) rfl rfl kl2 (by decide +kernel) (by decide +kernel) kb2 (fun q h => by cases h; rfl)
def kf3 : List Value := [.null, .null, .null, .null, .null, .null, .int 0, .int 0, .int 0, .int 0, .int 0]
def ko3 : List zop := [(some 0, 60, 0, 11, 2, 60), (some 1, 60, 1, 15, 2, 60), (some 0, 60, 2, 19, 2, 60), (some 1, 60, 3, 22, 2, 60), (some 0, 20, 4, 25, 2, 20), (some 0, 20, 5, 28, 2, 20), (none, (-90), 10, 31, 2, (-90))]
set_option maxRecDepth 100000 in
set_option maxHeartbeats 4000000 in
theorem kb3 : kB 3 cX3_init 4 ko3 = true := by decide +kernel
theorem kl3 : Cond.methodLink (zow 3) 3 Lib.objectInit ∈ ztb := zt_2 15 rfl rfl
set_option maxRecDepth 100000 in
theorem km3 {l : Launch} {D : va_G} {cA : Nat → ClassId} {h0 sz : Nat} : Met l yX3_init [.code yX3_init cX3_init 1 none] { frames := 1, cells := knum ko3, slots := ksum ko3, locals := 12 } (kPc D cA h0 sz 3 kf3) (kQc D cA h0 sz 3 ko3 kf3) (knum ko3) (ksum ko3) (va_A [(h0, .inr (3, kf3))] sz) :=
  k_leaf (by decide +kernel) rfl rfl kl3 (by decide +kernel) (by decide +kernel) kb3 (fun q h => by cases h; rfl)
def kf9 : List Value := [.int 0, .int 0, .int 0, .null, .null, .null, .int 0, .int 0, .int 0, .int 0, .null, .null, .null, .null, .null, .null, .int 0, .null, .null, .null, .null, .null, .int 0, .null, .null, .int 0, .long 0, .null, .null, .null, .null, .null, .int 0, .int 0, .null, .int 0, .null, .null, .null, .int 0, .null, .null, .null, .null, .null, .null, .int 0, .null, .int 0, .int 0, .int 0, .int 0, .long 0, .int 0, .int 0, .int 0, .int 0, .int 0, .int 0, .int 0, .null, .null, .null, .null, .null, .null, .int 0, .int 0, .int 0, .int 0, .null, .null, .null, .null, .null, .int 0, .null, .null, .int 0, .null, .null, .int 0]
def ko9 : List zop := [(some 0, 2400, 3, 7, 3, 2400), (some 1, 2400, 4, 13, 3, 2400), (some 0, 2400, 5, 17, 3, 2400), (none, (-90), 8, 20, 2, (-90)), (some 0, 21, 10, 24, 2, 21), (some 0, 20, 11, 27, 2, 20), (some 0, 60, 12, 30, 2, 60), (some 1, 60, 13, 33, 2, 60), (some 0, 60, 14, 36, 2, 60), (some 1, 60, 15, 39, 2, 60), (some 0, 4, 17, 42, 1, 4), (some 0, 4, 18, 45, 1, 4), (some 0, 4, 19, 48, 1, 4), (some 0, 61, 20, 51, 2, 61), (some 0, 24, 21, 54, 2, 24), (some 0, 100, 23, 57, 2, 100), (some 0, 100, 24, 60, 2, 100), (none, (-1), 25, 63, 1, (-1)), (some 3, 1616, 27, 66, 3, 1616), (some 3, 1616, 28, 70, 3, 1616), (some 0, 16, 29, 73, 2, 16), (some 0, 72, 30, 76, 2, 72), (some 0, 6, 31, 79, 2, 6), (some 0, 14, 34, 82, 2, 14), (some 0, 30, 36, 85, 2, 30), (some 0, 30, 37, 88, 2, 30), (some 0, 30, 38, 91, 2, 30), (some 0, 30, 40, 94, 2, 30), (some 0, 30, 41, 97, 2, 30), (some 0, 30, 42, 100, 2, 30), (some 0, 30, 43, 103, 2, 30), (some 0, 30, 44, 106, 2, 30), (some 0, 30, 45, 109, 2, 30), (some 0, 400, 47, 112, 3, 400), (none, (-1), 53, 115, 1, (-1)), (some 0, 21, 60, 118, 2, 21), (some 0, 20, 61, 121, 2, 20), (some 0, 60, 62, 124, 2, 60), (some 1, 60, 63, 127, 2, 60), (some 0, 60, 64, 130, 2, 60), (some 1, 60, 65, 133, 2, 60), (none, 23, 67, 136, 2, 23), (none, 100, 68, 139, 2, 100), (some 0, 100, 70, 142, 2, 100), (some 0, 100, 71, 145, 2, 100), (some 0, 100, 72, 148, 2, 100), (some 0, 100, 73, 151, 2, 100), (some 0, 100, 74, 154, 2, 100), (some 0, 2600, 76, 157, 3, 2600), (some 0, 2600, 77, 160, 3, 2600), (some 0, 60, 79, 163, 2, 60), (some 0, 60, 80, 166, 2, 60)]
set_option maxRecDepth 100000 in
set_option maxHeartbeats 4000000 in
theorem kb9 : kB 9 cX9_init 4 ko9 = true := by decide +kernel
theorem kl9 : Cond.methodLink (zow 9) 1 Lib.objectInit ∈ ztb := zt_4 114 rfl rfl
set_option maxRecDepth 100000 in
theorem km9 {l : Launch} {D : va_G} {cA : Nat → ClassId} {h0 sz : Nat} : Met l yX9_init [.code yX9_init cX9_init 1 none] { frames := 1, cells := knum ko9, slots := ksum ko9, locals := 12 } (kPc D cA h0 sz 9 kf9) (kQc D cA h0 sz 9 ko9 kf9) (knum ko9) (ksum ko9) (va_A [(h0, .inr (9, kf9))] sz) :=
  k_leaf (by decide +kernel) rfl rfl kl9 (by decide +kernel) (by decide +kernel) kb9 (fun q h => by cases h; rfl)
