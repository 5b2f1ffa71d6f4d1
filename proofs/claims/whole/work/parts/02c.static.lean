/-! ===== own: what the pools of the classes hold, by the words of the tables ===== -/
def q_ow : Nat → String := fun k => match k with
  | 0 => RX0
  | 1 => RX1
  | 2 => RX2
  | 3 => RX3
  | 4 => RX4
  | 5 => RX5
  | 6 => RX6
  | 7 => RX7
  | 8 => RX8
  | 9 => RL
  | _ => RJ9
/-- the words that a method keeps through a call -/
def q_Ts : List Cond := lw_tbl.filter goodWord
theorem q_in {w : Cond} (i : Nat) (h : lw_tbl[i]? = some w) (hg : goodWord w = true) : w ∈ q_Ts := List.mem_filter.mpr ⟨List.mem_of_getElem? h, hg⟩
theorem q_ly0 : ∀ w ∈ u_ws RX0 TX0 3, w ∈ q_Ts := by
  intro w hw
  obtain ⟨k, hk, rfl⟩ := List.mem_map.mp hw
  have hk := List.mem_range.mp hk
  match k, hk with
  | 0, _ => exact q_in 105 (by decide +kernel) rfl
  | 1, _ => exact q_in 107 (by decide +kernel) rfl
  | 2, _ => exact q_in 109 (by decide +kernel) rfl
  | k + 3, h => omega
theorem q_ly1 : ∀ w ∈ u_ws RX1 TX1 4, w ∈ q_Ts := by
  intro w hw
  obtain ⟨k, hk, rfl⟩ := List.mem_map.mp hw
  have hk := List.mem_range.mp hk
  match k, hk with
  | 0, _ => exact q_in 241 (by decide +kernel) rfl
  | 1, _ => exact q_in 243 (by decide +kernel) rfl
  | 2, _ => exact q_in 245 (by decide +kernel) rfl
  | 3, _ => exact q_in 247 (by decide +kernel) rfl
  | k + 4, h => omega
theorem q_ly2 : ∀ w ∈ u_ws RX2 TX2 4, w ∈ q_Ts := by
  intro w hw
  obtain ⟨k, hk, rfl⟩ := List.mem_map.mp hw
  have hk := List.mem_range.mp hk
  match k, hk with
  | 0, _ => exact q_in 215 (by decide +kernel) rfl
  | 1, _ => exact q_in 217 (by decide +kernel) rfl
  | 2, _ => exact q_in 219 (by decide +kernel) rfl
  | 3, _ => exact q_in 221 (by decide +kernel) rfl
  | k + 4, h => omega
theorem q_ly3 : ∀ w ∈ u_ws RX3 TX3 11, w ∈ q_Ts := by
  intro w hw
  obtain ⟨k, hk, rfl⟩ := List.mem_map.mp hw
  have hk := List.mem_range.mp hk
  match k, hk with
  | 0, _ => exact q_in 185 (by decide +kernel) rfl
  | 1, _ => exact q_in 187 (by decide +kernel) rfl
  | 2, _ => exact q_in 189 (by decide +kernel) rfl
  | 3, _ => exact q_in 191 (by decide +kernel) rfl
  | 4, _ => exact q_in 193 (by decide +kernel) rfl
  | 5, _ => exact q_in 195 (by decide +kernel) rfl
  | 6, _ => exact q_in 197 (by decide +kernel) rfl
  | 7, _ => exact q_in 199 (by decide +kernel) rfl
  | 8, _ => exact q_in 201 (by decide +kernel) rfl
  | 9, _ => exact q_in 203 (by decide +kernel) rfl
  | 10, _ => exact q_in 205 (by decide +kernel) rfl
  | k + 11, h => omega
theorem q_ly4 : ∀ w ∈ u_ws RX4 TX4 13, w ∈ q_Ts := by
  intro w hw
  obtain ⟨k, hk, rfl⟩ := List.mem_map.mp hw
  have hk := List.mem_range.mp hk
  match k, hk with
  | 0, _ => exact q_in 274 (by decide +kernel) rfl
  | 1, _ => exact q_in 276 (by decide +kernel) rfl
  | 2, _ => exact q_in 278 (by decide +kernel) rfl
  | 3, _ => exact q_in 280 (by decide +kernel) rfl
  | 4, _ => exact q_in 282 (by decide +kernel) rfl
  | 5, _ => exact q_in 284 (by decide +kernel) rfl
  | 6, _ => exact q_in 286 (by decide +kernel) rfl
  | 7, _ => exact q_in 288 (by decide +kernel) rfl
  | 8, _ => exact q_in 290 (by decide +kernel) rfl
  | 9, _ => exact q_in 292 (by decide +kernel) rfl
  | 10, _ => exact q_in 294 (by decide +kernel) rfl
  | 11, _ => exact q_in 296 (by decide +kernel) rfl
  | 12, _ => exact q_in 298 (by decide +kernel) rfl
  | k + 13, h => omega
theorem q_ly5 : ∀ w ∈ u_ws RX5 TX5 6, w ∈ q_Ts := by
  intro w hw
  obtain ⟨k, hk, rfl⟩ := List.mem_map.mp hw
  have hk := List.mem_range.mp hk
  match k, hk with
  | 0, _ => exact q_in 315 (by decide +kernel) rfl
  | 1, _ => exact q_in 317 (by decide +kernel) rfl
  | 2, _ => exact q_in 319 (by decide +kernel) rfl
  | 3, _ => exact q_in 321 (by decide +kernel) rfl
  | 4, _ => exact q_in 323 (by decide +kernel) rfl
  | 5, _ => exact q_in 325 (by decide +kernel) rfl
  | k + 6, h => omega
theorem q_ly6 : ∀ w ∈ u_ws RX6 TX6 7, w ∈ q_Ts := by
  intro w hw
  obtain ⟨k, hk, rfl⟩ := List.mem_map.mp hw
  have hk := List.mem_range.mp hk
  match k, hk with
  | 0, _ => exact q_in 127 (by decide +kernel) rfl
  | 1, _ => exact q_in 129 (by decide +kernel) rfl
  | 2, _ => exact q_in 131 (by decide +kernel) rfl
  | 3, _ => exact q_in 133 (by decide +kernel) rfl
  | 4, _ => exact q_in 135 (by decide +kernel) rfl
  | 5, _ => exact q_in 137 (by decide +kernel) rfl
  | 6, _ => exact q_in 139 (by decide +kernel) rfl
  | k + 7, h => omega
theorem q_ly7 : ∀ w ∈ u_ws RX7 TX7 8, w ∈ q_Ts := by
  intro w hw
  obtain ⟨k, hk, rfl⟩ := List.mem_map.mp hw
  have hk := List.mem_range.mp hk
  match k, hk with
  | 0, _ => exact q_in 338 (by decide +kernel) rfl
  | 1, _ => exact q_in 340 (by decide +kernel) rfl
  | 2, _ => exact q_in 342 (by decide +kernel) rfl
  | 3, _ => exact q_in 344 (by decide +kernel) rfl
  | 4, _ => exact q_in 346 (by decide +kernel) rfl
  | 5, _ => exact q_in 348 (by decide +kernel) rfl
  | 6, _ => exact q_in 350 (by decide +kernel) rfl
  | 7, _ => exact q_in 352 (by decide +kernel) rfl
  | k + 8, h => omega
theorem q_ly8 : ∀ w ∈ u_ws RX8 TX8 27, w ∈ q_Ts := by
  intro w hw
  obtain ⟨k, hk, rfl⟩ := List.mem_map.mp hw
  have hk := List.mem_range.mp hk
  match k, hk with
  | 0, _ => exact q_in 921 (by decide +kernel) rfl
  | 1, _ => exact q_in 923 (by decide +kernel) rfl
  | 2, _ => exact q_in 925 (by decide +kernel) rfl
  | 3, _ => exact q_in 927 (by decide +kernel) rfl
  | 4, _ => exact q_in 929 (by decide +kernel) rfl
  | 5, _ => exact q_in 931 (by decide +kernel) rfl
  | 6, _ => exact q_in 933 (by decide +kernel) rfl
  | 7, _ => exact q_in 935 (by decide +kernel) rfl
  | 8, _ => exact q_in 937 (by decide +kernel) rfl
  | 9, _ => exact q_in 939 (by decide +kernel) rfl
  | 10, _ => exact q_in 941 (by decide +kernel) rfl
  | 11, _ => exact q_in 943 (by decide +kernel) rfl
  | 12, _ => exact q_in 945 (by decide +kernel) rfl
  | 13, _ => exact q_in 947 (by decide +kernel) rfl
  | 14, _ => exact q_in 949 (by decide +kernel) rfl
  | 15, _ => exact q_in 951 (by decide +kernel) rfl
  | 16, _ => exact q_in 953 (by decide +kernel) rfl
  | 17, _ => exact q_in 955 (by decide +kernel) rfl
  | 18, _ => exact q_in 957 (by decide +kernel) rfl
  | 19, _ => exact q_in 959 (by decide +kernel) rfl
  | 20, _ => exact q_in 961 (by decide +kernel) rfl
  | 21, _ => exact q_in 963 (by decide +kernel) rfl
  | 22, _ => exact q_in 965 (by decide +kernel) rfl
  | 23, _ => exact q_in 967 (by decide +kernel) rfl
  | 24, _ => exact q_in 969 (by decide +kernel) rfl
  | 25, _ => exact q_in 971 (by decide +kernel) rfl
  | 26, _ => exact q_in 973 (by decide +kernel) rfl
  | k + 27, h => omega
/-- fields: the user class, the pool place, the class, the place of the field, its type, final -/
def q_fT : List (Nat × Nat × Nat × Nat × FieldType × Bool) := [(0, 9, 0, 0, .int, false), (6, 35, 0, 0, .int, false), (7, 76, 0, 0, .int, false), (0, 15, 0, 1, .int, false), (6, 38, 0, 1, .int, false), (7, 311, 0, 1, .int, false), (0, 18, 0, 2, .int, false), (6, 41, 0, 2, .int, false), (7, 314, 0, 2, .int, false), (6, 11, 6, 0, (.array (.object "StochasticBench$Format")), true), (7, 72, 6, 0, (.array (.object "StochasticBench$Format")), true), (6, 17, 6, 1, (.array .int), true), (7, 90, 6, 1, (.array .int), true), (6, 21, 6, 2, (.array .int), true), (7, 94, 6, 2, (.array .int), true), (6, 24, 6, 3, .int, false), (7, 119, 6, 3, .int, false), (6, 28, 6, 4, .int, false), (7, 122, 6, 4, .int, false), (6, 31, 6, 5, .int, false), (7, 125, 6, 5, .int, false), (6, 54, 6, 6, .int, false), (7, 273, 6, 6, .int, false), (6, 69, 3, 0, .int, false), (3, 21, 3, 0, .int, false), (7, 195, 3, 0, .int, false), (6, 72, 3, 1, .int, false), (3, 24, 3, 1, .int, false), (6, 75, 3, 2, .int, false), (3, 27, 3, 2, .int, false), (3, 9, 3, 3, .int, false), (6, 76, 3, 3, .int, false), (7, 230, 3, 3, .int, false), (6, 81, 3, 4, .int, false), (3, 30, 3, 4, .int, false), (7, 207, 3, 4, .int, false), (3, 33, 3, 5, .int, false), (7, 204, 3, 5, .int, false), (3, 36, 3, 6, .int, false), (7, 201, 3, 6, .int, false), (6, 100, 3, 7, .int, false), (2, 50, 3, 7, .int, false), (3, 39, 3, 7, .int, false), (7, 144, 3, 7, .int, false), (2, 43, 3, 8, .int, false), (6, 111, 3, 8, .int, false), (3, 42, 3, 8, .int, false), (7, 210, 3, 8, .int, false), (6, 103, 3, 9, .long, false), (2, 57, 3, 9, .long, false), (3, 45, 3, 9, .long, false), (7, 215, 3, 9, .long, false), (3, 15, 3, 10, .long, false), (2, 9, 2, 0, (.array .long), true), (7, 243, 2, 0, (.array .long), true), (2, 22, 2, 1, .int, false), (7, 185, 2, 1, .int, false), (2, 17, 2, 2, (.array (.object "StochasticBench$Operation")), true), (2, 34, 2, 3, .int, false), (1, 27, 1, 0, .int, false), (7, 272, 1, 0, .int, false), (1, 11, 1, 1, (.array (.object "StochasticBench$Setting")), true), (1, 17, 1, 2, (.array (.object "StochasticBench$Ledger")), true), (1, 23, 1, 3, .int, false), (4, 27, 4, 0, .int, false), (7, 150, 4, 0, .int, false), (4, 31, 4, 1, .int, false), (5, 57, 4, 1, .int, false), (4, 11, 4, 2, (.array .int), true), (5, 60, 4, 2, (.array .int), true), (4, 15, 4, 3, (.array .int), true), (5, 63, 4, 3, (.array .int), true), (4, 18, 4, 4, (.array .int), true), (5, 66, 4, 4, (.array .int), true), (4, 21, 4, 5, (.array .int), true), (4, 24, 4, 6, (.array .int), true), (4, 34, 4, 7, .int, false), (4, 37, 4, 8, .int, false), (4, 101, 4, 9, .int, false), (4, 80, 4, 10, .int, false), (4, 86, 4, 11, .int, false), (4, 92, 4, 12, .int, false), (5, 27, 5, 0, .int, false), (7, 165, 5, 0, .int, false), (5, 47, 5, 1, .int, false), (7, 162, 5, 1, .int, false), (5, 11, 5, 2, (.array .int), true), (5, 17, 5, 3, (.array .int), true), (5, 50, 5, 4, .int, false), (5, 53, 5, 5, .int, false), (7, 10, 7, 0, (.object "StochasticBench$Setting"), true), (7, 19, 7, 1, (.object "StochasticBench$Ledger"), true), (7, 26, 7, 2, (.object "StochasticBench$History"), true), (7, 33, 7, 3, (.object "StochasticBench$Program"), true), (7, 40, 7, 4, (.object "StochasticBench$Runner"), true), (7, 44, 7, 5, (.object "StochasticBench$Setting"), true), (7, 50, 7, 6, (.object "StochasticBench$Operation"), true), (7, 54, 7, 7, .int, false), (8, 7, 8, 0, (.array .long), true), (8, 49, 8, 1, .int, false), (8, 249, 8, 2, .int, false), (8, 13, 8, 3, (.array .int), true), (8, 193, 8, 4, .int, false), (8, 79, 8, 5, .long, false), (8, 83, 8, 6, .long, false), (8, 75, 8, 7, .boolean, false), (8, 17, 8, 8, (.array .long), true), (8, 132, 8, 9, .int, false), (8, 135, 8, 10, .int, false), (8, 138, 8, 11, .int, false), (8, 146, 8, 12, .long, false), (8, 143, 8, 13, .long, false), (8, 157, 8, 14, .long, false), (8, 20, 8, 15, (.array .int), true), (8, 23, 8, 16, (.array .int), true), (8, 26, 8, 17, (.array .int), true), (8, 29, 8, 18, (.array .int), true), (8, 32, 8, 19, (.array .int), true), (8, 223, 8, 20, .int, false), (8, 197, 8, 21, .int, false), (8, 205, 8, 22, .int, false), (8, 35, 8, 23, (.array .int), true), (8, 220, 8, 24, .int, false), (8, 38, 8, 25, (.array .int), true), (8, 239, 8, 26, .int, false)]
def q_fOk (x : Nat × Nat × Nat × Nat × FieldType × Bool) : Prop := ∃ (C : String) (T : u_T) (N : Nat), vwCl[x.2.2.1]? = some (C, T, N) ∧ x.2.2.2.1 < N ∧ Cond.fieldLink (q_ow x.1) x.2.1 (T x.2.2.2.1).1 (T x.2.2.2.1).2.1 (T x.2.2.2.1).2.2.1 ∈ q_Ts ∧ parseFieldDescriptor (T x.2.2.2.1).2.2.1 = some x.2.2.2.2.1 ∧ (T x.2.2.2.1).2.2.2 = x.2.2.2.2.2 ∧ (T x.2.2.2.1).1 = q_ow x.2.2.1
theorem qwf0 : q_fOk (0, 9, 0, 0, .int, false) := ⟨RX0, TX0, 3, rfl, by decide, q_in 96 (by decide +kernel) rfl, by decide +kernel, rfl, rfl⟩
theorem qwf1 : q_fOk (6, 35, 0, 0, .int, false) := ⟨RX0, TX0, 3, rfl, by decide, q_in 97 (by decide +kernel) rfl, by decide +kernel, rfl, rfl⟩
theorem qwf2 : q_fOk (7, 76, 0, 0, .int, false) := ⟨RX0, TX0, 3, rfl, by decide, q_in 98 (by decide +kernel) rfl, by decide +kernel, rfl, rfl⟩
theorem qwf3 : q_fOk (0, 15, 0, 1, .int, false) := ⟨RX0, TX0, 3, rfl, by decide, q_in 99 (by decide +kernel) rfl, by decide +kernel, rfl, rfl⟩
theorem qwf4 : q_fOk (6, 38, 0, 1, .int, false) := ⟨RX0, TX0, 3, rfl, by decide, q_in 100 (by decide +kernel) rfl, by decide +kernel, rfl, rfl⟩
theorem qwf5 : q_fOk (7, 311, 0, 1, .int, false) := ⟨RX0, TX0, 3, rfl, by decide, q_in 101 (by decide +kernel) rfl, by decide +kernel, rfl, rfl⟩
theorem qwf6 : q_fOk (0, 18, 0, 2, .int, false) := ⟨RX0, TX0, 3, rfl, by decide, q_in 102 (by decide +kernel) rfl, by decide +kernel, rfl, rfl⟩
theorem qwf7 : q_fOk (6, 41, 0, 2, .int, false) := ⟨RX0, TX0, 3, rfl, by decide, q_in 103 (by decide +kernel) rfl, by decide +kernel, rfl, rfl⟩
theorem qwf8 : q_fOk (7, 314, 0, 2, .int, false) := ⟨RX0, TX0, 3, rfl, by decide, q_in 104 (by decide +kernel) rfl, by decide +kernel, rfl, rfl⟩
theorem qwf9 : q_fOk (6, 11, 6, 0, (.array (.object "StochasticBench$Format")), true) := ⟨RX6, TX6, 7, rfl, by decide, q_in 113 (by decide +kernel) rfl, by decide +kernel, rfl, rfl⟩
theorem qwf10 : q_fOk (7, 72, 6, 0, (.array (.object "StochasticBench$Format")), true) := ⟨RX6, TX6, 7, rfl, by decide, q_in 114 (by decide +kernel) rfl, by decide +kernel, rfl, rfl⟩
theorem qwf11 : q_fOk (6, 17, 6, 1, (.array .int), true) := ⟨RX6, TX6, 7, rfl, by decide, q_in 115 (by decide +kernel) rfl, by decide +kernel, rfl, rfl⟩
theorem qwf12 : q_fOk (7, 90, 6, 1, (.array .int), true) := ⟨RX6, TX6, 7, rfl, by decide, q_in 116 (by decide +kernel) rfl, by decide +kernel, rfl, rfl⟩
theorem qwf13 : q_fOk (6, 21, 6, 2, (.array .int), true) := ⟨RX6, TX6, 7, rfl, by decide, q_in 117 (by decide +kernel) rfl, by decide +kernel, rfl, rfl⟩
theorem qwf14 : q_fOk (7, 94, 6, 2, (.array .int), true) := ⟨RX6, TX6, 7, rfl, by decide, q_in 118 (by decide +kernel) rfl, by decide +kernel, rfl, rfl⟩
theorem qwf15 : q_fOk (6, 24, 6, 3, .int, false) := ⟨RX6, TX6, 7, rfl, by decide, q_in 119 (by decide +kernel) rfl, by decide +kernel, rfl, rfl⟩
theorem qwf16 : q_fOk (7, 119, 6, 3, .int, false) := ⟨RX6, TX6, 7, rfl, by decide, q_in 120 (by decide +kernel) rfl, by decide +kernel, rfl, rfl⟩
theorem qwf17 : q_fOk (6, 28, 6, 4, .int, false) := ⟨RX6, TX6, 7, rfl, by decide, q_in 121 (by decide +kernel) rfl, by decide +kernel, rfl, rfl⟩
theorem qwf18 : q_fOk (7, 122, 6, 4, .int, false) := ⟨RX6, TX6, 7, rfl, by decide, q_in 122 (by decide +kernel) rfl, by decide +kernel, rfl, rfl⟩
theorem qwf19 : q_fOk (6, 31, 6, 5, .int, false) := ⟨RX6, TX6, 7, rfl, by decide, q_in 123 (by decide +kernel) rfl, by decide +kernel, rfl, rfl⟩
theorem qwf20 : q_fOk (7, 125, 6, 5, .int, false) := ⟨RX6, TX6, 7, rfl, by decide, q_in 124 (by decide +kernel) rfl, by decide +kernel, rfl, rfl⟩
theorem qwf21 : q_fOk (6, 54, 6, 6, .int, false) := ⟨RX6, TX6, 7, rfl, by decide, q_in 125 (by decide +kernel) rfl, by decide +kernel, rfl, rfl⟩
theorem qwf22 : q_fOk (7, 273, 6, 6, .int, false) := ⟨RX6, TX6, 7, rfl, by decide, q_in 126 (by decide +kernel) rfl, by decide +kernel, rfl, rfl⟩
theorem qwf23 : q_fOk (6, 69, 3, 0, .int, false) := ⟨RX3, TX3, 11, rfl, by decide, q_in 155 (by decide +kernel) rfl, by decide +kernel, rfl, rfl⟩
theorem qwf24 : q_fOk (3, 21, 3, 0, .int, false) := ⟨RX3, TX3, 11, rfl, by decide, q_in 156 (by decide +kernel) rfl, by decide +kernel, rfl, rfl⟩
theorem qwf25 : q_fOk (7, 195, 3, 0, .int, false) := ⟨RX3, TX3, 11, rfl, by decide, q_in 157 (by decide +kernel) rfl, by decide +kernel, rfl, rfl⟩
theorem qwf26 : q_fOk (6, 72, 3, 1, .int, false) := ⟨RX3, TX3, 11, rfl, by decide, q_in 158 (by decide +kernel) rfl, by decide +kernel, rfl, rfl⟩
theorem qwf27 : q_fOk (3, 24, 3, 1, .int, false) := ⟨RX3, TX3, 11, rfl, by decide, q_in 159 (by decide +kernel) rfl, by decide +kernel, rfl, rfl⟩
theorem qwf28 : q_fOk (6, 75, 3, 2, .int, false) := ⟨RX3, TX3, 11, rfl, by decide, q_in 160 (by decide +kernel) rfl, by decide +kernel, rfl, rfl⟩
theorem qwf29 : q_fOk (3, 27, 3, 2, .int, false) := ⟨RX3, TX3, 11, rfl, by decide, q_in 161 (by decide +kernel) rfl, by decide +kernel, rfl, rfl⟩
theorem qwf30 : q_fOk (3, 9, 3, 3, .int, false) := ⟨RX3, TX3, 11, rfl, by decide, q_in 162 (by decide +kernel) rfl, by decide +kernel, rfl, rfl⟩
theorem qwf31 : q_fOk (6, 76, 3, 3, .int, false) := ⟨RX3, TX3, 11, rfl, by decide, q_in 163 (by decide +kernel) rfl, by decide +kernel, rfl, rfl⟩
theorem qwf32 : q_fOk (7, 230, 3, 3, .int, false) := ⟨RX3, TX3, 11, rfl, by decide, q_in 164 (by decide +kernel) rfl, by decide +kernel, rfl, rfl⟩
theorem qwf33 : q_fOk (6, 81, 3, 4, .int, false) := ⟨RX3, TX3, 11, rfl, by decide, q_in 165 (by decide +kernel) rfl, by decide +kernel, rfl, rfl⟩
theorem qwf34 : q_fOk (3, 30, 3, 4, .int, false) := ⟨RX3, TX3, 11, rfl, by decide, q_in 166 (by decide +kernel) rfl, by decide +kernel, rfl, rfl⟩
theorem qwf35 : q_fOk (7, 207, 3, 4, .int, false) := ⟨RX3, TX3, 11, rfl, by decide, q_in 167 (by decide +kernel) rfl, by decide +kernel, rfl, rfl⟩
theorem qwf36 : q_fOk (3, 33, 3, 5, .int, false) := ⟨RX3, TX3, 11, rfl, by decide, q_in 168 (by decide +kernel) rfl, by decide +kernel, rfl, rfl⟩
theorem qwf37 : q_fOk (7, 204, 3, 5, .int, false) := ⟨RX3, TX3, 11, rfl, by decide, q_in 169 (by decide +kernel) rfl, by decide +kernel, rfl, rfl⟩
theorem qwf38 : q_fOk (3, 36, 3, 6, .int, false) := ⟨RX3, TX3, 11, rfl, by decide, q_in 170 (by decide +kernel) rfl, by decide +kernel, rfl, rfl⟩
theorem qwf39 : q_fOk (7, 201, 3, 6, .int, false) := ⟨RX3, TX3, 11, rfl, by decide, q_in 171 (by decide +kernel) rfl, by decide +kernel, rfl, rfl⟩
theorem qwf40 : q_fOk (6, 100, 3, 7, .int, false) := ⟨RX3, TX3, 11, rfl, by decide, q_in 172 (by decide +kernel) rfl, by decide +kernel, rfl, rfl⟩
theorem qwf41 : q_fOk (2, 50, 3, 7, .int, false) := ⟨RX3, TX3, 11, rfl, by decide, q_in 173 (by decide +kernel) rfl, by decide +kernel, rfl, rfl⟩
theorem qwf42 : q_fOk (3, 39, 3, 7, .int, false) := ⟨RX3, TX3, 11, rfl, by decide, q_in 174 (by decide +kernel) rfl, by decide +kernel, rfl, rfl⟩
theorem qwf43 : q_fOk (7, 144, 3, 7, .int, false) := ⟨RX3, TX3, 11, rfl, by decide, q_in 175 (by decide +kernel) rfl, by decide +kernel, rfl, rfl⟩
theorem qwf44 : q_fOk (2, 43, 3, 8, .int, false) := ⟨RX3, TX3, 11, rfl, by decide, q_in 176 (by decide +kernel) rfl, by decide +kernel, rfl, rfl⟩
theorem qwf45 : q_fOk (6, 111, 3, 8, .int, false) := ⟨RX3, TX3, 11, rfl, by decide, q_in 177 (by decide +kernel) rfl, by decide +kernel, rfl, rfl⟩
theorem qwf46 : q_fOk (3, 42, 3, 8, .int, false) := ⟨RX3, TX3, 11, rfl, by decide, q_in 178 (by decide +kernel) rfl, by decide +kernel, rfl, rfl⟩
theorem qwf47 : q_fOk (7, 210, 3, 8, .int, false) := ⟨RX3, TX3, 11, rfl, by decide, q_in 179 (by decide +kernel) rfl, by decide +kernel, rfl, rfl⟩
theorem qwf48 : q_fOk (6, 103, 3, 9, .long, false) := ⟨RX3, TX3, 11, rfl, by decide, q_in 180 (by decide +kernel) rfl, by decide +kernel, rfl, rfl⟩
theorem qwf49 : q_fOk (2, 57, 3, 9, .long, false) := ⟨RX3, TX3, 11, rfl, by decide, q_in 181 (by decide +kernel) rfl, by decide +kernel, rfl, rfl⟩
theorem qwf50 : q_fOk (3, 45, 3, 9, .long, false) := ⟨RX3, TX3, 11, rfl, by decide, q_in 182 (by decide +kernel) rfl, by decide +kernel, rfl, rfl⟩
theorem qwf51 : q_fOk (7, 215, 3, 9, .long, false) := ⟨RX3, TX3, 11, rfl, by decide, q_in 183 (by decide +kernel) rfl, by decide +kernel, rfl, rfl⟩
theorem qwf52 : q_fOk (3, 15, 3, 10, .long, false) := ⟨RX3, TX3, 11, rfl, by decide, q_in 184 (by decide +kernel) rfl, by decide +kernel, rfl, rfl⟩
theorem qwf53 : q_fOk (2, 9, 2, 0, (.array .long), true) := ⟨RX2, TX2, 4, rfl, by decide, q_in 209 (by decide +kernel) rfl, by decide +kernel, rfl, rfl⟩
theorem qwf54 : q_fOk (7, 243, 2, 0, (.array .long), true) := ⟨RX2, TX2, 4, rfl, by decide, q_in 210 (by decide +kernel) rfl, by decide +kernel, rfl, rfl⟩
theorem qwf55 : q_fOk (2, 22, 2, 1, .int, false) := ⟨RX2, TX2, 4, rfl, by decide, q_in 211 (by decide +kernel) rfl, by decide +kernel, rfl, rfl⟩
theorem qwf56 : q_fOk (7, 185, 2, 1, .int, false) := ⟨RX2, TX2, 4, rfl, by decide, q_in 212 (by decide +kernel) rfl, by decide +kernel, rfl, rfl⟩
theorem qwf57 : q_fOk (2, 17, 2, 2, (.array (.object "StochasticBench$Operation")), true) := ⟨RX2, TX2, 4, rfl, by decide, q_in 213 (by decide +kernel) rfl, by decide +kernel, rfl, rfl⟩
theorem qwf58 : q_fOk (2, 34, 2, 3, .int, false) := ⟨RX2, TX2, 4, rfl, by decide, q_in 214 (by decide +kernel) rfl, by decide +kernel, rfl, rfl⟩
theorem qwf59 : q_fOk (1, 27, 1, 0, .int, false) := ⟨RX1, TX1, 4, rfl, by decide, q_in 236 (by decide +kernel) rfl, by decide +kernel, rfl, rfl⟩
theorem qwf60 : q_fOk (7, 272, 1, 0, .int, false) := ⟨RX1, TX1, 4, rfl, by decide, q_in 237 (by decide +kernel) rfl, by decide +kernel, rfl, rfl⟩
theorem qwf61 : q_fOk (1, 11, 1, 1, (.array (.object "StochasticBench$Setting")), true) := ⟨RX1, TX1, 4, rfl, by decide, q_in 238 (by decide +kernel) rfl, by decide +kernel, rfl, rfl⟩
theorem qwf62 : q_fOk (1, 17, 1, 2, (.array (.object "StochasticBench$Ledger")), true) := ⟨RX1, TX1, 4, rfl, by decide, q_in 239 (by decide +kernel) rfl, by decide +kernel, rfl, rfl⟩
theorem qwf63 : q_fOk (1, 23, 1, 3, .int, false) := ⟨RX1, TX1, 4, rfl, by decide, q_in 240 (by decide +kernel) rfl, by decide +kernel, rfl, rfl⟩
theorem qwf64 : q_fOk (4, 27, 4, 0, .int, false) := ⟨RX4, TX4, 13, rfl, by decide, q_in 256 (by decide +kernel) rfl, by decide +kernel, rfl, rfl⟩
theorem qwf65 : q_fOk (7, 150, 4, 0, .int, false) := ⟨RX4, TX4, 13, rfl, by decide, q_in 257 (by decide +kernel) rfl, by decide +kernel, rfl, rfl⟩
theorem qwf66 : q_fOk (4, 31, 4, 1, .int, false) := ⟨RX4, TX4, 13, rfl, by decide, q_in 258 (by decide +kernel) rfl, by decide +kernel, rfl, rfl⟩
theorem qwf67 : q_fOk (5, 57, 4, 1, .int, false) := ⟨RX4, TX4, 13, rfl, by decide, q_in 259 (by decide +kernel) rfl, by decide +kernel, rfl, rfl⟩
theorem qwf68 : q_fOk (4, 11, 4, 2, (.array .int), true) := ⟨RX4, TX4, 13, rfl, by decide, q_in 260 (by decide +kernel) rfl, by decide +kernel, rfl, rfl⟩
theorem qwf69 : q_fOk (5, 60, 4, 2, (.array .int), true) := ⟨RX4, TX4, 13, rfl, by decide, q_in 261 (by decide +kernel) rfl, by decide +kernel, rfl, rfl⟩
theorem qwf70 : q_fOk (4, 15, 4, 3, (.array .int), true) := ⟨RX4, TX4, 13, rfl, by decide, q_in 262 (by decide +kernel) rfl, by decide +kernel, rfl, rfl⟩
theorem qwf71 : q_fOk (5, 63, 4, 3, (.array .int), true) := ⟨RX4, TX4, 13, rfl, by decide, q_in 263 (by decide +kernel) rfl, by decide +kernel, rfl, rfl⟩
theorem qwf72 : q_fOk (4, 18, 4, 4, (.array .int), true) := ⟨RX4, TX4, 13, rfl, by decide, q_in 264 (by decide +kernel) rfl, by decide +kernel, rfl, rfl⟩
theorem qwf73 : q_fOk (5, 66, 4, 4, (.array .int), true) := ⟨RX4, TX4, 13, rfl, by decide, q_in 265 (by decide +kernel) rfl, by decide +kernel, rfl, rfl⟩
theorem qwf74 : q_fOk (4, 21, 4, 5, (.array .int), true) := ⟨RX4, TX4, 13, rfl, by decide, q_in 266 (by decide +kernel) rfl, by decide +kernel, rfl, rfl⟩
theorem qwf75 : q_fOk (4, 24, 4, 6, (.array .int), true) := ⟨RX4, TX4, 13, rfl, by decide, q_in 267 (by decide +kernel) rfl, by decide +kernel, rfl, rfl⟩
theorem qwf76 : q_fOk (4, 34, 4, 7, .int, false) := ⟨RX4, TX4, 13, rfl, by decide, q_in 268 (by decide +kernel) rfl, by decide +kernel, rfl, rfl⟩
theorem qwf77 : q_fOk (4, 37, 4, 8, .int, false) := ⟨RX4, TX4, 13, rfl, by decide, q_in 269 (by decide +kernel) rfl, by decide +kernel, rfl, rfl⟩
theorem qwf78 : q_fOk (4, 101, 4, 9, .int, false) := ⟨RX4, TX4, 13, rfl, by decide, q_in 270 (by decide +kernel) rfl, by decide +kernel, rfl, rfl⟩
theorem qwf79 : q_fOk (4, 80, 4, 10, .int, false) := ⟨RX4, TX4, 13, rfl, by decide, q_in 271 (by decide +kernel) rfl, by decide +kernel, rfl, rfl⟩
theorem qwf80 : q_fOk (4, 86, 4, 11, .int, false) := ⟨RX4, TX4, 13, rfl, by decide, q_in 272 (by decide +kernel) rfl, by decide +kernel, rfl, rfl⟩
theorem qwf81 : q_fOk (4, 92, 4, 12, .int, false) := ⟨RX4, TX4, 13, rfl, by decide, q_in 273 (by decide +kernel) rfl, by decide +kernel, rfl, rfl⟩
theorem qwf82 : q_fOk (5, 27, 5, 0, .int, false) := ⟨RX5, TX5, 6, rfl, by decide, q_in 307 (by decide +kernel) rfl, by decide +kernel, rfl, rfl⟩
theorem qwf83 : q_fOk (7, 165, 5, 0, .int, false) := ⟨RX5, TX5, 6, rfl, by decide, q_in 308 (by decide +kernel) rfl, by decide +kernel, rfl, rfl⟩
theorem qwf84 : q_fOk (5, 47, 5, 1, .int, false) := ⟨RX5, TX5, 6, rfl, by decide, q_in 309 (by decide +kernel) rfl, by decide +kernel, rfl, rfl⟩
theorem qwf85 : q_fOk (7, 162, 5, 1, .int, false) := ⟨RX5, TX5, 6, rfl, by decide, q_in 310 (by decide +kernel) rfl, by decide +kernel, rfl, rfl⟩
theorem qwf86 : q_fOk (5, 11, 5, 2, (.array .int), true) := ⟨RX5, TX5, 6, rfl, by decide, q_in 311 (by decide +kernel) rfl, by decide +kernel, rfl, rfl⟩
theorem qwf87 : q_fOk (5, 17, 5, 3, (.array .int), true) := ⟨RX5, TX5, 6, rfl, by decide, q_in 312 (by decide +kernel) rfl, by decide +kernel, rfl, rfl⟩
theorem qwf88 : q_fOk (5, 50, 5, 4, .int, false) := ⟨RX5, TX5, 6, rfl, by decide, q_in 313 (by decide +kernel) rfl, by decide +kernel, rfl, rfl⟩
theorem qwf89 : q_fOk (5, 53, 5, 5, .int, false) := ⟨RX5, TX5, 6, rfl, by decide, q_in 314 (by decide +kernel) rfl, by decide +kernel, rfl, rfl⟩
theorem qwf90 : q_fOk (7, 10, 7, 0, (.object "StochasticBench$Setting"), true) := ⟨RX7, TX7, 8, rfl, by decide, q_in 330 (by decide +kernel) rfl, by decide +kernel, rfl, rfl⟩
theorem qwf91 : q_fOk (7, 19, 7, 1, (.object "StochasticBench$Ledger"), true) := ⟨RX7, TX7, 8, rfl, by decide, q_in 331 (by decide +kernel) rfl, by decide +kernel, rfl, rfl⟩
theorem qwf92 : q_fOk (7, 26, 7, 2, (.object "StochasticBench$History"), true) := ⟨RX7, TX7, 8, rfl, by decide, q_in 332 (by decide +kernel) rfl, by decide +kernel, rfl, rfl⟩
theorem qwf93 : q_fOk (7, 33, 7, 3, (.object "StochasticBench$Program"), true) := ⟨RX7, TX7, 8, rfl, by decide, q_in 333 (by decide +kernel) rfl, by decide +kernel, rfl, rfl⟩
theorem qwf94 : q_fOk (7, 40, 7, 4, (.object "StochasticBench$Runner"), true) := ⟨RX7, TX7, 8, rfl, by decide, q_in 334 (by decide +kernel) rfl, by decide +kernel, rfl, rfl⟩
theorem qwf95 : q_fOk (7, 44, 7, 5, (.object "StochasticBench$Setting"), true) := ⟨RX7, TX7, 8, rfl, by decide, q_in 335 (by decide +kernel) rfl, by decide +kernel, rfl, rfl⟩
theorem qwf96 : q_fOk (7, 50, 7, 6, (.object "StochasticBench$Operation"), true) := ⟨RX7, TX7, 8, rfl, by decide, q_in 336 (by decide +kernel) rfl, by decide +kernel, rfl, rfl⟩
theorem qwf97 : q_fOk (7, 54, 7, 7, .int, false) := ⟨RX7, TX7, 8, rfl, by decide, q_in 337 (by decide +kernel) rfl, by decide +kernel, rfl, rfl⟩
theorem qwf98 : q_fOk (8, 7, 8, 0, (.array .long), true) := ⟨RX8, TX8, 27, rfl, by decide, q_in 894 (by decide +kernel) rfl, by decide +kernel, rfl, rfl⟩
theorem qwf99 : q_fOk (8, 49, 8, 1, .int, false) := ⟨RX8, TX8, 27, rfl, by decide, q_in 895 (by decide +kernel) rfl, by decide +kernel, rfl, rfl⟩
theorem qwf100 : q_fOk (8, 249, 8, 2, .int, false) := ⟨RX8, TX8, 27, rfl, by decide, q_in 896 (by decide +kernel) rfl, by decide +kernel, rfl, rfl⟩
theorem qwf101 : q_fOk (8, 13, 8, 3, (.array .int), true) := ⟨RX8, TX8, 27, rfl, by decide, q_in 897 (by decide +kernel) rfl, by decide +kernel, rfl, rfl⟩
theorem qwf102 : q_fOk (8, 193, 8, 4, .int, false) := ⟨RX8, TX8, 27, rfl, by decide, q_in 898 (by decide +kernel) rfl, by decide +kernel, rfl, rfl⟩
theorem qwf103 : q_fOk (8, 79, 8, 5, .long, false) := ⟨RX8, TX8, 27, rfl, by decide, q_in 899 (by decide +kernel) rfl, by decide +kernel, rfl, rfl⟩
theorem qwf104 : q_fOk (8, 83, 8, 6, .long, false) := ⟨RX8, TX8, 27, rfl, by decide, q_in 900 (by decide +kernel) rfl, by decide +kernel, rfl, rfl⟩
theorem qwf105 : q_fOk (8, 75, 8, 7, .boolean, false) := ⟨RX8, TX8, 27, rfl, by decide, q_in 901 (by decide +kernel) rfl, by decide +kernel, rfl, rfl⟩
theorem qwf106 : q_fOk (8, 17, 8, 8, (.array .long), true) := ⟨RX8, TX8, 27, rfl, by decide, q_in 902 (by decide +kernel) rfl, by decide +kernel, rfl, rfl⟩
theorem qwf107 : q_fOk (8, 132, 8, 9, .int, false) := ⟨RX8, TX8, 27, rfl, by decide, q_in 903 (by decide +kernel) rfl, by decide +kernel, rfl, rfl⟩
theorem qwf108 : q_fOk (8, 135, 8, 10, .int, false) := ⟨RX8, TX8, 27, rfl, by decide, q_in 904 (by decide +kernel) rfl, by decide +kernel, rfl, rfl⟩
theorem qwf109 : q_fOk (8, 138, 8, 11, .int, false) := ⟨RX8, TX8, 27, rfl, by decide, q_in 905 (by decide +kernel) rfl, by decide +kernel, rfl, rfl⟩
theorem qwf110 : q_fOk (8, 146, 8, 12, .long, false) := ⟨RX8, TX8, 27, rfl, by decide, q_in 906 (by decide +kernel) rfl, by decide +kernel, rfl, rfl⟩
theorem qwf111 : q_fOk (8, 143, 8, 13, .long, false) := ⟨RX8, TX8, 27, rfl, by decide, q_in 907 (by decide +kernel) rfl, by decide +kernel, rfl, rfl⟩
theorem qwf112 : q_fOk (8, 157, 8, 14, .long, false) := ⟨RX8, TX8, 27, rfl, by decide, q_in 908 (by decide +kernel) rfl, by decide +kernel, rfl, rfl⟩
theorem qwf113 : q_fOk (8, 20, 8, 15, (.array .int), true) := ⟨RX8, TX8, 27, rfl, by decide, q_in 909 (by decide +kernel) rfl, by decide +kernel, rfl, rfl⟩
theorem qwf114 : q_fOk (8, 23, 8, 16, (.array .int), true) := ⟨RX8, TX8, 27, rfl, by decide, q_in 910 (by decide +kernel) rfl, by decide +kernel, rfl, rfl⟩
theorem qwf115 : q_fOk (8, 26, 8, 17, (.array .int), true) := ⟨RX8, TX8, 27, rfl, by decide, q_in 911 (by decide +kernel) rfl, by decide +kernel, rfl, rfl⟩
theorem qwf116 : q_fOk (8, 29, 8, 18, (.array .int), true) := ⟨RX8, TX8, 27, rfl, by decide, q_in 912 (by decide +kernel) rfl, by decide +kernel, rfl, rfl⟩
theorem qwf117 : q_fOk (8, 32, 8, 19, (.array .int), true) := ⟨RX8, TX8, 27, rfl, by decide, q_in 913 (by decide +kernel) rfl, by decide +kernel, rfl, rfl⟩
theorem qwf118 : q_fOk (8, 223, 8, 20, .int, false) := ⟨RX8, TX8, 27, rfl, by decide, q_in 914 (by decide +kernel) rfl, by decide +kernel, rfl, rfl⟩
theorem qwf119 : q_fOk (8, 197, 8, 21, .int, false) := ⟨RX8, TX8, 27, rfl, by decide, q_in 915 (by decide +kernel) rfl, by decide +kernel, rfl, rfl⟩
theorem qwf120 : q_fOk (8, 205, 8, 22, .int, false) := ⟨RX8, TX8, 27, rfl, by decide, q_in 916 (by decide +kernel) rfl, by decide +kernel, rfl, rfl⟩
theorem qwf121 : q_fOk (8, 35, 8, 23, (.array .int), true) := ⟨RX8, TX8, 27, rfl, by decide, q_in 917 (by decide +kernel) rfl, by decide +kernel, rfl, rfl⟩
theorem qwf122 : q_fOk (8, 220, 8, 24, .int, false) := ⟨RX8, TX8, 27, rfl, by decide, q_in 918 (by decide +kernel) rfl, by decide +kernel, rfl, rfl⟩
theorem qwf123 : q_fOk (8, 38, 8, 25, (.array .int), true) := ⟨RX8, TX8, 27, rfl, by decide, q_in 919 (by decide +kernel) rfl, by decide +kernel, rfl, rfl⟩
theorem qwf124 : q_fOk (8, 239, 8, 26, .int, false) := ⟨RX8, TX8, 27, rfl, by decide, q_in 920 (by decide +kernel) rfl, by decide +kernel, rfl, rfl⟩
theorem q_fAll : ∀ x ∈ q_fT, q_fOk x := List.forall_mem_cons.mpr ⟨qwf0, List.forall_mem_cons.mpr ⟨qwf1, List.forall_mem_cons.mpr ⟨qwf2, List.forall_mem_cons.mpr ⟨qwf3, List.forall_mem_cons.mpr ⟨qwf4, List.forall_mem_cons.mpr ⟨qwf5, List.forall_mem_cons.mpr ⟨qwf6, List.forall_mem_cons.mpr ⟨qwf7, List.forall_mem_cons.mpr ⟨qwf8, List.forall_mem_cons.mpr ⟨qwf9, List.forall_mem_cons.mpr ⟨qwf10, List.forall_mem_cons.mpr ⟨qwf11, List.forall_mem_cons.mpr ⟨qwf12, List.forall_mem_cons.mpr ⟨qwf13, List.forall_mem_cons.mpr ⟨qwf14, List.forall_mem_cons.mpr ⟨qwf15, List.forall_mem_cons.mpr ⟨qwf16, List.forall_mem_cons.mpr ⟨qwf17, List.forall_mem_cons.mpr ⟨qwf18, List.forall_mem_cons.mpr ⟨qwf19, List.forall_mem_cons.mpr ⟨qwf20, List.forall_mem_cons.mpr ⟨qwf21, List.forall_mem_cons.mpr ⟨qwf22, List.forall_mem_cons.mpr ⟨qwf23, List.forall_mem_cons.mpr ⟨qwf24, List.forall_mem_cons.mpr ⟨qwf25, List.forall_mem_cons.mpr ⟨qwf26, List.forall_mem_cons.mpr ⟨qwf27, List.forall_mem_cons.mpr ⟨qwf28, List.forall_mem_cons.mpr ⟨qwf29, List.forall_mem_cons.mpr ⟨qwf30, List.forall_mem_cons.mpr ⟨qwf31, List.forall_mem_cons.mpr ⟨qwf32, List.forall_mem_cons.mpr ⟨qwf33, List.forall_mem_cons.mpr ⟨qwf34, List.forall_mem_cons.mpr ⟨qwf35, List.forall_mem_cons.mpr ⟨qwf36, List.forall_mem_cons.mpr ⟨qwf37, List.forall_mem_cons.mpr ⟨qwf38, List.forall_mem_cons.mpr ⟨qwf39, List.forall_mem_cons.mpr ⟨qwf40, List.forall_mem_cons.mpr ⟨qwf41, List.forall_mem_cons.mpr ⟨qwf42, List.forall_mem_cons.mpr ⟨qwf43, List.forall_mem_cons.mpr ⟨qwf44, List.forall_mem_cons.mpr ⟨qwf45, List.forall_mem_cons.mpr ⟨qwf46, List.forall_mem_cons.mpr ⟨qwf47, List.forall_mem_cons.mpr ⟨qwf48, List.forall_mem_cons.mpr ⟨qwf49, List.forall_mem_cons.mpr ⟨qwf50, List.forall_mem_cons.mpr ⟨qwf51, List.forall_mem_cons.mpr ⟨qwf52, List.forall_mem_cons.mpr ⟨qwf53, List.forall_mem_cons.mpr ⟨qwf54, List.forall_mem_cons.mpr ⟨qwf55, List.forall_mem_cons.mpr ⟨qwf56, List.forall_mem_cons.mpr ⟨qwf57, List.forall_mem_cons.mpr ⟨qwf58, List.forall_mem_cons.mpr ⟨qwf59, List.forall_mem_cons.mpr ⟨qwf60, List.forall_mem_cons.mpr ⟨qwf61, List.forall_mem_cons.mpr ⟨qwf62, List.forall_mem_cons.mpr ⟨qwf63, List.forall_mem_cons.mpr ⟨qwf64, List.forall_mem_cons.mpr ⟨qwf65, List.forall_mem_cons.mpr ⟨qwf66, List.forall_mem_cons.mpr ⟨qwf67, List.forall_mem_cons.mpr ⟨qwf68, List.forall_mem_cons.mpr ⟨qwf69, List.forall_mem_cons.mpr ⟨qwf70, List.forall_mem_cons.mpr ⟨qwf71, List.forall_mem_cons.mpr ⟨qwf72, List.forall_mem_cons.mpr ⟨qwf73, List.forall_mem_cons.mpr ⟨qwf74, List.forall_mem_cons.mpr ⟨qwf75, List.forall_mem_cons.mpr ⟨qwf76, List.forall_mem_cons.mpr ⟨qwf77, List.forall_mem_cons.mpr ⟨qwf78, List.forall_mem_cons.mpr ⟨qwf79, List.forall_mem_cons.mpr ⟨qwf80, List.forall_mem_cons.mpr ⟨qwf81, List.forall_mem_cons.mpr ⟨qwf82, List.forall_mem_cons.mpr ⟨qwf83, List.forall_mem_cons.mpr ⟨qwf84, List.forall_mem_cons.mpr ⟨qwf85, List.forall_mem_cons.mpr ⟨qwf86, List.forall_mem_cons.mpr ⟨qwf87, List.forall_mem_cons.mpr ⟨qwf88, List.forall_mem_cons.mpr ⟨qwf89, List.forall_mem_cons.mpr ⟨qwf90, List.forall_mem_cons.mpr ⟨qwf91, List.forall_mem_cons.mpr ⟨qwf92, List.forall_mem_cons.mpr ⟨qwf93, List.forall_mem_cons.mpr ⟨qwf94, List.forall_mem_cons.mpr ⟨qwf95, List.forall_mem_cons.mpr ⟨qwf96, List.forall_mem_cons.mpr ⟨qwf97, List.forall_mem_cons.mpr ⟨qwf98, List.forall_mem_cons.mpr ⟨qwf99, List.forall_mem_cons.mpr ⟨qwf100, List.forall_mem_cons.mpr ⟨qwf101, List.forall_mem_cons.mpr ⟨qwf102, List.forall_mem_cons.mpr ⟨qwf103, List.forall_mem_cons.mpr ⟨qwf104, List.forall_mem_cons.mpr ⟨qwf105, List.forall_mem_cons.mpr ⟨qwf106, List.forall_mem_cons.mpr ⟨qwf107, List.forall_mem_cons.mpr ⟨qwf108, List.forall_mem_cons.mpr ⟨qwf109, List.forall_mem_cons.mpr ⟨qwf110, List.forall_mem_cons.mpr ⟨qwf111, List.forall_mem_cons.mpr ⟨qwf112, List.forall_mem_cons.mpr ⟨qwf113, List.forall_mem_cons.mpr ⟨qwf114, List.forall_mem_cons.mpr ⟨qwf115, List.forall_mem_cons.mpr ⟨qwf116, List.forall_mem_cons.mpr ⟨qwf117, List.forall_mem_cons.mpr ⟨qwf118, List.forall_mem_cons.mpr ⟨qwf119, List.forall_mem_cons.mpr ⟨qwf120, List.forall_mem_cons.mpr ⟨qwf121, List.forall_mem_cons.mpr ⟨qwf122, List.forall_mem_cons.mpr ⟨qwf123, List.forall_mem_cons.mpr ⟨qwf124, fun _ h => absurd h List.not_mem_nil⟩⟩⟩⟩⟩⟩⟩⟩⟩⟩⟩⟩⟩⟩⟩⟩⟩⟩⟩⟩⟩⟩⟩⟩⟩⟩⟩⟩⟩⟩⟩⟩⟩⟩⟩⟩⟩⟩⟩⟩⟩⟩⟩⟩⟩⟩⟩⟩⟩⟩⟩⟩⟩⟩⟩⟩⟩⟩⟩⟩⟩⟩⟩⟩⟩⟩⟩⟩⟩⟩⟩⟩⟩⟩⟩⟩⟩⟩⟩⟩⟩⟩⟩⟩⟩⟩⟩⟩⟩⟩⟩⟩⟩⟩⟩⟩⟩⟩⟩⟩⟩⟩⟩⟩⟩⟩⟩⟩⟩⟩⟩⟩⟩⟩⟩⟩⟩⟩⟩⟩⟩⟩⟩⟩⟩
def q_F (ow idx : Nat) : Option (Nat × Nat × FieldType × Bool) := (q_fT.find? (fun x => x.1 == ow && x.2.1 == idx)).map (fun x => x.2.2)
theorem qF_0_9 : q_F 0 9 = some (0, 0, .int, false) := rfl
theorem qF_6_35 : q_F 6 35 = some (0, 0, .int, false) := rfl
theorem qF_7_76 : q_F 7 76 = some (0, 0, .int, false) := rfl
theorem qF_0_15 : q_F 0 15 = some (0, 1, .int, false) := rfl
theorem qF_6_38 : q_F 6 38 = some (0, 1, .int, false) := rfl
theorem qF_7_311 : q_F 7 311 = some (0, 1, .int, false) := rfl
theorem qF_0_18 : q_F 0 18 = some (0, 2, .int, false) := rfl
theorem qF_6_41 : q_F 6 41 = some (0, 2, .int, false) := rfl
theorem qF_7_314 : q_F 7 314 = some (0, 2, .int, false) := rfl
theorem qF_6_11 : q_F 6 11 = some (6, 0, (.array (.object "StochasticBench$Format")), true) := rfl
theorem qF_7_72 : q_F 7 72 = some (6, 0, (.array (.object "StochasticBench$Format")), true) := rfl
theorem qF_6_17 : q_F 6 17 = some (6, 1, (.array .int), true) := rfl
theorem qF_7_90 : q_F 7 90 = some (6, 1, (.array .int), true) := rfl
theorem qF_6_21 : q_F 6 21 = some (6, 2, (.array .int), true) := rfl
theorem qF_7_94 : q_F 7 94 = some (6, 2, (.array .int), true) := rfl
theorem qF_6_24 : q_F 6 24 = some (6, 3, .int, false) := rfl
theorem qF_7_119 : q_F 7 119 = some (6, 3, .int, false) := rfl
theorem qF_6_28 : q_F 6 28 = some (6, 4, .int, false) := rfl
theorem qF_7_122 : q_F 7 122 = some (6, 4, .int, false) := rfl
theorem qF_6_31 : q_F 6 31 = some (6, 5, .int, false) := rfl
theorem qF_7_125 : q_F 7 125 = some (6, 5, .int, false) := rfl
theorem qF_6_54 : q_F 6 54 = some (6, 6, .int, false) := rfl
theorem qF_7_273 : q_F 7 273 = some (6, 6, .int, false) := rfl
theorem qF_6_69 : q_F 6 69 = some (3, 0, .int, false) := rfl
theorem qF_3_21 : q_F 3 21 = some (3, 0, .int, false) := rfl
theorem qF_7_195 : q_F 7 195 = some (3, 0, .int, false) := rfl
theorem qF_6_72 : q_F 6 72 = some (3, 1, .int, false) := rfl
theorem qF_3_24 : q_F 3 24 = some (3, 1, .int, false) := rfl
theorem qF_6_75 : q_F 6 75 = some (3, 2, .int, false) := rfl
theorem qF_3_27 : q_F 3 27 = some (3, 2, .int, false) := rfl
theorem qF_3_9 : q_F 3 9 = some (3, 3, .int, false) := rfl
theorem qF_6_76 : q_F 6 76 = some (3, 3, .int, false) := rfl
theorem qF_7_230 : q_F 7 230 = some (3, 3, .int, false) := rfl
theorem qF_6_81 : q_F 6 81 = some (3, 4, .int, false) := rfl
theorem qF_3_30 : q_F 3 30 = some (3, 4, .int, false) := rfl
theorem qF_7_207 : q_F 7 207 = some (3, 4, .int, false) := rfl
theorem qF_3_33 : q_F 3 33 = some (3, 5, .int, false) := rfl
theorem qF_7_204 : q_F 7 204 = some (3, 5, .int, false) := rfl
theorem qF_3_36 : q_F 3 36 = some (3, 6, .int, false) := rfl
theorem qF_7_201 : q_F 7 201 = some (3, 6, .int, false) := rfl
theorem qF_6_100 : q_F 6 100 = some (3, 7, .int, false) := rfl
theorem qF_2_50 : q_F 2 50 = some (3, 7, .int, false) := rfl
theorem qF_3_39 : q_F 3 39 = some (3, 7, .int, false) := rfl
theorem qF_7_144 : q_F 7 144 = some (3, 7, .int, false) := rfl
theorem qF_2_43 : q_F 2 43 = some (3, 8, .int, false) := rfl
theorem qF_6_111 : q_F 6 111 = some (3, 8, .int, false) := rfl
theorem qF_3_42 : q_F 3 42 = some (3, 8, .int, false) := rfl
theorem qF_7_210 : q_F 7 210 = some (3, 8, .int, false) := rfl
theorem qF_6_103 : q_F 6 103 = some (3, 9, .long, false) := rfl
theorem qF_2_57 : q_F 2 57 = some (3, 9, .long, false) := rfl
theorem qF_3_45 : q_F 3 45 = some (3, 9, .long, false) := rfl
theorem qF_7_215 : q_F 7 215 = some (3, 9, .long, false) := rfl
theorem qF_3_15 : q_F 3 15 = some (3, 10, .long, false) := rfl
theorem qF_2_9 : q_F 2 9 = some (2, 0, (.array .long), true) := rfl
theorem qF_7_243 : q_F 7 243 = some (2, 0, (.array .long), true) := rfl
theorem qF_2_22 : q_F 2 22 = some (2, 1, .int, false) := rfl
theorem qF_7_185 : q_F 7 185 = some (2, 1, .int, false) := rfl
theorem qF_2_17 : q_F 2 17 = some (2, 2, (.array (.object "StochasticBench$Operation")), true) := rfl
theorem qF_2_34 : q_F 2 34 = some (2, 3, .int, false) := rfl
theorem qF_1_27 : q_F 1 27 = some (1, 0, .int, false) := rfl
theorem qF_7_272 : q_F 7 272 = some (1, 0, .int, false) := rfl
theorem qF_1_11 : q_F 1 11 = some (1, 1, (.array (.object "StochasticBench$Setting")), true) := rfl
theorem qF_1_17 : q_F 1 17 = some (1, 2, (.array (.object "StochasticBench$Ledger")), true) := rfl
theorem qF_1_23 : q_F 1 23 = some (1, 3, .int, false) := rfl
theorem qF_4_27 : q_F 4 27 = some (4, 0, .int, false) := rfl
theorem qF_7_150 : q_F 7 150 = some (4, 0, .int, false) := rfl
theorem qF_4_31 : q_F 4 31 = some (4, 1, .int, false) := rfl
theorem qF_5_57 : q_F 5 57 = some (4, 1, .int, false) := rfl
theorem qF_4_11 : q_F 4 11 = some (4, 2, (.array .int), true) := rfl
theorem qF_5_60 : q_F 5 60 = some (4, 2, (.array .int), true) := rfl
theorem qF_4_15 : q_F 4 15 = some (4, 3, (.array .int), true) := rfl
theorem qF_5_63 : q_F 5 63 = some (4, 3, (.array .int), true) := rfl
theorem qF_4_18 : q_F 4 18 = some (4, 4, (.array .int), true) := rfl
theorem qF_5_66 : q_F 5 66 = some (4, 4, (.array .int), true) := rfl
theorem qF_4_21 : q_F 4 21 = some (4, 5, (.array .int), true) := rfl
theorem qF_4_24 : q_F 4 24 = some (4, 6, (.array .int), true) := rfl
theorem qF_4_34 : q_F 4 34 = some (4, 7, .int, false) := rfl
theorem qF_4_37 : q_F 4 37 = some (4, 8, .int, false) := rfl
theorem qF_4_101 : q_F 4 101 = some (4, 9, .int, false) := rfl
theorem qF_4_80 : q_F 4 80 = some (4, 10, .int, false) := rfl
theorem qF_4_86 : q_F 4 86 = some (4, 11, .int, false) := rfl
theorem qF_4_92 : q_F 4 92 = some (4, 12, .int, false) := rfl
theorem qF_5_27 : q_F 5 27 = some (5, 0, .int, false) := rfl
theorem qF_7_165 : q_F 7 165 = some (5, 0, .int, false) := rfl
theorem qF_5_47 : q_F 5 47 = some (5, 1, .int, false) := rfl
theorem qF_7_162 : q_F 7 162 = some (5, 1, .int, false) := rfl
theorem qF_5_11 : q_F 5 11 = some (5, 2, (.array .int), true) := rfl
theorem qF_5_17 : q_F 5 17 = some (5, 3, (.array .int), true) := rfl
theorem qF_5_50 : q_F 5 50 = some (5, 4, .int, false) := rfl
theorem qF_5_53 : q_F 5 53 = some (5, 5, .int, false) := rfl
theorem qF_7_10 : q_F 7 10 = some (7, 0, (.object "StochasticBench$Setting"), true) := rfl
theorem qF_7_19 : q_F 7 19 = some (7, 1, (.object "StochasticBench$Ledger"), true) := rfl
theorem qF_7_26 : q_F 7 26 = some (7, 2, (.object "StochasticBench$History"), true) := rfl
theorem qF_7_33 : q_F 7 33 = some (7, 3, (.object "StochasticBench$Program"), true) := rfl
theorem qF_7_40 : q_F 7 40 = some (7, 4, (.object "StochasticBench$Runner"), true) := rfl
theorem qF_7_44 : q_F 7 44 = some (7, 5, (.object "StochasticBench$Setting"), true) := rfl
theorem qF_7_50 : q_F 7 50 = some (7, 6, (.object "StochasticBench$Operation"), true) := rfl
theorem qF_7_54 : q_F 7 54 = some (7, 7, .int, false) := rfl
theorem qF_8_7 : q_F 8 7 = some (8, 0, (.array .long), true) := rfl
theorem qF_8_49 : q_F 8 49 = some (8, 1, .int, false) := rfl
theorem qF_8_249 : q_F 8 249 = some (8, 2, .int, false) := rfl
theorem qF_8_13 : q_F 8 13 = some (8, 3, (.array .int), true) := rfl
theorem qF_8_193 : q_F 8 193 = some (8, 4, .int, false) := rfl
theorem qF_8_79 : q_F 8 79 = some (8, 5, .long, false) := rfl
theorem qF_8_83 : q_F 8 83 = some (8, 6, .long, false) := rfl
theorem qF_8_75 : q_F 8 75 = some (8, 7, .boolean, false) := rfl
theorem qF_8_17 : q_F 8 17 = some (8, 8, (.array .long), true) := rfl
theorem qF_8_132 : q_F 8 132 = some (8, 9, .int, false) := rfl
theorem qF_8_135 : q_F 8 135 = some (8, 10, .int, false) := rfl
theorem qF_8_138 : q_F 8 138 = some (8, 11, .int, false) := rfl
theorem qF_8_146 : q_F 8 146 = some (8, 12, .long, false) := rfl
theorem qF_8_143 : q_F 8 143 = some (8, 13, .long, false) := rfl
theorem qF_8_157 : q_F 8 157 = some (8, 14, .long, false) := rfl
theorem qF_8_20 : q_F 8 20 = some (8, 15, (.array .int), true) := rfl
theorem qF_8_23 : q_F 8 23 = some (8, 16, (.array .int), true) := rfl
theorem qF_8_26 : q_F 8 26 = some (8, 17, (.array .int), true) := rfl
theorem qF_8_29 : q_F 8 29 = some (8, 18, (.array .int), true) := rfl
theorem qF_8_32 : q_F 8 32 = some (8, 19, (.array .int), true) := rfl
theorem qF_8_223 : q_F 8 223 = some (8, 20, .int, false) := rfl
theorem qF_8_197 : q_F 8 197 = some (8, 21, .int, false) := rfl
theorem qF_8_205 : q_F 8 205 = some (8, 22, .int, false) := rfl
theorem qF_8_35 : q_F 8 35 = some (8, 23, (.array .int), true) := rfl
theorem qF_8_220 : q_F 8 220 = some (8, 24, .int, false) := rfl
theorem qF_8_38 : q_F 8 38 = some (8, 25, (.array .int), true) := rfl
theorem qF_8_239 : q_F 8 239 = some (8, 26, .int, false) := rfl
/-- new objects -/
def q_nT : List (Nat × Nat × Nat × Nat × List Value) := [(9, 7, 7, 8, [.null, .null, .null, .null, .null, .null, .null, .int 0]), (7, 7, 6, 7, [.null, .null, .null, .int 0, .int 0, .int 0, .int 0]), (6, 9, 0, 3, [.int 0, .int 0, .int 0]), (7, 16, 2, 4, [.null, .int 0, .null, .int 0]), (2, 15, 3, 11, [.int 0, .int 0, .int 0, .int 0, .int 0, .int 0, .int 0, .int 0, .int 0, .long 0, .long 0]), (7, 23, 1, 4, [.int 0, .null, .null, .int 0]), (1, 9, 6, 7, [.null, .null, .null, .int 0, .int 0, .int 0, .int 0]), (1, 15, 2, 4, [.null, .int 0, .null, .int 0]), (7, 30, 4, 13, [.int 0, .int 0, .null, .null, .null, .null, .null, .int 0, .int 0, .int 0, .int 0, .int 0, .int 0]), (7, 37, 5, 6, [.int 0, .int 0, .null, .null, .int 0, .int 0]), (7, 47, 3, 11, [.int 0, .int 0, .int 0, .int 0, .int 0, .int 0, .int 0, .int 0, .int 0, .long 0, .long 0]), (9, 10, 8, 27, [.null, .int 0, .int 0, .null, .int 0, .long 0, .long 0, .int 0, .null, .int 0, .int 0, .int 0, .long 0, .long 0, .long 0, .null, .null, .null, .null, .null, .int 0, .int 0, .int 0, .null, .int 0, .null, .int 0])]
def q_nOk (x : Nat × Nat × Nat × Nat × List Value) : Prop := ∃ (C : String) (T : u_T) (ty : Nat → FieldType), vwCl[x.2.2.1]? = some (C, T, x.2.2.2.1) ∧ Cond.classLink (q_ow x.1) x.2.1 C ∈ q_Ts ∧ Cond.instantiable C x.2.2.2.1 ∈ q_Ts ∧ Cond.initialized C ∈ q_Ts ∧ (∀ k, k < x.2.2.2.1 → parseFieldDescriptor (T k).2.2.1 = some (ty k)) ∧ (∀ j, j < x.2.2.2.1 → defaultValue (ty j) = vp_V x.2.2.2.2 j) ∧ (∀ w ∈ u_ws C T x.2.2.2.1, w ∈ q_Ts)
theorem qwn0 : q_nOk (9, 7, 7, 8, [.null, .null, .null, .null, .null, .null, .null, .int 0]) := ⟨RX7, TX7, tyX7, rfl, q_in 75 (by decide +kernel) rfl, q_in 76 (by decide +kernel) rfl, q_in 64 (by decide +kernel) rfl, tyX7_ok, (by decide +kernel), q_ly7⟩
theorem qwn1 : q_nOk (7, 7, 6, 7, [.null, .null, .null, .int 0, .int 0, .int 0, .int 0]) := ⟨RX6, TX6, tyX6, rfl, q_in 83 (by decide +kernel) rfl, q_in 84 (by decide +kernel) rfl, q_in 65 (by decide +kernel) rfl, tyX6_ok, (by decide +kernel), q_ly6⟩
theorem qwn2 : q_nOk (6, 9, 0, 3, [.int 0, .int 0, .int 0]) := ⟨RX0, TX0, tyX0, rfl, q_in 89 (by decide +kernel) rfl, q_in 91 (by decide +kernel) rfl, q_in 66 (by decide +kernel) rfl, tyX0_ok, (by decide +kernel), q_ly0⟩
theorem qwn3 : q_nOk (7, 16, 2, 4, [.null, .int 0, .null, .int 0]) := ⟨RX2, TX2, tyX2, rfl, q_in 142 (by decide +kernel) rfl, q_in 143 (by decide +kernel) rfl, q_in 67 (by decide +kernel) rfl, tyX2_ok, (by decide +kernel), q_ly2⟩
theorem qwn4 : q_nOk (2, 15, 3, 11, [.int 0, .int 0, .int 0, .int 0, .int 0, .int 0, .int 0, .int 0, .int 0, .long 0, .long 0]) := ⟨RX3, TX3, tyX3, rfl, q_in 148 (by decide +kernel) rfl, q_in 150 (by decide +kernel) rfl, q_in 68 (by decide +kernel) rfl, tyX3_ok, (by decide +kernel), q_ly3⟩
theorem qwn5 : q_nOk (7, 23, 1, 4, [.int 0, .null, .null, .int 0]) := ⟨RX1, TX1, tyX1, rfl, q_in 224 (by decide +kernel) rfl, q_in 225 (by decide +kernel) rfl, q_in 69 (by decide +kernel) rfl, tyX1_ok, (by decide +kernel), q_ly1⟩
theorem qwn6 : q_nOk (1, 9, 6, 7, [.null, .null, .null, .int 0, .int 0, .int 0, .int 0]) := ⟨RX6, TX6, tyX6, rfl, q_in 230 (by decide +kernel) rfl, q_in 84 (by decide +kernel) rfl, q_in 65 (by decide +kernel) rfl, tyX6_ok, (by decide +kernel), q_ly6⟩
theorem qwn7 : q_nOk (1, 15, 2, 4, [.null, .int 0, .null, .int 0]) := ⟨RX2, TX2, tyX2, rfl, q_in 232 (by decide +kernel) rfl, q_in 143 (by decide +kernel) rfl, q_in 67 (by decide +kernel) rfl, tyX2_ok, (by decide +kernel), q_ly2⟩
theorem qwn8 : q_nOk (7, 30, 4, 13, [.int 0, .int 0, .null, .null, .null, .null, .null, .int 0, .int 0, .int 0, .int 0, .int 0, .int 0]) := ⟨RX4, TX4, tyX4, rfl, q_in 250 (by decide +kernel) rfl, q_in 251 (by decide +kernel) rfl, q_in 70 (by decide +kernel) rfl, tyX4_ok, (by decide +kernel), q_ly4⟩
theorem qwn9 : q_nOk (7, 37, 5, 6, [.int 0, .int 0, .null, .null, .int 0, .int 0]) := ⟨RX5, TX5, tyX5, rfl, q_in 301 (by decide +kernel) rfl, q_in 302 (by decide +kernel) rfl, q_in 71 (by decide +kernel) rfl, tyX5_ok, (by decide +kernel), q_ly5⟩
theorem qwn10 : q_nOk (7, 47, 3, 11, [.int 0, .int 0, .int 0, .int 0, .int 0, .int 0, .int 0, .int 0, .int 0, .long 0, .long 0]) := ⟨RX3, TX3, tyX3, rfl, q_in 328 (by decide +kernel) rfl, q_in 150 (by decide +kernel) rfl, q_in 68 (by decide +kernel) rfl, tyX3_ok, (by decide +kernel), q_ly3⟩
theorem qwn11 : q_nOk (9, 10, 8, 27, [.null, .int 0, .int 0, .null, .int 0, .long 0, .long 0, .int 0, .null, .int 0, .int 0, .int 0, .long 0, .long 0, .long 0, .null, .null, .null, .null, .null, .int 0, .int 0, .int 0, .null, .int 0, .null, .int 0]) := ⟨RX8, TX8, tyX8, rfl, q_in 884 (by decide +kernel) rfl, q_in 885 (by decide +kernel) rfl, q_in 72 (by decide +kernel) rfl, tyX8_ok, (by decide +kernel), q_ly8⟩
theorem q_nAll : ∀ x ∈ q_nT, q_nOk x := List.forall_mem_cons.mpr ⟨qwn0, List.forall_mem_cons.mpr ⟨qwn1, List.forall_mem_cons.mpr ⟨qwn2, List.forall_mem_cons.mpr ⟨qwn3, List.forall_mem_cons.mpr ⟨qwn4, List.forall_mem_cons.mpr ⟨qwn5, List.forall_mem_cons.mpr ⟨qwn6, List.forall_mem_cons.mpr ⟨qwn7, List.forall_mem_cons.mpr ⟨qwn8, List.forall_mem_cons.mpr ⟨qwn9, List.forall_mem_cons.mpr ⟨qwn10, List.forall_mem_cons.mpr ⟨qwn11, fun _ h => absurd h List.not_mem_nil⟩⟩⟩⟩⟩⟩⟩⟩⟩⟩⟩⟩
def q_N (ow idx : Nat) : Option (Nat × Nat × List Value) := (q_nT.find? (fun x => x.1 == ow && x.2.1 == idx)).map (fun x => x.2.2)
theorem qN_9_7 : q_N 9 7 = some (7, 8, [.null, .null, .null, .null, .null, .null, .null, .int 0]) := rfl
theorem qN_7_7 : q_N 7 7 = some (6, 7, [.null, .null, .null, .int 0, .int 0, .int 0, .int 0]) := rfl
theorem qN_6_9 : q_N 6 9 = some (0, 3, [.int 0, .int 0, .int 0]) := rfl
theorem qN_7_16 : q_N 7 16 = some (2, 4, [.null, .int 0, .null, .int 0]) := rfl
theorem qN_2_15 : q_N 2 15 = some (3, 11, [.int 0, .int 0, .int 0, .int 0, .int 0, .int 0, .int 0, .int 0, .int 0, .long 0, .long 0]) := rfl
theorem qN_7_23 : q_N 7 23 = some (1, 4, [.int 0, .null, .null, .int 0]) := rfl
theorem qN_1_9 : q_N 1 9 = some (6, 7, [.null, .null, .null, .int 0, .int 0, .int 0, .int 0]) := rfl
theorem qN_1_15 : q_N 1 15 = some (2, 4, [.null, .int 0, .null, .int 0]) := rfl
theorem qN_7_30 : q_N 7 30 = some (4, 13, [.int 0, .int 0, .null, .null, .null, .null, .null, .int 0, .int 0, .int 0, .int 0, .int 0, .int 0]) := rfl
theorem qN_7_37 : q_N 7 37 = some (5, 6, [.int 0, .int 0, .null, .null, .int 0, .int 0]) := rfl
theorem qN_7_47 : q_N 7 47 = some (3, 11, [.int 0, .int 0, .int 0, .int 0, .int 0, .int 0, .int 0, .int 0, .int 0, .long 0, .long 0]) := rfl
theorem qN_9_10 : q_N 9 10 = some (8, 27, [.null, .int 0, .int 0, .null, .int 0, .long 0, .long 0, .int 0, .null, .int 0, .int 0, .int 0, .long 0, .long 0, .long 0, .null, .null, .null, .null, .null, .int 0, .int 0, .int 0, .null, .int 0, .null, .int 0]) := rfl
/-- new arrays of references -/
def q_eln : Nat → String := fun k => match k with
  | 2 => "StochasticBench$Format"
  | 3 => "StochasticBench$Ledger"
  | 4 => "StochasticBench$Operation"
  | 5 => "StochasticBench$Setting"
  | _ => ""
def q_aT : List (Nat × Nat × Nat) := [(7, 7, 5), (6, 9, 2), (7, 16, 3), (2, 15, 4), (1, 9, 5), (1, 15, 3), (7, 47, 4)]
def q_aOk (x : Nat × Nat × Nat) : Prop := Cond.classLink (q_ow x.1) x.2.1 (q_eln x.2.2) ∈ q_Ts ∧ 2 ≤ x.2.2 ∧ x.2.2 ≤ 5
theorem qwa0 : q_aOk (7, 7, 5) := ⟨q_in 83 (by decide +kernel) rfl, by decide, by decide⟩
theorem qwa1 : q_aOk (6, 9, 2) := ⟨q_in 89 (by decide +kernel) rfl, by decide, by decide⟩
theorem qwa2 : q_aOk (7, 16, 3) := ⟨q_in 142 (by decide +kernel) rfl, by decide, by decide⟩
theorem qwa3 : q_aOk (2, 15, 4) := ⟨q_in 148 (by decide +kernel) rfl, by decide, by decide⟩
theorem qwa4 : q_aOk (1, 9, 5) := ⟨q_in 230 (by decide +kernel) rfl, by decide, by decide⟩
theorem qwa5 : q_aOk (1, 15, 3) := ⟨q_in 232 (by decide +kernel) rfl, by decide, by decide⟩
theorem qwa6 : q_aOk (7, 47, 4) := ⟨q_in 328 (by decide +kernel) rfl, by decide, by decide⟩
theorem q_aAll : ∀ x ∈ q_aT, q_aOk x := List.forall_mem_cons.mpr ⟨qwa0, List.forall_mem_cons.mpr ⟨qwa1, List.forall_mem_cons.mpr ⟨qwa2, List.forall_mem_cons.mpr ⟨qwa3, List.forall_mem_cons.mpr ⟨qwa4, List.forall_mem_cons.mpr ⟨qwa5, List.forall_mem_cons.mpr ⟨qwa6, fun _ h => absurd h List.not_mem_nil⟩⟩⟩⟩⟩⟩⟩
def q_A (ow idx : Nat) : Option Nat := (q_aT.find? (fun x => x.1 == ow && x.2.1 == idx)).map (fun x => x.2.2)
theorem qA_7_7 : q_A 7 7 = some 5 := rfl
theorem qA_6_9 : q_A 6 9 = some 2 := rfl
theorem qA_7_16 : q_A 7 16 = some 3 := rfl
theorem qA_2_15 : q_A 2 15 = some 4 := rfl
theorem qA_1_9 : q_A 1 9 = some 5 := rfl
theorem qA_1_15 : q_A 1 15 = some 3 := rfl
theorem qA_7_47 : q_A 7 47 = some 4 := rfl
/-- constants -/
def q_cT : List (Nat × Nat × Int32) := [(7, 68, (-2000000001)), (7, 176, (-1048575)), (7, 175, 1048575), (7, 135, (-2000000002)), (3, 19, 747796405), (3, 20, 73244475), (7, 153, (-2000000003)), (4, 44, (-2000000009)), (7, 158, (-2000000009)), (5, 56, 1000000), (8, 104, (-2000000001)), (8, 119, (-1048575)), (8, 120, 1048575), (8, 186, (-2000000002)), (8, 98, 747796405), (8, 99, 73244475), (8, 196, (-2000000003)), (8, 200, (-2000000009))]
theorem qwc0 : Cond.constant (q_ow 7) 68 (-2000000001) ∈ q_Ts := q_in 365 (by decide +kernel) rfl
theorem qwc1 : Cond.constant (q_ow 7) 176 (-1048575) ∈ q_Ts := q_in 417 (by decide +kernel) rfl
theorem qwc2 : Cond.constant (q_ow 7) 175 1048575 ∈ q_Ts := q_in 418 (by decide +kernel) rfl
theorem qwc3 : Cond.constant (q_ow 7) 135 (-2000000002) ∈ q_Ts := q_in 509 (by decide +kernel) rfl
theorem qwc4 : Cond.constant (q_ow 3) 19 747796405 ∈ q_Ts := q_in 520 (by decide +kernel) rfl
theorem qwc5 : Cond.constant (q_ow 3) 20 73244475 ∈ q_Ts := q_in 521 (by decide +kernel) rfl
theorem qwc6 : Cond.constant (q_ow 7) 153 (-2000000003) ∈ q_Ts := q_in 575 (by decide +kernel) rfl
theorem qwc7 : Cond.constant (q_ow 4) 44 (-2000000009) ∈ q_Ts := q_in 655 (by decide +kernel) rfl
theorem qwc8 : Cond.constant (q_ow 7) 158 (-2000000009) ∈ q_Ts := q_in 660 (by decide +kernel) rfl
theorem qwc9 : Cond.constant (q_ow 5) 56 1000000 ∈ q_Ts := q_in 673 (by decide +kernel) rfl
theorem qwc10 : Cond.constant (q_ow 8) 104 (-2000000001) ∈ q_Ts := q_in 986 (by decide +kernel) rfl
theorem qwc11 : Cond.constant (q_ow 8) 119 (-1048575) ∈ q_Ts := q_in 1010 (by decide +kernel) rfl
theorem qwc12 : Cond.constant (q_ow 8) 120 1048575 ∈ q_Ts := q_in 1011 (by decide +kernel) rfl
theorem qwc13 : Cond.constant (q_ow 8) 186 (-2000000002) ∈ q_Ts := q_in 1074 (by decide +kernel) rfl
theorem qwc14 : Cond.constant (q_ow 8) 98 747796405 ∈ q_Ts := q_in 1095 (by decide +kernel) rfl
theorem qwc15 : Cond.constant (q_ow 8) 99 73244475 ∈ q_Ts := q_in 1096 (by decide +kernel) rfl
theorem qwc16 : Cond.constant (q_ow 8) 196 (-2000000003) ∈ q_Ts := q_in 1130 (by decide +kernel) rfl
theorem qwc17 : Cond.constant (q_ow 8) 200 (-2000000009) ∈ q_Ts := q_in 1143 (by decide +kernel) rfl
theorem q_cAll : ∀ x ∈ q_cT, Cond.constant (q_ow x.1) x.2.1 x.2.2 ∈ q_Ts := List.forall_mem_cons.mpr ⟨qwc0, List.forall_mem_cons.mpr ⟨qwc1, List.forall_mem_cons.mpr ⟨qwc2, List.forall_mem_cons.mpr ⟨qwc3, List.forall_mem_cons.mpr ⟨qwc4, List.forall_mem_cons.mpr ⟨qwc5, List.forall_mem_cons.mpr ⟨qwc6, List.forall_mem_cons.mpr ⟨qwc7, List.forall_mem_cons.mpr ⟨qwc8, List.forall_mem_cons.mpr ⟨qwc9, List.forall_mem_cons.mpr ⟨qwc10, List.forall_mem_cons.mpr ⟨qwc11, List.forall_mem_cons.mpr ⟨qwc12, List.forall_mem_cons.mpr ⟨qwc13, List.forall_mem_cons.mpr ⟨qwc14, List.forall_mem_cons.mpr ⟨qwc15, List.forall_mem_cons.mpr ⟨qwc16, List.forall_mem_cons.mpr ⟨qwc17, fun _ h => absurd h List.not_mem_nil⟩⟩⟩⟩⟩⟩⟩⟩⟩⟩⟩⟩⟩⟩⟩⟩⟩⟩
def q_C (ow idx : Nat) : Option Int32 := (q_cT.find? (fun x => x.1 == ow && x.2.1 == idx)).map (fun x => x.2.2)
theorem qC_7_68 : q_C 7 68 = some (-2000000001) := rfl
theorem qC_7_176 : q_C 7 176 = some (-1048575) := rfl
theorem qC_7_175 : q_C 7 175 = some 1048575 := rfl
theorem qC_7_135 : q_C 7 135 = some (-2000000002) := rfl
theorem qC_3_19 : q_C 3 19 = some 747796405 := rfl
theorem qC_3_20 : q_C 3 20 = some 73244475 := rfl
theorem qC_7_153 : q_C 7 153 = some (-2000000003) := rfl
theorem qC_4_44 : q_C 4 44 = some (-2000000009) := rfl
theorem qC_7_158 : q_C 7 158 = some (-2000000009) := rfl
theorem qC_5_56 : q_C 5 56 = some 1000000 := rfl
theorem qC_8_104 : q_C 8 104 = some (-2000000001) := rfl
theorem qC_8_119 : q_C 8 119 = some (-1048575) := rfl
theorem qC_8_120 : q_C 8 120 = some 1048575 := rfl
theorem qC_8_186 : q_C 8 186 = some (-2000000002) := rfl
theorem qC_8_98 : q_C 8 98 = some 747796405 := rfl
theorem qC_8_99 : q_C 8 99 = some 73244475 := rfl
theorem qC_8_196 : q_C 8 196 = some (-2000000003) := rfl
theorem qC_8_200 : q_C 8 200 = some (-2000000009) := rfl
def q_dT : List (Nat × Nat × Int64) := [(3, 84, 2), (7, 213, (-2000000001)), (7, 249, 2147483647), (7, 279, 18432), (7, 281, 31), (3, 97, 31), (8, 41, 4), (8, 43, (-4)), (8, 45, 3), (8, 47, 8), (8, 96, 2), (8, 141, 1048576), (8, 160, 64), (8, 267, (-2000000009)), (8, 259, 1000), (8, 261, 100), (8, 263, 10), (8, 265, (-2000000001)), (8, 278, 2147483647), (8, 300, 18432), (8, 302, 31)]
theorem qwd0 : Cond.constantLong (q_ow 3) 84 2 ∈ q_Ts := q_in 468 (by decide +kernel) rfl
theorem qwd1 : Cond.constantLong (q_ow 7) 213 (-2000000001) ∈ q_Ts := q_in 755 (by decide +kernel) rfl
theorem qwd2 : Cond.constantLong (q_ow 7) 249 2147483647 ∈ q_Ts := q_in 806 (by decide +kernel) rfl
theorem qwd3 : Cond.constantLong (q_ow 7) 279 18432 ∈ q_Ts := q_in 871 (by decide +kernel) rfl
theorem qwd4 : Cond.constantLong (q_ow 7) 281 31 ∈ q_Ts := q_in 872 (by decide +kernel) rfl
theorem qwd5 : Cond.constantLong (q_ow 3) 97 31 ∈ q_Ts := q_in 882 (by decide +kernel) rfl
theorem qwd6 : Cond.constantLong (q_ow 8) 41 4 ∈ q_Ts := q_in 890 (by decide +kernel) rfl
theorem qwd7 : Cond.constantLong (q_ow 8) 43 (-4) ∈ q_Ts := q_in 891 (by decide +kernel) rfl
theorem qwd8 : Cond.constantLong (q_ow 8) 45 3 ∈ q_Ts := q_in 892 (by decide +kernel) rfl
theorem qwd9 : Cond.constantLong (q_ow 8) 47 8 ∈ q_Ts := q_in 893 (by decide +kernel) rfl
theorem qwd10 : Cond.constantLong (q_ow 8) 96 2 ∈ q_Ts := q_in 1045 (by decide +kernel) rfl
theorem qwd11 : Cond.constantLong (q_ow 8) 141 1048576 ∈ q_Ts := q_in 1091 (by decide +kernel) rfl
theorem qwd12 : Cond.constantLong (q_ow 8) 160 64 ∈ q_Ts := q_in 1101 (by decide +kernel) rfl
theorem qwd13 : Cond.constantLong (q_ow 8) 267 (-2000000009) ∈ q_Ts := q_in 1121 (by decide +kernel) rfl
theorem qwd14 : Cond.constantLong (q_ow 8) 259 1000 ∈ q_Ts := q_in 1224 (by decide +kernel) rfl
theorem qwd15 : Cond.constantLong (q_ow 8) 261 100 ∈ q_Ts := q_in 1225 (by decide +kernel) rfl
theorem qwd16 : Cond.constantLong (q_ow 8) 263 10 ∈ q_Ts := q_in 1226 (by decide +kernel) rfl
theorem qwd17 : Cond.constantLong (q_ow 8) 265 (-2000000001) ∈ q_Ts := q_in 1247 (by decide +kernel) rfl
theorem qwd18 : Cond.constantLong (q_ow 8) 278 2147483647 ∈ q_Ts := q_in 1288 (by decide +kernel) rfl
theorem qwd19 : Cond.constantLong (q_ow 8) 300 18432 ∈ q_Ts := q_in 1344 (by decide +kernel) rfl
theorem qwd20 : Cond.constantLong (q_ow 8) 302 31 ∈ q_Ts := q_in 1345 (by decide +kernel) rfl
theorem q_dAll : ∀ x ∈ q_dT, Cond.constantLong (q_ow x.1) x.2.1 x.2.2 ∈ q_Ts := List.forall_mem_cons.mpr ⟨qwd0, List.forall_mem_cons.mpr ⟨qwd1, List.forall_mem_cons.mpr ⟨qwd2, List.forall_mem_cons.mpr ⟨qwd3, List.forall_mem_cons.mpr ⟨qwd4, List.forall_mem_cons.mpr ⟨qwd5, List.forall_mem_cons.mpr ⟨qwd6, List.forall_mem_cons.mpr ⟨qwd7, List.forall_mem_cons.mpr ⟨qwd8, List.forall_mem_cons.mpr ⟨qwd9, List.forall_mem_cons.mpr ⟨qwd10, List.forall_mem_cons.mpr ⟨qwd11, List.forall_mem_cons.mpr ⟨qwd12, List.forall_mem_cons.mpr ⟨qwd13, List.forall_mem_cons.mpr ⟨qwd14, List.forall_mem_cons.mpr ⟨qwd15, List.forall_mem_cons.mpr ⟨qwd16, List.forall_mem_cons.mpr ⟨qwd17, List.forall_mem_cons.mpr ⟨qwd18, List.forall_mem_cons.mpr ⟨qwd19, List.forall_mem_cons.mpr ⟨qwd20, fun _ h => absurd h List.not_mem_nil⟩⟩⟩⟩⟩⟩⟩⟩⟩⟩⟩⟩⟩⟩⟩⟩⟩⟩⟩⟩⟩
def q_D (ow idx : Nat) : Option Int64 := (q_dT.find? (fun x => x.1 == ow && x.2.1 == idx)).map (fun x => x.2.2)
theorem qD_3_84 : q_D 3 84 = some 2 := rfl
theorem qD_7_213 : q_D 7 213 = some (-2000000001) := rfl
theorem qD_7_249 : q_D 7 249 = some 2147483647 := rfl
theorem qD_7_279 : q_D 7 279 = some 18432 := rfl
theorem qD_7_281 : q_D 7 281 = some 31 := rfl
theorem qD_3_97 : q_D 3 97 = some 31 := rfl
theorem qD_8_41 : q_D 8 41 = some 4 := rfl
theorem qD_8_43 : q_D 8 43 = some (-4) := rfl
theorem qD_8_45 : q_D 8 45 = some 3 := rfl
theorem qD_8_47 : q_D 8 47 = some 8 := rfl
theorem qD_8_96 : q_D 8 96 = some 2 := rfl
theorem qD_8_141 : q_D 8 141 = some 1048576 := rfl
theorem qD_8_160 : q_D 8 160 = some 64 := rfl
theorem qD_8_267 : q_D 8 267 = some (-2000000009) := rfl
theorem qD_8_259 : q_D 8 259 = some 1000 := rfl
theorem qD_8_261 : q_D 8 261 = some 100 := rfl
theorem qD_8_263 : q_D 8 263 = some 10 := rfl
theorem qD_8_265 : q_D 8 265 = some (-2000000001) := rfl
theorem qD_8_278 : q_D 8 278 = some 2147483647 := rfl
theorem qD_8_300 : q_D 8 300 = some 18432 := rfl
theorem qD_8_302 : q_D 8 302 = some 31 := rfl
def q_nest : List (String × Nat × MethodName × String) := [(RX6, 34, yX0_init, "StochasticBench"), (RX2, 21, yX3_init, "StochasticBench"), (RX7, 32, yX4_init, "StochasticBench"), (RX7, 39, yX5_init, "StochasticBench"), (RX7, 49, yX3_init, "StochasticBench")]
def q_over : List String := ["StochasticBench$Format", "StochasticBench$Operation", "StochasticBench$Setting", "StochasticBench$Ledger"]
theorem q_nestIn : ∀ x ∈ q_nest, Cond.methodLinkNest x.1 x.2.1 x.2.2.1 x.2.2.2 ∈ lw_tbl := List.forall_mem_cons.mpr ⟨List.mem_of_getElem? (i := 92) (by decide +kernel), List.forall_mem_cons.mpr ⟨List.mem_of_getElem? (i := 151) (by decide +kernel), List.forall_mem_cons.mpr ⟨List.mem_of_getElem? (i := 252) (by decide +kernel), List.forall_mem_cons.mpr ⟨List.mem_of_getElem? (i := 303) (by decide +kernel), List.forall_mem_cons.mpr ⟨List.mem_of_getElem? (i := 329) (by decide +kernel), fun _ h => absurd h List.not_mem_nil⟩⟩⟩⟩⟩
theorem q_overIn : ∀ C ∈ q_over, Cond.arrayOver (.object C) ∈ lw_tbl := List.forall_mem_cons.mpr ⟨List.mem_of_getElem? (i := 90) (by decide +kernel), List.forall_mem_cons.mpr ⟨List.mem_of_getElem? (i := 149) (by decide +kernel), List.forall_mem_cons.mpr ⟨List.mem_of_getElem? (i := 231) (by decide +kernel), List.forall_mem_cons.mpr ⟨List.mem_of_getElem? (i := 233) (by decide +kernel), fun _ h => absurd h List.not_mem_nil⟩⟩⟩⟩
theorem q_aci : Cond.arrayClass .int ∈ q_Ts := q_in 112 (by decide +kernel) rfl
theorem q_acj : Cond.arrayClass .long ∈ q_Ts := q_in 208 (by decide +kernel) rfl
