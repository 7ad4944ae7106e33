/-! the two worlds: the class, the reference -/
def TX0 : u_T := fun k => match k with
  | 0 => ("SnowRoad$Sheet", "items", "[I", true)
  | 1 => ("SnowRoad$Sheet", "form", "I", false)
  | _ => ("SnowRoad$Sheet", "size", "I", false)
def tyX0 : Nat → FieldType := fun k => match k with
  | 0 => .array .int
  | 1 => .int
  | _ => .int
theorem nmX0 : ∀ a, a < 3 → ∀ b, b < 3 → a ≠ b → (TX0 a).2.1 ≠ (TX0 b).2.1 := by decide +kernel
theorem tyX0_ok : ∀ k, k < 3 → parseFieldDescriptor (TX0 k).2.2.1 = some (tyX0 k) := by decide +kernel
theorem inz_0 : ∀ q ∈ u_ws "SnowRoad$Sheet" TX0 3, q ∈ zt := by
  intro q hq
  have h : u_ws "SnowRoad$Sheet" TX0 3 = [203, 205, 207].filterMap (fun i => tables_1[i]?) := by decide +kernel
  have hg : (u_ws "SnowRoad$Sheet" TX0 3).all goodWord = true := by decide +kernel
  have h1 := List.all_eq_true.mp hg q hq
  rw [h] at hq
  obtain ⟨i, -, hi⟩ := List.mem_filterMap.mp hq
  exact zt_mem i hi h1
def TX1 : u_T := fun k => match k with
  | 0 => ("SnowRoad$Sightings", "places", "[I", true)
  | 1 => ("SnowRoad$Sightings", "depths", "[I", true)
  | _ => ("SnowRoad$Sightings", "size", "I", false)
def tyX1 : Nat → FieldType := fun k => match k with
  | 0 => .array .int
  | 1 => .array .int
  | _ => .int
theorem nmX1 : ∀ a, a < 3 → ∀ b, b < 3 → a ≠ b → (TX1 a).2.1 ≠ (TX1 b).2.1 := by decide +kernel
theorem tyX1_ok : ∀ k, k < 3 → parseFieldDescriptor (TX1 k).2.2.1 = some (tyX1 k) := by decide +kernel
theorem inz_1 : ∀ q ∈ u_ws "SnowRoad$Sightings" TX1 3, q ∈ zt := by
  intro q hq
  have h : u_ws "SnowRoad$Sightings" TX1 3 = [102, 104, 106].filterMap (fun i => tables_1[i]?) := by decide +kernel
  have hg : (u_ws "SnowRoad$Sightings" TX1 3).all goodWord = true := by decide +kernel
  have h1 := List.all_eq_true.mp hg q hq
  rw [h] at hq
  obtain ⟨i, -, hi⟩ := List.mem_filterMap.mp hq
  exact zt_mem i hi h1
def TX2 : u_T := fun k => match k with
  | 0 => ("SnowRoad$Text", "kind", "I", true)
  | 1 => ("SnowRoad$Text", "bytes", "[I", true)
  | _ => ("SnowRoad$Text", "length", "I", false)
def tyX2 : Nat → FieldType := fun k => match k with
  | 0 => .int
  | 1 => .array .int
  | _ => .int
theorem nmX2 : ∀ a, a < 3 → ∀ b, b < 3 → a ≠ b → (TX2 a).2.1 ≠ (TX2 b).2.1 := by decide +kernel
theorem tyX2_ok : ∀ k, k < 3 → parseFieldDescriptor (TX2 k).2.2.1 = some (tyX2 k) := by decide +kernel
theorem inz_2 : ∀ q ∈ u_ws "SnowRoad$Text" TX2 3, q ∈ zt := by
  intro q hq
  have h : u_ws "SnowRoad$Text" TX2 3 = [185, 187, 189].filterMap (fun i => tables_1[i]?) := by decide +kernel
  have hg : (u_ws "SnowRoad$Text" TX2 3).all goodWord = true := by decide +kernel
  have h1 := List.all_eq_true.mp hg q hq
  rw [h] at hq
  obtain ⟨i, -, hi⟩ := List.mem_filterMap.mp hq
  exact zt_mem i hi h1
def TX3 : u_T := fun k => match k with
  | 0 => ("SnowRoad$Told", "lands", "[I", true)
  | 1 => ("SnowRoad$Told", "falls", "[I", false)
  | 2 => ("SnowRoad$Told", "ploughs", "I", false)
  | 3 => ("SnowRoad$Told", "begins", "[I", true)
  | 4 => ("SnowRoad$Told", "strong", "[I", true)
  | 5 => ("SnowRoad$Told", "ways", "[I", true)
  | 6 => ("SnowRoad$Told", "buses", "I", false)
  | 7 => ("SnowRoad$Told", "starts", "[I", true)
  | 8 => ("SnowRoad$Told", "windSpeed", "I", false)
  | 9 => ("SnowRoad$Told", "events", "I", false)
  | 10 => ("SnowRoad$Told", "kinds", "[I", true)
  | 11 => ("SnowRoad$Told", "hours", "[I", true)
  | _ => ("SnowRoad$Told", "numbers", "[I", true)
def tyX3 : Nat → FieldType := fun k => match k with
  | 0 => .array .int
  | 1 => .array .int
  | 2 => .int
  | 3 => .array .int
  | 4 => .array .int
  | 5 => .array .int
  | 6 => .int
  | 7 => .array .int
  | 8 => .int
  | 9 => .int
  | 10 => .array .int
  | 11 => .array .int
  | _ => .array .int
theorem nmX3 : ∀ a, a < 13 → ∀ b, b < 13 → a ≠ b → (TX3 a).2.1 ≠ (TX3 b).2.1 := by decide +kernel
theorem tyX3_ok : ∀ k, k < 13 → parseFieldDescriptor (TX3 k).2.2.1 = some (tyX3 k) := by decide +kernel
theorem inz_3 : ∀ q ∈ u_ws "SnowRoad$Told" TX3 13, q ∈ zt := by
  intro q hq
  have h : u_ws "SnowRoad$Told" TX3 13 = [64, 66, 68, 70, 72, 74, 76, 78, 80, 82, 84, 86, 88].filterMap (fun i => tables_1[i]?) := by decide +kernel
  have hg : (u_ws "SnowRoad$Told" TX3 13).all goodWord = true := by decide +kernel
  have h1 := List.all_eq_true.mp hg q hq
  rw [h] at hq
  obtain ⟨i, -, hi⟩ := List.mem_filterMap.mp hq
  exact zt_mem i hi h1
def TX4 : u_T := fun k => match k with
  | 0 => ("SnowRoad$Winter", "depths", "[I", true)
  | 1 => ("SnowRoad$Winter", "ploughMiles", "[I", true)
  | 2 => ("SnowRoad$Winter", "ploughWays", "[I", true)
  | 3 => ("SnowRoad$Winter", "clearings", "[I", true)
  | 4 => ("SnowRoad$Winter", "clearedInAll", "[I", true)
  | 5 => ("SnowRoad$Winter", "stuckHours", "[I", true)
  | 6 => ("SnowRoad$Winter", "winds", "[I", true)
  | 7 => ("SnowRoad$Winter", "broken", "[I", true)
  | 8 => ("SnowRoad$Winter", "thawHours", "I", false)
  | 9 => ("SnowRoad$Winter", "now", "[I", true)
  | 10 => ("SnowRoad$Winter", "mileNow", "[I", true)
  | 11 => ("SnowRoad$Winter", "wayNow", "[I", true)
  | 12 => ("SnowRoad$Winter", "busMile", "I", false)
  | 13 => ("SnowRoad$Winter", "busOver", "I", false)
  | _ => ("SnowRoad$Winter", "busWaited", "I", false)
def tyX4 : Nat → FieldType := fun k => match k with
  | 0 => .array .int
  | 1 => .array .int
  | 2 => .array .int
  | 3 => .array .int
  | 4 => .array .int
  | 5 => .array .int
  | 6 => .array .int
  | 7 => .array .int
  | 8 => .int
  | 9 => .array .int
  | 10 => .array .int
  | 11 => .array .int
  | 12 => .int
  | 13 => .int
  | _ => .int
theorem nmX4 : ∀ a, a < 15 → ∀ b, b < 15 → a ≠ b → (TX4 a).2.1 ≠ (TX4 b).2.1 := by decide +kernel
theorem tyX4_ok : ∀ k, k < 15 → parseFieldDescriptor (TX4 k).2.2.1 = some (tyX4 k) := by decide +kernel
theorem inz_4 : ∀ q ∈ u_ws "SnowRoad$Winter" TX4 15, q ∈ zt := by
  intro q hq
  have h : u_ws "SnowRoad$Winter" TX4 15 = [142, 144, 146, 148, 150, 152, 154, 156, 158, 160, 162, 164, 166, 168, 170].filterMap (fun i => tables_1[i]?) := by decide +kernel
  have hg : (u_ws "SnowRoad$Winter" TX4 15).all goodWord = true := by decide +kernel
  have h1 := List.all_eq_true.mp hg q hq
  rw [h] at hq
  obtain ⟨i, -, hi⟩ := List.mem_filterMap.mp hq
  exact zt_mem i hi h1
def TX5 : u_T := fun k => match k with
  | 0 => ("SnowRoad", "texts", "[LSnowRoad$Text;", true)
  | 1 => ("SnowRoad", "told", "LSnowRoad$Told;", true)
  | 2 => ("SnowRoad", "sightings", "LSnowRoad$Sightings;", true)
  | 3 => ("SnowRoad", "sheets", "[LSnowRoad$Sheet;", true)
  | 4 => ("SnowRoad", "finding", "I", false)
  | 5 => ("SnowRoad", "kept", "LSnowRoad$Winter;", true)
  | 6 => ("SnowRoad", "trial", "LSnowRoad$Winter;", true)
  | 7 => ("SnowRoad", "keptIsOld", "Z", false)
  | 8 => ("SnowRoad", "choices", "[I", true)
  | 9 => ("SnowRoad", "choicesAreOld", "Z", false)
  | 10 => ("SnowRoad", "drawnFall", "[I", true)
  | _ => ("SnowRoad", "drifts", "[I", true)
def tyX5 : Nat → FieldType := fun k => match k with
  | 0 => .array (.object "SnowRoad$Text")
  | 1 => .object "SnowRoad$Told"
  | 2 => .object "SnowRoad$Sightings"
  | 3 => .array (.object "SnowRoad$Sheet")
  | 4 => .int
  | 5 => .object "SnowRoad$Winter"
  | 6 => .object "SnowRoad$Winter"
  | 7 => .boolean
  | 8 => .array .int
  | 9 => .boolean
  | 10 => .array .int
  | _ => .array .int
theorem nmX5 : ∀ a, a < 12 → ∀ b, b < 12 → a ≠ b → (TX5 a).2.1 ≠ (TX5 b).2.1 := by decide +kernel
theorem tyX5_ok : ∀ k, k < 12 → parseFieldDescriptor (TX5 k).2.2.1 = some (tyX5 k) := by decide +kernel
theorem inz_5 : ∀ q ∈ u_ws "SnowRoad" TX5 12, q ∈ zt := by
  intro q hq
  have h : u_ws "SnowRoad" TX5 12 = [222, 224, 226, 228, 230, 232, 234, 236, 238, 240, 242, 244].filterMap (fun i => tables_1[i]?) := by decide +kernel
  have hg : (u_ws "SnowRoad" TX5 12).all goodWord = true := by decide +kernel
  have h1 := List.all_eq_true.mp hg q hq
  rw [h] at hq
  obtain ⟨i, -, hi⟩ := List.mem_filterMap.mp hq
  exact zt_mem i hi h1
def TX6 : u_T := fun k => match k with
  | 0 => ("SnowRoadModel", "forms", "[I", true)
  | 1 => ("SnowRoadModel", "sizes", "[I", true)
  | 2 => ("SnowRoadModel", "items", "[I", true)
  | 3 => ("SnowRoadModel", "moved", "[I", true)
  | 4 => ("SnowRoadModel", "latest", "I", false)
  | 5 => ("SnowRoadModel", "bytes", "[I", true)
  | 6 => ("SnowRoadModel", "typed", "[I", true)
  | 7 => ("SnowRoadModel", "land", "[I", true)
  | 8 => ("SnowRoadModel", "fall", "[I", true)
  | 9 => ("SnowRoadModel", "ploughs", "I", false)
  | 10 => ("SnowRoadModel", "plough", "[I", true)
  | 11 => ("SnowRoadModel", "buses", "I", false)
  | 12 => ("SnowRoadModel", "bus", "[I", true)
  | 13 => ("SnowRoadModel", "wind", "I", false)
  | 14 => ("SnowRoadModel", "events", "I", false)
  | 15 => ("SnowRoadModel", "event", "[I", true)
  | 16 => ("SnowRoadModel", "gone", "I", false)
  | 17 => ("SnowRoadModel", "depth", "[I", true)
  | 18 => ("SnowRoadModel", "carried", "[I", true)
  | 19 => ("SnowRoadModel", "mile", "[I", true)
  | 20 => ("SnowRoadModel", "way", "[I", true)
  | 21 => ("SnowRoadModel", "scooped", "[I", true)
  | 22 => ("SnowRoadModel", "stuck", "[I", true)
  | 23 => ("SnowRoadModel", "ride", "[I", true)
  | 24 => ("SnowRoadModel", "overIn", "[I", true)
  | 25 => ("SnowRoadModel", "waited", "[I", true)
  | 26 => ("SnowRoadModel", "depthBy", "[I", true)
  | 27 => ("SnowRoadModel", "mileBy", "[I", true)
  | 28 => ("SnowRoadModel", "wayBy", "[I", true)
  | 29 => ("SnowRoadModel", "scoopBy", "[I", true)
  | 30 => ("SnowRoadModel", "rideBy", "[I", true)
  | 31 => ("SnowRoadModel", "sights", "I", false)
  | 32 => ("SnowRoadModel", "sight", "[I", true)
  | 33 => ("SnowRoadModel", "ways", "[I", true)
  | _ => ("SnowRoadModel", "drawn", "I", false)
def tyX6 : Nat → FieldType := fun k => match k with
  | 0 => .array .int
  | 1 => .array .int
  | 2 => .array .int
  | 3 => .array .int
  | 4 => .int
  | 5 => .array .int
  | 6 => .array .int
  | 7 => .array .int
  | 8 => .array .int
  | 9 => .int
  | 10 => .array .int
  | 11 => .int
  | 12 => .array .int
  | 13 => .int
  | 14 => .int
  | 15 => .array .int
  | 16 => .int
  | 17 => .array .int
  | 18 => .array .int
  | 19 => .array .int
  | 20 => .array .int
  | 21 => .array .int
  | 22 => .array .int
  | 23 => .array .int
  | 24 => .array .int
  | 25 => .array .int
  | 26 => .array .int
  | 27 => .array .int
  | 28 => .array .int
  | 29 => .array .int
  | 30 => .array .int
  | 31 => .int
  | 32 => .array .int
  | 33 => .array .int
  | _ => .int
theorem nmX6 : ∀ a, a < 35 → ∀ b, b < 35 → a ≠ b → (TX6 a).2.1 ≠ (TX6 b).2.1 := by decide +kernel
theorem tyX6_ok : ∀ k, k < 35 → parseFieldDescriptor (TX6 k).2.2.1 = some (tyX6 k) := by decide +kernel
theorem inz_6 : ∀ q ∈ u_ws "SnowRoadModel" TX6 35, q ∈ zt := by
  intro q hq
  have h : u_ws "SnowRoadModel" TX6 35 = [707, 709, 711, 713, 715, 717, 719, 721, 723, 725, 727, 729, 731, 733, 735, 737, 739, 741, 743, 745, 747, 749, 751, 753, 755, 757, 759, 761, 763, 765, 767, 769, 771, 773, 775].filterMap (fun i => tables_1[i]?) := by decide +kernel
  have hg : (u_ws "SnowRoadModel" TX6 35).all goodWord = true := by decide +kernel
  have h1 := List.all_eq_true.mp hg q hq
  rw [h] at hq
  obtain ⟨i, -, hi⟩ := List.mem_filterMap.mp hq
  exact zt_mem i hi h1
abbrev cls7 : List vw_C := [("SnowRoad$Sheet", TX0, 3), ("SnowRoad$Sightings", TX1, 3), ("SnowRoad$Text", TX2, 3), ("SnowRoad$Told", TX3, 13), ("SnowRoad$Winter", TX4, 15), ("SnowRoad", TX5, 12), ("SnowRoadModel", TX6, 35)]
abbrev GX : Type := va_G × (Nat → Nat) × ClassId × ClassId × ClassId × Nat
def ax (g : GX) (k : Nat) : Nat := g.2.1 k
def fz (M : Mem) : Nat := if M 59 0 = 0 then 12 else 57
def tlen (t : Nat) : Nat := if t = 0 then 12 else if t = 1 then 24 else if t = 2 then 15 else 8
def wX (g : GX) (M : Mem) : va_W := [
  (ax g 0, .inr (5, [.ref (ax g 1), .ref (ax g 10), .ref (ax g 20), .ref (ax g 23), .int (M 0 4), .ref (ax g 32), .ref (ax g 44), .int (M 0 7), .ref (ax g 56), .int (M 0 9), .ref (ax g 57), .ref (ax g 58)])),
  (ax g 1, .inl (g.2.2.2.1, 4, .inr (.inr (.inr (.inr (fun i => some (ax g (2 + 2 * i)))))))),
  (ax g 2, .inr (2, [.int (M 2 0), .ref (ax g 3), .int (M 2 2)])),
  (ax g 3, .inl (g.2.2.1, 12, .inl (M 3))),
  (ax g 4, .inr (2, [.int (M 4 0), .ref (ax g 5), .int (M 4 2)])),
  (ax g 5, .inl (g.2.2.1, 24, .inl (M 5))),
  (ax g 6, .inr (2, [.int (M 6 0), .ref (ax g 7), .int (M 6 2)])),
  (ax g 7, .inl (g.2.2.1, 15, .inl (M 7))),
  (ax g 8, .inr (2, [.int (M 8 0), .ref (ax g 9), .int (M 8 2)])),
  (ax g 9, .inl (g.2.2.1, 8, .inl (M 9))),
  (ax g 10, .inr (3, [.ref (ax g 11), .ref (ax g (fz M)), .int (M 10 2), .ref (ax g 13), .ref (ax g 14), .ref (ax g 15), .int (M 10 6), .ref (ax g 16), .int (M 10 8), .int (M 10 9), .ref (ax g 17), .ref (ax g 18), .ref (ax g 19)])),
  (ax g 11, .inl (g.2.2.1, 12, .inl (M 11))),
  (ax g 12, .inl (g.2.2.1, 24, .inl (M 12))),
  (ax g 13, .inl (g.2.2.1, 4, .inl (M 13))),
  (ax g 14, .inl (g.2.2.1, 4, .inl (M 14))),
  (ax g 15, .inl (g.2.2.1, 4, .inl (M 15))),
  (ax g 16, .inl (g.2.2.1, 8, .inl (M 16))),
  (ax g 17, .inl (g.2.2.1, 8, .inl (M 17))),
  (ax g 18, .inl (g.2.2.1, 8, .inl (M 18))),
  (ax g 19, .inl (g.2.2.1, 8, .inl (M 19))),
  (ax g 20, .inr (1, [.ref (ax g 21), .ref (ax g 22), .int (M 20 2)])),
  (ax g 21, .inl (g.2.2.1, 8, .inl (M 21))),
  (ax g 22, .inl (g.2.2.1, 8, .inl (M 22))),
  (ax g 23, .inl (g.2.2.2.2.1, 4, .inr (.inr (.inr (.inr (fun i => some (ax g (24 + 2 * i)))))))),
  (ax g 24, .inr (0, [.ref (ax g 25), .int (M 24 1), .int (M 24 2)])),
  (ax g 25, .inl (g.2.2.1, 60, .inl (M 25))),
  (ax g 26, .inr (0, [.ref (ax g 27), .int (M 26 1), .int (M 26 2)])),
  (ax g 27, .inl (g.2.2.1, 60, .inl (M 27))),
  (ax g 28, .inr (0, [.ref (ax g 29), .int (M 28 1), .int (M 28 2)])),
  (ax g 29, .inl (g.2.2.1, 60, .inl (M 29))),
  (ax g 30, .inr (0, [.ref (ax g 31), .int (M 30 1), .int (M 30 2)])),
  (ax g 31, .inl (g.2.2.1, 60, .inl (M 31))),
  (ax g 32, .inr (4, [.ref (ax g 33), .ref (ax g 34), .ref (ax g 35), .ref (ax g 36), .ref (ax g 37), .ref (ax g 38), .ref (ax g 39), .ref (ax g 40), .int (M 32 8), .ref (ax g 41), .ref (ax g 42), .ref (ax g 43), .int (M 32 12), .int (M 32 13), .int (M 32 14)])),
  (ax g 33, .inl (g.2.2.1, 288, .inl (M 33))),
  (ax g 34, .inl (g.2.2.1, 96, .inl (M 34))),
  (ax g 35, .inl (g.2.2.1, 96, .inl (M 35))),
  (ax g 36, .inl (g.2.2.1, 96, .inl (M 36))),
  (ax g 37, .inl (g.2.2.1, 4, .inl (M 37))),
  (ax g 38, .inl (g.2.2.1, 4, .inl (M 38))),
  (ax g 39, .inl (g.2.2.1, 24, .inl (M 39))),
  (ax g 40, .inl (g.2.2.1, 24, .inl (M 40))),
  (ax g 41, .inl (g.2.2.1, 12, .inl (M 41))),
  (ax g 42, .inl (g.2.2.1, 4, .inl (M 42))),
  (ax g 43, .inl (g.2.2.1, 4, .inl (M 43))),
  (ax g 44, .inr (4, [.ref (ax g 45), .ref (ax g 46), .ref (ax g 47), .ref (ax g 48), .ref (ax g 49), .ref (ax g 50), .ref (ax g 51), .ref (ax g 52), .int (M 44 8), .ref (ax g 53), .ref (ax g 54), .ref (ax g 55), .int (M 44 12), .int (M 44 13), .int (M 44 14)])),
  (ax g 45, .inl (g.2.2.1, 288, .inl (M 45))),
  (ax g 46, .inl (g.2.2.1, 96, .inl (M 46))),
  (ax g 47, .inl (g.2.2.1, 96, .inl (M 47))),
  (ax g 48, .inl (g.2.2.1, 96, .inl (M 48))),
  (ax g 49, .inl (g.2.2.1, 4, .inl (M 49))),
  (ax g 50, .inl (g.2.2.1, 4, .inl (M 50))),
  (ax g 51, .inl (g.2.2.1, 24, .inl (M 51))),
  (ax g 52, .inl (g.2.2.1, 24, .inl (M 52))),
  (ax g 53, .inl (g.2.2.1, 12, .inl (M 53))),
  (ax g 54, .inl (g.2.2.1, 4, .inl (M 54))),
  (ax g 55, .inl (g.2.2.1, 4, .inl (M 55))),
  (ax g 56, .inl (g.2.2.1, 72, .inl (M 56))),
  (ax g 57, .inl (g.2.2.1, 24, .inl (M 57))),
  (ax g 58, .inl (g.2.2.1, 2592, .inl (M 58)))]
def wR (g : GX) (M : Mem) : va_W := [
  (ax g 0, .inr (6, [.ref (ax g 1), .ref (ax g 2), .ref (ax g 3), .ref (ax g 4), .int (M 0 4), .ref (ax g 5), .ref (ax g 6), .ref (ax g 7), .ref (ax g 8), .int (M 0 9), .ref (ax g 9), .int (M 0 11), .ref (ax g 10), .int (M 0 13), .int (M 0 14), .ref (ax g 11), .int (M 0 16), .ref (ax g 12), .ref (ax g 13), .ref (ax g 14), .ref (ax g 15), .ref (ax g 16), .ref (ax g 17), .ref (ax g 18), .ref (ax g 19), .ref (ax g 20), .ref (ax g 21), .ref (ax g 22), .ref (ax g 23), .ref (ax g 24), .ref (ax g 25), .int (M 0 31), .ref (ax g 26), .ref (ax g 27), .int (M 0 34)])),
  (ax g 1, .inl (g.2.2.1, 4, .inl (M 1))),
  (ax g 2, .inl (g.2.2.1, 4, .inl (M 2))),
  (ax g 3, .inl (g.2.2.1, 240, .inl (M 3))),
  (ax g 4, .inl (g.2.2.1, 60, .inl (M 4))),
  (ax g 5, .inl (g.2.2.1, 96, .inl (M 5))),
  (ax g 6, .inl (g.2.2.1, 4, .inl (M 6))),
  (ax g 7, .inl (g.2.2.1, 12, .inl (M 7))),
  (ax g 8, .inl (g.2.2.1, 24, .inl (M 8))),
  (ax g 9, .inl (g.2.2.1, 12, .inl (M 9))),
  (ax g 10, .inl (g.2.2.1, 8, .inl (M 10))),
  (ax g 11, .inl (g.2.2.1, 24, .inl (M 11))),
  (ax g 12, .inl (g.2.2.1, 12, .inl (M 12))),
  (ax g 13, .inl (g.2.2.1, 12, .inl (M 13))),
  (ax g 14, .inl (g.2.2.1, 4, .inl (M 14))),
  (ax g 15, .inl (g.2.2.1, 4, .inl (M 15))),
  (ax g 16, .inl (g.2.2.1, 4, .inl (M 16))),
  (ax g 17, .inl (g.2.2.1, 4, .inl (M 17))),
  (ax g 18, .inl (g.2.2.1, 8, .inl (M 18))),
  (ax g 19, .inl (g.2.2.1, 8, .inl (M 19))),
  (ax g 20, .inl (g.2.2.1, 8, .inl (M 20))),
  (ax g 21, .inl (g.2.2.1, 288, .inl (M 21))),
  (ax g 22, .inl (g.2.2.1, 96, .inl (M 22))),
  (ax g 23, .inl (g.2.2.1, 96, .inl (M 23))),
  (ax g 24, .inl (g.2.2.1, 96, .inl (M 24))),
  (ax g 25, .inl (g.2.2.1, 192, .inl (M 25))),
  (ax g 26, .inl (g.2.2.1, 24, .inl (M 26))),
  (ax g 27, .inl (g.2.2.1, 2880, .inl (M 27)))]
def oX (g : GX) : ZW := (g.1, cls7, [(g.2.2.1, .int), (g.2.2.2.1, .object "SnowRoad$Text"), (g.2.2.2.2.1, .object "SnowRoad$Sheet")], wX g, g.2.2.2.2.2)
theorem oX_ok (g : GX) : Zok (oX g) := by
  intro M M' k
  have h : ∀ M : Mem, ((oX g).2.2.2.1 M).map Prod.fst = (List.range 59).map (ax g) := fun M => rfl
  rw [← List.getElem?_map, ← List.getElem?_map, h M, h M']
def oR (g : GX) : ZW := (g.1, cls7, [(g.2.2.1, .int), (g.2.2.2.1, .object "SnowRoad$Text"), (g.2.2.2.2.1, .object "SnowRoad$Sheet")], wR g, g.2.2.2.2.2)
theorem oR_ok (g : GX) : Zok (oR g) := by
  intro M M' k
  have h : ∀ M : Mem, ((oR g).2.2.2.1 M).map Prod.fst = (List.range 28).map (ax g) := fun M => rfl
  rw [← List.getElem?_map, ← List.getElem?_map, h M, h M']
theorem le_XH {g : GX} {M : Mem} {s : Nat} (hs : s < 4) : ((oX g).2.2.2.1 M)[(24 + 2 * s)]? = some (ax g (24 + 2 * s), .inr (0, [.ref (ax g (25 + 2 * s)), .int (M (24 + 2 * s) 1), .int (M (24 + 2 * s) 2)])) := by
  rcases s with _ | _ | _ | _ | s
  · rfl
  · rfl
  · rfl
  · rfl
  · omega
theorem sf_XH_1 {g : GX} {M : Mem} {s : Nat} (hs : s < 4) (v : Int32) : ((oX g).2.2.2.1 M).set (24 + 2 * s) (ax g (24 + 2 * s), .inr (0, (([.ref (ax g (25 + 2 * s)), .int (M (24 + 2 * s) 1), .int (M (24 + 2 * s) 2)] : List Value).set 1 (.int v)))) = (oX g).2.2.2.1 (upm M (24 + 2 * s) 1 v) := by
  rcases s with _ | _ | _ | _ | s
  · rfl
  · rfl
  · rfl
  · rfl
  · omega
theorem sf_XH_2 {g : GX} {M : Mem} {s : Nat} (hs : s < 4) (v : Int32) : ((oX g).2.2.2.1 M).set (24 + 2 * s) (ax g (24 + 2 * s), .inr (0, (([.ref (ax g (25 + 2 * s)), .int (M (24 + 2 * s) 1), .int (M (24 + 2 * s) 2)] : List Value).set 2 (.int v)))) = (oX g).2.2.2.1 (upm M (24 + 2 * s) 2 v) := by
  rcases s with _ | _ | _ | _ | s
  · rfl
  · rfl
  · rfl
  · rfl
  · omega
theorem le_XG {g : GX} {M : Mem}  : ((oX g).2.2.2.1 M)[20]? = some (ax g 20, .inr (1, [.ref (ax g 21), .ref (ax g 22), .int (M 20 2)])) := by rfl
theorem sf_XG_2 {g : GX} {M : Mem}  (v : Int32) : ((oX g).2.2.2.1 M).set 20 (ax g 20, .inr (1, (([.ref (ax g 21), .ref (ax g 22), .int (M 20 2)] : List Value).set 2 (.int v)))) = (oX g).2.2.2.1 (upm M 20 2 v) := by rfl
theorem le_XT {g : GX} {M : Mem} {t : Nat} (ht : t < 4) : ((oX g).2.2.2.1 M)[(2 + 2 * t)]? = some (ax g (2 + 2 * t), .inr (2, [.int (M (2 + 2 * t) 0), .ref (ax g (3 + 2 * t)), .int (M (2 + 2 * t) 2)])) := by
  rcases t with _ | _ | _ | _ | t
  · rfl
  · rfl
  · rfl
  · rfl
  · omega
theorem sf_XT_2 {g : GX} {M : Mem} {t : Nat} (ht : t < 4) (v : Int32) : ((oX g).2.2.2.1 M).set (2 + 2 * t) (ax g (2 + 2 * t), .inr (2, (([.int (M (2 + 2 * t) 0), .ref (ax g (3 + 2 * t)), .int (M (2 + 2 * t) 2)] : List Value).set 2 (.int v)))) = (oX g).2.2.2.1 (upm M (2 + 2 * t) 2 v) := by
  rcases t with _ | _ | _ | _ | t
  · rfl
  · rfl
  · rfl
  · rfl
  · omega
theorem le_XO {g : GX} {M : Mem}  : ((oX g).2.2.2.1 M)[10]? = some (ax g 10, .inr (3, [.ref (ax g 11), .ref (ax g (fz M)), .int (M 10 2), .ref (ax g 13), .ref (ax g 14), .ref (ax g 15), .int (M 10 6), .ref (ax g 16), .int (M 10 8), .int (M 10 9), .ref (ax g 17), .ref (ax g 18), .ref (ax g 19)])) := by rfl
theorem sf_XO_2 {g : GX} {M : Mem}  (v : Int32) : ((oX g).2.2.2.1 M).set 10 (ax g 10, .inr (3, (([.ref (ax g 11), .ref (ax g (fz M)), .int (M 10 2), .ref (ax g 13), .ref (ax g 14), .ref (ax g 15), .int (M 10 6), .ref (ax g 16), .int (M 10 8), .int (M 10 9), .ref (ax g 17), .ref (ax g 18), .ref (ax g 19)] : List Value).set 2 (.int v)))) = (oX g).2.2.2.1 (upm M 10 2 v) := by rfl
theorem sf_XO_6 {g : GX} {M : Mem}  (v : Int32) : ((oX g).2.2.2.1 M).set 10 (ax g 10, .inr (3, (([.ref (ax g 11), .ref (ax g (fz M)), .int (M 10 2), .ref (ax g 13), .ref (ax g 14), .ref (ax g 15), .int (M 10 6), .ref (ax g 16), .int (M 10 8), .int (M 10 9), .ref (ax g 17), .ref (ax g 18), .ref (ax g 19)] : List Value).set 6 (.int v)))) = (oX g).2.2.2.1 (upm M 10 6 v) := by rfl
theorem sf_XO_8 {g : GX} {M : Mem}  (v : Int32) : ((oX g).2.2.2.1 M).set 10 (ax g 10, .inr (3, (([.ref (ax g 11), .ref (ax g (fz M)), .int (M 10 2), .ref (ax g 13), .ref (ax g 14), .ref (ax g 15), .int (M 10 6), .ref (ax g 16), .int (M 10 8), .int (M 10 9), .ref (ax g 17), .ref (ax g 18), .ref (ax g 19)] : List Value).set 8 (.int v)))) = (oX g).2.2.2.1 (upm M 10 8 v) := by rfl
theorem sf_XO_9 {g : GX} {M : Mem}  (v : Int32) : ((oX g).2.2.2.1 M).set 10 (ax g 10, .inr (3, (([.ref (ax g 11), .ref (ax g (fz M)), .int (M 10 2), .ref (ax g 13), .ref (ax g 14), .ref (ax g 15), .int (M 10 6), .ref (ax g 16), .int (M 10 8), .int (M 10 9), .ref (ax g 17), .ref (ax g 18), .ref (ax g 19)] : List Value).set 9 (.int v)))) = (oX g).2.2.2.1 (upm M 10 9 v) := by rfl
theorem le_XW {g : GX} {M : Mem} {w : Nat} (hw : w = 32 ∨ w = 44) : ((oX g).2.2.2.1 M)[w]? = some (ax g w, .inr (4, [.ref (ax g (w + 1)), .ref (ax g (w + 2)), .ref (ax g (w + 3)), .ref (ax g (w + 4)), .ref (ax g (w + 5)), .ref (ax g (w + 6)), .ref (ax g (w + 7)), .ref (ax g (w + 8)), .int (M w 8), .ref (ax g (w + 9)), .ref (ax g (w + 10)), .ref (ax g (w + 11)), .int (M w 12), .int (M w 13), .int (M w 14)])) := by
  rcases hw with rfl | rfl
  · rfl
  · rfl
theorem sf_XW_8 {g : GX} {M : Mem} {w : Nat} (hw : w = 32 ∨ w = 44) (v : Int32) : ((oX g).2.2.2.1 M).set w (ax g w, .inr (4, (([.ref (ax g (w + 1)), .ref (ax g (w + 2)), .ref (ax g (w + 3)), .ref (ax g (w + 4)), .ref (ax g (w + 5)), .ref (ax g (w + 6)), .ref (ax g (w + 7)), .ref (ax g (w + 8)), .int (M w 8), .ref (ax g (w + 9)), .ref (ax g (w + 10)), .ref (ax g (w + 11)), .int (M w 12), .int (M w 13), .int (M w 14)] : List Value).set 8 (.int v)))) = (oX g).2.2.2.1 (upm M w 8 v) := by
  rcases hw with rfl | rfl
  · rfl
  · rfl
theorem sf_XW_12 {g : GX} {M : Mem} {w : Nat} (hw : w = 32 ∨ w = 44) (v : Int32) : ((oX g).2.2.2.1 M).set w (ax g w, .inr (4, (([.ref (ax g (w + 1)), .ref (ax g (w + 2)), .ref (ax g (w + 3)), .ref (ax g (w + 4)), .ref (ax g (w + 5)), .ref (ax g (w + 6)), .ref (ax g (w + 7)), .ref (ax g (w + 8)), .int (M w 8), .ref (ax g (w + 9)), .ref (ax g (w + 10)), .ref (ax g (w + 11)), .int (M w 12), .int (M w 13), .int (M w 14)] : List Value).set 12 (.int v)))) = (oX g).2.2.2.1 (upm M w 12 v) := by
  rcases hw with rfl | rfl
  · rfl
  · rfl
theorem sf_XW_13 {g : GX} {M : Mem} {w : Nat} (hw : w = 32 ∨ w = 44) (v : Int32) : ((oX g).2.2.2.1 M).set w (ax g w, .inr (4, (([.ref (ax g (w + 1)), .ref (ax g (w + 2)), .ref (ax g (w + 3)), .ref (ax g (w + 4)), .ref (ax g (w + 5)), .ref (ax g (w + 6)), .ref (ax g (w + 7)), .ref (ax g (w + 8)), .int (M w 8), .ref (ax g (w + 9)), .ref (ax g (w + 10)), .ref (ax g (w + 11)), .int (M w 12), .int (M w 13), .int (M w 14)] : List Value).set 13 (.int v)))) = (oX g).2.2.2.1 (upm M w 13 v) := by
  rcases hw with rfl | rfl
  · rfl
  · rfl
theorem sf_XW_14 {g : GX} {M : Mem} {w : Nat} (hw : w = 32 ∨ w = 44) (v : Int32) : ((oX g).2.2.2.1 M).set w (ax g w, .inr (4, (([.ref (ax g (w + 1)), .ref (ax g (w + 2)), .ref (ax g (w + 3)), .ref (ax g (w + 4)), .ref (ax g (w + 5)), .ref (ax g (w + 6)), .ref (ax g (w + 7)), .ref (ax g (w + 8)), .int (M w 8), .ref (ax g (w + 9)), .ref (ax g (w + 10)), .ref (ax g (w + 11)), .int (M w 12), .int (M w 13), .int (M w 14)] : List Value).set 14 (.int v)))) = (oX g).2.2.2.1 (upm M w 14 v) := by
  rcases hw with rfl | rfl
  · rfl
  · rfl
theorem le_X {g : GX} {M : Mem}  : ((oX g).2.2.2.1 M)[0]? = some (ax g 0, .inr (5, [.ref (ax g 1), .ref (ax g 10), .ref (ax g 20), .ref (ax g 23), .int (M 0 4), .ref (ax g 32), .ref (ax g 44), .int (M 0 7), .ref (ax g 56), .int (M 0 9), .ref (ax g 57), .ref (ax g 58)])) := by rfl
theorem sf_X_4 {g : GX} {M : Mem}  (v : Int32) : ((oX g).2.2.2.1 M).set 0 (ax g 0, .inr (5, (([.ref (ax g 1), .ref (ax g 10), .ref (ax g 20), .ref (ax g 23), .int (M 0 4), .ref (ax g 32), .ref (ax g 44), .int (M 0 7), .ref (ax g 56), .int (M 0 9), .ref (ax g 57), .ref (ax g 58)] : List Value).set 4 (.int v)))) = (oX g).2.2.2.1 (upm M 0 4 v) := by rfl
theorem sf_X_7 {g : GX} {M : Mem}  (v : Int32) : ((oX g).2.2.2.1 M).set 0 (ax g 0, .inr (5, (([.ref (ax g 1), .ref (ax g 10), .ref (ax g 20), .ref (ax g 23), .int (M 0 4), .ref (ax g 32), .ref (ax g 44), .int (M 0 7), .ref (ax g 56), .int (M 0 9), .ref (ax g 57), .ref (ax g 58)] : List Value).set 7 (.int v)))) = (oX g).2.2.2.1 (upm M 0 7 v) := by rfl
theorem sf_X_9 {g : GX} {M : Mem}  (v : Int32) : ((oX g).2.2.2.1 M).set 0 (ax g 0, .inr (5, (([.ref (ax g 1), .ref (ax g 10), .ref (ax g 20), .ref (ax g 23), .int (M 0 4), .ref (ax g 32), .ref (ax g 44), .int (M 0 7), .ref (ax g 56), .int (M 0 9), .ref (ax g 57), .ref (ax g 58)] : List Value).set 9 (.int v)))) = (oX g).2.2.2.1 (upm M 0 9 v) := by rfl
theorem le_R {g : GX} {M : Mem}  : ((oR g).2.2.2.1 M)[0]? = some (ax g 0, .inr (6, [.ref (ax g 1), .ref (ax g 2), .ref (ax g 3), .ref (ax g 4), .int (M 0 4), .ref (ax g 5), .ref (ax g 6), .ref (ax g 7), .ref (ax g 8), .int (M 0 9), .ref (ax g 9), .int (M 0 11), .ref (ax g 10), .int (M 0 13), .int (M 0 14), .ref (ax g 11), .int (M 0 16), .ref (ax g 12), .ref (ax g 13), .ref (ax g 14), .ref (ax g 15), .ref (ax g 16), .ref (ax g 17), .ref (ax g 18), .ref (ax g 19), .ref (ax g 20), .ref (ax g 21), .ref (ax g 22), .ref (ax g 23), .ref (ax g 24), .ref (ax g 25), .int (M 0 31), .ref (ax g 26), .ref (ax g 27), .int (M 0 34)])) := by rfl
theorem sf_R_4 {g : GX} {M : Mem}  (v : Int32) : ((oR g).2.2.2.1 M).set 0 (ax g 0, .inr (6, (([.ref (ax g 1), .ref (ax g 2), .ref (ax g 3), .ref (ax g 4), .int (M 0 4), .ref (ax g 5), .ref (ax g 6), .ref (ax g 7), .ref (ax g 8), .int (M 0 9), .ref (ax g 9), .int (M 0 11), .ref (ax g 10), .int (M 0 13), .int (M 0 14), .ref (ax g 11), .int (M 0 16), .ref (ax g 12), .ref (ax g 13), .ref (ax g 14), .ref (ax g 15), .ref (ax g 16), .ref (ax g 17), .ref (ax g 18), .ref (ax g 19), .ref (ax g 20), .ref (ax g 21), .ref (ax g 22), .ref (ax g 23), .ref (ax g 24), .ref (ax g 25), .int (M 0 31), .ref (ax g 26), .ref (ax g 27), .int (M 0 34)] : List Value).set 4 (.int v)))) = (oR g).2.2.2.1 (upm M 0 4 v) := by rfl
theorem sf_R_9 {g : GX} {M : Mem}  (v : Int32) : ((oR g).2.2.2.1 M).set 0 (ax g 0, .inr (6, (([.ref (ax g 1), .ref (ax g 2), .ref (ax g 3), .ref (ax g 4), .int (M 0 4), .ref (ax g 5), .ref (ax g 6), .ref (ax g 7), .ref (ax g 8), .int (M 0 9), .ref (ax g 9), .int (M 0 11), .ref (ax g 10), .int (M 0 13), .int (M 0 14), .ref (ax g 11), .int (M 0 16), .ref (ax g 12), .ref (ax g 13), .ref (ax g 14), .ref (ax g 15), .ref (ax g 16), .ref (ax g 17), .ref (ax g 18), .ref (ax g 19), .ref (ax g 20), .ref (ax g 21), .ref (ax g 22), .ref (ax g 23), .ref (ax g 24), .ref (ax g 25), .int (M 0 31), .ref (ax g 26), .ref (ax g 27), .int (M 0 34)] : List Value).set 9 (.int v)))) = (oR g).2.2.2.1 (upm M 0 9 v) := by rfl
theorem sf_R_11 {g : GX} {M : Mem}  (v : Int32) : ((oR g).2.2.2.1 M).set 0 (ax g 0, .inr (6, (([.ref (ax g 1), .ref (ax g 2), .ref (ax g 3), .ref (ax g 4), .int (M 0 4), .ref (ax g 5), .ref (ax g 6), .ref (ax g 7), .ref (ax g 8), .int (M 0 9), .ref (ax g 9), .int (M 0 11), .ref (ax g 10), .int (M 0 13), .int (M 0 14), .ref (ax g 11), .int (M 0 16), .ref (ax g 12), .ref (ax g 13), .ref (ax g 14), .ref (ax g 15), .ref (ax g 16), .ref (ax g 17), .ref (ax g 18), .ref (ax g 19), .ref (ax g 20), .ref (ax g 21), .ref (ax g 22), .ref (ax g 23), .ref (ax g 24), .ref (ax g 25), .int (M 0 31), .ref (ax g 26), .ref (ax g 27), .int (M 0 34)] : List Value).set 11 (.int v)))) = (oR g).2.2.2.1 (upm M 0 11 v) := by rfl
theorem sf_R_13 {g : GX} {M : Mem}  (v : Int32) : ((oR g).2.2.2.1 M).set 0 (ax g 0, .inr (6, (([.ref (ax g 1), .ref (ax g 2), .ref (ax g 3), .ref (ax g 4), .int (M 0 4), .ref (ax g 5), .ref (ax g 6), .ref (ax g 7), .ref (ax g 8), .int (M 0 9), .ref (ax g 9), .int (M 0 11), .ref (ax g 10), .int (M 0 13), .int (M 0 14), .ref (ax g 11), .int (M 0 16), .ref (ax g 12), .ref (ax g 13), .ref (ax g 14), .ref (ax g 15), .ref (ax g 16), .ref (ax g 17), .ref (ax g 18), .ref (ax g 19), .ref (ax g 20), .ref (ax g 21), .ref (ax g 22), .ref (ax g 23), .ref (ax g 24), .ref (ax g 25), .int (M 0 31), .ref (ax g 26), .ref (ax g 27), .int (M 0 34)] : List Value).set 13 (.int v)))) = (oR g).2.2.2.1 (upm M 0 13 v) := by rfl
theorem sf_R_14 {g : GX} {M : Mem}  (v : Int32) : ((oR g).2.2.2.1 M).set 0 (ax g 0, .inr (6, (([.ref (ax g 1), .ref (ax g 2), .ref (ax g 3), .ref (ax g 4), .int (M 0 4), .ref (ax g 5), .ref (ax g 6), .ref (ax g 7), .ref (ax g 8), .int (M 0 9), .ref (ax g 9), .int (M 0 11), .ref (ax g 10), .int (M 0 13), .int (M 0 14), .ref (ax g 11), .int (M 0 16), .ref (ax g 12), .ref (ax g 13), .ref (ax g 14), .ref (ax g 15), .ref (ax g 16), .ref (ax g 17), .ref (ax g 18), .ref (ax g 19), .ref (ax g 20), .ref (ax g 21), .ref (ax g 22), .ref (ax g 23), .ref (ax g 24), .ref (ax g 25), .int (M 0 31), .ref (ax g 26), .ref (ax g 27), .int (M 0 34)] : List Value).set 14 (.int v)))) = (oR g).2.2.2.1 (upm M 0 14 v) := by rfl
theorem sf_R_16 {g : GX} {M : Mem}  (v : Int32) : ((oR g).2.2.2.1 M).set 0 (ax g 0, .inr (6, (([.ref (ax g 1), .ref (ax g 2), .ref (ax g 3), .ref (ax g 4), .int (M 0 4), .ref (ax g 5), .ref (ax g 6), .ref (ax g 7), .ref (ax g 8), .int (M 0 9), .ref (ax g 9), .int (M 0 11), .ref (ax g 10), .int (M 0 13), .int (M 0 14), .ref (ax g 11), .int (M 0 16), .ref (ax g 12), .ref (ax g 13), .ref (ax g 14), .ref (ax g 15), .ref (ax g 16), .ref (ax g 17), .ref (ax g 18), .ref (ax g 19), .ref (ax g 20), .ref (ax g 21), .ref (ax g 22), .ref (ax g 23), .ref (ax g 24), .ref (ax g 25), .int (M 0 31), .ref (ax g 26), .ref (ax g 27), .int (M 0 34)] : List Value).set 16 (.int v)))) = (oR g).2.2.2.1 (upm M 0 16 v) := by rfl
theorem sf_R_31 {g : GX} {M : Mem}  (v : Int32) : ((oR g).2.2.2.1 M).set 0 (ax g 0, .inr (6, (([.ref (ax g 1), .ref (ax g 2), .ref (ax g 3), .ref (ax g 4), .int (M 0 4), .ref (ax g 5), .ref (ax g 6), .ref (ax g 7), .ref (ax g 8), .int (M 0 9), .ref (ax g 9), .int (M 0 11), .ref (ax g 10), .int (M 0 13), .int (M 0 14), .ref (ax g 11), .int (M 0 16), .ref (ax g 12), .ref (ax g 13), .ref (ax g 14), .ref (ax g 15), .ref (ax g 16), .ref (ax g 17), .ref (ax g 18), .ref (ax g 19), .ref (ax g 20), .ref (ax g 21), .ref (ax g 22), .ref (ax g 23), .ref (ax g 24), .ref (ax g 25), .int (M 0 31), .ref (ax g 26), .ref (ax g 27), .int (M 0 34)] : List Value).set 31 (.int v)))) = (oR g).2.2.2.1 (upm M 0 31 v) := by rfl
theorem sf_R_34 {g : GX} {M : Mem}  (v : Int32) : ((oR g).2.2.2.1 M).set 0 (ax g 0, .inr (6, (([.ref (ax g 1), .ref (ax g 2), .ref (ax g 3), .ref (ax g 4), .int (M 0 4), .ref (ax g 5), .ref (ax g 6), .ref (ax g 7), .ref (ax g 8), .int (M 0 9), .ref (ax g 9), .int (M 0 11), .ref (ax g 10), .int (M 0 13), .int (M 0 14), .ref (ax g 11), .int (M 0 16), .ref (ax g 12), .ref (ax g 13), .ref (ax g 14), .ref (ax g 15), .ref (ax g 16), .ref (ax g 17), .ref (ax g 18), .ref (ax g 19), .ref (ax g 20), .ref (ax g 21), .ref (ax g 22), .ref (ax g 23), .ref (ax g 24), .ref (ax g 25), .int (M 0 31), .ref (ax g 26), .ref (ax g 27), .int (M 0 34)] : List Value).set 34 (.int v)))) = (oR g).2.2.2.1 (upm M 0 34 v) := by rfl
theorem zar_r1 {g : GX} : Zar (oR g) g.2.2.1 1 (ax g 1) 4 := ⟨rfl, fun _ => rfl, fun _ _ => rfl⟩
theorem zar_r10 {g : GX} : Zar (oR g) g.2.2.1 10 (ax g 10) 8 := ⟨rfl, fun _ => rfl, fun _ _ => rfl⟩
theorem zar_r11 {g : GX} : Zar (oR g) g.2.2.1 11 (ax g 11) 24 := ⟨rfl, fun _ => rfl, fun _ _ => rfl⟩
theorem zar_r12 {g : GX} : Zar (oR g) g.2.2.1 12 (ax g 12) 12 := ⟨rfl, fun _ => rfl, fun _ _ => rfl⟩
theorem zar_r13 {g : GX} : Zar (oR g) g.2.2.1 13 (ax g 13) 12 := ⟨rfl, fun _ => rfl, fun _ _ => rfl⟩
theorem zar_r14 {g : GX} : Zar (oR g) g.2.2.1 14 (ax g 14) 4 := ⟨rfl, fun _ => rfl, fun _ _ => rfl⟩
theorem zar_r15 {g : GX} : Zar (oR g) g.2.2.1 15 (ax g 15) 4 := ⟨rfl, fun _ => rfl, fun _ _ => rfl⟩
theorem zar_r16 {g : GX} : Zar (oR g) g.2.2.1 16 (ax g 16) 4 := ⟨rfl, fun _ => rfl, fun _ _ => rfl⟩
theorem zar_r17 {g : GX} : Zar (oR g) g.2.2.1 17 (ax g 17) 4 := ⟨rfl, fun _ => rfl, fun _ _ => rfl⟩
theorem zar_r18 {g : GX} : Zar (oR g) g.2.2.1 18 (ax g 18) 8 := ⟨rfl, fun _ => rfl, fun _ _ => rfl⟩
theorem zar_r19 {g : GX} : Zar (oR g) g.2.2.1 19 (ax g 19) 8 := ⟨rfl, fun _ => rfl, fun _ _ => rfl⟩
theorem zar_r2 {g : GX} : Zar (oR g) g.2.2.1 2 (ax g 2) 4 := ⟨rfl, fun _ => rfl, fun _ _ => rfl⟩
theorem zar_r20 {g : GX} : Zar (oR g) g.2.2.1 20 (ax g 20) 8 := ⟨rfl, fun _ => rfl, fun _ _ => rfl⟩
theorem zar_r21 {g : GX} : Zar (oR g) g.2.2.1 21 (ax g 21) 288 := ⟨rfl, fun _ => rfl, fun _ _ => rfl⟩
theorem zar_r22 {g : GX} : Zar (oR g) g.2.2.1 22 (ax g 22) 96 := ⟨rfl, fun _ => rfl, fun _ _ => rfl⟩
theorem zar_r23 {g : GX} : Zar (oR g) g.2.2.1 23 (ax g 23) 96 := ⟨rfl, fun _ => rfl, fun _ _ => rfl⟩
theorem zar_r24 {g : GX} : Zar (oR g) g.2.2.1 24 (ax g 24) 96 := ⟨rfl, fun _ => rfl, fun _ _ => rfl⟩
theorem zar_r25 {g : GX} : Zar (oR g) g.2.2.1 25 (ax g 25) 192 := ⟨rfl, fun _ => rfl, fun _ _ => rfl⟩
theorem zar_r26 {g : GX} : Zar (oR g) g.2.2.1 26 (ax g 26) 24 := ⟨rfl, fun _ => rfl, fun _ _ => rfl⟩
theorem zar_r27 {g : GX} : Zar (oR g) g.2.2.1 27 (ax g 27) 2880 := ⟨rfl, fun _ => rfl, fun _ _ => rfl⟩
theorem zar_r3 {g : GX} : Zar (oR g) g.2.2.1 3 (ax g 3) 240 := ⟨rfl, fun _ => rfl, fun _ _ => rfl⟩
theorem zar_r4 {g : GX} : Zar (oR g) g.2.2.1 4 (ax g 4) 60 := ⟨rfl, fun _ => rfl, fun _ _ => rfl⟩
theorem zar_r5 {g : GX} : Zar (oR g) g.2.2.1 5 (ax g 5) 96 := ⟨rfl, fun _ => rfl, fun _ _ => rfl⟩
theorem zar_r6 {g : GX} : Zar (oR g) g.2.2.1 6 (ax g 6) 4 := ⟨rfl, fun _ => rfl, fun _ _ => rfl⟩
theorem zar_r7 {g : GX} : Zar (oR g) g.2.2.1 7 (ax g 7) 12 := ⟨rfl, fun _ => rfl, fun _ _ => rfl⟩
theorem zar_r8 {g : GX} : Zar (oR g) g.2.2.1 8 (ax g 8) 24 := ⟨rfl, fun _ => rfl, fun _ _ => rfl⟩
theorem zar_r9 {g : GX} : Zar (oR g) g.2.2.1 9 (ax g 9) 12 := ⟨rfl, fun _ => rfl, fun _ _ => rfl⟩
theorem zar_x11 {g : GX} : Zar (oX g) g.2.2.1 11 (ax g 11) 12 := ⟨rfl, fun _ => rfl, fun _ _ => rfl⟩
theorem zar_x13 {g : GX} : Zar (oX g) g.2.2.1 13 (ax g 13) 4 := ⟨rfl, fun _ => rfl, fun _ _ => rfl⟩
theorem zar_x14 {g : GX} : Zar (oX g) g.2.2.1 14 (ax g 14) 4 := ⟨rfl, fun _ => rfl, fun _ _ => rfl⟩
theorem zar_x15 {g : GX} : Zar (oX g) g.2.2.1 15 (ax g 15) 4 := ⟨rfl, fun _ => rfl, fun _ _ => rfl⟩
theorem zar_x16 {g : GX} : Zar (oX g) g.2.2.1 16 (ax g 16) 8 := ⟨rfl, fun _ => rfl, fun _ _ => rfl⟩
theorem zar_x17 {g : GX} : Zar (oX g) g.2.2.1 17 (ax g 17) 8 := ⟨rfl, fun _ => rfl, fun _ _ => rfl⟩
theorem zar_x18 {g : GX} : Zar (oX g) g.2.2.1 18 (ax g 18) 8 := ⟨rfl, fun _ => rfl, fun _ _ => rfl⟩
theorem zar_x19 {g : GX} : Zar (oX g) g.2.2.1 19 (ax g 19) 8 := ⟨rfl, fun _ => rfl, fun _ _ => rfl⟩
theorem zar_x21 {g : GX} : Zar (oX g) g.2.2.1 21 (ax g 21) 8 := ⟨rfl, fun _ => rfl, fun _ _ => rfl⟩
theorem zar_x22 {g : GX} : Zar (oX g) g.2.2.1 22 (ax g 22) 8 := ⟨rfl, fun _ => rfl, fun _ _ => rfl⟩
theorem zar_x56 {g : GX} : Zar (oX g) g.2.2.1 56 (ax g 56) 72 := ⟨rfl, fun _ => rfl, fun _ _ => rfl⟩
theorem zar_x57 {g : GX} : Zar (oX g) g.2.2.1 57 (ax g 57) 24 := ⟨rfl, fun _ => rfl, fun _ _ => rfl⟩
theorem zar_x58 {g : GX} : Zar (oX g) g.2.2.1 58 (ax g 58) 2592 := ⟨rfl, fun _ => rfl, fun _ _ => rfl⟩
theorem zar_xF {g : GX} {M0 : Mem} : Zar (oX g) g.2.2.1 (fz M0) (ax g (fz M0)) 24 := by
  unfold fz
  split
  · exact ⟨rfl, fun _ => rfl, fun _ _ => rfl⟩
  · exact ⟨rfl, fun _ => rfl, fun _ _ => rfl⟩
theorem zar_xSI {g : GX} {s : Nat} (hs : s < 4) : Zar (oX g) g.2.2.1 (25 + 2 * s) (ax g (25 + 2 * s)) 60 := by
  rcases s with _ | _ | _ | _ | s
  · exact ⟨rfl, fun _ => rfl, fun _ _ => rfl⟩
  · exact ⟨rfl, fun _ => rfl, fun _ _ => rfl⟩
  · exact ⟨rfl, fun _ => rfl, fun _ _ => rfl⟩
  · exact ⟨rfl, fun _ => rfl, fun _ _ => rfl⟩
  · omega
theorem zar_xTB {g : GX} {t : Nat} (ht : t < 4) : Zar (oX g) g.2.2.1 (3 + 2 * t) (ax g (3 + 2 * t)) (tlen t) := by
  rcases t with _ | _ | _ | _ | t
  · exact ⟨rfl, fun _ => rfl, fun _ _ => rfl⟩
  · exact ⟨rfl, fun _ => rfl, fun _ _ => rfl⟩
  · exact ⟨rfl, fun _ => rfl, fun _ _ => rfl⟩
  · exact ⟨rfl, fun _ => rfl, fun _ _ => rfl⟩
  · omega
theorem zar_xW1 {g : GX} {w : Nat} (hw : w = 32 ∨ w = 44) : Zar (oX g) g.2.2.1 (w + 1) (ax g (w + 1)) 288 := by
  rcases hw with rfl | rfl
  · exact ⟨rfl, fun _ => rfl, fun _ _ => rfl⟩
  · exact ⟨rfl, fun _ => rfl, fun _ _ => rfl⟩
theorem zar_xW10 {g : GX} {w : Nat} (hw : w = 32 ∨ w = 44) : Zar (oX g) g.2.2.1 (w + 10) (ax g (w + 10)) 4 := by
  rcases hw with rfl | rfl
  · exact ⟨rfl, fun _ => rfl, fun _ _ => rfl⟩
  · exact ⟨rfl, fun _ => rfl, fun _ _ => rfl⟩
theorem zar_xW11 {g : GX} {w : Nat} (hw : w = 32 ∨ w = 44) : Zar (oX g) g.2.2.1 (w + 11) (ax g (w + 11)) 4 := by
  rcases hw with rfl | rfl
  · exact ⟨rfl, fun _ => rfl, fun _ _ => rfl⟩
  · exact ⟨rfl, fun _ => rfl, fun _ _ => rfl⟩
theorem zar_xW2 {g : GX} {w : Nat} (hw : w = 32 ∨ w = 44) : Zar (oX g) g.2.2.1 (w + 2) (ax g (w + 2)) 96 := by
  rcases hw with rfl | rfl
  · exact ⟨rfl, fun _ => rfl, fun _ _ => rfl⟩
  · exact ⟨rfl, fun _ => rfl, fun _ _ => rfl⟩
theorem zar_xW3 {g : GX} {w : Nat} (hw : w = 32 ∨ w = 44) : Zar (oX g) g.2.2.1 (w + 3) (ax g (w + 3)) 96 := by
  rcases hw with rfl | rfl
  · exact ⟨rfl, fun _ => rfl, fun _ _ => rfl⟩
  · exact ⟨rfl, fun _ => rfl, fun _ _ => rfl⟩
theorem zar_xW4 {g : GX} {w : Nat} (hw : w = 32 ∨ w = 44) : Zar (oX g) g.2.2.1 (w + 4) (ax g (w + 4)) 96 := by
  rcases hw with rfl | rfl
  · exact ⟨rfl, fun _ => rfl, fun _ _ => rfl⟩
  · exact ⟨rfl, fun _ => rfl, fun _ _ => rfl⟩
theorem zar_xW5 {g : GX} {w : Nat} (hw : w = 32 ∨ w = 44) : Zar (oX g) g.2.2.1 (w + 5) (ax g (w + 5)) 4 := by
  rcases hw with rfl | rfl
  · exact ⟨rfl, fun _ => rfl, fun _ _ => rfl⟩
  · exact ⟨rfl, fun _ => rfl, fun _ _ => rfl⟩
theorem zar_xW6 {g : GX} {w : Nat} (hw : w = 32 ∨ w = 44) : Zar (oX g) g.2.2.1 (w + 6) (ax g (w + 6)) 4 := by
  rcases hw with rfl | rfl
  · exact ⟨rfl, fun _ => rfl, fun _ _ => rfl⟩
  · exact ⟨rfl, fun _ => rfl, fun _ _ => rfl⟩
theorem zar_xW7 {g : GX} {w : Nat} (hw : w = 32 ∨ w = 44) : Zar (oX g) g.2.2.1 (w + 7) (ax g (w + 7)) 24 := by
  rcases hw with rfl | rfl
  · exact ⟨rfl, fun _ => rfl, fun _ _ => rfl⟩
  · exact ⟨rfl, fun _ => rfl, fun _ _ => rfl⟩
theorem zar_xW8 {g : GX} {w : Nat} (hw : w = 32 ∨ w = 44) : Zar (oX g) g.2.2.1 (w + 8) (ax g (w + 8)) 24 := by
  rcases hw with rfl | rfl
  · exact ⟨rfl, fun _ => rfl, fun _ _ => rfl⟩
  · exact ⟨rfl, fun _ => rfl, fun _ _ => rfl⟩
theorem zar_xW9 {g : GX} {w : Nat} (hw : w = 32 ∨ w = 44) : Zar (oX g) g.2.2.1 (w + 9) (ax g (w + 9)) 12 := by
  rcases hw with rfl | rfl
  · exact ⟨rfl, fun _ => rfl, fun _ _ => rfl⟩
  · exact ⟨rfl, fun _ => rfl, fun _ _ => rfl⟩
section ZF
variable {X : ZX} {cc : ByteArray} {nL : Nat} {rm : Room} {g : GX} {M : Mem} {pc : Nat} {lv : List (Nat × Value)} {st : List Value}
theorem gf_X_11  (C : Zc X cc "SnowRoad" nL rm (oX g)) (hd : decode cc pc = .ok (.getfield 11, 3)) (kk : Zj X nL (oX g) M (pc + 3) lv (.ref (ax g 1) :: st)) : Zj X nL (oX g) M pc lv (.ref (ax g 0) :: st) := z_get C inz_5 0 (le_X) rfl 0 rfl tw_210 rfl rfl hd kk
theorem gf_X_18  (C : Zc X cc "SnowRoad" nL rm (oX g)) (hd : decode cc pc = .ok (.getfield 18, 3)) (kk : Zj X nL (oX g) M (pc + 3) lv (.ref (ax g 10) :: st)) : Zj X nL (oX g) M pc lv (.ref (ax g 0) :: st) := z_get C inz_5 0 (le_X) rfl 1 rfl tw_211 rfl rfl hd kk
theorem gf_X_25  (C : Zc X cc "SnowRoad" nL rm (oX g)) (hd : decode cc pc = .ok (.getfield 25, 3)) (kk : Zj X nL (oX g) M (pc + 3) lv (.ref (ax g 20) :: st)) : Zj X nL (oX g) M pc lv (.ref (ax g 0) :: st) := z_get C inz_5 0 (le_X) rfl 2 rfl tw_212 rfl rfl hd kk
theorem gf_X_31  (C : Zc X cc "SnowRoad" nL rm (oX g)) (hd : decode cc pc = .ok (.getfield 31, 3)) (kk : Zj X nL (oX g) M (pc + 3) lv (.ref (ax g 23) :: st)) : Zj X nL (oX g) M pc lv (.ref (ax g 0) :: st) := z_get C inz_5 0 (le_X) rfl 3 rfl tw_213 rfl rfl hd kk
theorem gf_X_35  (C : Zc X cc "SnowRoad" nL rm (oX g)) (hd : decode cc pc = .ok (.getfield 35, 3)) (kk : Zj X nL (oX g) M (pc + 3) lv (.int (M 0 4) :: st)) : Zj X nL (oX g) M pc lv (.ref (ax g 0) :: st) := z_get C inz_5 0 (le_X) rfl 4 rfl tw_214 rfl rfl hd kk
theorem gf_X_42  (C : Zc X cc "SnowRoad" nL rm (oX g)) (hd : decode cc pc = .ok (.getfield 42, 3)) (kk : Zj X nL (oX g) M (pc + 3) lv (.ref (ax g 32) :: st)) : Zj X nL (oX g) M pc lv (.ref (ax g 0) :: st) := z_get C inz_5 0 (le_X) rfl 5 rfl tw_215 rfl rfl hd kk
theorem gf_X_46  (C : Zc X cc "SnowRoad" nL rm (oX g)) (hd : decode cc pc = .ok (.getfield 46, 3)) (kk : Zj X nL (oX g) M (pc + 3) lv (.ref (ax g 44) :: st)) : Zj X nL (oX g) M pc lv (.ref (ax g 0) :: st) := z_get C inz_5 0 (le_X) rfl 6 rfl tw_216 rfl rfl hd kk
theorem gf_X_49  (C : Zc X cc "SnowRoad" nL rm (oX g)) (hd : decode cc pc = .ok (.getfield 49, 3)) (kk : Zj X nL (oX g) M (pc + 3) lv (.int (M 0 7) :: st)) : Zj X nL (oX g) M pc lv (.ref (ax g 0) :: st) := z_get C inz_5 0 (le_X) rfl 7 rfl tw_217 rfl rfl hd kk
theorem gf_X_53  (C : Zc X cc "SnowRoad" nL rm (oX g)) (hd : decode cc pc = .ok (.getfield 53, 3)) (kk : Zj X nL (oX g) M (pc + 3) lv (.ref (ax g 56) :: st)) : Zj X nL (oX g) M pc lv (.ref (ax g 0) :: st) := z_get C inz_5 0 (le_X) rfl 8 rfl tw_218 rfl rfl hd kk
theorem gf_X_57  (C : Zc X cc "SnowRoad" nL rm (oX g)) (hd : decode cc pc = .ok (.getfield 57, 3)) (kk : Zj X nL (oX g) M (pc + 3) lv (.int (M 0 9) :: st)) : Zj X nL (oX g) M pc lv (.ref (ax g 0) :: st) := z_get C inz_5 0 (le_X) rfl 9 rfl tw_219 rfl rfl hd kk
theorem gf_X_60  (C : Zc X cc "SnowRoad" nL rm (oX g)) (hd : decode cc pc = .ok (.getfield 60, 3)) (kk : Zj X nL (oX g) M (pc + 3) lv (.ref (ax g 57) :: st)) : Zj X nL (oX g) M pc lv (.ref (ax g 0) :: st) := z_get C inz_5 0 (le_X) rfl 10 rfl tw_220 rfl rfl hd kk
theorem gf_X_63  (C : Zc X cc "SnowRoad" nL rm (oX g)) (hd : decode cc pc = .ok (.getfield 63, 3)) (kk : Zj X nL (oX g) M (pc + 3) lv (.ref (ax g 58) :: st)) : Zj X nL (oX g) M pc lv (.ref (ax g 0) :: st) := z_get C inz_5 0 (le_X) rfl 11 rfl tw_221 rfl rfl hd kk
theorem gf_X_81 {t : Nat} (ht : t < 4) (C : Zc X cc "SnowRoad" nL rm (oX g)) (hd : decode cc pc = .ok (.getfield 81, 3)) (kk : Zj X nL (oX g) M (pc + 3) lv (.int (M (2 + 2 * t) 2) :: st)) : Zj X nL (oX g) M pc lv (.ref (ax g (2 + 2 * t)) :: st) := z_get C inz_2 (2 + 2 * t) (le_XT ht) rfl 2 rfl tw_184 rfl rfl hd kk
theorem gf_X_88  (C : Zc X cc "SnowRoad" nL rm (oX g)) (hd : decode cc pc = .ok (.getfield 88, 3)) (kk : Zj X nL (oX g) M (pc + 3) lv (.ref (ax g 11) :: st)) : Zj X nL (oX g) M pc lv (.ref (ax g 10) :: st) := z_get C inz_3 10 (le_XO) rfl 0 rfl tw_30 rfl rfl hd kk
theorem gf_X_91  (C : Zc X cc "SnowRoad" nL rm (oX g)) (hd : decode cc pc = .ok (.getfield 91, 3)) (kk : Zj X nL (oX g) M (pc + 3) lv (.ref (ax g (fz M)) :: st)) : Zj X nL (oX g) M pc lv (.ref (ax g 10) :: st) := z_get C inz_3 10 (le_XO) rfl 1 rfl tw_33 rfl rfl hd kk
theorem gf_X_94  (C : Zc X cc "SnowRoad" nL rm (oX g)) (hd : decode cc pc = .ok (.getfield 94, 3)) (kk : Zj X nL (oX g) M (pc + 3) lv (.int (M 10 2) :: st)) : Zj X nL (oX g) M pc lv (.ref (ax g 10) :: st) := z_get C inz_3 10 (le_XO) rfl 2 rfl tw_36 rfl rfl hd kk
theorem gf_X_97  (C : Zc X cc "SnowRoad" nL rm (oX g)) (hd : decode cc pc = .ok (.getfield 97, 3)) (kk : Zj X nL (oX g) M (pc + 3) lv (.ref (ax g 13) :: st)) : Zj X nL (oX g) M pc lv (.ref (ax g 10) :: st) := z_get C inz_3 10 (le_XO) rfl 3 rfl tw_39 rfl rfl hd kk
theorem gf_X_100  (C : Zc X cc "SnowRoad" nL rm (oX g)) (hd : decode cc pc = .ok (.getfield 100, 3)) (kk : Zj X nL (oX g) M (pc + 3) lv (.ref (ax g 14) :: st)) : Zj X nL (oX g) M pc lv (.ref (ax g 10) :: st) := z_get C inz_3 10 (le_XO) rfl 4 rfl tw_42 rfl rfl hd kk
theorem gf_X_103  (C : Zc X cc "SnowRoad" nL rm (oX g)) (hd : decode cc pc = .ok (.getfield 103, 3)) (kk : Zj X nL (oX g) M (pc + 3) lv (.ref (ax g 15) :: st)) : Zj X nL (oX g) M pc lv (.ref (ax g 10) :: st) := z_get C inz_3 10 (le_XO) rfl 5 rfl tw_45 rfl rfl hd kk
theorem gf_X_106  (C : Zc X cc "SnowRoad" nL rm (oX g)) (hd : decode cc pc = .ok (.getfield 106, 3)) (kk : Zj X nL (oX g) M (pc + 3) lv (.int (M 10 6) :: st)) : Zj X nL (oX g) M pc lv (.ref (ax g 10) :: st) := z_get C inz_3 10 (le_XO) rfl 6 rfl tw_47 rfl rfl hd kk
theorem gf_X_109  (C : Zc X cc "SnowRoad" nL rm (oX g)) (hd : decode cc pc = .ok (.getfield 109, 3)) (kk : Zj X nL (oX g) M (pc + 3) lv (.ref (ax g 16) :: st)) : Zj X nL (oX g) M pc lv (.ref (ax g 10) :: st) := z_get C inz_3 10 (le_XO) rfl 7 rfl tw_50 rfl rfl hd kk
theorem gf_X_112  (C : Zc X cc "SnowRoad" nL rm (oX g)) (hd : decode cc pc = .ok (.getfield 112, 3)) (kk : Zj X nL (oX g) M (pc + 3) lv (.int (M 10 8) :: st)) : Zj X nL (oX g) M pc lv (.ref (ax g 10) :: st) := z_get C inz_3 10 (le_XO) rfl 8 rfl tw_54 rfl rfl hd kk
theorem gf_X_125  (C : Zc X cc "SnowRoad" nL rm (oX g)) (hd : decode cc pc = .ok (.getfield 125, 3)) (kk : Zj X nL (oX g) M (pc + 3) lv (.int (M 10 9) :: st)) : Zj X nL (oX g) M pc lv (.ref (ax g 10) :: st) := z_get C inz_3 10 (le_XO) rfl 9 rfl tw_57 rfl rfl hd kk
theorem gf_X_128 {s : Nat} (hs : s < 4) (C : Zc X cc "SnowRoad" nL rm (oX g)) (hd : decode cc pc = .ok (.getfield 128, 3)) (kk : Zj X nL (oX g) M (pc + 3) lv (.int (M (24 + 2 * s) 1) :: st)) : Zj X nL (oX g) M pc lv (.ref (ax g (24 + 2 * s)) :: st) := z_get C inz_0 (24 + 2 * s) (le_XH hs) rfl 1 rfl tw_200 rfl rfl hd kk
theorem gf_X_135 {s : Nat} (hs : s < 4) (C : Zc X cc "SnowRoad" nL rm (oX g)) (hd : decode cc pc = .ok (.getfield 135, 3)) (kk : Zj X nL (oX g) M (pc + 3) lv (.int (M (24 + 2 * s) 2) :: st)) : Zj X nL (oX g) M pc lv (.ref (ax g (24 + 2 * s)) :: st) := z_get C inz_0 (24 + 2 * s) (le_XH hs) rfl 2 rfl tw_202 rfl rfl hd kk
theorem gf_X_138 {s : Nat} (hs : s < 4) (C : Zc X cc "SnowRoad" nL rm (oX g)) (hd : decode cc pc = .ok (.getfield 138, 3)) (kk : Zj X nL (oX g) M (pc + 3) lv (.ref (ax g (25 + 2 * s)) :: st)) : Zj X nL (oX g) M pc lv (.ref (ax g (24 + 2 * s)) :: st) := z_get C inz_0 (24 + 2 * s) (le_XH hs) rfl 0 rfl tw_198 rfl rfl hd kk
theorem gf_X_149 {w : Nat} (hw : w = 32 ∨ w = 44) (C : Zc X cc "SnowRoad" nL rm (oX g)) (hd : decode cc pc = .ok (.getfield 149, 3)) (kk : Zj X nL (oX g) M (pc + 3) lv (.ref (ax g (w + 1)) :: st)) : Zj X nL (oX g) M pc lv (.ref (ax g w) :: st) := z_get C inz_4 w (le_XW hw) rfl 0 rfl tw_119 rfl rfl hd kk
theorem gf_X_152 {w : Nat} (hw : w = 32 ∨ w = 44) (C : Zc X cc "SnowRoad" nL rm (oX g)) (hd : decode cc pc = .ok (.getfield 152, 3)) (kk : Zj X nL (oX g) M (pc + 3) lv (.ref (ax g (w + 2)) :: st)) : Zj X nL (oX g) M pc lv (.ref (ax g w) :: st) := z_get C inz_4 w (le_XW hw) rfl 1 rfl tw_121 rfl rfl hd kk
theorem gf_X_155 {w : Nat} (hw : w = 32 ∨ w = 44) (C : Zc X cc "SnowRoad" nL rm (oX g)) (hd : decode cc pc = .ok (.getfield 155, 3)) (kk : Zj X nL (oX g) M (pc + 3) lv (.ref (ax g (w + 3)) :: st)) : Zj X nL (oX g) M pc lv (.ref (ax g w) :: st) := z_get C inz_4 w (le_XW hw) rfl 2 rfl tw_123 rfl rfl hd kk
theorem gf_X_158 {w : Nat} (hw : w = 32 ∨ w = 44) (C : Zc X cc "SnowRoad" nL rm (oX g)) (hd : decode cc pc = .ok (.getfield 158, 3)) (kk : Zj X nL (oX g) M (pc + 3) lv (.ref (ax g (w + 4)) :: st)) : Zj X nL (oX g) M pc lv (.ref (ax g w) :: st) := z_get C inz_4 w (le_XW hw) rfl 3 rfl tw_125 rfl rfl hd kk
theorem gf_X_165 {w : Nat} (hw : w = 32 ∨ w = 44) (C : Zc X cc "SnowRoad" nL rm (oX g)) (hd : decode cc pc = .ok (.getfield 165, 3)) (kk : Zj X nL (oX g) M (pc + 3) lv (.int (M w 12) :: st)) : Zj X nL (oX g) M pc lv (.ref (ax g w) :: st) := z_get C inz_4 w (le_XW hw) rfl 12 rfl tw_137 rfl rfl hd kk
theorem gf_X_174 {w : Nat} (hw : w = 32 ∨ w = 44) (C : Zc X cc "SnowRoad" nL rm (oX g)) (hd : decode cc pc = .ok (.getfield 174, 3)) (kk : Zj X nL (oX g) M (pc + 3) lv (.int (M w 13) :: st)) : Zj X nL (oX g) M pc lv (.ref (ax g w) :: st) := z_get C inz_4 w (le_XW hw) rfl 13 rfl tw_139 rfl rfl hd kk
theorem gf_X_177 {w : Nat} (hw : w = 32 ∨ w = 44) (C : Zc X cc "SnowRoad" nL rm (oX g)) (hd : decode cc pc = .ok (.getfield 177, 3)) (kk : Zj X nL (oX g) M (pc + 3) lv (.int (M w 14) :: st)) : Zj X nL (oX g) M pc lv (.ref (ax g w) :: st) := z_get C inz_4 w (le_XW hw) rfl 14 rfl tw_141 rfl rfl hd kk
theorem gf_X_180 {w : Nat} (hw : w = 32 ∨ w = 44) (C : Zc X cc "SnowRoad" nL rm (oX g)) (hd : decode cc pc = .ok (.getfield 180, 3)) (kk : Zj X nL (oX g) M (pc + 3) lv (.ref (ax g (w + 5)) :: st)) : Zj X nL (oX g) M pc lv (.ref (ax g w) :: st) := z_get C inz_4 w (le_XW hw) rfl 4 rfl tw_127 rfl rfl hd kk
theorem gf_X_183 {w : Nat} (hw : w = 32 ∨ w = 44) (C : Zc X cc "SnowRoad" nL rm (oX g)) (hd : decode cc pc = .ok (.getfield 183, 3)) (kk : Zj X nL (oX g) M (pc + 3) lv (.ref (ax g (w + 6)) :: st)) : Zj X nL (oX g) M pc lv (.ref (ax g w) :: st) := z_get C inz_4 w (le_XW hw) rfl 5 rfl tw_129 rfl rfl hd kk
theorem gf_X_217  (C : Zc X cc "SnowRoad" nL rm (oX g)) (hd : decode cc pc = .ok (.getfield 217, 3)) (kk : Zj X nL (oX g) M (pc + 3) lv (.int (M 20 2) :: st)) : Zj X nL (oX g) M pc lv (.ref (ax g 20) :: st) := z_get C inz_1 20 (le_XG) rfl 2 rfl tw_101 rfl rfl hd kk
theorem gf_XH_9 {s : Nat} (hs : s < 4) (C : Zc X cc "SnowRoad$Sheet" nL rm (oX g)) (hd : decode cc pc = .ok (.getfield 9, 3)) (kk : Zj X nL (oX g) M (pc + 3) lv (.ref (ax g (25 + 2 * s)) :: st)) : Zj X nL (oX g) M pc lv (.ref (ax g (24 + 2 * s)) :: st) := z_get C inz_0 (24 + 2 * s) (le_XH hs) rfl 0 rfl tw_197 rfl rfl hd kk
theorem gf_XH_15 {s : Nat} (hs : s < 4) (C : Zc X cc "SnowRoad$Sheet" nL rm (oX g)) (hd : decode cc pc = .ok (.getfield 15, 3)) (kk : Zj X nL (oX g) M (pc + 3) lv (.int (M (24 + 2 * s) 1) :: st)) : Zj X nL (oX g) M pc lv (.ref (ax g (24 + 2 * s)) :: st) := z_get C inz_0 (24 + 2 * s) (le_XH hs) rfl 1 rfl tw_199 rfl rfl hd kk
theorem gf_XH_19 {s : Nat} (hs : s < 4) (C : Zc X cc "SnowRoad$Sheet" nL rm (oX g)) (hd : decode cc pc = .ok (.getfield 19, 3)) (kk : Zj X nL (oX g) M (pc + 3) lv (.int (M (24 + 2 * s) 2) :: st)) : Zj X nL (oX g) M pc lv (.ref (ax g (24 + 2 * s)) :: st) := z_get C inz_0 (24 + 2 * s) (le_XH hs) rfl 2 rfl tw_201 rfl rfl hd kk
theorem gf_XG_9  (C : Zc X cc "SnowRoad$Sightings" nL rm (oX g)) (hd : decode cc pc = .ok (.getfield 9, 3)) (kk : Zj X nL (oX g) M (pc + 3) lv (.ref (ax g 21) :: st)) : Zj X nL (oX g) M pc lv (.ref (ax g 20) :: st) := z_get C inz_1 20 (le_XG) rfl 0 rfl tw_98 rfl rfl hd kk
theorem gf_XG_15  (C : Zc X cc "SnowRoad$Sightings" nL rm (oX g)) (hd : decode cc pc = .ok (.getfield 15, 3)) (kk : Zj X nL (oX g) M (pc + 3) lv (.ref (ax g 22) :: st)) : Zj X nL (oX g) M pc lv (.ref (ax g 20) :: st) := z_get C inz_1 20 (le_XG) rfl 1 rfl tw_99 rfl rfl hd kk
theorem gf_XG_18  (C : Zc X cc "SnowRoad$Sightings" nL rm (oX g)) (hd : decode cc pc = .ok (.getfield 18, 3)) (kk : Zj X nL (oX g) M (pc + 3) lv (.int (M 20 2) :: st)) : Zj X nL (oX g) M pc lv (.ref (ax g 20) :: st) := z_get C inz_1 20 (le_XG) rfl 2 rfl tw_100 rfl rfl hd kk
theorem gf_XG_22 {w : Nat} (hw : w = 32 ∨ w = 44) (C : Zc X cc "SnowRoad$Sightings" nL rm (oX g)) (hd : decode cc pc = .ok (.getfield 22, 3)) (kk : Zj X nL (oX g) M (pc + 3) lv (.ref (ax g (w + 1)) :: st)) : Zj X nL (oX g) M pc lv (.ref (ax g w) :: st) := z_get C inz_4 w (le_XW hw) rfl 0 rfl tw_118 rfl rfl hd kk
theorem gf_XT_9 {t : Nat} (ht : t < 4) (C : Zc X cc "SnowRoad$Text" nL rm (oX g)) (hd : decode cc pc = .ok (.getfield 9, 3)) (kk : Zj X nL (oX g) M (pc + 3) lv (.int (M (2 + 2 * t) 2) :: st)) : Zj X nL (oX g) M pc lv (.ref (ax g (2 + 2 * t)) :: st) := z_get C inz_2 (2 + 2 * t) (le_XT ht) rfl 2 rfl tw_183 rfl rfl hd kk
theorem gf_XT_15 {t : Nat} (ht : t < 4) (C : Zc X cc "SnowRoad$Text" nL rm (oX g)) (hd : decode cc pc = .ok (.getfield 15, 3)) (kk : Zj X nL (oX g) M (pc + 3) lv (.int (M (2 + 2 * t) 0) :: st)) : Zj X nL (oX g) M pc lv (.ref (ax g (2 + 2 * t)) :: st) := z_get C inz_2 (2 + 2 * t) (le_XT ht) rfl 0 rfl tw_180 rfl rfl hd kk
theorem gf_XT_22 {t : Nat} (ht : t < 4) (C : Zc X cc "SnowRoad$Text" nL rm (oX g)) (hd : decode cc pc = .ok (.getfield 22, 3)) (kk : Zj X nL (oX g) M (pc + 3) lv (.ref (ax g (3 + 2 * t)) :: st)) : Zj X nL (oX g) M pc lv (.ref (ax g (2 + 2 * t)) :: st) := z_get C inz_2 (2 + 2 * t) (le_XT ht) rfl 1 rfl tw_181 rfl rfl hd kk
theorem gf_XO_9  (C : Zc X cc "SnowRoad$Told" nL rm (oX g)) (hd : decode cc pc = .ok (.getfield 9, 3)) (kk : Zj X nL (oX g) M (pc + 3) lv (.ref (ax g 11) :: st)) : Zj X nL (oX g) M pc lv (.ref (ax g 10) :: st) := z_get C inz_3 10 (le_XO) rfl 0 rfl tw_28 rfl rfl hd kk
theorem gf_XO_15  (C : Zc X cc "SnowRoad$Told" nL rm (oX g)) (hd : decode cc pc = .ok (.getfield 15, 3)) (kk : Zj X nL (oX g) M (pc + 3) lv (.ref (ax g (fz M)) :: st)) : Zj X nL (oX g) M pc lv (.ref (ax g 10) :: st) := z_get C inz_3 10 (le_XO) rfl 1 rfl tw_31 rfl rfl hd kk
theorem gf_XO_18  (C : Zc X cc "SnowRoad$Told" nL rm (oX g)) (hd : decode cc pc = .ok (.getfield 18, 3)) (kk : Zj X nL (oX g) M (pc + 3) lv (.int (M 10 2) :: st)) : Zj X nL (oX g) M pc lv (.ref (ax g 10) :: st) := z_get C inz_3 10 (le_XO) rfl 2 rfl tw_34 rfl rfl hd kk
theorem gf_XO_22  (C : Zc X cc "SnowRoad$Told" nL rm (oX g)) (hd : decode cc pc = .ok (.getfield 22, 3)) (kk : Zj X nL (oX g) M (pc + 3) lv (.ref (ax g 13) :: st)) : Zj X nL (oX g) M pc lv (.ref (ax g 10) :: st) := z_get C inz_3 10 (le_XO) rfl 3 rfl tw_37 rfl rfl hd kk
theorem gf_XO_25  (C : Zc X cc "SnowRoad$Told" nL rm (oX g)) (hd : decode cc pc = .ok (.getfield 25, 3)) (kk : Zj X nL (oX g) M (pc + 3) lv (.ref (ax g 14) :: st)) : Zj X nL (oX g) M pc lv (.ref (ax g 10) :: st) := z_get C inz_3 10 (le_XO) rfl 4 rfl tw_40 rfl rfl hd kk
theorem gf_XO_28  (C : Zc X cc "SnowRoad$Told" nL rm (oX g)) (hd : decode cc pc = .ok (.getfield 28, 3)) (kk : Zj X nL (oX g) M (pc + 3) lv (.ref (ax g 15) :: st)) : Zj X nL (oX g) M pc lv (.ref (ax g 10) :: st) := z_get C inz_3 10 (le_XO) rfl 5 rfl tw_43 rfl rfl hd kk
theorem gf_XO_31  (C : Zc X cc "SnowRoad$Told" nL rm (oX g)) (hd : decode cc pc = .ok (.getfield 31, 3)) (kk : Zj X nL (oX g) M (pc + 3) lv (.int (M 10 6) :: st)) : Zj X nL (oX g) M pc lv (.ref (ax g 10) :: st) := z_get C inz_3 10 (le_XO) rfl 6 rfl tw_46 rfl rfl hd kk
theorem gf_XO_34  (C : Zc X cc "SnowRoad$Told" nL rm (oX g)) (hd : decode cc pc = .ok (.getfield 34, 3)) (kk : Zj X nL (oX g) M (pc + 3) lv (.ref (ax g 16) :: st)) : Zj X nL (oX g) M pc lv (.ref (ax g 10) :: st) := z_get C inz_3 10 (le_XO) rfl 7 rfl tw_49 rfl rfl hd kk
theorem gf_XO_40  (C : Zc X cc "SnowRoad$Told" nL rm (oX g)) (hd : decode cc pc = .ok (.getfield 40, 3)) (kk : Zj X nL (oX g) M (pc + 3) lv (.int (M 10 9) :: st)) : Zj X nL (oX g) M pc lv (.ref (ax g 10) :: st) := z_get C inz_3 10 (le_XO) rfl 9 rfl tw_55 rfl rfl hd kk
theorem gf_XO_43  (C : Zc X cc "SnowRoad$Told" nL rm (oX g)) (hd : decode cc pc = .ok (.getfield 43, 3)) (kk : Zj X nL (oX g) M (pc + 3) lv (.ref (ax g 17) :: st)) : Zj X nL (oX g) M pc lv (.ref (ax g 10) :: st) := z_get C inz_3 10 (le_XO) rfl 10 rfl tw_58 rfl rfl hd kk
theorem gf_XO_46  (C : Zc X cc "SnowRoad$Told" nL rm (oX g)) (hd : decode cc pc = .ok (.getfield 46, 3)) (kk : Zj X nL (oX g) M (pc + 3) lv (.ref (ax g 18) :: st)) : Zj X nL (oX g) M pc lv (.ref (ax g 10) :: st) := z_get C inz_3 10 (le_XO) rfl 11 rfl tw_60 rfl rfl hd kk
theorem gf_XO_49  (C : Zc X cc "SnowRoad$Told" nL rm (oX g)) (hd : decode cc pc = .ok (.getfield 49, 3)) (kk : Zj X nL (oX g) M (pc + 3) lv (.ref (ax g 19) :: st)) : Zj X nL (oX g) M pc lv (.ref (ax g 10) :: st) := z_get C inz_3 10 (le_XO) rfl 12 rfl tw_62 rfl rfl hd kk
theorem gf_XO_58 {t : Nat} (ht : t < 4) (C : Zc X cc "SnowRoad$Told" nL rm (oX g)) (hd : decode cc pc = .ok (.getfield 58, 3)) (kk : Zj X nL (oX g) M (pc + 3) lv (.ref (ax g (3 + 2 * t)) :: st)) : Zj X nL (oX g) M pc lv (.ref (ax g (2 + 2 * t)) :: st) := z_get C inz_2 (2 + 2 * t) (le_XT ht) rfl 1 rfl tw_182 rfl rfl hd kk
theorem gf_XW_9 {w : Nat} (hw : w = 32 ∨ w = 44) (C : Zc X cc "SnowRoad$Winter" nL rm (oX g)) (hd : decode cc pc = .ok (.getfield 9, 3)) (kk : Zj X nL (oX g) M (pc + 3) lv (.ref (ax g (w + 1)) :: st)) : Zj X nL (oX g) M pc lv (.ref (ax g w) :: st) := z_get C inz_4 w (le_XW hw) rfl 0 rfl tw_117 rfl rfl hd kk
theorem gf_XW_15 {w : Nat} (hw : w = 32 ∨ w = 44) (C : Zc X cc "SnowRoad$Winter" nL rm (oX g)) (hd : decode cc pc = .ok (.getfield 15, 3)) (kk : Zj X nL (oX g) M (pc + 3) lv (.ref (ax g (w + 2)) :: st)) : Zj X nL (oX g) M pc lv (.ref (ax g w) :: st) := z_get C inz_4 w (le_XW hw) rfl 1 rfl tw_120 rfl rfl hd kk
theorem gf_XW_18 {w : Nat} (hw : w = 32 ∨ w = 44) (C : Zc X cc "SnowRoad$Winter" nL rm (oX g)) (hd : decode cc pc = .ok (.getfield 18, 3)) (kk : Zj X nL (oX g) M (pc + 3) lv (.ref (ax g (w + 3)) :: st)) : Zj X nL (oX g) M pc lv (.ref (ax g w) :: st) := z_get C inz_4 w (le_XW hw) rfl 2 rfl tw_122 rfl rfl hd kk
theorem gf_XW_21 {w : Nat} (hw : w = 32 ∨ w = 44) (C : Zc X cc "SnowRoad$Winter" nL rm (oX g)) (hd : decode cc pc = .ok (.getfield 21, 3)) (kk : Zj X nL (oX g) M (pc + 3) lv (.ref (ax g (w + 4)) :: st)) : Zj X nL (oX g) M pc lv (.ref (ax g w) :: st) := z_get C inz_4 w (le_XW hw) rfl 3 rfl tw_124 rfl rfl hd kk
theorem gf_XW_24 {w : Nat} (hw : w = 32 ∨ w = 44) (C : Zc X cc "SnowRoad$Winter" nL rm (oX g)) (hd : decode cc pc = .ok (.getfield 24, 3)) (kk : Zj X nL (oX g) M (pc + 3) lv (.ref (ax g (w + 5)) :: st)) : Zj X nL (oX g) M pc lv (.ref (ax g w) :: st) := z_get C inz_4 w (le_XW hw) rfl 4 rfl tw_126 rfl rfl hd kk
theorem gf_XW_27 {w : Nat} (hw : w = 32 ∨ w = 44) (C : Zc X cc "SnowRoad$Winter" nL rm (oX g)) (hd : decode cc pc = .ok (.getfield 27, 3)) (kk : Zj X nL (oX g) M (pc + 3) lv (.ref (ax g (w + 6)) :: st)) : Zj X nL (oX g) M pc lv (.ref (ax g w) :: st) := z_get C inz_4 w (le_XW hw) rfl 5 rfl tw_128 rfl rfl hd kk
theorem gf_XW_30 {w : Nat} (hw : w = 32 ∨ w = 44) (C : Zc X cc "SnowRoad$Winter" nL rm (oX g)) (hd : decode cc pc = .ok (.getfield 30, 3)) (kk : Zj X nL (oX g) M (pc + 3) lv (.ref (ax g (w + 7)) :: st)) : Zj X nL (oX g) M pc lv (.ref (ax g w) :: st) := z_get C inz_4 w (le_XW hw) rfl 6 rfl tw_130 rfl rfl hd kk
theorem gf_XW_33 {w : Nat} (hw : w = 32 ∨ w = 44) (C : Zc X cc "SnowRoad$Winter" nL rm (oX g)) (hd : decode cc pc = .ok (.getfield 33, 3)) (kk : Zj X nL (oX g) M (pc + 3) lv (.ref (ax g (w + 8)) :: st)) : Zj X nL (oX g) M pc lv (.ref (ax g w) :: st) := z_get C inz_4 w (le_XW hw) rfl 7 rfl tw_131 rfl rfl hd kk
theorem gf_XW_36 {w : Nat} (hw : w = 32 ∨ w = 44) (C : Zc X cc "SnowRoad$Winter" nL rm (oX g)) (hd : decode cc pc = .ok (.getfield 36, 3)) (kk : Zj X nL (oX g) M (pc + 3) lv (.int (M w 8) :: st)) : Zj X nL (oX g) M pc lv (.ref (ax g w) :: st) := z_get C inz_4 w (le_XW hw) rfl 8 rfl tw_132 rfl rfl hd kk
theorem gf_XW_40 {w : Nat} (hw : w = 32 ∨ w = 44) (C : Zc X cc "SnowRoad$Winter" nL rm (oX g)) (hd : decode cc pc = .ok (.getfield 40, 3)) (kk : Zj X nL (oX g) M (pc + 3) lv (.ref (ax g (w + 9)) :: st)) : Zj X nL (oX g) M pc lv (.ref (ax g w) :: st) := z_get C inz_4 w (le_XW hw) rfl 9 rfl tw_133 rfl rfl hd kk
theorem gf_XW_43 {w : Nat} (hw : w = 32 ∨ w = 44) (C : Zc X cc "SnowRoad$Winter" nL rm (oX g)) (hd : decode cc pc = .ok (.getfield 43, 3)) (kk : Zj X nL (oX g) M (pc + 3) lv (.ref (ax g (w + 10)) :: st)) : Zj X nL (oX g) M pc lv (.ref (ax g w) :: st) := z_get C inz_4 w (le_XW hw) rfl 10 rfl tw_134 rfl rfl hd kk
theorem gf_XW_46 {w : Nat} (hw : w = 32 ∨ w = 44) (C : Zc X cc "SnowRoad$Winter" nL rm (oX g)) (hd : decode cc pc = .ok (.getfield 46, 3)) (kk : Zj X nL (oX g) M (pc + 3) lv (.ref (ax g (w + 11)) :: st)) : Zj X nL (oX g) M pc lv (.ref (ax g w) :: st) := z_get C inz_4 w (le_XW hw) rfl 11 rfl tw_135 rfl rfl hd kk
theorem gf_XW_49 {w : Nat} (hw : w = 32 ∨ w = 44) (C : Zc X cc "SnowRoad$Winter" nL rm (oX g)) (hd : decode cc pc = .ok (.getfield 49, 3)) (kk : Zj X nL (oX g) M (pc + 3) lv (.int (M w 12) :: st)) : Zj X nL (oX g) M pc lv (.ref (ax g w) :: st) := z_get C inz_4 w (le_XW hw) rfl 12 rfl tw_136 rfl rfl hd kk
theorem gf_XW_52 {w : Nat} (hw : w = 32 ∨ w = 44) (C : Zc X cc "SnowRoad$Winter" nL rm (oX g)) (hd : decode cc pc = .ok (.getfield 52, 3)) (kk : Zj X nL (oX g) M (pc + 3) lv (.int (M w 13) :: st)) : Zj X nL (oX g) M pc lv (.ref (ax g w) :: st) := z_get C inz_4 w (le_XW hw) rfl 13 rfl tw_138 rfl rfl hd kk
theorem gf_XW_55 {w : Nat} (hw : w = 32 ∨ w = 44) (C : Zc X cc "SnowRoad$Winter" nL rm (oX g)) (hd : decode cc pc = .ok (.getfield 55, 3)) (kk : Zj X nL (oX g) M (pc + 3) lv (.int (M w 14) :: st)) : Zj X nL (oX g) M pc lv (.ref (ax g w) :: st) := z_get C inz_4 w (le_XW hw) rfl 14 rfl tw_140 rfl rfl hd kk
theorem gf_XW_64  (C : Zc X cc "SnowRoad$Winter" nL rm (oX g)) (hd : decode cc pc = .ok (.getfield 64, 3)) (kk : Zj X nL (oX g) M (pc + 3) lv (.int (M 10 2) :: st)) : Zj X nL (oX g) M pc lv (.ref (ax g 10) :: st) := z_get C inz_3 10 (le_XO) rfl 2 rfl tw_35 rfl rfl hd kk
theorem gf_XW_69  (C : Zc X cc "SnowRoad$Winter" nL rm (oX g)) (hd : decode cc pc = .ok (.getfield 69, 3)) (kk : Zj X nL (oX g) M (pc + 3) lv (.ref (ax g 13) :: st)) : Zj X nL (oX g) M pc lv (.ref (ax g 10) :: st) := z_get C inz_3 10 (le_XO) rfl 3 rfl tw_38 rfl rfl hd kk
theorem gf_XW_72  (C : Zc X cc "SnowRoad$Winter" nL rm (oX g)) (hd : decode cc pc = .ok (.getfield 72, 3)) (kk : Zj X nL (oX g) M (pc + 3) lv (.ref (ax g 15) :: st)) : Zj X nL (oX g) M pc lv (.ref (ax g 10) :: st) := z_get C inz_3 10 (le_XO) rfl 5 rfl tw_44 rfl rfl hd kk
theorem gf_XW_79  (C : Zc X cc "SnowRoad$Winter" nL rm (oX g)) (hd : decode cc pc = .ok (.getfield 79, 3)) (kk : Zj X nL (oX g) M (pc + 3) lv (.ref (ax g 11) :: st)) : Zj X nL (oX g) M pc lv (.ref (ax g 10) :: st) := z_get C inz_3 10 (le_XO) rfl 0 rfl tw_29 rfl rfl hd kk
theorem gf_XW_82  (C : Zc X cc "SnowRoad$Winter" nL rm (oX g)) (hd : decode cc pc = .ok (.getfield 82, 3)) (kk : Zj X nL (oX g) M (pc + 3) lv (.ref (ax g (fz M)) :: st)) : Zj X nL (oX g) M pc lv (.ref (ax g 10) :: st) := z_get C inz_3 10 (le_XO) rfl 1 rfl tw_32 rfl rfl hd kk
theorem gf_XW_104  (C : Zc X cc "SnowRoad$Winter" nL rm (oX g)) (hd : decode cc pc = .ok (.getfield 104, 3)) (kk : Zj X nL (oX g) M (pc + 3) lv (.int (M 10 8) :: st)) : Zj X nL (oX g) M pc lv (.ref (ax g 10) :: st) := z_get C inz_3 10 (le_XO) rfl 8 rfl tw_53 rfl rfl hd kk
theorem gf_XW_107  (C : Zc X cc "SnowRoad$Winter" nL rm (oX g)) (hd : decode cc pc = .ok (.getfield 107, 3)) (kk : Zj X nL (oX g) M (pc + 3) lv (.int (M 10 9) :: st)) : Zj X nL (oX g) M pc lv (.ref (ax g 10) :: st) := z_get C inz_3 10 (le_XO) rfl 9 rfl tw_56 rfl rfl hd kk
theorem gf_XW_110  (C : Zc X cc "SnowRoad$Winter" nL rm (oX g)) (hd : decode cc pc = .ok (.getfield 110, 3)) (kk : Zj X nL (oX g) M (pc + 3) lv (.ref (ax g 17) :: st)) : Zj X nL (oX g) M pc lv (.ref (ax g 10) :: st) := z_get C inz_3 10 (le_XO) rfl 10 rfl tw_59 rfl rfl hd kk
theorem gf_XW_113  (C : Zc X cc "SnowRoad$Winter" nL rm (oX g)) (hd : decode cc pc = .ok (.getfield 113, 3)) (kk : Zj X nL (oX g) M (pc + 3) lv (.ref (ax g 18) :: st)) : Zj X nL (oX g) M pc lv (.ref (ax g 10) :: st) := z_get C inz_3 10 (le_XO) rfl 11 rfl tw_61 rfl rfl hd kk
theorem gf_XW_116  (C : Zc X cc "SnowRoad$Winter" nL rm (oX g)) (hd : decode cc pc = .ok (.getfield 116, 3)) (kk : Zj X nL (oX g) M (pc + 3) lv (.ref (ax g 19) :: st)) : Zj X nL (oX g) M pc lv (.ref (ax g 10) :: st) := z_get C inz_3 10 (le_XO) rfl 12 rfl tw_63 rfl rfl hd kk
theorem gf_XW_123  (C : Zc X cc "SnowRoad$Winter" nL rm (oX g)) (hd : decode cc pc = .ok (.getfield 123, 3)) (kk : Zj X nL (oX g) M (pc + 3) lv (.ref (ax g 14) :: st)) : Zj X nL (oX g) M pc lv (.ref (ax g 10) :: st) := z_get C inz_3 10 (le_XO) rfl 4 rfl tw_41 rfl rfl hd kk
theorem gf_XW_133  (C : Zc X cc "SnowRoad$Winter" nL rm (oX g)) (hd : decode cc pc = .ok (.getfield 133, 3)) (kk : Zj X nL (oX g) M (pc + 3) lv (.int (M 10 6) :: st)) : Zj X nL (oX g) M pc lv (.ref (ax g 10) :: st) := z_get C inz_3 10 (le_XO) rfl 6 rfl tw_48 rfl rfl hd kk
theorem gf_XW_136  (C : Zc X cc "SnowRoad$Winter" nL rm (oX g)) (hd : decode cc pc = .ok (.getfield 136, 3)) (kk : Zj X nL (oX g) M (pc + 3) lv (.ref (ax g 16) :: st)) : Zj X nL (oX g) M pc lv (.ref (ax g 10) :: st) := z_get C inz_3 10 (le_XO) rfl 7 rfl tw_51 rfl rfl hd kk
theorem gf_R_7  (C : Zc X cc "SnowRoadModel" nL rm (oR g)) (hd : decode cc pc = .ok (.getfield 7, 3)) (kk : Zj X nL (oR g) M (pc + 3) lv (.ref (ax g 1) :: st)) : Zj X nL (oR g) M pc lv (.ref (ax g 0) :: st) := z_get C inz_6 0 (le_R) rfl 0 rfl tw_672 rfl rfl hd kk
theorem gf_R_13  (C : Zc X cc "SnowRoadModel" nL rm (oR g)) (hd : decode cc pc = .ok (.getfield 13, 3)) (kk : Zj X nL (oR g) M (pc + 3) lv (.ref (ax g 2) :: st)) : Zj X nL (oR g) M pc lv (.ref (ax g 0) :: st) := z_get C inz_6 0 (le_R) rfl 1 rfl tw_673 rfl rfl hd kk
theorem gf_R_16  (C : Zc X cc "SnowRoadModel" nL rm (oR g)) (hd : decode cc pc = .ok (.getfield 16, 3)) (kk : Zj X nL (oR g) M (pc + 3) lv (.ref (ax g 3) :: st)) : Zj X nL (oR g) M pc lv (.ref (ax g 0) :: st) := z_get C inz_6 0 (le_R) rfl 2 rfl tw_674 rfl rfl hd kk
theorem gf_R_19  (C : Zc X cc "SnowRoadModel" nL rm (oR g)) (hd : decode cc pc = .ok (.getfield 19, 3)) (kk : Zj X nL (oR g) M (pc + 3) lv (.ref (ax g 4) :: st)) : Zj X nL (oR g) M pc lv (.ref (ax g 0) :: st) := z_get C inz_6 0 (le_R) rfl 3 rfl tw_675 rfl rfl hd kk
theorem gf_R_22  (C : Zc X cc "SnowRoadModel" nL rm (oR g)) (hd : decode cc pc = .ok (.getfield 22, 3)) (kk : Zj X nL (oR g) M (pc + 3) lv (.ref (ax g 5) :: st)) : Zj X nL (oR g) M pc lv (.ref (ax g 0) :: st) := z_get C inz_6 0 (le_R) rfl 5 rfl tw_677 rfl rfl hd kk
theorem gf_R_25  (C : Zc X cc "SnowRoadModel" nL rm (oR g)) (hd : decode cc pc = .ok (.getfield 25, 3)) (kk : Zj X nL (oR g) M (pc + 3) lv (.ref (ax g 6) :: st)) : Zj X nL (oR g) M pc lv (.ref (ax g 0) :: st) := z_get C inz_6 0 (le_R) rfl 6 rfl tw_678 rfl rfl hd kk
theorem gf_R_28  (C : Zc X cc "SnowRoadModel" nL rm (oR g)) (hd : decode cc pc = .ok (.getfield 28, 3)) (kk : Zj X nL (oR g) M (pc + 3) lv (.ref (ax g 7) :: st)) : Zj X nL (oR g) M pc lv (.ref (ax g 0) :: st) := z_get C inz_6 0 (le_R) rfl 7 rfl tw_679 rfl rfl hd kk
theorem gf_R_31  (C : Zc X cc "SnowRoadModel" nL rm (oR g)) (hd : decode cc pc = .ok (.getfield 31, 3)) (kk : Zj X nL (oR g) M (pc + 3) lv (.ref (ax g 8) :: st)) : Zj X nL (oR g) M pc lv (.ref (ax g 0) :: st) := z_get C inz_6 0 (le_R) rfl 8 rfl tw_680 rfl rfl hd kk
theorem gf_R_34  (C : Zc X cc "SnowRoadModel" nL rm (oR g)) (hd : decode cc pc = .ok (.getfield 34, 3)) (kk : Zj X nL (oR g) M (pc + 3) lv (.ref (ax g 9) :: st)) : Zj X nL (oR g) M pc lv (.ref (ax g 0) :: st) := z_get C inz_6 0 (le_R) rfl 10 rfl tw_682 rfl rfl hd kk
theorem gf_R_37  (C : Zc X cc "SnowRoadModel" nL rm (oR g)) (hd : decode cc pc = .ok (.getfield 37, 3)) (kk : Zj X nL (oR g) M (pc + 3) lv (.ref (ax g 10) :: st)) : Zj X nL (oR g) M pc lv (.ref (ax g 0) :: st) := z_get C inz_6 0 (le_R) rfl 12 rfl tw_684 rfl rfl hd kk
theorem gf_R_40  (C : Zc X cc "SnowRoadModel" nL rm (oR g)) (hd : decode cc pc = .ok (.getfield 40, 3)) (kk : Zj X nL (oR g) M (pc + 3) lv (.ref (ax g 11) :: st)) : Zj X nL (oR g) M pc lv (.ref (ax g 0) :: st) := z_get C inz_6 0 (le_R) rfl 15 rfl tw_687 rfl rfl hd kk
theorem gf_R_43  (C : Zc X cc "SnowRoadModel" nL rm (oR g)) (hd : decode cc pc = .ok (.getfield 43, 3)) (kk : Zj X nL (oR g) M (pc + 3) lv (.ref (ax g 12) :: st)) : Zj X nL (oR g) M pc lv (.ref (ax g 0) :: st) := z_get C inz_6 0 (le_R) rfl 17 rfl tw_689 rfl rfl hd kk
theorem gf_R_46  (C : Zc X cc "SnowRoadModel" nL rm (oR g)) (hd : decode cc pc = .ok (.getfield 46, 3)) (kk : Zj X nL (oR g) M (pc + 3) lv (.ref (ax g 13) :: st)) : Zj X nL (oR g) M pc lv (.ref (ax g 0) :: st) := z_get C inz_6 0 (le_R) rfl 18 rfl tw_690 rfl rfl hd kk
theorem gf_R_49  (C : Zc X cc "SnowRoadModel" nL rm (oR g)) (hd : decode cc pc = .ok (.getfield 49, 3)) (kk : Zj X nL (oR g) M (pc + 3) lv (.ref (ax g 14) :: st)) : Zj X nL (oR g) M pc lv (.ref (ax g 0) :: st) := z_get C inz_6 0 (le_R) rfl 19 rfl tw_691 rfl rfl hd kk
theorem gf_R_52  (C : Zc X cc "SnowRoadModel" nL rm (oR g)) (hd : decode cc pc = .ok (.getfield 52, 3)) (kk : Zj X nL (oR g) M (pc + 3) lv (.ref (ax g 15) :: st)) : Zj X nL (oR g) M pc lv (.ref (ax g 0) :: st) := z_get C inz_6 0 (le_R) rfl 20 rfl tw_692 rfl rfl hd kk
theorem gf_R_55  (C : Zc X cc "SnowRoadModel" nL rm (oR g)) (hd : decode cc pc = .ok (.getfield 55, 3)) (kk : Zj X nL (oR g) M (pc + 3) lv (.ref (ax g 16) :: st)) : Zj X nL (oR g) M pc lv (.ref (ax g 0) :: st) := z_get C inz_6 0 (le_R) rfl 21 rfl tw_693 rfl rfl hd kk
theorem gf_R_58  (C : Zc X cc "SnowRoadModel" nL rm (oR g)) (hd : decode cc pc = .ok (.getfield 58, 3)) (kk : Zj X nL (oR g) M (pc + 3) lv (.ref (ax g 17) :: st)) : Zj X nL (oR g) M pc lv (.ref (ax g 0) :: st) := z_get C inz_6 0 (le_R) rfl 22 rfl tw_694 rfl rfl hd kk
theorem gf_R_61  (C : Zc X cc "SnowRoadModel" nL rm (oR g)) (hd : decode cc pc = .ok (.getfield 61, 3)) (kk : Zj X nL (oR g) M (pc + 3) lv (.ref (ax g 18) :: st)) : Zj X nL (oR g) M pc lv (.ref (ax g 0) :: st) := z_get C inz_6 0 (le_R) rfl 23 rfl tw_695 rfl rfl hd kk
theorem gf_R_64  (C : Zc X cc "SnowRoadModel" nL rm (oR g)) (hd : decode cc pc = .ok (.getfield 64, 3)) (kk : Zj X nL (oR g) M (pc + 3) lv (.ref (ax g 19) :: st)) : Zj X nL (oR g) M pc lv (.ref (ax g 0) :: st) := z_get C inz_6 0 (le_R) rfl 24 rfl tw_696 rfl rfl hd kk
theorem gf_R_67  (C : Zc X cc "SnowRoadModel" nL rm (oR g)) (hd : decode cc pc = .ok (.getfield 67, 3)) (kk : Zj X nL (oR g) M (pc + 3) lv (.ref (ax g 20) :: st)) : Zj X nL (oR g) M pc lv (.ref (ax g 0) :: st) := z_get C inz_6 0 (le_R) rfl 25 rfl tw_697 rfl rfl hd kk
theorem gf_R_70  (C : Zc X cc "SnowRoadModel" nL rm (oR g)) (hd : decode cc pc = .ok (.getfield 70, 3)) (kk : Zj X nL (oR g) M (pc + 3) lv (.ref (ax g 21) :: st)) : Zj X nL (oR g) M pc lv (.ref (ax g 0) :: st) := z_get C inz_6 0 (le_R) rfl 26 rfl tw_698 rfl rfl hd kk
theorem gf_R_73  (C : Zc X cc "SnowRoadModel" nL rm (oR g)) (hd : decode cc pc = .ok (.getfield 73, 3)) (kk : Zj X nL (oR g) M (pc + 3) lv (.ref (ax g 22) :: st)) : Zj X nL (oR g) M pc lv (.ref (ax g 0) :: st) := z_get C inz_6 0 (le_R) rfl 27 rfl tw_699 rfl rfl hd kk
theorem gf_R_76  (C : Zc X cc "SnowRoadModel" nL rm (oR g)) (hd : decode cc pc = .ok (.getfield 76, 3)) (kk : Zj X nL (oR g) M (pc + 3) lv (.ref (ax g 23) :: st)) : Zj X nL (oR g) M pc lv (.ref (ax g 0) :: st) := z_get C inz_6 0 (le_R) rfl 28 rfl tw_700 rfl rfl hd kk
theorem gf_R_79  (C : Zc X cc "SnowRoadModel" nL rm (oR g)) (hd : decode cc pc = .ok (.getfield 79, 3)) (kk : Zj X nL (oR g) M (pc + 3) lv (.ref (ax g 24) :: st)) : Zj X nL (oR g) M pc lv (.ref (ax g 0) :: st) := z_get C inz_6 0 (le_R) rfl 29 rfl tw_701 rfl rfl hd kk
theorem gf_R_82  (C : Zc X cc "SnowRoadModel" nL rm (oR g)) (hd : decode cc pc = .ok (.getfield 82, 3)) (kk : Zj X nL (oR g) M (pc + 3) lv (.ref (ax g 25) :: st)) : Zj X nL (oR g) M pc lv (.ref (ax g 0) :: st) := z_get C inz_6 0 (le_R) rfl 30 rfl tw_702 rfl rfl hd kk
theorem gf_R_85  (C : Zc X cc "SnowRoadModel" nL rm (oR g)) (hd : decode cc pc = .ok (.getfield 85, 3)) (kk : Zj X nL (oR g) M (pc + 3) lv (.ref (ax g 26) :: st)) : Zj X nL (oR g) M pc lv (.ref (ax g 0) :: st) := z_get C inz_6 0 (le_R) rfl 32 rfl tw_704 rfl rfl hd kk
theorem gf_R_88  (C : Zc X cc "SnowRoadModel" nL rm (oR g)) (hd : decode cc pc = .ok (.getfield 88, 3)) (kk : Zj X nL (oR g) M (pc + 3) lv (.ref (ax g 27) :: st)) : Zj X nL (oR g) M pc lv (.ref (ax g 0) :: st) := z_get C inz_6 0 (le_R) rfl 33 rfl tw_705 rfl rfl hd kk
theorem gf_R_91  (C : Zc X cc "SnowRoadModel" nL rm (oR g)) (hd : decode cc pc = .ok (.getfield 91, 3)) (kk : Zj X nL (oR g) M (pc + 3) lv (.int (M 0 13) :: st)) : Zj X nL (oR g) M pc lv (.ref (ax g 0) :: st) := z_get C inz_6 0 (le_R) rfl 13 rfl tw_685 rfl rfl hd kk
theorem gf_R_101  (C : Zc X cc "SnowRoadModel" nL rm (oR g)) (hd : decode cc pc = .ok (.getfield 101, 3)) (kk : Zj X nL (oR g) M (pc + 3) lv (.int (M 0 4) :: st)) : Zj X nL (oR g) M pc lv (.ref (ax g 0) :: st) := z_get C inz_6 0 (le_R) rfl 4 rfl tw_676 rfl rfl hd kk
theorem gf_R_146  (C : Zc X cc "SnowRoadModel" nL rm (oR g)) (hd : decode cc pc = .ok (.getfield 146, 3)) (kk : Zj X nL (oR g) M (pc + 3) lv (.int (M 0 9) :: st)) : Zj X nL (oR g) M pc lv (.ref (ax g 0) :: st) := z_get C inz_6 0 (le_R) rfl 9 rfl tw_681 rfl rfl hd kk
theorem gf_R_152  (C : Zc X cc "SnowRoadModel" nL rm (oR g)) (hd : decode cc pc = .ok (.getfield 152, 3)) (kk : Zj X nL (oR g) M (pc + 3) lv (.int (M 0 11) :: st)) : Zj X nL (oR g) M pc lv (.ref (ax g 0) :: st) := z_get C inz_6 0 (le_R) rfl 11 rfl tw_683 rfl rfl hd kk
theorem gf_R_189  (C : Zc X cc "SnowRoadModel" nL rm (oR g)) (hd : decode cc pc = .ok (.getfield 189, 3)) (kk : Zj X nL (oR g) M (pc + 3) lv (.int (M 0 14) :: st)) : Zj X nL (oR g) M pc lv (.ref (ax g 0) :: st) := z_get C inz_6 0 (le_R) rfl 14 rfl tw_686 rfl rfl hd kk
theorem gf_R_194  (C : Zc X cc "SnowRoadModel" nL rm (oR g)) (hd : decode cc pc = .ok (.getfield 194, 3)) (kk : Zj X nL (oR g) M (pc + 3) lv (.int (M 0 16) :: st)) : Zj X nL (oR g) M pc lv (.ref (ax g 0) :: st) := z_get C inz_6 0 (le_R) rfl 16 rfl tw_688 rfl rfl hd kk
theorem gf_R_281  (C : Zc X cc "SnowRoadModel" nL rm (oR g)) (hd : decode cc pc = .ok (.getfield 281, 3)) (kk : Zj X nL (oR g) M (pc + 3) lv (.int (M 0 31) :: st)) : Zj X nL (oR g) M pc lv (.ref (ax g 0) :: st) := z_get C inz_6 0 (le_R) rfl 31 rfl tw_703 rfl rfl hd kk
theorem gf_R_321  (C : Zc X cc "SnowRoadModel" nL rm (oR g)) (hd : decode cc pc = .ok (.getfield 321, 3)) (kk : Zj X nL (oR g) M (pc + 3) lv (.int (M 0 34) :: st)) : Zj X nL (oR g) M pc lv (.ref (ax g 0) :: st) := z_get C inz_6 0 (le_R) rfl 34 rfl tw_706 rfl rfl hd kk
theorem pp_X_35  {v : Int32} (C : Zc X cc "SnowRoad" nL rm (oX g)) (hd : decode cc pc = .ok (.putfield 35, 3)) (kk : ∀ M2, M2 = upm M 0 4 v → Zj X nL (oX g) M2 (pc + 3) lv st) : Zj X nL (oX g) M pc lv (.int v :: .ref (ax g 0) :: st) := z_put C inz_5 tyX5 tyX5_ok nmX5 0 (le_X) rfl 4 rfl tw_214 rfl rfl (ty := .int) (by decide +kernel) rfl rfl (Nat.le_of_ble_eq_true rfl) hd (sf_X_4 v) (kk _ rfl)
theorem pp_X_49  {v : Int32} (hz : v = 0 ∨ v = 1) (C : Zc X cc "SnowRoad" nL rm (oX g)) (hd : decode cc pc = .ok (.putfield 49, 3)) (kk : ∀ M2, M2 = upm M 0 7 v → Zj X nL (oX g) M2 (pc + 3) lv st) : Zj X nL (oX g) M pc lv (.int v :: .ref (ax g 0) :: st) := z_put C inz_5 tyX5 tyX5_ok nmX5 0 (le_X) rfl 7 rfl tw_217 rfl rfl (ty := .boolean) (by decide +kernel) (by rcases hz with rfl | rfl <;> rfl) (by rcases hz with rfl | rfl <;> rfl) (Nat.le_of_ble_eq_true rfl) hd (sf_X_7 v) (kk _ rfl)
theorem pp_X_57  {v : Int32} (hz : v = 0 ∨ v = 1) (C : Zc X cc "SnowRoad" nL rm (oX g)) (hd : decode cc pc = .ok (.putfield 57, 3)) (kk : ∀ M2, M2 = upm M 0 9 v → Zj X nL (oX g) M2 (pc + 3) lv st) : Zj X nL (oX g) M pc lv (.int v :: .ref (ax g 0) :: st) := z_put C inz_5 tyX5 tyX5_ok nmX5 0 (le_X) rfl 9 rfl tw_219 rfl rfl (ty := .boolean) (by decide +kernel) (by rcases hz with rfl | rfl <;> rfl) (by rcases hz with rfl | rfl <;> rfl) (Nat.le_of_ble_eq_true rfl) hd (sf_X_9 v) (kk _ rfl)
theorem pp_X_81 {t : Nat} (ht : t < 4) {v : Int32} (C : Zc X cc "SnowRoad" nL rm (oX g)) (hd : decode cc pc = .ok (.putfield 81, 3)) (kk : ∀ M2, M2 = upm M (2 + 2 * t) 2 v → Zj X nL (oX g) M2 (pc + 3) lv st) : Zj X nL (oX g) M pc lv (.int v :: .ref (ax g (2 + 2 * t)) :: st) := z_put C inz_2 tyX2 tyX2_ok nmX2 (2 + 2 * t) (le_XT ht) rfl 2 rfl tw_184 rfl rfl (ty := .int) (by decide +kernel) rfl rfl (Nat.le_of_ble_eq_true rfl) hd (sf_XT_2 ht v) (kk _ rfl)
theorem pp_X_112  {v : Int32} (C : Zc X cc "SnowRoad" nL rm (oX g)) (hd : decode cc pc = .ok (.putfield 112, 3)) (kk : ∀ M2, M2 = upm M 10 8 v → Zj X nL (oX g) M2 (pc + 3) lv st) : Zj X nL (oX g) M pc lv (.int v :: .ref (ax g 10) :: st) := z_put C inz_3 tyX3 tyX3_ok nmX3 10 (le_XO) rfl 8 rfl tw_54 rfl rfl (ty := .int) (by decide +kernel) rfl rfl (Nat.le_of_ble_eq_true rfl) hd (sf_XO_8 v) (kk _ rfl)
theorem pp_X_125  {v : Int32} (C : Zc X cc "SnowRoad" nL rm (oX g)) (hd : decode cc pc = .ok (.putfield 125, 3)) (kk : ∀ M2, M2 = upm M 10 9 v → Zj X nL (oX g) M2 (pc + 3) lv st) : Zj X nL (oX g) M pc lv (.int v :: .ref (ax g 10) :: st) := z_put C inz_3 tyX3 tyX3_ok nmX3 10 (le_XO) rfl 9 rfl tw_57 rfl rfl (ty := .int) (by decide +kernel) rfl rfl (Nat.le_of_ble_eq_true rfl) hd (sf_XO_9 v) (kk _ rfl)
theorem pp_X_128 {s : Nat} (hs : s < 4) {v : Int32} (C : Zc X cc "SnowRoad" nL rm (oX g)) (hd : decode cc pc = .ok (.putfield 128, 3)) (kk : ∀ M2, M2 = upm M (24 + 2 * s) 1 v → Zj X nL (oX g) M2 (pc + 3) lv st) : Zj X nL (oX g) M pc lv (.int v :: .ref (ax g (24 + 2 * s)) :: st) := z_put C inz_0 tyX0 tyX0_ok nmX0 (24 + 2 * s) (le_XH hs) rfl 1 rfl tw_200 rfl rfl (ty := .int) (by decide +kernel) rfl rfl (Nat.le_of_ble_eq_true rfl) hd (sf_XH_1 hs v) (kk _ rfl)
theorem pp_X_217  {v : Int32} (C : Zc X cc "SnowRoad" nL rm (oX g)) (hd : decode cc pc = .ok (.putfield 217, 3)) (kk : ∀ M2, M2 = upm M 20 2 v → Zj X nL (oX g) M2 (pc + 3) lv st) : Zj X nL (oX g) M pc lv (.int v :: .ref (ax g 20) :: st) := z_put C inz_1 tyX1 tyX1_ok nmX1 20 (le_XG) rfl 2 rfl tw_101 rfl rfl (ty := .int) (by decide +kernel) rfl rfl (Nat.le_of_ble_eq_true rfl) hd (sf_XG_2 v) (kk _ rfl)
theorem pp_XH_15 {s : Nat} (hs : s < 4) {v : Int32} (C : Zc X cc "SnowRoad$Sheet" nL rm (oX g)) (hd : decode cc pc = .ok (.putfield 15, 3)) (kk : ∀ M2, M2 = upm M (24 + 2 * s) 1 v → Zj X nL (oX g) M2 (pc + 3) lv st) : Zj X nL (oX g) M pc lv (.int v :: .ref (ax g (24 + 2 * s)) :: st) := z_put C inz_0 tyX0 tyX0_ok nmX0 (24 + 2 * s) (le_XH hs) rfl 1 rfl tw_199 rfl rfl (ty := .int) (by decide +kernel) rfl rfl (Nat.le_of_ble_eq_true rfl) hd (sf_XH_1 hs v) (kk _ rfl)
theorem pp_XH_19 {s : Nat} (hs : s < 4) {v : Int32} (C : Zc X cc "SnowRoad$Sheet" nL rm (oX g)) (hd : decode cc pc = .ok (.putfield 19, 3)) (kk : ∀ M2, M2 = upm M (24 + 2 * s) 2 v → Zj X nL (oX g) M2 (pc + 3) lv st) : Zj X nL (oX g) M pc lv (.int v :: .ref (ax g (24 + 2 * s)) :: st) := z_put C inz_0 tyX0 tyX0_ok nmX0 (24 + 2 * s) (le_XH hs) rfl 2 rfl tw_201 rfl rfl (ty := .int) (by decide +kernel) rfl rfl (Nat.le_of_ble_eq_true rfl) hd (sf_XH_2 hs v) (kk _ rfl)
theorem pp_XG_18  {v : Int32} (C : Zc X cc "SnowRoad$Sightings" nL rm (oX g)) (hd : decode cc pc = .ok (.putfield 18, 3)) (kk : ∀ M2, M2 = upm M 20 2 v → Zj X nL (oX g) M2 (pc + 3) lv st) : Zj X nL (oX g) M pc lv (.int v :: .ref (ax g 20) :: st) := z_put C inz_1 tyX1 tyX1_ok nmX1 20 (le_XG) rfl 2 rfl tw_100 rfl rfl (ty := .int) (by decide +kernel) rfl rfl (Nat.le_of_ble_eq_true rfl) hd (sf_XG_2 v) (kk _ rfl)
theorem pp_XT_9 {t : Nat} (ht : t < 4) {v : Int32} (C : Zc X cc "SnowRoad$Text" nL rm (oX g)) (hd : decode cc pc = .ok (.putfield 9, 3)) (kk : ∀ M2, M2 = upm M (2 + 2 * t) 2 v → Zj X nL (oX g) M2 (pc + 3) lv st) : Zj X nL (oX g) M pc lv (.int v :: .ref (ax g (2 + 2 * t)) :: st) := z_put C inz_2 tyX2 tyX2_ok nmX2 (2 + 2 * t) (le_XT ht) rfl 2 rfl tw_183 rfl rfl (ty := .int) (by decide +kernel) rfl rfl (Nat.le_of_ble_eq_true rfl) hd (sf_XT_2 ht v) (kk _ rfl)
theorem pp_XO_18  {v : Int32} (C : Zc X cc "SnowRoad$Told" nL rm (oX g)) (hd : decode cc pc = .ok (.putfield 18, 3)) (kk : ∀ M2, M2 = upm M 10 2 v → Zj X nL (oX g) M2 (pc + 3) lv st) : Zj X nL (oX g) M pc lv (.int v :: .ref (ax g 10) :: st) := z_put C inz_3 tyX3 tyX3_ok nmX3 10 (le_XO) rfl 2 rfl tw_34 rfl rfl (ty := .int) (by decide +kernel) rfl rfl (Nat.le_of_ble_eq_true rfl) hd (sf_XO_2 v) (kk _ rfl)
theorem pp_XO_31  {v : Int32} (C : Zc X cc "SnowRoad$Told" nL rm (oX g)) (hd : decode cc pc = .ok (.putfield 31, 3)) (kk : ∀ M2, M2 = upm M 10 6 v → Zj X nL (oX g) M2 (pc + 3) lv st) : Zj X nL (oX g) M pc lv (.int v :: .ref (ax g 10) :: st) := z_put C inz_3 tyX3 tyX3_ok nmX3 10 (le_XO) rfl 6 rfl tw_46 rfl rfl (ty := .int) (by decide +kernel) rfl rfl (Nat.le_of_ble_eq_true rfl) hd (sf_XO_6 v) (kk _ rfl)
theorem pp_XO_40  {v : Int32} (C : Zc X cc "SnowRoad$Told" nL rm (oX g)) (hd : decode cc pc = .ok (.putfield 40, 3)) (kk : ∀ M2, M2 = upm M 10 9 v → Zj X nL (oX g) M2 (pc + 3) lv st) : Zj X nL (oX g) M pc lv (.int v :: .ref (ax g 10) :: st) := z_put C inz_3 tyX3 tyX3_ok nmX3 10 (le_XO) rfl 9 rfl tw_55 rfl rfl (ty := .int) (by decide +kernel) rfl rfl (Nat.le_of_ble_eq_true rfl) hd (sf_XO_9 v) (kk _ rfl)
theorem pp_XW_36 {w : Nat} (hw : w = 32 ∨ w = 44) {v : Int32} (C : Zc X cc "SnowRoad$Winter" nL rm (oX g)) (hd : decode cc pc = .ok (.putfield 36, 3)) (kk : ∀ M2, M2 = upm M w 8 v → Zj X nL (oX g) M2 (pc + 3) lv st) : Zj X nL (oX g) M pc lv (.int v :: .ref (ax g w) :: st) := z_put C inz_4 tyX4 tyX4_ok nmX4 w (le_XW hw) rfl 8 rfl tw_132 rfl rfl (ty := .int) (by decide +kernel) rfl rfl (Nat.le_of_ble_eq_true rfl) hd (sf_XW_8 hw v) (kk _ rfl)
theorem pp_XW_49 {w : Nat} (hw : w = 32 ∨ w = 44) {v : Int32} (C : Zc X cc "SnowRoad$Winter" nL rm (oX g)) (hd : decode cc pc = .ok (.putfield 49, 3)) (kk : ∀ M2, M2 = upm M w 12 v → Zj X nL (oX g) M2 (pc + 3) lv st) : Zj X nL (oX g) M pc lv (.int v :: .ref (ax g w) :: st) := z_put C inz_4 tyX4 tyX4_ok nmX4 w (le_XW hw) rfl 12 rfl tw_136 rfl rfl (ty := .int) (by decide +kernel) rfl rfl (Nat.le_of_ble_eq_true rfl) hd (sf_XW_12 hw v) (kk _ rfl)
theorem pp_XW_52 {w : Nat} (hw : w = 32 ∨ w = 44) {v : Int32} (C : Zc X cc "SnowRoad$Winter" nL rm (oX g)) (hd : decode cc pc = .ok (.putfield 52, 3)) (kk : ∀ M2, M2 = upm M w 13 v → Zj X nL (oX g) M2 (pc + 3) lv st) : Zj X nL (oX g) M pc lv (.int v :: .ref (ax g w) :: st) := z_put C inz_4 tyX4 tyX4_ok nmX4 w (le_XW hw) rfl 13 rfl tw_138 rfl rfl (ty := .int) (by decide +kernel) rfl rfl (Nat.le_of_ble_eq_true rfl) hd (sf_XW_13 hw v) (kk _ rfl)
theorem pp_XW_55 {w : Nat} (hw : w = 32 ∨ w = 44) {v : Int32} (C : Zc X cc "SnowRoad$Winter" nL rm (oX g)) (hd : decode cc pc = .ok (.putfield 55, 3)) (kk : ∀ M2, M2 = upm M w 14 v → Zj X nL (oX g) M2 (pc + 3) lv st) : Zj X nL (oX g) M pc lv (.int v :: .ref (ax g w) :: st) := z_put C inz_4 tyX4 tyX4_ok nmX4 w (le_XW hw) rfl 14 rfl tw_140 rfl rfl (ty := .int) (by decide +kernel) rfl rfl (Nat.le_of_ble_eq_true rfl) hd (sf_XW_14 hw v) (kk _ rfl)
theorem pp_R_91  {v : Int32} (C : Zc X cc "SnowRoadModel" nL rm (oR g)) (hd : decode cc pc = .ok (.putfield 91, 3)) (kk : ∀ M2, M2 = upm M 0 13 v → Zj X nL (oR g) M2 (pc + 3) lv st) : Zj X nL (oR g) M pc lv (.int v :: .ref (ax g 0) :: st) := z_put C inz_6 tyX6 tyX6_ok nmX6 0 (le_R) rfl 13 rfl tw_685 rfl rfl (ty := .int) (by decide +kernel) rfl rfl (Nat.le_of_ble_eq_true rfl) hd (sf_R_13 v) (kk _ rfl)
theorem pp_R_101  {v : Int32} (C : Zc X cc "SnowRoadModel" nL rm (oR g)) (hd : decode cc pc = .ok (.putfield 101, 3)) (kk : ∀ M2, M2 = upm M 0 4 v → Zj X nL (oR g) M2 (pc + 3) lv st) : Zj X nL (oR g) M pc lv (.int v :: .ref (ax g 0) :: st) := z_put C inz_6 tyX6 tyX6_ok nmX6 0 (le_R) rfl 4 rfl tw_676 rfl rfl (ty := .int) (by decide +kernel) rfl rfl (Nat.le_of_ble_eq_true rfl) hd (sf_R_4 v) (kk _ rfl)
theorem pp_R_146  {v : Int32} (C : Zc X cc "SnowRoadModel" nL rm (oR g)) (hd : decode cc pc = .ok (.putfield 146, 3)) (kk : ∀ M2, M2 = upm M 0 9 v → Zj X nL (oR g) M2 (pc + 3) lv st) : Zj X nL (oR g) M pc lv (.int v :: .ref (ax g 0) :: st) := z_put C inz_6 tyX6 tyX6_ok nmX6 0 (le_R) rfl 9 rfl tw_681 rfl rfl (ty := .int) (by decide +kernel) rfl rfl (Nat.le_of_ble_eq_true rfl) hd (sf_R_9 v) (kk _ rfl)
theorem pp_R_152  {v : Int32} (C : Zc X cc "SnowRoadModel" nL rm (oR g)) (hd : decode cc pc = .ok (.putfield 152, 3)) (kk : ∀ M2, M2 = upm M 0 11 v → Zj X nL (oR g) M2 (pc + 3) lv st) : Zj X nL (oR g) M pc lv (.int v :: .ref (ax g 0) :: st) := z_put C inz_6 tyX6 tyX6_ok nmX6 0 (le_R) rfl 11 rfl tw_683 rfl rfl (ty := .int) (by decide +kernel) rfl rfl (Nat.le_of_ble_eq_true rfl) hd (sf_R_11 v) (kk _ rfl)
theorem pp_R_189  {v : Int32} (C : Zc X cc "SnowRoadModel" nL rm (oR g)) (hd : decode cc pc = .ok (.putfield 189, 3)) (kk : ∀ M2, M2 = upm M 0 14 v → Zj X nL (oR g) M2 (pc + 3) lv st) : Zj X nL (oR g) M pc lv (.int v :: .ref (ax g 0) :: st) := z_put C inz_6 tyX6 tyX6_ok nmX6 0 (le_R) rfl 14 rfl tw_686 rfl rfl (ty := .int) (by decide +kernel) rfl rfl (Nat.le_of_ble_eq_true rfl) hd (sf_R_14 v) (kk _ rfl)
theorem pp_R_194  {v : Int32} (C : Zc X cc "SnowRoadModel" nL rm (oR g)) (hd : decode cc pc = .ok (.putfield 194, 3)) (kk : ∀ M2, M2 = upm M 0 16 v → Zj X nL (oR g) M2 (pc + 3) lv st) : Zj X nL (oR g) M pc lv (.int v :: .ref (ax g 0) :: st) := z_put C inz_6 tyX6 tyX6_ok nmX6 0 (le_R) rfl 16 rfl tw_688 rfl rfl (ty := .int) (by decide +kernel) rfl rfl (Nat.le_of_ble_eq_true rfl) hd (sf_R_16 v) (kk _ rfl)
theorem pp_R_281  {v : Int32} (C : Zc X cc "SnowRoadModel" nL rm (oR g)) (hd : decode cc pc = .ok (.putfield 281, 3)) (kk : ∀ M2, M2 = upm M 0 31 v → Zj X nL (oR g) M2 (pc + 3) lv st) : Zj X nL (oR g) M pc lv (.int v :: .ref (ax g 0) :: st) := z_put C inz_6 tyX6 tyX6_ok nmX6 0 (le_R) rfl 31 rfl tw_703 rfl rfl (ty := .int) (by decide +kernel) rfl rfl (Nat.le_of_ble_eq_true rfl) hd (sf_R_31 v) (kk _ rfl)
theorem pp_R_321  {v : Int32} (C : Zc X cc "SnowRoadModel" nL rm (oR g)) (hd : decode cc pc = .ok (.putfield 321, 3)) (kk : ∀ M2, M2 = upm M 0 34 v → Zj X nL (oR g) M2 (pc + 3) lv st) : Zj X nL (oR g) M pc lv (.int v :: .ref (ax g 0) :: st) := z_put C inz_6 tyX6 tyX6_ok nmX6 0 (le_R) rfl 34 rfl tw_706 rfl rfl (ty := .int) (by decide +kernel) rfl rfl (Nat.le_of_ble_eq_true rfl) hd (sf_R_34 v) (kk _ rfl)
theorem sf_falls {M0 : Mem} {x : Int32} (hx : fz M0 = (if x = 0 then 12 else 57)) : ((oX g).2.2.2.1 M).set 10 (ax g 10, .inr (3, (([.ref (ax g 11), .ref (ax g (fz M)), .int (M 10 2), .ref (ax g 13), .ref (ax g 14), .ref (ax g 15), .int (M 10 6), .ref (ax g 16), .int (M 10 8), .int (M 10 9), .ref (ax g 17), .ref (ax g 18), .ref (ax g 19)] : List Value).set 1 (.ref (ax g (fz M0)))))) = (oX g).2.2.2.1 (upm M 59 0 x) := by
  have h : fz (upm M 59 0 x) = fz M0 := by rw [hx]; rfl
  show _ = wX g (upm M 59 0 x)
  unfold wX
  rw [h]
  rfl
theorem pp_fallsG {M0 : Mem} {x : Int32} (hx : fz M0 = (if x = 0 then 12 else 57)) (C : Zc X cc "SnowRoad" nL rm (oX g)) {idx : Nat} (hl : Cond.fieldLink "SnowRoad" idx "SnowRoad$Told" "falls" "[I" ∈ zt) (hd : decode cc pc = .ok (.putfield idx, 3)) (kk : ∀ M2, M2 = upm M 59 0 x → Zj X nL (oX g) M2 (pc + 3) lv st) : Zj X nL (oX g) M pc lv (.ref (ax g (fz M0)) :: .ref (ax g 10) :: st) := z_put C inz_3 tyX3 tyX3_ok nmX3 10 le_XO rfl 1 rfl hl rfl rfl (ty := .array .int) (by decide +kernel) rfl rfl (Nat.le_of_ble_eq_true rfl) hd (sf_falls hx) (kk _ rfl)
theorem pp_fallsO {M0 : Mem} (C : Zc X cc "SnowRoad" nL rm (oX g)) {idx : Nat} (hl : Cond.fieldLink "SnowRoad" idx "SnowRoad$Told" "falls" "[I" ∈ zt) (hd : decode cc pc = .ok (.putfield idx, 3)) (kk : ∀ M2, M2 = upm M 59 0 (M0 59 0) → Zj X nL (oX g) M2 (pc + 3) lv st) : Zj X nL (oX g) M pc lv (.ref (ax g (fz M0)) :: .ref (ax g 10) :: st) := pp_fallsG rfl C hl hd kk
theorem pp_fallsD (C : Zc X cc "SnowRoad" nL rm (oX g)) {idx : Nat} (hl : Cond.fieldLink "SnowRoad" idx "SnowRoad$Told" "falls" "[I" ∈ zt) (hd : decode cc pc = .ok (.putfield idx, 3)) (kk : ∀ M2, M2 = upm M 59 0 1 → Zj X nL (oX g) M2 (pc + 3) lv st) : Zj X nL (oX g) M pc lv (.ref (ax g 57) :: .ref (ax g 10) :: st) := pp_fallsG (M0 := fun _ _ => 1) rfl C hl hd kk
theorem z_aaldText {own : String} (C : Zc X cc own nL rm (oX g)) {i : Int32} (hi : vp_in i 4) (hd : decode cc pc = .ok (.aaload, 1)) (kk : Zj X nL (oX g) M (pc + 1) lv (.ref (ax g (2 + 2 * (tn i))) :: st)) : Zj X nL (oX g) M pc lv (.int i :: .ref (ax g 1) :: st) := z_aald C 1 1 (by rfl) (by rfl) hi (by rfl) hd kk
theorem z_aaldSheet {own : String} (C : Zc X cc own nL rm (oX g)) {i : Int32} (hi : vp_in i 4) (hd : decode cc pc = .ok (.aaload, 1)) (kk : Zj X nL (oX g) M (pc + 1) lv (.ref (ax g (24 + 2 * (tn i))) :: st)) : Zj X nL (oX g) M pc lv (.int i :: .ref (ax g 23) :: st) := z_aald C 23 2 (by rfl) (by rfl) hi (by rfl) hd kk
end ZF
