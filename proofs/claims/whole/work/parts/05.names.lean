/-! the names of the kinds of objects, their fields, and what the tables say of them -/
def Rk0 : String := "FlightLegs$History"
def Tk0 : u_T := fun k => match k with
  | 0 => ("FlightLegs$History", "heads", "LFlightLegs$Table;", true)
  | 1 => ("FlightLegs$History", "legs", "LFlightLegs$Table;", true)
  | 2 => ("FlightLegs$History", "next", "I", false)
  | _ => ("FlightLegs$History", "size", "I", false)
def ty0 : Nat → FieldType := fun k => match k with
  | 0 => .object "FlightLegs$Table"
  | 1 => .object "FlightLegs$Table"
  | 2 => .int
  | _ => .int
theorem nk0 : ∀ a, a < 4 → ∀ b, b < 4 → a ≠ b → (Tk0 a).2.1 ≠ (Tk0 b).2.1 := by decide +kernel
theorem tk0 : ∀ k, k < 4 → parseFieldDescriptor (Tk0 k).2.2.1 = some (ty0 k) := by decide +kernel
theorem ik0 : ∀ x ∈ u_ws Rk0 Tk0 4, x ∈ lw_g := by
  intro x hx
  have h : ∀ x ∈ u_ws Rk0 Tk0 4, x ∈ lw_tbl ∧ goodWord x = true := by
    exact fun x hx => mgs [469, 471, 473, 475] (by decide +kernel) x hx
  exact List.mem_filter.mpr (h x hx)
def Rk1 : String := "FlightLegs$Path"
def Tk1 : u_T := fun k => match k with
  | 0 => ("FlightLegs$Path", "plan", "LFlightLegs$Plan;", true)
  | 1 => ("FlightLegs$Path", "legs", "LFlightLegs$Table;", true)
  | 2 => ("FlightLegs$Path", "track", "LFlightLegs$Track;", true)
  | 3 => ("FlightLegs$Path", "pieces", "LFlightLegs$Pieces;", true)
  | 4 => ("FlightLegs$Path", "profile", "LFlightLegs$Profile;", true)
  | _ => ("FlightLegs$Path", "stale", "Z", false)
def ty1 : Nat → FieldType := fun k => match k with
  | 0 => .object "FlightLegs$Plan"
  | 1 => .object "FlightLegs$Table"
  | 2 => .object "FlightLegs$Track"
  | 3 => .object "FlightLegs$Pieces"
  | 4 => .object "FlightLegs$Profile"
  | _ => .boolean
theorem nk1 : ∀ a, a < 6 → ∀ b, b < 6 → a ≠ b → (Tk1 a).2.1 ≠ (Tk1 b).2.1 := by decide +kernel
theorem tk1 : ∀ k, k < 6 → parseFieldDescriptor (Tk1 k).2.2.1 = some (ty1 k) := by decide +kernel
theorem ik1 : ∀ x ∈ u_ws Rk1 Tk1 6, x ∈ lw_g := by
  intro x hx
  have h : ∀ x ∈ u_ws Rk1 Tk1 6, x ∈ lw_tbl ∧ goodWord x = true := by
    exact fun x hx => mgs [443, 445, 447, 449, 451, 453] (by decide +kernel) x hx
  exact List.mem_filter.mpr (h x hx)
def Rk2 : String := "FlightLegs$Pieces"
def Tk2 : u_T := fun k => match k with
  | 0 => ("FlightLegs$Pieces", "plan", "LFlightLegs$Plan;", true)
  | 1 => ("FlightLegs$Pieces", "settings", "LFlightLegs$Settings;", true)
  | 2 => ("FlightLegs$Pieces", "legs", "LFlightLegs$Table;", true)
  | 3 => ("FlightLegs$Pieces", "segments", "LFlightLegs$Table;", true)
  | 4 => ("FlightLegs$Pieces", "table", "LFlightLegs$Table;", true)
  | 5 => ("FlightLegs$Pieces", "count", "I", false)
  | 6 => ("FlightLegs$Pieces", "firstOfLeg", "I", false)
  | 7 => ("FlightLegs$Pieces", "x", "I", false)
  | 8 => ("FlightLegs$Pieces", "y", "I", false)
  | 9 => ("FlightLegs$Pieces", "arcX", "I", false)
  | _ => ("FlightLegs$Pieces", "arcY", "I", false)
def ty2 : Nat → FieldType := fun k => match k with
  | 0 => .object "FlightLegs$Plan"
  | 1 => .object "FlightLegs$Settings"
  | 2 => .object "FlightLegs$Table"
  | 3 => .object "FlightLegs$Table"
  | 4 => .object "FlightLegs$Table"
  | 5 => .int
  | 6 => .int
  | 7 => .int
  | 8 => .int
  | 9 => .int
  | _ => .int
theorem nk2 : ∀ a, a < 11 → ∀ b, b < 11 → a ≠ b → (Tk2 a).2.1 ≠ (Tk2 b).2.1 := by decide +kernel
theorem tk2 : ∀ k, k < 11 → parseFieldDescriptor (Tk2 k).2.2.1 = some (ty2 k) := by decide +kernel
theorem ik2 : ∀ x ∈ u_ws Rk2 Tk2 11, x ∈ lw_g := by
  intro x hx
  have h : ∀ x ∈ u_ws Rk2 Tk2 11, x ∈ lw_tbl ∧ goodWord x = true := by
    exact fun x hx => mgs [392, 394, 396, 398, 400, 402, 404, 406, 408, 410, 412] (by decide +kernel) x hx
  exact List.mem_filter.mpr (h x hx)
def Rk3 : String := "FlightLegs$Plan"
def Tk3 : u_T := fun k => match k with
  | 0 => ("FlightLegs$Plan", "legs", "LFlightLegs$Table;", true)
  | 1 => ("FlightLegs$Plan", "count", "I", false)
  | 2 => ("FlightLegs$Plan", "current", "I", false)
  | _ => ("FlightLegs$Plan", "restarted", "Z", false)
def ty3 : Nat → FieldType := fun k => match k with
  | 0 => .object "FlightLegs$Table"
  | 1 => .int
  | 2 => .int
  | _ => .boolean
theorem nk3 : ∀ a, a < 4 → ∀ b, b < 4 → a ≠ b → (Tk3 a).2.1 ≠ (Tk3 b).2.1 := by decide +kernel
theorem tk3 : ∀ k, k < 4 → parseFieldDescriptor (Tk3 k).2.2.1 = some (ty3 k) := by decide +kernel
theorem ik3 : ∀ x ∈ u_ws Rk3 Tk3 4, x ∈ lw_g := by
  intro x hx
  have h : ∀ x ∈ u_ws Rk3 Tk3 4, x ∈ lw_tbl ∧ goodWord x = true := by
    exact fun x hx => mgs [303, 305, 307, 309] (by decide +kernel) x hx
  exact List.mem_filter.mpr (h x hx)
def Rk4 : String := "FlightLegs$Profile"
def Tk4 : u_T := fun k => match k with
  | 0 => ("FlightLegs$Profile", "plan", "LFlightLegs$Plan;", true)
  | 1 => ("FlightLegs$Profile", "settings", "LFlightLegs$Settings;", true)
  | _ => ("FlightLegs$Profile", "legs", "LFlightLegs$Table;", true)
def ty4 : Nat → FieldType := fun k => match k with
  | 0 => .object "FlightLegs$Plan"
  | 1 => .object "FlightLegs$Settings"
  | _ => .object "FlightLegs$Table"
theorem nk4 : ∀ a, a < 3 → ∀ b, b < 3 → a ≠ b → (Tk4 a).2.1 ≠ (Tk4 b).2.1 := by decide +kernel
theorem tk4 : ∀ k, k < 3 → parseFieldDescriptor (Tk4 k).2.2.1 = some (ty4 k) := by decide +kernel
theorem ik4 : ∀ x ∈ u_ws Rk4 Tk4 3, x ∈ lw_g := by
  intro x hx
  have h : ∀ x ∈ u_ws Rk4 Tk4 3, x ∈ lw_tbl ∧ goodWord x = true := by
    exact fun x hx => mgs [424, 426, 428] (by decide +kernel) x hx
  exact List.mem_filter.mpr (h x hx)
def Rk5 : String := "FlightLegs$Progress"
def Tk5 : u_T := fun k => match k with
  | 0 => ("FlightLegs$Progress", "plan", "LFlightLegs$Plan;", true)
  | 1 => ("FlightLegs$Progress", "path", "LFlightLegs$Path;", true)
  | 2 => ("FlightLegs$Progress", "flown", "I", false)
  | 3 => ("FlightLegs$Progress", "x", "I", false)
  | 4 => ("FlightLegs$Progress", "y", "I", false)
  | _ => ("FlightLegs$Progress", "course", "I", false)
def ty5 : Nat → FieldType := fun k => match k with
  | 0 => .object "FlightLegs$Plan"
  | 1 => .object "FlightLegs$Path"
  | 2 => .int
  | 3 => .int
  | 4 => .int
  | _ => .int
theorem nk5 : ∀ a, a < 6 → ∀ b, b < 6 → a ≠ b → (Tk5 a).2.1 ≠ (Tk5 b).2.1 := by decide +kernel
theorem tk5 : ∀ k, k < 6 → parseFieldDescriptor (Tk5 k).2.2.1 = some (ty5 k) := by decide +kernel
theorem ik5 : ∀ x ∈ u_ws Rk5 Tk5 6, x ∈ lw_g := by
  intro x hx
  have h : ∀ x ∈ u_ws Rk5 Tk5 6, x ∈ lw_tbl ∧ goodWord x = true := by
    exact fun x hx => mgs [494, 496, 498, 500, 502, 504] (by decide +kernel) x hx
  exact List.mem_filter.mpr (h x hx)
def Rk6 : String := "FlightLegs$RouteText"
def Tk6 : u_T := fun k => match k with
  | 0 => ("FlightLegs$RouteText", "settings", "LFlightLegs$Settings;", true)
  | 1 => ("FlightLegs$RouteText", "bytes", "[I", true)
  | 2 => ("FlightLegs$RouteText", "legs", "LFlightLegs$Table;", true)
  | 3 => ("FlightLegs$RouteText", "length", "I", false)
  | 4 => ("FlightLegs$RouteText", "count", "I", false)
  | 5 => ("FlightLegs$RouteText", "token", "I", false)
  | 6 => ("FlightLegs$RouteText", "start", "I", false)
  | _ => ("FlightLegs$RouteText", "after", "I", false)
def ty6 : Nat → FieldType := fun k => match k with
  | 0 => .object "FlightLegs$Settings"
  | 1 => .array .int
  | 2 => .object "FlightLegs$Table"
  | 3 => .int
  | 4 => .int
  | 5 => .int
  | 6 => .int
  | _ => .int
theorem nk6 : ∀ a, a < 8 → ∀ b, b < 8 → a ≠ b → (Tk6 a).2.1 ≠ (Tk6 b).2.1 := by decide +kernel
theorem tk6 : ∀ k, k < 8 → parseFieldDescriptor (Tk6 k).2.2.1 = some (ty6 k) := by decide +kernel
theorem ik6 : ∀ x ∈ u_ws Rk6 Tk6 8, x ∈ lw_g := by
  intro x hx
  have h : ∀ x ∈ u_ws Rk6 Tk6 8, x ∈ lw_tbl ∧ goodWord x = true := by
    exact fun x hx => mgs [258, 260, 262, 264, 266, 268, 270, 272] (by decide +kernel) x hx
  exact List.mem_filter.mpr (h x hx)
def Rk7 : String := "FlightLegs$Settings"
def Tk7 : u_T := fun k => match k with
  | 0 => ("FlightLegs$Settings", "fixes", "LFlightLegs$Table;", true)
  | 1 => ("FlightLegs$Settings", "fixCount", "I", false)
  | 2 => ("FlightLegs$Settings", "windEast", "I", false)
  | 3 => ("FlightLegs$Settings", "windNorth", "I", false)
  | 4 => ("FlightLegs$Settings", "cruiseAltitude", "I", false)
  | 5 => ("FlightLegs$Settings", "cruiseSpeed", "I", false)
  | 6 => ("FlightLegs$Settings", "climbGradient", "I", false)
  | 7 => ("FlightLegs$Settings", "descentGradient", "I", false)
  | 8 => ("FlightLegs$Settings", "steepestGradient", "I", false)
  | 9 => ("FlightLegs$Settings", "departureAltitude", "I", false)
  | _ => ("FlightLegs$Settings", "arrivalAltitude", "I", false)
def ty7 : Nat → FieldType := fun k => match k with
  | 0 => .object "FlightLegs$Table"
  | 1 => .int
  | 2 => .int
  | 3 => .int
  | 4 => .int
  | 5 => .int
  | 6 => .int
  | 7 => .int
  | 8 => .int
  | 9 => .int
  | _ => .int
theorem nk7 : ∀ a, a < 11 → ∀ b, b < 11 → a ≠ b → (Tk7 a).2.1 ≠ (Tk7 b).2.1 := by decide +kernel
theorem tk7 : ∀ k, k < 11 → parseFieldDescriptor (Tk7 k).2.2.1 = some (ty7 k) := by decide +kernel
theorem ik7 : ∀ x ∈ u_ws Rk7 Tk7 11, x ∈ lw_g := by
  intro x hx
  have h : ∀ x ∈ u_ws Rk7 Tk7 11, x ∈ lw_tbl ∧ goodWord x = true := by
    exact fun x hx => mgs [216, 218, 220, 222, 224, 226, 228, 230, 232, 234, 236] (by decide +kernel) x hx
  exact List.mem_filter.mpr (h x hx)
def Rk8 : String := "FlightLegs$Table"
def Tk8 : u_T := fun k => match k with
  | 0 => ("FlightLegs$Table", "rows", "I", true)
  | 1 => ("FlightLegs$Table", "width", "I", true)
  | _ => ("FlightLegs$Table", "cells", "[I", true)
def ty8 : Nat → FieldType := fun k => match k with
  | 0 => .int
  | 1 => .int
  | _ => .array .int
theorem nk8 : ∀ a, a < 3 → ∀ b, b < 3 → a ≠ b → (Tk8 a).2.1 ≠ (Tk8 b).2.1 := by decide +kernel
theorem tk8 : ∀ k, k < 3 → parseFieldDescriptor (Tk8 k).2.2.1 = some (ty8 k) := by decide +kernel
theorem ik8 : ∀ x ∈ u_ws Rk8 Tk8 3, x ∈ lw_g := by
  intro x hx
  have h : ∀ x ∈ u_ws Rk8 Tk8 3, x ∈ lw_tbl ∧ goodWord x = true := by
    exact fun x hx => mgs [176, 178, 180] (by decide +kernel) x hx
  exact List.mem_filter.mpr (h x hx)
def Rk9 : String := "FlightLegs$Track"
def Tk9 : u_T := fun k => match k with
  | 0 => ("FlightLegs$Track", "plan", "LFlightLegs$Plan;", true)
  | 1 => ("FlightLegs$Track", "settings", "LFlightLegs$Settings;", true)
  | 2 => ("FlightLegs$Track", "legs", "LFlightLegs$Table;", true)
  | 3 => ("FlightLegs$Track", "segments", "LFlightLegs$Table;", true)
  | 4 => ("FlightLegs$Track", "count", "I", false)
  | 5 => ("FlightLegs$Track", "x", "I", false)
  | 6 => ("FlightLegs$Track", "y", "I", false)
  | 7 => ("FlightLegs$Track", "inLeg", "I", false)
  | 8 => ("FlightLegs$Track", "inCourse", "I", false)
  | 9 => ("FlightLegs$Track", "inLength", "I", false)
  | 10 => ("FlightLegs$Track", "linked", "Z", false)
  | _ => ("FlightLegs$Track", "climbed", "I", false)
def ty9 : Nat → FieldType := fun k => match k with
  | 0 => .object "FlightLegs$Plan"
  | 1 => .object "FlightLegs$Settings"
  | 2 => .object "FlightLegs$Table"
  | 3 => .object "FlightLegs$Table"
  | 4 => .int
  | 5 => .int
  | 6 => .int
  | 7 => .int
  | 8 => .int
  | 9 => .int
  | 10 => .boolean
  | _ => .int
theorem nk9 : ∀ a, a < 12 → ∀ b, b < 12 → a ≠ b → (Tk9 a).2.1 ≠ (Tk9 b).2.1 := by decide +kernel
theorem tk9 : ∀ k, k < 12 → parseFieldDescriptor (Tk9 k).2.2.1 = some (ty9 k) := by decide +kernel
theorem ik9 : ∀ x ∈ u_ws Rk9 Tk9 12, x ∈ lw_g := by
  intro x hx
  have h : ∀ x ∈ u_ws Rk9 Tk9 12, x ∈ lw_tbl ∧ goodWord x = true := by
    exact fun x hx => mgs [344, 346, 348, 350, 352, 354, 356, 358, 360, 362, 364, 366] (by decide +kernel) x hx
  exact List.mem_filter.mpr (h x hx)
def Rk10 : String := "FlightLegs"
def Tk10 : u_T := fun k => match k with
  | 0 => ("FlightLegs", "settings", "LFlightLegs$Settings;", true)
  | 1 => ("FlightLegs", "text", "LFlightLegs$RouteText;", true)
  | 2 => ("FlightLegs", "active", "LFlightLegs$Plan;", true)
  | 3 => ("FlightLegs", "modified", "LFlightLegs$Plan;", true)
  | 4 => ("FlightLegs", "trial", "LFlightLegs$Plan;", true)
  | 5 => ("FlightLegs", "activePath", "LFlightLegs$Path;", true)
  | 6 => ("FlightLegs", "modifiedPath", "LFlightLegs$Path;", true)
  | 7 => ("FlightLegs", "trialPath", "LFlightLegs$Path;", true)
  | 8 => ("FlightLegs", "history", "LFlightLegs$History;", true)
  | 9 => ("FlightLegs", "progress", "LFlightLegs$Progress;", true)
  | _ => ("FlightLegs", "editing", "Z", false)
def ty10 : Nat → FieldType := fun k => match k with
  | 0 => .object "FlightLegs$Settings"
  | 1 => .object "FlightLegs$RouteText"
  | 2 => .object "FlightLegs$Plan"
  | 3 => .object "FlightLegs$Plan"
  | 4 => .object "FlightLegs$Plan"
  | 5 => .object "FlightLegs$Path"
  | 6 => .object "FlightLegs$Path"
  | 7 => .object "FlightLegs$Path"
  | 8 => .object "FlightLegs$History"
  | 9 => .object "FlightLegs$Progress"
  | _ => .boolean
theorem nk10 : ∀ a, a < 11 → ∀ b, b < 11 → a ≠ b → (Tk10 a).2.1 ≠ (Tk10 b).2.1 := by decide +kernel
theorem tk10 : ∀ k, k < 11 → parseFieldDescriptor (Tk10 k).2.2.1 = some (ty10 k) := by decide +kernel
theorem ik10 : ∀ x ∈ u_ws Rk10 Tk10 11, x ∈ lw_g := by
  intro x hx
  have h : ∀ x ∈ u_ws Rk10 Tk10 11, x ∈ lw_tbl ∧ goodWord x = true := by
    exact fun x hx => mgs [518, 520, 522, 524, 526, 528, 530, 532, 534, 536, 538] (by decide +kernel) x hx
  exact List.mem_filter.mpr (h x hx)
def Rk11 : String := "FlightLegsModel"
def Tk11 : u_T := fun k => match k with
  | 0 => ("FlightLegsModel", "row", "[I", true)
  | 1 => ("FlightLegsModel", "exists", "Z", false)
  | 2 => ("FlightLegsModel", "undos", "I", false)
  | 3 => ("FlightLegsModel", "existed", "[Z", true)
  | 4 => ("FlightLegsModel", "flown", "I", false)
  | 5 => ("FlightLegsModel", "fixX", "[I", true)
  | 6 => ("FlightLegsModel", "fixY", "[I", true)
  | 7 => ("FlightLegsModel", "fixes", "I", false)
  | 8 => ("FlightLegsModel", "windX", "I", false)
  | 9 => ("FlightLegsModel", "windY", "I", false)
  | 10 => ("FlightLegsModel", "cruiseAltitude", "I", false)
  | 11 => ("FlightLegsModel", "cruiseSpeed", "I", false)
  | 12 => ("FlightLegsModel", "climbGradient", "I", false)
  | 13 => ("FlightLegsModel", "descentGradient", "I", false)
  | 14 => ("FlightLegsModel", "steepest", "I", false)
  | 15 => ("FlightLegsModel", "departure", "I", false)
  | 16 => ("FlightLegsModel", "arrival", "I", false)
  | 17 => ("FlightLegsModel", "sines", "[I", true)
  | 18 => ("FlightLegsModel", "leads", "[I", true)
  | 19 => ("FlightLegsModel", "segLeg", "[I", true)
  | 20 => ("FlightLegsModel", "startX", "[I", true)
  | 21 => ("FlightLegsModel", "startY", "[I", true)
  | 22 => ("FlightLegsModel", "stopX", "[I", true)
  | 23 => ("FlightLegsModel", "stopY", "[I", true)
  | 24 => ("FlightLegsModel", "segLength", "[I", true)
  | 25 => ("FlightLegsModel", "segCourse", "[I", true)
  | 26 => ("FlightLegsModel", "inCourse", "[I", true)
  | 27 => ("FlightLegsModel", "inLength", "[I", true)
  | 28 => ("FlightLegsModel", "inLeg", "[I", true)
  | 29 => ("FlightLegsModel", "inSegment", "[I", true)
  | 30 => ("FlightLegsModel", "segments", "I", false)
  | 31 => ("FlightLegsModel", "nowCourse", "I", false)
  | 32 => ("FlightLegsModel", "nowLength", "I", false)
  | 33 => ("FlightLegsModel", "nowLeg", "I", false)
  | 34 => ("FlightLegsModel", "nowSegment", "I", false)
  | 35 => ("FlightLegsModel", "anew", "[Z", true)
  | 36 => ("FlightLegsModel", "hasEnd", "[Z", true)
  | 37 => ("FlightLegsModel", "legEndX", "[I", true)
  | 38 => ("FlightLegsModel", "legEndY", "[I", true)
  | 39 => ("FlightLegsModel", "firstSegment", "[I", true)
  | 40 => ("FlightLegsModel", "arrivalCourse", "[I", true)
  | 41 => ("FlightLegsModel", "caBase", "I", false)
  | 42 => ("FlightLegsModel", "fromX", "I", false)
  | 43 => ("FlightLegsModel", "fromY", "I", false)
  | 44 => ("FlightLegsModel", "turn", "[I", true)
  | 45 => ("FlightLegsModel", "steps", "[I", true)
  | 46 => ("FlightLegsModel", "radius", "[I", true)
  | 47 => ("FlightLegsModel", "lead", "[I", true)
  | 48 => ("FlightLegsModel", "arc", "[I", true)
  | 49 => ("FlightLegsModel", "pieceLegs", "[I", true)
  | 50 => ("FlightLegsModel", "pieceKinds", "[I", true)
  | 51 => ("FlightLegsModel", "pieceLengths", "[I", true)
  | 52 => ("FlightLegsModel", "pieceCourses", "[I", true)
  | 53 => ("FlightLegsModel", "firstX", "[I", true)
  | 54 => ("FlightLegsModel", "firstY", "[I", true)
  | 55 => ("FlightLegsModel", "lastX", "[I", true)
  | 56 => ("FlightLegsModel", "lastY", "[I", true)
  | 57 => ("FlightLegsModel", "pieces", "I", false)
  | 58 => ("FlightLegsModel", "atX", "I", false)
  | 59 => ("FlightLegsModel", "atY", "I", false)
  | 60 => ("FlightLegsModel", "legLengths", "[I", true)
  | 61 => ("FlightLegsModel", "legTimes", "[I", true)
  | 62 => ("FlightLegsModel", "climb", "[I", true)
  | 63 => ("FlightLegsModel", "descent", "[I", true)
  | 64 => ("FlightLegsModel", "presentX", "I", false)
  | 65 => ("FlightLegsModel", "presentY", "I", false)
  | 66 => ("FlightLegsModel", "presentAt", "I", false)
  | 67 => ("FlightLegsModel", "text", "[I", true)
  | 68 => ("FlightLegsModel", "length", "I", false)
  | 69 => ("FlightLegsModel", "first", "I", false)
  | 70 => ("FlightLegsModel", "behind", "I", false)
  | 71 => ("FlightLegsModel", "names", "[I", true)
  | 72 => ("FlightLegsModel", "told", "[I", true)
  | 73 => ("FlightLegsModel", "toldLegs", "I", false)
  | _ => ("FlightLegsModel", "number", "I", false)
def ty11 : Nat → FieldType := fun k => match k with
  | 0 => .array .int
  | 1 => .boolean
  | 2 => .int
  | 3 => .array .boolean
  | 4 => .int
  | 5 => .array .int
  | 6 => .array .int
  | 7 => .int
  | 8 => .int
  | 9 => .int
  | 10 => .int
  | 11 => .int
  | 12 => .int
  | 13 => .int
  | 14 => .int
  | 15 => .int
  | 16 => .int
  | 17 => .array .int
  | 18 => .array .int
  | 19 => .array .int
  | 20 => .array .int
  | 21 => .array .int
  | 22 => .array .int
  | 23 => .array .int
  | 24 => .array .int
  | 25 => .array .int
  | 26 => .array .int
  | 27 => .array .int
  | 28 => .array .int
  | 29 => .array .int
  | 30 => .int
  | 31 => .int
  | 32 => .int
  | 33 => .int
  | 34 => .int
  | 35 => .array .boolean
  | 36 => .array .boolean
  | 37 => .array .int
  | 38 => .array .int
  | 39 => .array .int
  | 40 => .array .int
  | 41 => .int
  | 42 => .int
  | 43 => .int
  | 44 => .array .int
  | 45 => .array .int
  | 46 => .array .int
  | 47 => .array .int
  | 48 => .array .int
  | 49 => .array .int
  | 50 => .array .int
  | 51 => .array .int
  | 52 => .array .int
  | 53 => .array .int
  | 54 => .array .int
  | 55 => .array .int
  | 56 => .array .int
  | 57 => .int
  | 58 => .int
  | 59 => .int
  | 60 => .array .int
  | 61 => .array .int
  | 62 => .array .int
  | 63 => .array .int
  | 64 => .int
  | 65 => .int
  | 66 => .int
  | 67 => .array .int
  | 68 => .int
  | 69 => .int
  | 70 => .int
  | 71 => .array .int
  | 72 => .array .int
  | 73 => .int
  | _ => .int
theorem nk11 : ∀ a, a < 75 → ∀ b, b < 75 → a ≠ b → (Tk11 a).2.1 ≠ (Tk11 b).2.1 := by decide +kernel
theorem tk11 : ∀ k, k < 75 → parseFieldDescriptor (Tk11 k).2.2.1 = some (ty11 k) := by decide +kernel
theorem ik11 : ∀ x ∈ u_ws Rk11 Tk11 75, x ∈ lw_g := by
  intro x hx
  have h : ∀ x ∈ u_ws Rk11 Tk11 75, x ∈ lw_tbl ∧ goodWord x = true := by
    exact fun x hx => mgs [1456, 1458, 1460, 1462, 1464, 1466, 1468, 1470, 1472, 1474, 1476, 1478, 1480, 1482, 1484, 1486, 1488, 1490, 1492, 1494, 1496, 1498, 1500, 1502, 1504, 1506, 1508, 1510, 1512, 1514, 1516, 1518, 1520, 1522, 1524, 1526, 1528, 1530, 1532, 1534, 1536, 1538, 1540, 1542, 1544, 1546, 1548, 1550, 1552, 1554, 1556, 1558, 1560, 1562, 1564, 1566, 1568, 1570, 1572, 1574, 1576, 1578, 1580, 1582, 1584, 1586, 1588, 1590, 1592, 1594, 1596, 1598, 1600, 1602, 1604] (by decide +kernel) x hx
  exact List.mem_filter.mpr (h x hx)
theorem lin0 : Cond.initialized Rk0 ∈ lw_g := mg1 11 rfl rfl
theorem lne0 : Rk0 ≠ "java/lang/invoke/MethodHandle" ∧ Rk0 ≠ "java/lang/invoke/VarHandle" ∧ plainName Rk0 = true := ⟨by decide +kernel, by decide +kernel, by decide +kernel⟩
theorem lin1 : Cond.initialized Rk1 ∈ lw_g := mg1 7 rfl rfl
theorem lne1 : Rk1 ≠ "java/lang/invoke/MethodHandle" ∧ Rk1 ≠ "java/lang/invoke/VarHandle" ∧ plainName Rk1 = true := ⟨by decide +kernel, by decide +kernel, by decide +kernel⟩
theorem lin2 : Cond.initialized Rk2 ∈ lw_g := mg1 9 rfl rfl
theorem lne2 : Rk2 ≠ "java/lang/invoke/MethodHandle" ∧ Rk2 ≠ "java/lang/invoke/VarHandle" ∧ plainName Rk2 = true := ⟨by decide +kernel, by decide +kernel, by decide +kernel⟩
theorem lin3 : Cond.initialized Rk3 ∈ lw_g := mg1 6 rfl rfl
theorem lne3 : Rk3 ≠ "java/lang/invoke/MethodHandle" ∧ Rk3 ≠ "java/lang/invoke/VarHandle" ∧ plainName Rk3 = true := ⟨by decide +kernel, by decide +kernel, by decide +kernel⟩
theorem lin4 : Cond.initialized Rk4 ∈ lw_g := mg1 10 rfl rfl
theorem lne4 : Rk4 ≠ "java/lang/invoke/MethodHandle" ∧ Rk4 ≠ "java/lang/invoke/VarHandle" ∧ plainName Rk4 = true := ⟨by decide +kernel, by decide +kernel, by decide +kernel⟩
theorem lin5 : Cond.initialized Rk5 ∈ lw_g := mg1 12 rfl rfl
theorem lne5 : Rk5 ≠ "java/lang/invoke/MethodHandle" ∧ Rk5 ≠ "java/lang/invoke/VarHandle" ∧ plainName Rk5 = true := ⟨by decide +kernel, by decide +kernel, by decide +kernel⟩
theorem lin6 : Cond.initialized Rk6 ∈ lw_g := mg1 5 rfl rfl
theorem lne6 : Rk6 ≠ "java/lang/invoke/MethodHandle" ∧ Rk6 ≠ "java/lang/invoke/VarHandle" ∧ plainName Rk6 = true := ⟨by decide +kernel, by decide +kernel, by decide +kernel⟩
theorem lin7 : Cond.initialized Rk7 ∈ lw_g := mg1 2 rfl rfl
theorem lne7 : Rk7 ≠ "java/lang/invoke/MethodHandle" ∧ Rk7 ≠ "java/lang/invoke/VarHandle" ∧ plainName Rk7 = true := ⟨by decide +kernel, by decide +kernel, by decide +kernel⟩
theorem lin8 : Cond.initialized Rk8 ∈ lw_g := mg1 3 rfl rfl
theorem lne8 : Rk8 ≠ "java/lang/invoke/MethodHandle" ∧ Rk8 ≠ "java/lang/invoke/VarHandle" ∧ plainName Rk8 = true := ⟨by decide +kernel, by decide +kernel, by decide +kernel⟩
theorem lin9 : Cond.initialized Rk9 ∈ lw_g := mg1 8 rfl rfl
theorem lne9 : Rk9 ≠ "java/lang/invoke/MethodHandle" ∧ Rk9 ≠ "java/lang/invoke/VarHandle" ∧ plainName Rk9 = true := ⟨by decide +kernel, by decide +kernel, by decide +kernel⟩
theorem lin10 : Cond.initialized Rk10 ∈ lw_g := mg1 1 rfl rfl
theorem lne10 : Rk10 ≠ "java/lang/invoke/MethodHandle" ∧ Rk10 ≠ "java/lang/invoke/VarHandle" ∧ plainName Rk10 = true := ⟨by decide +kernel, by decide +kernel, by decide +kernel⟩
theorem lin11 : Cond.initialized Rk11 ∈ lw_g := mg1 13 rfl rfl
theorem lne11 : Rk11 ≠ "java/lang/invoke/MethodHandle" ∧ Rk11 ≠ "java/lang/invoke/VarHandle" ∧ plainName Rk11 = true := ⟨by decide +kernel, by decide +kernel, by decide +kernel⟩
def clA : List vw_C := [(Rk0, Tk0, 4), (Rk1, Tk1, 6), (Rk2, Tk2, 11), (Rk3, Tk3, 4), (Rk4, Tk4, 3), (Rk5, Tk5, 6), (Rk6, Tk6, 8), (Rk7, Tk7, 11), (Rk8, Tk8, 3), (Rk9, Tk9, 12), (Rk10, Tk10, 11), (Rk11, Tk11, 75)]
abbrev o_r (σ : St) : Int32 → Option Value × St := fun x => (some (.int x), σ)
abbrev o_w : Int32 × St → Option Value × St := fun x => (some (.int x.1), x.2)
abbrev o_v : St → Option Value × St := fun x => (none, x)
