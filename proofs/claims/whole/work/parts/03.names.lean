/-! names: written by my program wip/gen/build.py out of claim/Statement.lean and claim/JAVAP.txt (field tables of the class out of claim/NAMES.whole.lean.txt) -/
abbrev RX0 : String := "ThreeCompactors"
def TX0 : u_T := fun k => match k with
  | 0 => ("ThreeCompactors", "words", "[I", true)
  | 1 => ("ThreeCompactors", "roots", "[I", true)
  | 2 => ("ThreeCompactors", "starts", "[I", true)
  | 3 => ("ThreeCompactors", "reached", "[I", true)
  | 4 => ("ThreeCompactors", "newAddress", "[I", true)
  | 5 => ("ThreeCompactors", "top", "I", false)
  | 6 => ("ThreeCompactors", "objectCount", "I", false)
  | 7 => ("ThreeCompactors", "reachedCount", "I", false)
  | _ => ("ThreeCompactors", "lastSerial", "I", false)
def tyX0 : Nat → FieldType := fun k => match k with
  | 0 => .array .int
  | 1 => .array .int
  | 2 => .array .int
  | 3 => .array .int
  | 4 => .array .int
  | 5 => .int
  | 6 => .int
  | 7 => .int
  | _ => .int
theorem nmX0 : ∀ a, a < 9 → ∀ b, b < 9 → a ≠ b → (TX0 a).2.1 ≠ (TX0 b).2.1 := by decide +kernel
theorem tyX0_ok : ∀ k, k < 9 → parseFieldDescriptor (TX0 k).2.2.1 = some (tyX0 k) := by decide +kernel
abbrev RX1 : String := "ThreeCompactorsModel"
def TX1 : u_T := fun k => match k with
  | 0 => ("ThreeCompactorsModel", "thrown", "I", false)
  | 1 => ("ThreeCompactorsModel", "made", "I", false)
  | 2 => ("ThreeCompactorsModel", "used", "[Z", false)
  | 3 => ("ThreeCompactorsModel", "fields", "[I", false)
  | 4 => ("ThreeCompactorsModel", "serials", "[I", false)
  | 5 => ("ThreeCompactorsModel", "kinds", "[I", false)
  | 6 => ("ThreeCompactorsModel", "values", "[I", false)
  | 7 => ("ThreeCompactorsModel", "lives", "[Z", false)
  | 8 => ("ThreeCompactorsModel", "count", "I", false)
  | 9 => ("ThreeCompactorsModel", "order", "[I", false)
  | 10 => ("ThreeCompactorsModel", "next", "[I", false)
  | _ => ("ThreeCompactorsModel", "roots", "[I", false)
def tyX1 : Nat → FieldType := fun k => match k with
  | 0 => .int
  | 1 => .int
  | 2 => .array .boolean
  | 3 => .array .int
  | 4 => .array .int
  | 5 => .array .int
  | 6 => .array .int
  | 7 => .array .boolean
  | 8 => .int
  | 9 => .array .int
  | 10 => .array .int
  | _ => .array .int
theorem nmX1 : ∀ a, a < 12 → ∀ b, b < 12 → a ≠ b → (TX1 a).2.1 ≠ (TX1 b).2.1 := by decide +kernel
theorem tyX1_ok : ∀ k, k < 12 → parseFieldDescriptor (TX1 k).2.2.1 = some (tyX1 k) := by decide +kernel
abbrev RA : String := "java/util/Arrays"
abbrev RL : String := "ThreeCompactorsLaw"
abbrev vwCl : List vw_C := [(RX0, TX0, 9), (RX1, TX1, 12)]
abbrev tyA (cI cZ cL : ClassId) : List (ClassId × FieldType) := [(cI, .int), (cZ, .boolean), (cL, .long)]
abbrev wX (cI : ClassId) (h a1 a2 a3 a4 a5 : Nat) (w r st rc na : Nat → Int32) (tp cn rh sr : Int32) : va_W := [(h, .inr (0, [.ref a1, .ref a2, .ref a3, .ref a4, .ref a5, .int tp, .int cn, .int rh, .int sr])), (a1, .inl (cI, 256, .inl w)), (a2, .inl (cI, 8, .inl r)), (a3, .inl (cI, 128, .inl st)), (a4, .inl (cI, 128, .inl rc)), (a5, .inl (cI, 256, .inl na))]
abbrev wM (cI cZ : ClassId) (hm b1 b2 b3 b4 b5 b6 b7 b8 b9 : Nat) (th mk : Int32) (us fi se ki va li : Nat → Int32) (ct : Int32) (od ne ro : Nat → Int32) : va_W := [(hm, .inr (1, [.int th, .int mk, .ref b1, .ref b2, .ref b3, .ref b4, .ref b5, .ref b6, .int ct, .ref b7, .ref b8, .ref b9])), (b1, .inl (cZ, 128, .inl us)), (b2, .inl (cI, 128, .inl fi)), (b3, .inl (cI, 128, .inl se)), (b4, .inl (cI, 768, .inl ki)), (b5, .inl (cI, 768, .inl va)), (b6, .inl (cZ, 128, .inl li)), (b7, .inl (cI, 128, .inl od)), (b8, .inl (cI, 128, .inl ne)), (b9, .inl (cI, 8, .inl ro))]
abbrev wA (cI : ClassId) (a k : Nat) (f : Nat → Int32) : va_W := [(a, .inl (cI, k, .inl f))]
/-- every good word of the tables -/
def BG : List Cond := lw_tbl.filter goodWord
theorem BG_in : ∀ w ∈ BG, w ∈ lw_tbl := fun w h => (List.mem_filter.mp h).1
theorem BG_good : ∀ w ∈ BG, goodWord w = true := fun w h => (List.mem_filter.mp h).2
theorem gBG {h : Cond} {y : MethodName} {c : ByteArray} {n : Nat} {r : Option FieldType} (hm : Cond.code y c n r ∈ BG) : GoodIn (h :: BG) (.code y c n r :: BG) := fun w hw => by
  rcases List.mem_cons.mp hw with rfl | hw
  · exact ⟨List.mem_cons_of_mem _ hm, good_of_word (BG_good _ hm)⟩
  · exact ⟨List.mem_cons_of_mem _ hw, good_of_word (BG_good _ hw)⟩
theorem g1 {h : Cond} {w : Cond} {L : List Cond} (hw : w ∈ BG) (hL : GoodIn (h :: BG) L) : GoodIn (h :: BG) (w :: L) := fun x hx => by
  rcases List.mem_cons.mp hx with rfl | hx
  · exact ⟨List.mem_cons_of_mem _ hw, good_of_word (BG_good _ hw)⟩
  · exact hL x hx
theorem gV {h : Cond} {own C : String} {idx : Nat} {y : MethodName} {c : ByteArray} {n : Nat} {r : Option FieldType} (h1 : Cond.methodLink own idx y ∈ BG) (h2 : Cond.instanceMethod y ∈ BG) (h3 : Cond.selects C y y ∈ BG) (h4 : Cond.initialized C ∈ BG) (hm : Cond.code y c n r ∈ BG) : GoodIn (h :: BG) (wsV own idx C y (.code y c n r :: BG)) := g1 h1 (g1 h2 (g1 h3 (g1 h4 (gBG hm))))
theorem gS {h : Cond} {own : String} {idx : Nat} {y : MethodName} {c : ByteArray} {n : Nat} {r : Option FieldType} (h1 : Cond.methodLink own idx y ∈ BG) (h2 : Cond.static y ∈ BG) (h4 : Cond.initialized y.cls ∈ BG) (hm : Cond.code y c n r ∈ BG) : GoodIn (h :: BG) (va_wsS own idx y (.code y c n r :: BG)) := g1 h1 (g1 h2 (g1 h4 (gBG hm)))
set_option maxRecDepth 100000 in
theorem inX0 : ∀ w ∈ u_ws RX0 TX0 9, w ∈ BG := by decide +kernel
set_option maxRecDepth 100000 in
theorem inX1 : ∀ w ∈ u_ws RX1 TX1 12, w ∈ BG := by decide +kernel
