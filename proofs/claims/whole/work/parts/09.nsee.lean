/-! 'throw new NoSuchElementException("text")': its constructor stands at another place of its class file than the plain ones' -/
def q_own5 (own : String) (ic : Nat) (X : String) (ix : Nat) (rx : ByteArray) (Y : String) (r : List String) : List Cond :=
  Bundle.throwableAtoms ++ Bundle.throwableSAtoms ++ (Bundle.passSAtoms X Y ix rx ++ Bundle.chainSAtoms Y r) ++
  [.methodLink own ic (Bundle.initS X), .instantiable X 6, .castable X X, .selects X Bundle.tFill0 Bundle.tFill0, .selects X Bundle.tFill Bundle.tFill, .lays X Bundle.tN "cause" "Ljava/lang/Throwable;", .lays X Bundle.tN "stackTrace" Bundle.steD, .lays X Bundle.tN "suppressedExceptions" Bundle.listD, .lays X Bundle.tN "detailMessage" "Ljava/lang/String;",
   .isRef (.static Bundle.tN "UNASSIGNED_STACK" Bundle.steD), .isRef (.static Bundle.tN "SUPPRESSED_SENTINEL" Bundle.listD), .fieldLink Bundle.tN 198 Bundle.tN "backtrace" "Ljava/lang/Object;", .lays Bundle.tN Bundle.tN "backtrace" "Ljava/lang/Object;", .lays X Bundle.tN "backtrace" "Ljava/lang/Object;"]
def q_at5 (own : String) (ic : Nat) (X : String) (ix : Nat) (rx : ByteArray) (Y : String) (r : List String) : List Cond := (q_own5 own ic X ix rx Y r).filter vx_no
theorem q_leC (ws : List Cond) (rm : Room) {n : Nat} (h : rm.cells = n) : 0 + n ≤ (headSpec ws rm).room.cells := by
  rw [← h, Nat.zero_add]
  exact Nat.le_refl _
theorem q_leS (ws : List Cond) (rm : Room) {n : Nat} (h : rm.slots = n) : 0 + n ≤ (headSpec ws rm).room.slots := by
  rw [← h, Nat.zero_add]
  exact Nat.le_refl _
section QN
variable {p : Program} {l : Launch} {e : Env} {R : Room} {s : State} {m : MethodId} {args : Array Value} {below : List Frame} {meth : Method} {c : Code} {H : Heap} {locs : List Loc} {cells slots mc ms : Nat} {Q : State → Prop}
variable {cc : ByteArray} {pc : Nat} {ls : Array Slot} {rest : List Value} {D : va_G} {cl : List vw_C} {A : Nat → Prop} {tys : List (ClassId × FieldType)} {ws : va_W} {own cls text : String} {tx : List (Nat × String)} {Qc : Array Value → State → Outcome → State → Prop}
theorem q_throwN (hexec : p.tables.exec = Jvm.exec) (hb : c.code = cc) (hl : l.stackTraces = false) {ix : Nat} {rx : ByteArray} {Y : String} {names : List String} {ik is ic ef : Nat}
    (x0 : decode rx 0 = .ok (.aload_n 0, 1)) (x1 : decode rx 1 = .ok (.aload_n 1, 1)) (x2 : decode rx 2 = .ok (.invokespecial ix, 3)) (x5 : decode rx 5 = .ok (.return_, 1))
    (hown : s.vm.findClass own = some m.cls) (hcls : Bundle.fit cls = true) (hY : Bundle.fit Y = true) (hnames : ∀ n ∈ names, Bundle.fit n = true)
    (hk : (Cond.classLink own ik cls).before args s = true) (hini : (Cond.initialized cls).before args s = true) (hT : q_T own tx s) (htx : (is, text) ∈ tx) {BW : List Cond} (hts : ∀ w ∈ BW, w.before args s = true) (hat1 : ∀ w ∈ (q_at5 own ic cls ix rx Y names).filter goodWord, w ∈ BW) (hN : q_N s) (hcs : cls ∈ q_cs) (hat2 : ∀ w ∈ (q_at5 own ic cls ix rx Y names).filter (fun w => !goodWord w), w ∈ q_B cls)
    (hgood : ∀ w ∈ Cond.classLink own ik cls :: Cond.initialized cls :: q_at5 own ic cls ix rx Y names, vx_ot w = true)
    (hZ : q_Z A s s.heap) (hS : va_S A s.heap H locs) (hsize : ls.size = c.maxLocals)
    (d0 : decode cc pc = .ok (.new ik, 3)) (d3 : decode cc (pc + 3) = .ok (.dup, 1)) (d4 : decode cc (pc + 4) = .ok (.ldc is, 2)) (d6 : decode cc (pc + 6) = .ok (.invokespecial ic, 3)) (d9 : decode cc (pc + 9) = .ok (.athrow, 1))
    (hno : ∀ x ∈ c.exceptionTable.toList, False)
    (hRframes : names.length + 4 < R.frames) (hRlocals : (rest.map fun v => v.category).sum + (13 * (names.length + 2) + 43) ≤ R.locals) (hRcells : cells + 1 ≤ R.cells) (hRslots : slots + 6 ≤ R.slots) (hlocks : meth.locks = false)
    (hE : cls = q_E ef) (hne : ¬ ef = 0) (hK : va_K D cl tys s) (hP : va_P D cl ws H) (hD : va_D A ws) (hc : cells + 1 ≤ mc) (hs : slots + 6 ≤ ms) :
    W p l e R s m args below meth c H locs cells slots (vx_MQ below Qc (vx_X (fun (_ : Unit) => ¬ ef = 0) (fun E _ t => E = q_E ef ∧ q_post D cl tys A ws t) A) args s mc ms A) (F0 m pc ls rest) := by
  sorry
end QN
abbrev c5rx : ByteArray := prog_14_method_4_code
theorem d5rx_0 : decode c5rx 0 = .ok (.aload_n 0, 1) := by decide +kernel
theorem d5rx_1 : decode c5rx 1 = .ok (.aload_n 1, 1) := by decide +kernel
theorem d5rx_2 : decode c5rx 2 = .ok (.invokespecial 13, 3) := by decide +kernel
theorem d5rx_5 : decode c5rx 5 = .ok (.return_, 1) := by decide +kernel
set_option maxRecDepth 100000 in
theorem at_5 : ∀ w ∈ (q_at5 "ThreeCompactors" 122 "java/util/NoSuchElementException" 13 c5rx "java/lang/RuntimeException" ["java/lang/Exception"]).filter goodWord, w ∈ BG := by decide +kernel
