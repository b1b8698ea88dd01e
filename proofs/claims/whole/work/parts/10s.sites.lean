/-! Where the program throws: the sites, and the words of the exceptions' making. By program (wip/gen/gen14.py). -/
abbrev knames : List String := ["java/lang/RuntimeException", "java/lang/Exception"]
def kAT (X : String) : List Cond := Bundle.throwableAtoms ++ Bundle.throwableSAtoms ++ Bundle.chainSAtoms X knames ++ [.instantiable X 6, .castable X X, .selects X Bundle.tFill0 Bundle.tFill0, .selects X Bundle.tFill Bundle.tFill, .lays X Bundle.tN "cause" "Ljava/lang/Throwable;", .lays X Bundle.tN "stackTrace" Bundle.steD, .lays X Bundle.tN "suppressedExceptions" Bundle.listD, .lays X Bundle.tN "detailMessage" "Ljava/lang/String;", .fieldLink Bundle.tN 198 Bundle.tN "backtrace" "Ljava/lang/Object;", .lays Bundle.tN Bundle.tN "backtrace" "Ljava/lang/Object;", .lays X Bundle.tN "backtrace" "Ljava/lang/Object;", .initialized X]
def kkeep3 (q : Cond) : Bool := match q with
  | .castable _ _ => true
  | .laysStatic _ _ _ => true
  | _ => false
set_option maxRecDepth 100000 in
set_option maxHeartbeats 4000000 in
theorem kAT_30 : (kAT (kxn 30)).map (fun q => some q) = [131, 473, 482, 486, 489, 491, 474, 475, 149, 150, 476, 481, 487, 507, 463, 508, 465, 509, 467, 477, 478, 479, 480, 469, 503, 504, 506, 469, 494, 495, 496, 497, 455, 497, 498, 499, 500, 457, 500, 501, 502, 503, 459, 452, 453, 460, 461, 462, 464, 466, 468, 472, 471, 470, 134].map (fun i => lw_tbl[i]?) := rfl
theorem kATk_30 : (kAT (kxn 30)).all (fun q => kkeep q || kkeep3 q) = true := by decide +kernel
set_option maxRecDepth 100000 in
set_option maxHeartbeats 4000000 in
theorem kAT_31 : (kAT (kxn 31)).map (fun q => some q) = [131, 473, 482, 486, 489, 491, 474, 475, 149, 150, 476, 481, 487, 507, 463, 508, 465, 509, 467, 477, 478, 479, 480, 469, 503, 504, 506, 469, 893, 894, 895, 497, 455, 497, 498, 499, 500, 457, 500, 501, 502, 503, 459, 883, 884, 885, 485, 886, 887, 888, 889, 472, 471, 890, 141].map (fun i => lw_tbl[i]?) := rfl
theorem kATk_31 : (kAT (kxn 31)).all (fun q => kkeep q || kkeep3 q) = true := by decide +kernel
set_option maxRecDepth 100000 in
set_option maxHeartbeats 4000000 in
theorem kAT_32 : (kAT (kxn 32)).map (fun q => some q) = [131, 473, 482, 486, 489, 491, 474, 475, 149, 150, 476, 481, 487, 507, 463, 508, 465, 509, 467, 477, 478, 479, 480, 469, 503, 504, 506, 469, 935, 936, 937, 497, 455, 497, 498, 499, 500, 457, 500, 501, 502, 503, 459, 925, 926, 927, 484, 928, 929, 930, 931, 472, 471, 932, 142].map (fun i => lw_tbl[i]?) := rfl
theorem kATk_32 : (kAT (kxn 32)).all (fun q => kkeep q || kkeep3 q) = true := by decide +kernel
/-- a site: method, pc, class entry, tag, String entry, constructor entry, text -/
def KTH : List (Nat × Nat × Nat × Nat × Nat × Nat × String) := [(7, 15, 90, 31, 92, 94, "there is no such item"), (8, 31, 90, 31, 104, 94, "there is no such key"), (9, 24, 109, 30, 111, 113, "the node is no number and no truth"), (12, 10, 130, 32, 132, 134, "nothing is loaded"), (12, 32, 130, 32, 139, 134, "there are not enough letters"), (37, 9, 55, 30, 57, 59, "there are too many nodes"), (39, 10, 55, 30, 62, 59, "there are too many items"), (62, 7, 33, 30, 35, 37, "a node lies too deep"), (63, 12, 33, 30, 50, 37, "a table has a key twice"), (64, 51, 33, 30, 73, 37, "a naming needs one letter"), (64, 69, 33, 30, 75, 37, "a node has two namings"), (67, 37, 33, 30, 104, 37, "nothing can be had once more here"), (71, 26, 33, 30, 132, 37, "a bracket is not closed"), (73, 61, 33, 30, 134, 37, "a blank must stand behind the colon"), (74, 21, 33, 30, 140, 37, "a key is missing"), (77, 19, 33, 30, 168, 37, "a quoted text is wrong"), (81, 16, 33, 30, 178, 37, "a value is missing"), (81, 70, 33, 30, 180, 37, "a plain text has the colon of a key"), (90, 47, 47, 30, 49, 51, "a line is left"), (91, 62, 47, 30, 74, 51, "something is left in the line"), (92, 98, 47, 30, 104, 51, "a row needs a dash"), (94, 11, 47, 30, 115, 51, "a line is too deep"), (97, 43, 47, 30, 153, 51, "a line of a piece is not deep enough")]
def kTHc (q : Nat × Nat × Nat × Nat × Nat × Nat × String) : Bool := decide (decode (kby q.1) (q.2.1 + 3) = .ok (.dup, 1)) && decide (decode (kby q.1) (q.2.1 + 4) = .ok (.ldc q.2.2.2.2.1, 2)) && decide (decode (kby q.1) (q.2.1 + 6) = .ok (.invokespecial q.2.2.2.2.2.1, 3)) && decide (decode (kby q.1) (q.2.1 + 9) = .ok (.athrow, 1)) && decide (30 ≤ q.2.2.2.1) && decide (q.2.2.2.1 < 33)
theorem KTH_ok : KTH.all kTHc = true := by decide +kernel
set_option maxRecDepth 100000 in
theorem KTHc_eq : KTH.map (fun q => some (Cond.classLink (kown (kme q.1).1) q.2.2.1 (kxn q.2.2.2.1))) = [882, 882, 913, 924, 924, 523, 523, 451, 451, 451, 451, 451, 451, 451, 451, 451, 451, 451, 660, 660, 660, 660, 660].map (fun i => lw_tbl[i]?) := rfl
set_option maxRecDepth 100000 in
theorem KTHm_eq : KTH.map (fun q => some (Cond.methodLink (kown (kme q.1).1) q.2.2.2.2.2.1 (Bundle.initS (kxn q.2.2.2.1)))) = [892, 892, 915, 934, 934, 525, 525, 493, 493, 493, 493, 493, 493, 493, 493, 493, 493, 493, 662, 662, 662, 662, 662].map (fun i => lw_tbl[i]?) := rfl
def kthi (y pc x : Nat) (i : Instr) : Bool := match i with
  | .new idx => decide (x < 1000) || KTH.any (fun q => decide (q.1 = y) && decide (q.2.1 = pc) && decide (q.2.2.1 = idx) && decide (q.2.2.2.1 + 1000 = x))
  | _ => true
theorem kth_all : ((List.range 182).drop 1).all (fun y => (kblks y).all (fun b => b.2.all (fun q => kthi y q.1 q.2.1 q.2.2))) = true := by decide +kernel
