def g_CSW (y : MethodName) (cc : ByteArray) (n : Nat) (ret : Option FieldType) (hh : List (Nat × Nat × Nat × Nat)) (k : Nat) : Prop := Cond.codeWith y cc n ret hh ∈ g_B ∧ Cond.initialized y.cls ∈ g_B ∧ Cond.static y ∈ g_B ∧ (y.cls ≠ "java/lang/invoke/MethodHandle" ∧ y.cls ≠ "java/lang/invoke/VarHandle" ∧ (parseMethodDescriptor y.desc).map (fun d => d.parameters.length) = some k)
section LB
variable {p : Program} {l : Launch} {e : Env} {R : Room} {s : State} {m : MethodId} {args : Array Value} {below : List Frame} {meth : Method} {c : Code} {H : Heap} {locs : List Loc} {cells slots : Nat} {Q : State → Prop}
variable {cc : ByteArray} {pc nL : Nat} {ls : Array Slot} {rest st0 As : List Value} {A : Nat → Prop} {V : Nat → Nat} {g f f1 : GH} {D : va_G} {cT : Nat → ClassId} {n n1 : Nat} {free : Addr → Prop}
variable {y : MethodName} {bytes : ByteArray} {maxL mc ms index j b ci : Nat} {ret : Option FieldType} {rm : Room} {own : String} {Qc : Array Value → State → Outcome → State → Prop} {a : Array Value} {hh : List (Nat × Nat × Nat × Nat)}
theorem lv_lcmpN (hexec : p.tables.exec = Jvm.exec) (hb : c.code = cc) {x y : Int64} (hdg : decode cc pc = .ok (.lcmp, 1))
    (k : W p l e R s m args below meth c H locs cells slots Q (F0 m (pc + 1) ls (.int (h_lc x y) :: rest))) : W p l e R s m args below meth c H locs cells slots Q (F0 m pc ls (.long y :: .long x :: rest)) := by
  unfold h_lc at k
  intro T hT X
  obtain ⟨t, a, b⟩ := k T hT X
  refine ⟨t, ?_, b⟩
  jvm_step X.here [X.here.top, hexec, hb, hdg]
  split
  · rename_i h1
    rw [if_pos h1] at a
    exact a
  · rename_i h1
    rw [if_neg h1] at a
    split
    · rename_i h2
      rw [if_pos (beq_iff_eq.mpr h2)] at a
      exact a
    · rename_i h2
      rw [if_neg (fun h => h2 (beq_iff_eq.mp h))] at a
      exact a
theorem g_runSW (C0 : CallFix p m c cc nL s args g_B own) (hM : Met l y (Cond.codeWith y bytes maxL ret hh :: g_B) rm (va_Pc As (g_I V g D cT f n)) Qc mc ms free) (k : g_CSW y bytes maxL ret hh j) (hl : Cond.methodLink own index y ∈ g_B) (hrc : rm.cells = mc) (hrs : rm.slots = ms) (hR : rm.frames + 1 ≤ R.frames ∧ 8 + (maxL + 11) + rm.locals ≤ R.locals)
    (hI : g_at A V g D cT f n s H locs) (hn : As.length = j) (hsize : ls.size = nL) (hst : st0 = As.reverse ++ rest) (hrest : (rest.map fun v => v.category).sum ≤ 8) (hdg : decode cc pc = .ok (.invokestatic index, 3)) (hf : cells + mc ≤ R.cells ∧ slots + ms ≤ R.slots) :
    va_Run p l e R s m args below meth c H locs cells slots mc ms (F0 m pc ls st0) rest (Qc As.toArray) free :=
  vx_runSW (n := j) C0 hM ⟨⟨hrc, hrs, hR.1, hR.2, pay_in C0.2.2.2.2 (g_good k.1), List.mem_cons_self⟩, C0.2.2.2.2 _ k.1, C0.2.2.2.2 _ k.2.1, ⟨k.2.2.2.1, k.2.2.2.2.1⟩, (fun sig h => by
    have h2 := k.2.2.2.2.2
    rw [h] at h2
    exact (Option.some.inj h2).symm), C0.2.2.2.2 _ hl, C0.2.2.2.2 _ k.2.2.1⟩ (g_preS hI) rfl hn hsize hst (lv_room hrest) hdg hf
theorem gl_i {o : Int32 × GH} (hr : va_Run p l e R s m args below meth c H locs cells slots mc ms (F0 m pc ls st0) rest (g_Wn V D cT o n a) (g_A V)) (hI : g_at (g_A V) V g D cT f n s H locs)
    (kk : ∀ (H1 : Heap) (locs1 : List Loc) (n1 : Nat), n ≤ n1 → g_at (g_A V) V g D cT o.2 n1 s H1 locs1 → W p l e R s m args below meth c H1 locs1 (cells + mc) (slots + ms) Q (F0 m (pc + 3) ls (.int o.1 :: rest))) : W p l e R s m args below meth c H locs cells slots Q (F0 m pc ls st0) :=
  va_calli hr hI.2.2.2.2.2.2.1 (fun _ _ h => h) (fun _ h => h) (fun r _ t H1 locs1 ht _ hw hB _ hk hS => by
    rw [show r = o.1 from hw]
    exact kk H1 locs1 t.heap.size hB.1 ⟨by rw [← ht], hI.2.1, by rw [← ht]; exact hB.2, hI.2.2.2.1, hI.2.2.2.2.1, hI.2.2.2.2.2.1, hS, fun _ h => h⟩)
end LB
theorem k_L_loadMap : g_CSW yL_loadMap cL_loadMap 4 (some .int) [(0, 9, 12, 13)] 3 := ⟨m_608, m_0, m_607, by decide +kernel⟩
theorem k_L_isIsland : g_CSW yL_isIsland cL_isIsland 4 (some .int) [(0, 16, 19, 19)] 3 := ⟨m_744, m_0, m_743, by decide +kernel⟩
theorem k_L_pointCount : g_CSW yL_pointCount cL_pointCount 4 (some .int) [(0, 9, 12, 19)] 3 := ⟨m_758, m_0, m_757, by decide +kernel⟩
theorem k_L_pointX : g_CSW yL_pointX cL_pointX 5 (some .int) [(0, 10, 13, 19)] 4 := ⟨m_765, m_0, m_764, by decide +kernel⟩
theorem k_L_pointY : g_CSW yL_pointY cL_pointY 5 (some .int) [(0, 10, 13, 19)] 4 := ⟨m_777, m_0, m_776, by decide +kernel⟩
theorem k_L_pointDistance : g_CSW yL_pointDistance cL_pointDistance 6 (some .int) [(0, 12, 15, 19)] 5 := ⟨m_784, m_0, m_783, by decide +kernel⟩
theorem k_L_nearestPoint : g_CSW yL_nearestPoint cL_nearestPoint 6 (some .int) [(0, 12, 15, 19), (0, 12, 19, 13)] 5 := ⟨m_796, m_0, m_795, by decide +kernel⟩
theorem k_L_lengthAt : g_CSW yL_lengthAt cL_lengthAt 5 (some .int) [(0, 10, 13, 19), (0, 10, 17, 13)] 4 := ⟨m_807, m_0, m_806, by decide +kernel⟩
theorem k_L_stickCount : g_CSW yL_stickCount cL_stickCount 5 (some .int) [(0, 10, 13, 19), (0, 10, 17, 13)] 4 := ⟨m_835, m_0, m_834, by decide +kernel⟩
theorem k_L_stickStart : g_CSW yL_stickStart cL_stickStart 6 (some .int) [(0, 12, 15, 19), (0, 12, 19, 13)] 5 := ⟨m_843, m_0, m_842, by decide +kernel⟩
theorem k_L_stickLength : g_CSW yL_stickLength cL_stickLength 6 (some .int) [(0, 12, 15, 19), (0, 12, 19, 13)] 5 := ⟨m_854, m_0, m_853, by decide +kernel⟩
theorem k_L_longestStick : g_CSW yL_longestStick cL_longestStick 5 (some .int) [(0, 10, 13, 19), (0, 10, 17, 13)] 4 := ⟨m_862, m_0, m_861, by decide +kernel⟩
theorem k_L_lengthGain : g_CSW yL_lengthGain cL_lengthGain 5 (some .int) [(0, 10, 13, 19), (0, 10, 17, 13)] 4 := ⟨m_869, m_0, m_868, by decide +kernel⟩
theorem k_L_levelOfGreatestGain : g_CSW yL_levelOfGreatestGain cL_levelOfGreatestGain 4 (some .int) [(0, 9, 12, 19)] 3 := ⟨m_881, m_0, m_880, by decide +kernel⟩
theorem k_L_coarsestLevelFor : g_CSW yL_coarsestLevelFor cL_coarsestLevelFor 5 (some .int) [(0, 10, 13, 19), (0, 10, 17, 13)] 4 := ⟨m_888, m_0, m_887, by decide +kernel⟩
theorem k_L_coarsestExactLevel : g_CSW yL_coarsestExactLevel cL_coarsestExactLevel 4 (some .int) [(0, 9, 12, 19)] 3 := ⟨m_900, m_0, m_899, by decide +kernel⟩
theorem k_L_totalLength : g_CSW yL_totalLength cL_totalLength 4 (some .int) [(0, 9, 12, 13)] 3 := ⟨m_907, m_0, m_906, by decide +kernel⟩
theorem k_L_longestCoast : g_CSW yL_longestCoast cL_longestCoast 4 (some .int) [(0, 9, 12, 13)] 3 := ⟨m_914, m_0, m_913, by decide +kernel⟩
theorem k_L_refinementRatio : g_CSW yL_refinementRatio cL_refinementRatio 5 (some .int) [(0, 9, 12, 19), (0, 9, 16, 13)] 4 := ⟨m_921, m_0, m_920, by decide +kernel⟩
theorem k_L_meanStickLength : g_CSW yL_meanStickLength cL_meanStickLength 5 (some .int) [(0, 10, 13, 19), (0, 10, 17, 13)] 4 := ⟨m_928, m_0, m_927, by decide +kernel⟩
theorem k_L_doubledArea : g_CSW yL_doubledArea cL_doubledArea 4 (some .int) [(0, 9, 12, 19), (0, 9, 15, 82)] 3 := ⟨m_935, m_0, m_934, by decide +kernel⟩
theorem k_L_isCounterclockwise : g_CSW yL_isCounterclockwise cL_isCounterclockwise 4 (some .int) [(0, 16, 19, 19), (0, 16, 22, 82)] 3 := ⟨m_952, m_0, m_951, by decide +kernel⟩
theorem k_L_contains : g_CSW yL_contains cL_contains 6 (some .int) [(0, 19, 22, 19), (0, 19, 26, 82), (0, 19, 30, 13)] 5 := ⟨m_959, m_0, m_958, by decide +kernel⟩
theorem k_L_encloses : g_CSW yL_encloses cL_encloses 5 (some .int) [(0, 17, 20, 19), (0, 17, 24, 82)] 4 := ⟨m_985, m_0, m_984, by decide +kernel⟩
theorem k_L_innermostIslandAround : g_CSW yL_innermostIslandAround cL_innermostIslandAround 4 (some .int) [(0, 9, 12, 19)] 3 := ⟨m_997, m_0, m_996, by decide +kernel⟩
theorem k_L_ringDepth : g_CSW yL_ringDepth cL_ringDepth 4 (some .int) [(0, 9, 12, 19)] 3 := ⟨m_1009, m_0, m_1008, by decide +kernel⟩
theorem k_L_boxWidth : g_CSW yL_boxWidth cL_boxWidth 4 (some .int) [(0, 9, 12, 19)] 3 := ⟨m_1016, m_0, m_1015, by decide +kernel⟩
theorem k_L_boxHeight : g_CSW yL_boxHeight cL_boxHeight 4 (some .int) [(0, 9, 12, 19)] 3 := ⟨m_1028, m_0, m_1027, by decide +kernel⟩
theorem k_L_foldObstacle : g_CSW yL_foldObstacle cL_foldObstacle 5 (some .int) [(0, 10, 13, 19), (0, 10, 17, 13)] 4 := ⟨m_1035, m_0, m_1034, by decide +kernel⟩
theorem k_L_lengthAfterFold : g_CSW yL_lengthAfterFold cL_lengthAfterFold 6 (some .int) [(0, 12, 15, 19), (0, 12, 19, 13)] 5 := ⟨m_1043, m_0, m_1042, by decide +kernel⟩
theorem k_L_lengthWithoutPoint : g_CSW yL_lengthWithoutPoint cL_lengthWithoutPoint 5 (some .int) [(0, 10, 13, 19)] 4 := ⟨m_1052, m_0, m_1051, by decide +kernel⟩
theorem k_L_leastImportantPoint : g_CSW yL_leastImportantPoint cL_leastImportantPoint 4 (some .int) [(0, 9, 12, 19)] 3 := ⟨m_1064, m_0, m_1063, by decide +kernel⟩
theorem k_L_lengthInOtherMetric : g_CSW yL_lengthInOtherMetric cL_lengthInOtherMetric 5 (some .int) [(0, 10, 13, 19), (0, 10, 17, 13)] 4 := ⟨m_1071, m_0, m_1070, by decide +kernel⟩
theorem k_L_addCoast : g_CSW yL_addCoast cL_addCoast 4 (some .int) [(0, 9, 12, 13), (0, 9, 15, 82)] 3 := ⟨m_1078, m_0, m_1077, by decide +kernel⟩
theorem k_L_removeCoast : g_CSW yL_removeCoast cL_removeCoast 4 (some .int) [(0, 9, 12, 19)] 3 := ⟨m_1091, m_0, m_1090, by decide +kernel⟩
theorem k_L_fold : g_CSW yL_fold cL_fold 5 (some .int) [(0, 10, 13, 19), (0, 10, 17, 13), (0, 10, 21, 82)] 4 := ⟨m_1100, m_0, m_1099, by decide +kernel⟩
theorem k_L_unfold : g_CSW yL_unfold cL_unfold 4 (some .int) [(0, 9, 12, 19), (0, 9, 15, 82)] 3 := ⟨m_1109, m_0, m_1108, by decide +kernel⟩
theorem k_L_movePoint : g_CSW yL_movePoint cL_movePoint 7 (some .int) [(0, 14, 17, 19), (0, 14, 21, 13)] 6 := ⟨m_1118, m_0, m_1117, by decide +kernel⟩
theorem k_L_insertPoint : g_CSW yL_insertPoint cL_insertPoint 7 (some .int) [(0, 14, 17, 19), (0, 14, 21, 13), (0, 14, 25, 82)] 6 := ⟨m_1127, m_0, m_1126, by decide +kernel⟩
theorem k_L_removePoint : g_CSW yL_removePoint cL_removePoint 5 (some .int) [(0, 10, 13, 19), (0, 10, 17, 82)] 4 := ⟨m_1135, m_0, m_1134, by decide +kernel⟩
theorem k_L_shift : g_CSW yL_shift cL_shift 6 (some .int) [(0, 12, 15, 19), (0, 12, 19, 13), (0, 12, 23, 82)] 5 := ⟨m_1144, m_0, m_1143, by decide +kernel⟩
theorem k_L_reverse : g_CSW yL_reverse cL_reverse 4 (some .int) [(0, 9, 12, 19)] 3 := ⟨m_1153, m_0, m_1152, by decide +kernel⟩
theorem k_L_runScript : g_CSW yL_runScript cL_runScript 4 (some .int) [(0, 9, 12, 13)] 3 := ⟨m_1162, m_0, m_1161, by decide +kernel⟩
theorem k_L_writeLengths : g_CSW yL_writeLengths cL_writeLengths 4 (some .int) [(0, 9, 12, 19)] 3 := ⟨m_1183, m_0, m_1182, by decide +kernel⟩
theorem k_L_outputByte : g_CSW yL_outputByte cL_outputByte 4 (some .int) [(0, 9, 12, 19)] 3 := ⟨m_1452, m_0, m_1451, by decide +kernel⟩
theorem k_L_undo : g_CSW yL_undo cL_undo 3 (some .int) [(0, 8, 11, 82)] 2 := ⟨m_1470, m_0, m_1469, by decide +kernel⟩
theorem k_L_restoreSnapshot : g_CSW yL_restoreSnapshot cL_restoreSnapshot 3 (some .int) [(0, 8, 11, 82)] 2 := ⟨m_1478, m_0, m_1477, by decide +kernel⟩
