theorem dX8_does_0 : decode cX8_does 0 = .ok (.aload_n 0, 1) := by decide +kernel
theorem dX8_does_1 : decode cX8_does 1 = .ok (.getfield 331, 3) := by decide +kernel
theorem dX8_does_4 : decode cX8_does 4 = .ok (.ifCond .ne 6, 3) := by decide +kernel
theorem dX8_does_10 : decode cX8_does 10 = .ok (.aload_n 0, 1) := by decide +kernel
theorem dX8_does_11 : decode cX8_does 11 = .ok (.getfield 334, 3) := by decide +kernel
theorem dX8_does_14 : decode cX8_does 14 = .ok (.aload_n 0, 1) := by decide +kernel
theorem dX8_does_15 : decode cX8_does 15 = .ok (.getfield 337, 3) := by decide +kernel
theorem dX8_does_18 : decode cX8_does 18 = .ok (.if_icmp .eq 12, 3) := by decide +kernel
theorem dX8_does_30 : decode cX8_does 30 = .ok (.aload_n 0, 1) := by decide +kernel
theorem dX8_does_31 : decode cX8_does 31 = .ok (.iconst 2, 1) := by decide +kernel
theorem dX8_does_32 : decode cX8_does 32 = .ok (.iload_n 1, 1) := by decide +kernel
theorem dX8_does_33 : decode cX8_does 33 = .ok (.invokevirtual 343, 3) := by decide +kernel
theorem dX8_does_36 : decode cX8_does 36 = .ok (.ireturn, 1) := by decide +kernel
theorem dX8_does_21 : decode cX8_does 21 = .ok (.aload_n 0, 1) := by decide +kernel
theorem dX8_does_22 : decode cX8_does 22 = .ok (.getfield 340, 3) := by decide +kernel
theorem dX8_does_25 : decode cX8_does 25 = .ok (.bipush 60, 2) := by decide +kernel
theorem dX8_does_27 : decode cX8_does 27 = .ok (.if_icmp .ne 10, 3) := by decide +kernel
theorem dX8_does_7 : decode cX8_does 7 = .ok (.bipush (-9), 2) := by decide +kernel
theorem dX8_does_9 : decode cX8_does 9 = .ok (.ireturn, 1) := by decide +kernel
theorem dX8_does_37 : decode cX8_does 37 = .ok (.aload_n 0, 1) := by decide +kernel
theorem dX8_does_38 : decode cX8_does 38 = .ok (.dup, 1) := by decide +kernel
theorem dX8_does_39 : decode cX8_does 39 = .ok (.getfield 334, 3) := by decide +kernel
theorem dX8_does_42 : decode cX8_does 42 = .ok (.iconst 1, 1) := by decide +kernel
theorem dX8_does_43 : decode cX8_does 43 = .ok (.iadd, 1) := by decide +kernel
theorem dX8_does_44 : decode cX8_does 44 = .ok (.putfield 334, 3) := by decide +kernel
theorem dX8_does_47 : decode cX8_does 47 = .ok (.aload_n 0, 1) := by decide +kernel
theorem dX8_does_48 : decode cX8_does 48 = .ok (.dup, 1) := by decide +kernel
theorem dX8_does_49 : decode cX8_does 49 = .ok (.getfield 340, 3) := by decide +kernel
theorem dX8_does_52 : decode cX8_does 52 = .ok (.iconst 1, 1) := by decide +kernel
theorem dX8_does_53 : decode cX8_does 53 = .ok (.iadd, 1) := by decide +kernel
theorem dX8_does_54 : decode cX8_does 54 = .ok (.putfield 340, 3) := by decide +kernel
theorem dX8_does_57 : decode cX8_does 57 = .ok (.aload_n 0, 1) := by decide +kernel
theorem dX8_does_58 : decode cX8_does 58 = .ok (.iload_n 1, 1) := by decide +kernel
theorem dX8_does_59 : decode cX8_does 59 = .ok (.iload_n 2, 1) := by decide +kernel
theorem dX8_does_60 : decode cX8_does 60 = .ok (.invokevirtual 346, 3) := by decide +kernel
theorem dX8_does_63 : decode cX8_does 63 = .ok (.istore_n 3, 1) := by decide +kernel
theorem dX8_does_64 : decode cX8_does 64 = .ok (.aload_n 0, 1) := by decide +kernel
theorem dX8_does_65 : decode cX8_does 65 = .ok (.dup, 1) := by decide +kernel
theorem dX8_does_66 : decode cX8_does 66 = .ok (.getfield 340, 3) := by decide +kernel
theorem dX8_does_69 : decode cX8_does 69 = .ok (.iconst 1, 1) := by decide +kernel
theorem dX8_does_70 : decode cX8_does 70 = .ok (.isub, 1) := by decide +kernel
theorem dX8_does_71 : decode cX8_does 71 = .ok (.putfield 340, 3) := by decide +kernel
theorem dX8_does_74 : decode cX8_does 74 = .ok (.aload_n 0, 1) := by decide +kernel
theorem dX8_does_75 : decode cX8_does 75 = .ok (.getfield 331, 3) := by decide +kernel
theorem dX8_does_78 : decode cX8_does 78 = .ok (.ifCond .eq 7, 3) := by decide +kernel
theorem dX8_does_85 : decode cX8_does 85 = .ok (.bipush (-9), 2) := by decide +kernel
theorem dX8_does_87 : decode cX8_does 87 = .ok (.ireturn, 1) := by decide +kernel
theorem dX8_does_81 : decode cX8_does 81 = .ok (.iload_n 3, 1) := by decide +kernel
theorem dX8_does_82 : decode cX8_does 82 = .ok (.goto 5, 3) := by decide +kernel
def mDoesAt (fu : Nat) : Prop := ∀ (l : Launch) (G : mG) (hDD : mDD G) (o : Nat → Int32) (F : Nat → Nat → Int32) (tr : aM) (N : Nat) (gd : Nat → Prop) (vs : Nat) (es : Nat) (wk : Nat) (ms : Nat) (n : Nat) (ev : Int32) (hT : TRm tr N o F) (hW : WS tr N gd vs es wk ms o F) (hvs : vs ≤ wk) (hes : es ≤ wk) (hn : n < N) (he : EO es ev) (hd : o 64 = nI (60 - fu)) (hfu : fu ≤ 60) (sz : Nat), Met l yX8_does (wU yX8_does cX8_does 4 (some .int)) { frames := 3 * fu + 3, cells := 0, slots := 0, locals := 80 * fu + 100 } (mPc G o F sz [.ref (mh G), .int (nI n), .int ev]) (mQi G sz (fun r u => WQ tr N gd vs es wk ms 0 o F r u)) 0 0 (mA G sz)

def mSeenAt (fu : Nat) : Prop := ∀ (l : Launch) (G : mG) (hDD : mDD G) (o : Nat → Int32) (F : Nat → Nat → Int32) (tr : aM) (N : Nat) (gd : Nat → Prop) (vs : Nat) (es : Nat) (wk : Nat) (ms : Nat) (n : Nat) (ev : Int32) (hT : TRm tr N o F) (hW : WS tr N gd vs es wk ms o F) (hvs : vs ≤ wk) (hes : es ≤ wk) (hn : n < N) (he : EO es ev) (hd : o 64 = nI (60 - fu)) (hfu : fu ≤ 60) (sz : Nat), Met l yX8_seen (wU yX8_seen cX8_seen 4 (some .int)) { frames := 3 * fu + 4, cells := 0, slots := 0, locals := 80 * fu + 123 } (mPc G o F sz [.ref (mh G), .int (nI n), .int ev]) (mQi G sz (fun r u => WQ tr N gd vs es wk ms 0 o F r u)) 0 0 (mA G sz)

def mDoingAt (fu : Nat) : Prop := ∀ (l : Launch) (G : mG) (hDD : mDD G) (o : Nat → Int32) (F : Nat → Nat → Int32) (tr : aM) (N : Nat) (gd : Nat → Prop) (vs : Nat) (es : Nat) (wk : Nat) (ms : Nat) (n : Nat) (ev : Int32) (hT : TRm tr N o F) (hW : WS tr N gd vs es wk ms o F) (hvs : vs + 1 ≤ wk) (hes : es + 1 ≤ wk) (hn : n < N) (he : EO es ev) (hd : o 64 = nI (60 - fu)) (hfu : fu ≤ 60) (sz : Nat), Met l yX8_doing (wU yX8_doing cX8_doing 7 (some .int)) { frames := 3 * fu + 5, cells := 0, slots := 0, locals := 80 * fu + 146 } (mPc G o F sz [.ref (mh G), .int (nI n), .int ev]) (mQi G sz (fun r u => WQ tr N gd vs es wk ms 1 o F r u)) 0 0 (mA G sz)
