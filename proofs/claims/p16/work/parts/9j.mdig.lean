theorem dX8_digest_0 : decode cX8_digest 0 = .ok (.ldc2_w 367, 3) := by decide +kernel
theorem dX8_digest_3 : decode cX8_digest 3 = .ok (.lstore_n 1, 1) := by decide +kernel
theorem dX8_digest_4 : decode cX8_digest 4 = .ok (.iconst 0, 1) := by decide +kernel
theorem dX8_digest_5 : decode cX8_digest 5 = .ok (.istore_n 3, 1) := by decide +kernel
theorem dX8_digest_6 : decode cX8_digest 6 = .ok (.iload_n 3, 1) := by decide +kernel
theorem dX8_digest_7 : decode cX8_digest 7 = .ok (.aload_n 0, 1) := by decide +kernel
theorem dX8_digest_8 : decode cX8_digest 8 = .ok (.getfield 137, 3) := by decide +kernel
theorem dX8_digest_11 : decode cX8_digest 11 = .ok (.if_icmp .ge 40, 3) := by decide +kernel
theorem dX8_digest_51 : decode cX8_digest 51 = .ok (.iconst 0, 1) := by decide +kernel
theorem dX8_digest_52 : decode cX8_digest 52 = .ok (.istore_n 3, 1) := by decide +kernel
theorem dX8_digest_53 : decode cX8_digest 53 = .ok (.iload_n 3, 1) := by decide +kernel
theorem dX8_digest_54 : decode cX8_digest 54 = .ok (.aload_n 0, 1) := by decide +kernel
theorem dX8_digest_55 : decode cX8_digest 55 = .ok (.getfield 171, 3) := by decide +kernel
theorem dX8_digest_58 : decode cX8_digest 58 = .ok (.if_icmp .ge 39, 3) := by decide +kernel
theorem dX8_digest_97 : decode cX8_digest 97 = .ok (.lload_n 1, 1) := by decide +kernel
theorem dX8_digest_98 : decode cX8_digest 98 = .ok (.lreturn, 1) := by decide +kernel
theorem dX8_digest_61 : decode cX8_digest 61 = .ok (.iconst 0, 1) := by decide +kernel
theorem dX8_digest_62 : decode cX8_digest 62 = .ok (.istore 4, 2) := by decide +kernel
theorem dX8_digest_64 : decode cX8_digest 64 = .ok (.iload 4, 2) := by decide +kernel
theorem dX8_digest_66 : decode cX8_digest 66 = .ok (.iconst 3, 1) := by decide +kernel
theorem dX8_digest_67 : decode cX8_digest 67 = .ok (.if_icmp .ge 24, 3) := by decide +kernel
theorem dX8_digest_91 : decode cX8_digest 91 = .ok (.iinc 3 1, 3) := by decide +kernel
theorem dX8_digest_94 : decode cX8_digest 94 = .ok (.goto (-41), 3) := by decide +kernel
theorem dX8_digest_70 : decode cX8_digest 70 = .ok (.ldc2_w 369, 3) := by decide +kernel
theorem dX8_digest_73 : decode cX8_digest 73 = .ok (.lload_n 1, 1) := by decide +kernel
theorem dX8_digest_74 : decode cX8_digest 74 = .ok (.lmul, 1) := by decide +kernel
theorem dX8_digest_75 : decode cX8_digest 75 = .ok (.aload_n 0, 1) := by decide +kernel
theorem dX8_digest_76 : decode cX8_digest 76 = .ok (.iload_n 3, 1) := by decide +kernel
theorem dX8_digest_77 : decode cX8_digest 77 = .ok (.iload 4, 2) := by decide +kernel
theorem dX8_digest_79 : decode cX8_digest 79 = .ok (.invokevirtual 374, 3) := by decide +kernel
theorem dX8_digest_82 : decode cX8_digest 82 = .ok (.i2l, 1) := by decide +kernel
theorem dX8_digest_83 : decode cX8_digest 83 = .ok (.ladd, 1) := by decide +kernel
theorem dX8_digest_84 : decode cX8_digest 84 = .ok (.lstore_n 1, 1) := by decide +kernel
theorem dX8_digest_85 : decode cX8_digest 85 = .ok (.iinc 4 1, 3) := by decide +kernel
theorem dX8_digest_88 : decode cX8_digest 88 = .ok (.goto (-24), 3) := by decide +kernel
theorem dX8_digest_14 : decode cX8_digest 14 = .ok (.iconst 0, 1) := by decide +kernel
theorem dX8_digest_15 : decode cX8_digest 15 = .ok (.istore 4, 2) := by decide +kernel
theorem dX8_digest_17 : decode cX8_digest 17 = .ok (.iload 4, 2) := by decide +kernel
theorem dX8_digest_19 : decode cX8_digest 19 = .ok (.bipush 16, 2) := by decide +kernel
theorem dX8_digest_21 : decode cX8_digest 21 = .ok (.if_icmp .ge 24, 3) := by decide +kernel
theorem dX8_digest_45 : decode cX8_digest 45 = .ok (.iinc 3 1, 3) := by decide +kernel
theorem dX8_digest_48 : decode cX8_digest 48 = .ok (.goto (-42), 3) := by decide +kernel
theorem dX8_digest_24 : decode cX8_digest 24 = .ok (.ldc2_w 369, 3) := by decide +kernel
theorem dX8_digest_27 : decode cX8_digest 27 = .ok (.lload_n 1, 1) := by decide +kernel
theorem dX8_digest_28 : decode cX8_digest 28 = .ok (.lmul, 1) := by decide +kernel
theorem dX8_digest_29 : decode cX8_digest 29 = .ok (.aload_n 0, 1) := by decide +kernel
theorem dX8_digest_30 : decode cX8_digest 30 = .ok (.iload_n 3, 1) := by decide +kernel
theorem dX8_digest_31 : decode cX8_digest 31 = .ok (.iload 4, 2) := by decide +kernel
theorem dX8_digest_33 : decode cX8_digest 33 = .ok (.invokevirtual 371, 3) := by decide +kernel
theorem dX8_digest_36 : decode cX8_digest 36 = .ok (.i2l, 1) := by decide +kernel
theorem dX8_digest_37 : decode cX8_digest 37 = .ok (.ladd, 1) := by decide +kernel
theorem dX8_digest_38 : decode cX8_digest 38 = .ok (.lstore_n 1, 1) := by decide +kernel
theorem dX8_digest_39 : decode cX8_digest 39 = .ok (.iinc 4 1, 3) := by decide +kernel
theorem dX8_digest_42 : decode cX8_digest 42 = .ok (.goto (-25), 3) := by decide +kernel
theorem m_lret {p : Program} {l : Launch} {e : Env} {R : Room} {s : State} {m : MethodId} {args : Array Value} {below : List Frame} {meth : Method} {c : Code} {H : Heap} {locs : List Loc} {cc : ByteArray} {pc : Nat} {ls : Array Slot} {G : mG} {o : Nat → Int32} {F : Nat → Nat → Int32} (hx : p.tables.exec = Jvm.exec) (hb : c.code = cc) (hr : meth.sig.returnType = some .long) (hK : mK G s) (hP : mP G o F H) (hS : va_S (mA G s.heap.size) s.heap H locs) {v : Int64} {post : Int64 → mS → Prop} (hpost : post v (o, F)) (hdg : decode cc pc = .ok (.lreturn, 1)) (hlocks : meth.locks = false) :
    W p l e R s m args below meth c H locs 0 0 (MQ below (mQl G s.heap.size post) args s 0 0 (mA G s.heap.size)) (F0 m pc ls [.long v]) :=
  W.lret (v := v) hx hb hr (fun t ht hW => ⟨⟨v, (o, F), rfl, hpost, by show mP G o F t.heap; rw [ht]; exact hP, va_K.moved hW.alike hK⟩, hS.F ht⟩) hS.2.2 hdg hlocks
