theorem sub_X_12_Ballot {sl : Nat → Option Nat} {ext : List va_E} : zSub (sh_X sl ext) 12 sh_Ballot := zSub.of rfl
theorem sub_X_15_Outcomes {sl : Nat → Option Nat} {ext : List va_E} : zSub (sh_X sl ext) 15 sh_Outcomes := zSub.of rfl
noncomputable abbrev yy_X9_append : zY := (yX9_append, cX9_append, 6, (some Jvm.ClassFile.FieldType.int), 1, 22)
noncomputable def m_X9_append_1 (M : zM) (ty : Nat) (a : Int32) (b : Int32) (c : Int32) (d : Int32) (e : Int32) : zM := (zPs M 2 2 (g_X8_putFour (zPl M 2) ty a))
noncomputable def m_X9_append_2 (M : zM) (ty : Nat) (a : Int32) (b : Int32) (c : Int32) (d : Int32) (e : Int32) : zM := (zPs (m_X9_append_1 M ty a b c d e) 2 2 (g_X8_putFour (zPl (m_X9_append_1 M ty a b c d e) 2) (ty + 4) b))
noncomputable def m_X9_append_3 (M : zM) (ty : Nat) (a : Int32) (b : Int32) (c : Int32) (d : Int32) (e : Int32) : zM := (zPs (m_X9_append_2 M ty a b c d e) 2 2 (g_X8_putFour (zPl (m_X9_append_2 M ty a b c d e) 2) ((ty + 4) + 4) c))
noncomputable def m_X9_append_4 (M : zM) (ty : Nat) (a : Int32) (b : Int32) (c : Int32) (d : Int32) (e : Int32) : zM := (zPs (m_X9_append_3 M ty a b c d e) 2 2 (g_X8_putFour (zPl (m_X9_append_3 M ty a b c d e) 2) (((ty + 4) + 4) + 4) d))
noncomputable def m_X9_append_5 (M : zM) (ty : Nat) (a : Int32) (b : Int32) (c : Int32) (d : Int32) (e : Int32) : zM := (zPs (m_X9_append_4 M ty a b c d e) 2 2 (g_X8_putFour (zPl (m_X9_append_4 M ty a b c d e) 2) ((((ty + 4) + 4) + 4) + 4) e))
noncomputable def g_X9_append (M : zM) (ty : Nat) (a : Int32) (b : Int32) (c : Int32) (d : Int32) (e : Int32) : Int32 × zM := (if ((M 2 0) + 20) ≤ 600 then (((g_X8_putFour (zPl (m_X9_append_4 M ty a b c d e) 2) ((((ty + 4) + 4) + 4) + 4) e) 0 0), (m_X9_append_5 M ty a b c d e)) else ((-20), M))
set_option maxRecDepth 100000 in
theorem c_X9_append (M : zM) (sl : Nat → Option Nat) (ext : List va_E) (ty : Nat) (a : Int32) (b : Int32) (c : Int32) (d : Int32) (e : Int32) (hty : M 2 0 = nI ty) (h600 : ty ≤ 600) : zC yy_X9_append 0 0 [.ref 0, .int a, .int b, .int c, .int d, .int e] (sh_X sl ext) M (some (.int (g_X9_append M ty a b c d e).1)) (sh_X sl ext) (g_X9_append M ty a b c d e).2 := by
  refine zC.of (by decide +kernel) rfl (Nat.le_of_ble_eq_true rfl) ?_
  refine zT.run [(.aload_n 0, 0, 0, 0), (.getfield 20, 7, 1, 2070), (.getfield 69, 6, 0, 1048), (.bipush 20, 0, 0, 0), (.iadd, 0, 0, 0), (.sipush 600, 0, 0, 0)] (pe := 13) (ls' := [some (.ref 0), some (.int a), some (.int b), some (.int c), some (.int d), some (.int e)]) (st' := [.int 600, .int ((M 2 0) + 20)]) (M' := M) (by decide +kernel) rfl ?_
  refine zT.cle (tgt := 19) (off := 6) (by decide +kernel) (by decide) (fun (c1 : ((M 2 0) + 20) ≤ 600) => ?_) (fun (c1 : ¬ ((M 2 0) + 20) ≤ 600) => ?_)
  · skip
    refine zT.run [(.aload_n 0, 0, 0, 0), (.getfield 20, 7, 1, 2070), (.iload_n 1, 0, 0, 0)] (pe := 24) (ls' := [some (.ref 0), some (.int a), some (.int b), some (.int c), some (.int d), some (.int e)]) (st' := [.int a, .ref 2]) (M' := M) (by decide +kernel) rfl ?_
    refine zT.cV_sub 2 (o := 0) (idx := 146) (av := [.int a]) (rv := none) (st := []) (S1 := []) (c_X8_putFour (zPl M 2) ty a hty (by have := zTyI hty h600 (by assumption); omega)) sub_X_2_Text k_X8_putFour _ _ rfl rfl rfl (zIn (w := 3189) (by decide +kernel) rfl) (by decide +kernel) (by decide +kernel) rfl (Nat.le_of_ble_eq_true rfl) rfl ?_
    refine zT.eqM (M2 := (m_X9_append_1 M ty a b c d e)) rfl ?_
    refine zT.run [(.aload_n 0, 0, 0, 0), (.getfield 20, 7, 1, 2070), (.iload_n 2, 0, 0, 0)] (pe := 32) (ls' := [some (.ref 0), some (.int a), some (.int b), some (.int c), some (.int d), some (.int e)]) (st' := [.int b, .ref 2]) (M' := (m_X9_append_1 M ty a b c d e)) (by decide +kernel) rfl ?_
    refine zT.cV_sub 2 (o := 0) (idx := 146) (av := [.int b]) (rv := none) (st := []) (S1 := []) (c_X8_putFour (zPl (m_X9_append_1 M ty a b c d e) 2) (ty + 4) b (e_X8_putFour (M := zPl M 2) (ty := ty) (x := a) hty) (by have := zTyI hty h600 (by assumption); omega)) sub_X_2_Text k_X8_putFour _ _ rfl rfl rfl (zIn (w := 3189) (by decide +kernel) rfl) (by decide +kernel) (by decide +kernel) rfl (Nat.le_of_ble_eq_true rfl) rfl ?_
    refine zT.eqM (M2 := (m_X9_append_2 M ty a b c d e)) rfl ?_
    refine zT.run [(.aload_n 0, 0, 0, 0), (.getfield 20, 7, 1, 2070), (.iload_n 3, 0, 0, 0)] (pe := 40) (ls' := [some (.ref 0), some (.int a), some (.int b), some (.int c), some (.int d), some (.int e)]) (st' := [.int c, .ref 2]) (M' := (m_X9_append_2 M ty a b c d e)) (by decide +kernel) rfl ?_
    refine zT.cV_sub 2 (o := 0) (idx := 146) (av := [.int c]) (rv := none) (st := []) (S1 := []) (c_X8_putFour (zPl (m_X9_append_2 M ty a b c d e) 2) ((ty + 4) + 4) c (e_X8_putFour (M := zPl (m_X9_append_1 M ty a b c d e) 2) (ty := (ty + 4)) (x := b) (e_X8_putFour (M := zPl M 2) (ty := ty) (x := a) hty)) (by have := zTyI hty h600 (by assumption); omega)) sub_X_2_Text k_X8_putFour _ _ rfl rfl rfl (zIn (w := 3189) (by decide +kernel) rfl) (by decide +kernel) (by decide +kernel) rfl (Nat.le_of_ble_eq_true rfl) rfl ?_
    refine zT.eqM (M2 := (m_X9_append_3 M ty a b c d e)) rfl ?_
    refine zT.run [(.aload_n 0, 0, 0, 0), (.getfield 20, 7, 1, 2070), (.iload 4, 0, 0, 0)] (pe := 49) (ls' := [some (.ref 0), some (.int a), some (.int b), some (.int c), some (.int d), some (.int e)]) (st' := [.int d, .ref 2]) (M' := (m_X9_append_3 M ty a b c d e)) (by decide +kernel) rfl ?_
    refine zT.cV_sub 2 (o := 0) (idx := 146) (av := [.int d]) (rv := none) (st := []) (S1 := []) (c_X8_putFour (zPl (m_X9_append_3 M ty a b c d e) 2) (((ty + 4) + 4) + 4) d (e_X8_putFour (M := zPl (m_X9_append_2 M ty a b c d e) 2) (ty := ((ty + 4) + 4)) (x := c) (e_X8_putFour (M := zPl (m_X9_append_1 M ty a b c d e) 2) (ty := (ty + 4)) (x := b) (e_X8_putFour (M := zPl M 2) (ty := ty) (x := a) hty))) (by have := zTyI hty h600 (by assumption); omega)) sub_X_2_Text k_X8_putFour _ _ rfl rfl rfl (zIn (w := 3189) (by decide +kernel) rfl) (by decide +kernel) (by decide +kernel) rfl (Nat.le_of_ble_eq_true rfl) rfl ?_
    refine zT.eqM (M2 := (m_X9_append_4 M ty a b c d e)) rfl ?_
    refine zT.run [(.aload_n 0, 0, 0, 0), (.getfield 20, 7, 1, 2070), (.iload 5, 0, 0, 0)] (pe := 58) (ls' := [some (.ref 0), some (.int a), some (.int b), some (.int c), some (.int d), some (.int e)]) (st' := [.int e, .ref 2]) (M' := (m_X9_append_4 M ty a b c d e)) (by decide +kernel) rfl ?_
    refine zT.cV_sub 2 (o := 0) (idx := 146) (av := [.int e]) (rv := none) (st := []) (S1 := []) (c_X8_putFour (zPl (m_X9_append_4 M ty a b c d e) 2) ((((ty + 4) + 4) + 4) + 4) e (e_X8_putFour (M := zPl (m_X9_append_3 M ty a b c d e) 2) (ty := (((ty + 4) + 4) + 4)) (x := d) (e_X8_putFour (M := zPl (m_X9_append_2 M ty a b c d e) 2) (ty := ((ty + 4) + 4)) (x := c) (e_X8_putFour (M := zPl (m_X9_append_1 M ty a b c d e) 2) (ty := (ty + 4)) (x := b) (e_X8_putFour (M := zPl M 2) (ty := ty) (x := a) hty)))) (by have := zTyI hty h600 (by assumption); omega)) sub_X_2_Text k_X8_putFour _ _ rfl rfl rfl (zIn (w := 3189) (by decide +kernel) rfl) (by decide +kernel) (by decide +kernel) rfl (Nat.le_of_ble_eq_true rfl) rfl ?_
    refine zT.eqM (M2 := (m_X9_append_5 M ty a b c d e)) rfl ?_
    refine zT.run [(.aload_n 0, 0, 0, 0), (.getfield 20, 7, 1, 2070), (.getfield 69, 6, 0, 1048)] (pe := 68) (ls' := [some (.ref 0), some (.int a), some (.int b), some (.int c), some (.int d), some (.int e)]) (st' := [.int ((g_X8_putFour (zPl (m_X9_append_4 M ty a b c d e) 2) ((((ty + 4) + 4) + 4) + 4) e) 0 0)]) (M' := (m_X9_append_5 M ty a b c d e)) (by decide +kernel) rfl ?_
    exact zT.iret (ty := Jvm.ClassFile.FieldType.int) (by simp only [g_X9_append, if_pos c1]; try rfl) (by simp only [g_X9_append, if_pos c1]; try rfl) rfl rfl (by decide +kernel)
  · skip
    refine zT.run [(.bipush (-20), 0, 0, 0)] (pe := 18) (ls' := [some (.ref 0), some (.int a), some (.int b), some (.int c), some (.int d), some (.int e)]) (st' := [.int (-20)]) (M' := M) (by decide +kernel) rfl ?_
    exact zT.iret (ty := Jvm.ClassFile.FieldType.int) (by simp only [g_X9_append, if_neg c1]; try rfl) (by simp only [g_X9_append, if_neg c1]; try rfl) rfl rfl (by decide +kernel)
theorem k_X9_append : zCal yy_X9_append 5 := ⟨⟨⟨⟨zIn (w := 3188) (by decide +kernel) rfl, zIn (w := 1001) (by decide +kernel) rfl⟩, by decide +kernel⟩, by decide +kernel⟩, ⟨zIn (w := 3186) (by decide +kernel) rfl, zIn (w := 3187) (by decide +kernel) rfl⟩⟩
noncomputable abbrev yy_X9_office : zY := (yX9_office, cX9_office, 2, (some Jvm.ClassFile.FieldType.int), 10, 222)
noncomputable def g_X9_office (M : zM) (n : Nat) (w : Int32) : Int32 := (if w = 17 then (M 33 0) else (if w = 18 then (M 2 0) else (if w < 6 then (g_X4_tell (zPl M 5) n w) else (if 13 < w then (g_X4_tell (zPl M 5) n w) else (g_X1_tell (zPl M 12) w)))))
set_option maxRecDepth 100000 in
theorem c_X9_office (M : zM) (sl : Nat → Option Nat) (ext : List va_E) (n : Nat) (w : Int32) (hn : M 5 0 = nI n) (h9 : n ≤ 9) (hx1 : ¬ w < 0) (hx2 : w ≤ 18) : zC yy_X9_office 0 0 [.ref 0, .int w] (sh_X sl ext) M (some (.int (g_X9_office M n w))) (sh_X sl ext) M := by
  refine zC.of (by decide +kernel) rfl (Nat.le_of_ble_eq_true rfl) ?_
  refine zT.run [(.iload_n 1, 0, 0, 0), (.iconst 0, 0, 0, 0), (.bipush 18, 0, 0, 0)] (pe := 4) (ls' := [some (.ref 0), some (.int w)]) (st' := [.int 18, .int 0, .int w]) (M' := M) (by decide +kernel) rfl ?_
  refine zT.cS_nil (idx := 119) (av := [.int w, .int 0, .int 18]) (rv := none) (st := []) (S1 := []) (c_X9_needBetween_ok w 0 18 hx1 (Int32.not_lt.mpr hx2)) k_X9_needBetween rfl (zIn (w := 2104) (by decide +kernel) rfl) (by decide +kernel) (by decide +kernel) rfl (Nat.le_of_ble_eq_true rfl) rfl ?_
  refine zT.run [(.iload_n 1, 0, 0, 0), (.bipush 17, 0, 0, 0)] (pe := 10) (ls' := [some (.ref 0), some (.int w)]) (st' := [.int 17, .int w]) (M' := M) (by decide +kernel) rfl ?_
  refine zT.cne (tgt := 21) (off := 11) (by decide +kernel) (by decide) (fun (c1 : ¬ w = 17) => ?_) (fun (c1 : w = 17) => ?_)
  · skip
    refine zT.run [(.iload_n 1, 0, 0, 0), (.bipush 18, 0, 0, 0)] (pe := 24) (ls' := [some (.ref 0), some (.int w)]) (st' := [.int 18, .int w]) (M' := M) (by decide +kernel) rfl ?_
    refine zT.cne (tgt := 35) (off := 11) (by decide +kernel) (by decide) (fun (c2 : ¬ w = 18) => ?_) (fun (c2 : w = 18) => ?_)
    · skip
      refine zT.run [(.iload_n 1, 0, 0, 0), (.bipush 6, 0, 0, 0)] (pe := 38) (ls' := [some (.ref 0), some (.int w)]) (st' := [.int 6, .int w]) (M' := M) (by decide +kernel) rfl ?_
      refine zT.clt (tgt := 61) (off := 23) (by decide +kernel) (by decide) (fun (c3 : w < 6) => ?_) (fun (c3 : ¬ w < 6) => ?_)
      · skip
        refine zT.run [(.aload_n 0, 0, 0, 0), (.getfield 24, 7, 2, 2071), (.iload_n 1, 0, 0, 0)] (pe := 66) (ls' := [some (.ref 0), some (.int w)]) (st' := [.int w, .ref 5]) (M' := M) (by decide +kernel) rfl ?_
        refine zT.cV_pure 5 (o := 0) (idx := 158) (av := [.int w]) (rv := (some (.int (g_X4_tell (zPl M 5) n w)))) (st := []) (S1 := [.int (g_X4_tell (zPl M 5) n w)]) (c_X4_tell (zPl M 5) n w hn h9) sub_X_5_Office k_X4_tell _ _ rfl rfl rfl (zIn (w := 2186) (by decide +kernel) rfl) (by decide +kernel) (by decide +kernel) rfl (Nat.le_of_ble_eq_true rfl) rfl ?_
        exact zT.iret (ty := Jvm.ClassFile.FieldType.int) (by simp only [g_X9_office, if_neg c1, if_neg c2, if_pos c3]; try rfl) rfl rfl rfl (by decide +kernel)
      · skip
        refine zT.run [(.iload_n 1, 0, 0, 0), (.bipush 13, 0, 0, 0)] (pe := 44) (ls' := [some (.ref 0), some (.int w)]) (st' := [.int 13, .int w]) (M' := M) (by decide +kernel) rfl ?_
        refine zT.cgt (tgt := 61) (off := 17) (by decide +kernel) (by decide) (fun (c4 : 13 < w) => ?_) (fun (c4 : ¬ 13 < w) => ?_)
        · skip
          refine zT.run [(.aload_n 0, 0, 0, 0), (.getfield 24, 7, 2, 2071), (.iload_n 1, 0, 0, 0)] (pe := 66) (ls' := [some (.ref 0), some (.int w)]) (st' := [.int w, .ref 5]) (M' := M) (by decide +kernel) rfl ?_
          refine zT.cV_pure 5 (o := 0) (idx := 158) (av := [.int w]) (rv := (some (.int (g_X4_tell (zPl M 5) n w)))) (st := []) (S1 := [.int (g_X4_tell (zPl M 5) n w)]) (c_X4_tell (zPl M 5) n w hn h9) sub_X_5_Office k_X4_tell _ _ rfl rfl rfl (zIn (w := 2186) (by decide +kernel) rfl) (by decide +kernel) (by decide +kernel) rfl (Nat.le_of_ble_eq_true rfl) rfl ?_
          exact zT.iret (ty := Jvm.ClassFile.FieldType.int) (by simp only [g_X9_office, if_neg c1, if_neg c2, if_neg c3, if_pos c4]; try rfl) rfl rfl rfl (by decide +kernel)
        · skip
          refine zT.run [(.aload_n 0, 0, 0, 0), (.getfield 24, 7, 2, 2071), (.getfield 149, 2, 8, 1182), (.iload_n 1, 0, 0, 0)] (pe := 55) (ls' := [some (.ref 0), some (.int w)]) (st' := [.int w, .ref 12]) (M' := M) (by decide +kernel) rfl ?_
          refine zT.cV_pure 12 (o := 0) (idx := 153) (av := [.int w]) (rv := (some (.int (g_X1_tell (zPl M 12) w)))) (st := []) (S1 := [.int (g_X1_tell (zPl M 12) w)]) (c_X1_tell (zPl M 12) w) sub_X_12_Ballot k_X1_tell _ _ rfl rfl rfl (zIn (w := 2173) (by decide +kernel) rfl) (by decide +kernel) (by decide +kernel) rfl (Nat.le_of_ble_eq_true rfl) rfl ?_
          refine zT.run [(.goto 11, 0, 0, 0)] (pe := 69) (ls' := [some (.ref 0), some (.int w)]) (st' := [.int (g_X1_tell (zPl M 12) w)]) (M' := M) (by decide +kernel) rfl ?_
          exact zT.iret (ty := Jvm.ClassFile.FieldType.int) (by simp only [g_X9_office, if_neg c1, if_neg c2, if_neg c3, if_neg c4]; try rfl) rfl rfl rfl (by decide +kernel)
    · skip
      refine zT.run [(.aload_n 0, 0, 0, 0), (.getfield 20, 7, 1, 2070), (.getfield 69, 6, 0, 1048)] (pe := 34) (ls' := [some (.ref 0), some (.int w)]) (st' := [.int (M 2 0)]) (M' := M) (by decide +kernel) rfl ?_
      exact zT.iret (ty := Jvm.ClassFile.FieldType.int) (by simp only [g_X9_office, if_neg c1, if_pos c2]; try rfl) rfl rfl rfl (by decide +kernel)
  · skip
    refine zT.run [(.aload_n 0, 0, 0, 0), (.getfield 34, 7, 4, 2073), (.getfield 130, 1, 0, 1219)] (pe := 20) (ls' := [some (.ref 0), some (.int w)]) (st' := [.int (M 33 0)]) (M' := M) (by decide +kernel) rfl ?_
    exact zT.iret (ty := Jvm.ClassFile.FieldType.int) (by simp only [g_X9_office, if_pos c1]; try rfl) rfl rfl rfl (by decide +kernel)
theorem k_X9_office : zCal yy_X9_office 1 := ⟨⟨⟨⟨zIn (w := 2103) (by decide +kernel) rfl, zIn (w := 1001) (by decide +kernel) rfl⟩, by decide +kernel⟩, by decide +kernel⟩, ⟨zIn (w := 2101) (by decide +kernel) rfl, zIn (w := 2102) (by decide +kernel) rfl⟩⟩
noncomputable abbrev yy_X9_replica : zY := (yX9_replica, cX9_replica, 3, (some Jvm.ClassFile.FieldType.int), 10, 222)
noncomputable def g_X9_replica (M : zM) (n : Nat) (r : Nat) (w : Int32) : Int32 := (g_X4_tellOf (zPl M 5) r w)
set_option maxRecDepth 100000 in
theorem c_X9_replica (M : zM) (sl : Nat → Option Nat) (ext : List va_E) (n : Nat) (r : Nat) (w : Int32) (hn : M 5 0 = nI n) (h9 : n ≤ 9) (hc : zHc (zPl M 5)) (h_r : r < n) (hx1 : ¬ w < 0) (hx2 : w ≤ 9) : zC yy_X9_replica 0 0 [.ref 0, .int (nI r), .int w] (sh_X sl ext) M (some (.int (g_X9_replica M n r w))) (sh_X sl ext) M := by
  refine zC.of (by decide +kernel) rfl (Nat.le_of_ble_eq_true rfl) ?_
  refine zT.run [(.aload_n 0, 0, 0, 0), (.iload_n 1, 0, 0, 0)] (pe := 2) (ls' := [some (.ref 0), some (.int (nI r)), some (.int w)]) (st' := [.int (nI r), .ref 0]) (M' := M) (by decide +kernel) rfl ?_
  refine zT.cV_own (o := 0) (idx := 85) (av := [.int (nI r)]) (rv := none) (st := []) (S1 := []) (c_X9_needReplica_ok M sl ext n r hn h9 h_r) k_X9_needReplica _ _ rfl rfl rfl (zIn (w := 4197) (by decide +kernel) rfl) (by decide +kernel) (by decide +kernel) rfl (Nat.le_of_ble_eq_true rfl) rfl ?_
  refine zT.run [(.iload_n 2, 0, 0, 0), (.iconst 0, 0, 0, 0), (.bipush 9, 0, 0, 0)] (pe := 9) (ls' := [some (.ref 0), some (.int (nI r)), some (.int w)]) (st' := [.int 9, .int 0, .int w]) (M' := M) (by decide +kernel) rfl ?_
  refine zT.cS_nil (idx := 119) (av := [.int w, .int 0, .int 9]) (rv := none) (st := []) (S1 := []) (c_X9_needBetween_ok w 0 9 hx1 (Int32.not_lt.mpr hx2)) k_X9_needBetween rfl (zIn (w := 2104) (by decide +kernel) rfl) (by decide +kernel) (by decide +kernel) rfl (Nat.le_of_ble_eq_true rfl) rfl ?_
  refine zT.run [(.aload_n 0, 0, 0, 0), (.getfield 24, 7, 2, 2071), (.iload_n 1, 0, 0, 0), (.iload_n 2, 0, 0, 0)] (pe := 18) (ls' := [some (.ref 0), some (.int (nI r)), some (.int w)]) (st' := [.int w, .int (nI r), .ref 5]) (M' := M) (by decide +kernel) rfl ?_
  refine zT.cV_pure 5 (o := 0) (idx := 159) (av := [.int (nI r), .int w]) (rv := (some (.int (g_X4_tellOf (zPl M 5) r w)))) (st := []) (S1 := [.int (g_X4_tellOf (zPl M 5) r w)]) (c_X4_tellOf (zPl M 5) r w hc (by omega)) sub_X_5_Office k_X4_tellOf _ _ rfl rfl rfl (zIn (w := 4217) (by decide +kernel) rfl) (by decide +kernel) (by decide +kernel) rfl (Nat.le_of_ble_eq_true rfl) rfl ?_
  exact zT.iret (ty := Jvm.ClassFile.FieldType.int) (by simp only [g_X9_replica]; try rfl) rfl rfl rfl (by decide +kernel)
theorem k_X9_replica : zCal yy_X9_replica 2 := ⟨⟨⟨⟨zIn (w := 4196) (by decide +kernel) rfl, zIn (w := 1001) (by decide +kernel) rfl⟩, by decide +kernel⟩, by decide +kernel⟩, ⟨zIn (w := 4194) (by decide +kernel) rfl, zIn (w := 4195) (by decide +kernel) rfl⟩⟩
noncomputable abbrev yy_X9_isLinked : zY := (yX9_isLinked, cX9_isLinked, 3, (some Jvm.ClassFile.FieldType.boolean), 10, 221)
noncomputable def g_X9_isLinked (M : zM) (n : Nat) (r : Nat) (o2 : Nat) : Int32 := (g_X9_has (M 11 r) (nI o2))
set_option maxRecDepth 100000 in
theorem c_X9_isLinked (M : zM) (sl : Nat → Option Nat) (ext : List va_E) (n : Nat) (r : Nat) (o2 : Nat) (hn : M 5 0 = nI n) (h9 : n ≤ 9) (h_r : r < n) (h_o2 : o2 < n) : zC yy_X9_isLinked 0 0 [.ref 0, .int (nI r), .int (nI o2)] (sh_X sl ext) M (some (.int (g_X9_isLinked M n r o2))) (sh_X sl ext) M := by
  refine zC.of (by decide +kernel) rfl (Nat.le_of_ble_eq_true rfl) ?_
  refine zT.run [(.aload_n 0, 0, 0, 0), (.iload_n 1, 0, 0, 0)] (pe := 2) (ls' := [some (.ref 0), some (.int (nI r)), some (.int (nI o2))]) (st' := [.int (nI r), .ref 0]) (M' := M) (by decide +kernel) rfl ?_
  refine zT.cV_own (o := 0) (idx := 85) (av := [.int (nI r)]) (rv := none) (st := []) (S1 := []) (c_X9_needReplica_ok M sl ext n r hn h9 h_r) k_X9_needReplica _ _ rfl rfl rfl (zIn (w := 4197) (by decide +kernel) rfl) (by decide +kernel) (by decide +kernel) rfl (Nat.le_of_ble_eq_true rfl) rfl ?_
  refine zT.run [(.aload_n 0, 0, 0, 0), (.iload_n 2, 0, 0, 0)] (pe := 7) (ls' := [some (.ref 0), some (.int (nI r)), some (.int (nI o2))]) (st' := [.int (nI o2), .ref 0]) (M' := M) (by decide +kernel) rfl ?_
  refine zT.cV_own (o := 0) (idx := 85) (av := [.int (nI o2)]) (rv := none) (st := []) (S1 := []) (c_X9_needReplica_ok M sl ext n o2 hn h9 h_o2) k_X9_needReplica _ _ rfl rfl rfl (zIn (w := 4197) (by decide +kernel) rfl) (by decide +kernel) (by decide +kernel) rfl (Nat.le_of_ble_eq_true rfl) rfl ?_
  refine zT.run [(.aload_n 0, 0, 0, 0), (.getfield 24, 7, 2, 2071), (.getfield 162, 2, 7, 1180), (.iload_n 1, 0, 0, 0)] (pe := 18) (ls' := [some (.ref 0), some (.int (nI r)), some (.int (nI o2))]) (st' := [.int (nI r), .ref 11]) (M' := M) (by decide +kernel) rfl ?_
  refine zT.iald (n := 9) (k := r) rfl rfl (by omega) (by decide) (by decide +kernel) ?_
  refine zT.run [(.iload_n 2, 0, 0, 0)] (pe := 20) (ls' := [some (.ref 0), some (.int (nI r)), some (.int (nI o2))]) (st' := [.int (nI o2), .int (M 11 r)]) (M' := M) (by decide +kernel) rfl ?_
  refine zT.cS_nil (idx := 166) (av := [.int (M 11 r), .int (nI o2)]) (rv := (some (.int (g_X9_has (M 11 r) (nI o2))))) (st := []) (S1 := [.int (g_X9_has (M 11 r) (nI o2))]) (c_X9_has (M 11 r) (nI o2)) k_X9_has rfl (zIn (w := 5146) (by decide +kernel) rfl) (by decide +kernel) (by decide +kernel) rfl (Nat.le_of_ble_eq_true rfl) rfl ?_
  exact zT.iret (ty := Jvm.ClassFile.FieldType.boolean) (by simp only [g_X9_isLinked]; try rfl) rfl rfl (nb_X9_has ) (by decide +kernel)
theorem k_X9_isLinked : zCal yy_X9_isLinked 2 := ⟨⟨⟨⟨zIn (w := 5145) (by decide +kernel) rfl, zIn (w := 1001) (by decide +kernel) rfl⟩, by decide +kernel⟩, by decide +kernel⟩, ⟨zIn (w := 5143) (by decide +kernel) rfl, zIn (w := 5144) (by decide +kernel) rfl⟩⟩
noncomputable abbrev yy_X9_outcome : zY := (yX9_outcome, cX9_outcome, 3, (some Jvm.ClassFile.FieldType.int), 10, 222)
noncomputable def g_X9_outcome (M : zM) (sz : Nat) (bk : Int32) (w : Nat) : Int32 := (g_X6_tell (zPl M 15) sz bk w)
set_option maxRecDepth 100000 in
theorem c_X9_outcome (M : zM) (sl : Nat → Option Nat) (ext : List va_E) (sz : Nat) (bk : Int32) (w : Nat) (hsz : M 15 0 = nI sz) (h12 : sz ≤ 12) (h_w : w < 6) : zC yy_X9_outcome 0 0 [.ref 0, .int bk, .int (nI w)] (sh_X sl ext) M (some (.int (g_X9_outcome M sz bk w))) (sh_X sl ext) M := by
  refine zC.of (by decide +kernel) rfl (Nat.le_of_ble_eq_true rfl) ?_
  refine zT.run [(.iload_n 2, 0, 0, 0), (.iconst 0, 0, 0, 0), (.iconst 5, 0, 0, 0)] (pe := 3) (ls' := [some (.ref 0), some (.int bk), some (.int (nI w))]) (st' := [.int 5, .int 0, .int (nI w)]) (M' := M) (by decide +kernel) rfl ?_
  refine zT.cS_nil (idx := 119) (av := [.int (nI w), .int 0, .int 5]) (rv := none) (st := []) (S1 := []) (c_X9_needBetween_ok (nI w) 0 5 (nI_pos (by omega)) (by show ¬ nI 5 < nI w; exact nI_nlt (by omega) (by decide))) k_X9_needBetween rfl (zIn (w := 2104) (by decide +kernel) rfl) (by decide +kernel) (by decide +kernel) rfl (Nat.le_of_ble_eq_true rfl) rfl ?_
  refine zT.run [(.aload_n 0, 0, 0, 0), (.getfield 24, 7, 2, 2071), (.getfield 170, 2, 9, 1184), (.iload_n 1, 0, 0, 0), (.iload_n 2, 0, 0, 0)] (pe := 15) (ls' := [some (.ref 0), some (.int bk), some (.int (nI w))]) (st' := [.int (nI w), .int bk, .ref 15]) (M' := M) (by decide +kernel) rfl ?_
  refine zT.cV_pure 15 (o := 0) (idx := 174) (av := [.int bk, .int (nI w)]) (rv := (some (.int (g_X6_tell (zPl M 15) sz bk w)))) (st := []) (S1 := [.int (g_X6_tell (zPl M 15) sz bk w)]) (c_X6_tell (zPl M 15) sz bk w hsz h12 (by omega)) sub_X_15_Outcomes k_X6_tell _ _ rfl rfl rfl (zIn (w := 5138) (by decide +kernel) rfl) (by decide +kernel) (by decide +kernel) rfl (Nat.le_of_ble_eq_true rfl) rfl ?_
  exact zT.iret (ty := Jvm.ClassFile.FieldType.int) (by simp only [g_X9_outcome]; try rfl) rfl rfl rfl (by decide +kernel)
theorem k_X9_outcome : zCal yy_X9_outcome 2 := ⟨⟨⟨⟨zIn (w := 5137) (by decide +kernel) rfl, zIn (w := 1001) (by decide +kernel) rfl⟩, by decide +kernel⟩, by decide +kernel⟩, ⟨zIn (w := 5135) (by decide +kernel) rfl, zIn (w := 5136) (by decide +kernel) rfl⟩⟩
noncomputable abbrev yy_X9_sealFor : zY := (yX9_sealFor, cX9_sealFor, 4, (some Jvm.ClassFile.FieldType.int), 10, 222)
noncomputable def g_X9_sealFor (n : Nat) (r : Nat) (x : Int32) (t : Int32) : Int32 := (g_X9_sealNumber (nI r) x t)
set_option maxRecDepth 100000 in
theorem c_X9_sealFor (M : zM) (sl : Nat → Option Nat) (ext : List va_E) (n : Nat) (r : Nat) (x : Int32) (t : Int32) (hn : M 5 0 = nI n) (h9 : n ≤ 9) (h_r : r < n) (hx1 : ¬ x < 0) (hx2 : x ≤ 999) (hx3 : ¬ t < 0) (hx4 : t ≤ 9999) : zC yy_X9_sealFor 0 0 [.ref 0, .int (nI r), .int x, .int t] (sh_X sl ext) M (some (.int (g_X9_sealFor n r x t))) (sh_X sl ext) M := by
  refine zC.of (by decide +kernel) rfl (Nat.le_of_ble_eq_true rfl) ?_
  refine zT.run [(.aload_n 0, 0, 0, 0), (.iload_n 1, 0, 0, 0)] (pe := 2) (ls' := [some (.ref 0), some (.int (nI r)), some (.int x), some (.int t)]) (st' := [.int (nI r), .ref 0]) (M' := M) (by decide +kernel) rfl ?_
  refine zT.cV_own (o := 0) (idx := 85) (av := [.int (nI r)]) (rv := none) (st := []) (S1 := []) (c_X9_needReplica_ok M sl ext n r hn h9 h_r) k_X9_needReplica _ _ rfl rfl rfl (zIn (w := 4197) (by decide +kernel) rfl) (by decide +kernel) (by decide +kernel) rfl (Nat.le_of_ble_eq_true rfl) rfl ?_
  refine zT.run [(.iload_n 2, 0, 0, 0), (.iconst 3, 0, 0, 0)] (pe := 7) (ls' := [some (.ref 0), some (.int (nI r)), some (.int x), some (.int t)]) (st' := [.int 3, .int x]) (M' := M) (by decide +kernel) rfl ?_
  refine zT.cS_nil (idx := 89) (av := [.int x, .int (nI 3)]) (rv := none) (st := []) (S1 := []) (c_X9_needKind_ok x 3 (by decide) hx1 (Int32.not_lt.mpr hx2)) k_X9_needKind rfl (zIn (w := 5000) (by decide +kernel) rfl) (by decide +kernel) (by decide +kernel) rfl (Nat.le_of_ble_eq_true rfl) rfl ?_
  refine zT.run [(.iload_n 3, 0, 0, 0), (.iconst 0, 0, 0, 0), (.sipush 9999, 0, 0, 0)] (pe := 15) (ls' := [some (.ref 0), some (.int (nI r)), some (.int x), some (.int t)]) (st' := [.int 9999, .int 0, .int t]) (M' := M) (by decide +kernel) rfl ?_
  refine zT.cS_nil (idx := 119) (av := [.int t, .int 0, .int 9999]) (rv := none) (st := []) (S1 := []) (c_X9_needBetween_ok t 0 9999 hx3 (Int32.not_lt.mpr hx4)) k_X9_needBetween rfl (zIn (w := 2104) (by decide +kernel) rfl) (by decide +kernel) (by decide +kernel) rfl (Nat.le_of_ble_eq_true rfl) rfl ?_
  refine zT.run [(.iload_n 1, 0, 0, 0), (.iload_n 2, 0, 0, 0), (.iload_n 3, 0, 0, 0)] (pe := 21) (ls' := [some (.ref 0), some (.int (nI r)), some (.int x), some (.int t)]) (st' := [.int t, .int x, .int (nI r)]) (M' := M) (by decide +kernel) rfl ?_
  refine zT.cS_nil (idx := 178) (av := [.int (nI r), .int x, .int t]) (rv := (some (.int (g_X9_sealNumber (nI r) x t)))) (st := []) (S1 := [.int (g_X9_sealNumber (nI r) x t)]) (c_X9_sealNumber (nI r) x t) k_X9_sealNumber rfl (zIn (w := 5024) (by decide +kernel) rfl) (by decide +kernel) (by decide +kernel) rfl (Nat.le_of_ble_eq_true rfl) rfl ?_
  exact zT.iret (ty := Jvm.ClassFile.FieldType.int) (by simp only [g_X9_sealFor]; try rfl) rfl rfl rfl (by decide +kernel)
theorem k_X9_sealFor : zCal yy_X9_sealFor 3 := ⟨⟨⟨⟨zIn (w := 5023) (by decide +kernel) rfl, zIn (w := 1001) (by decide +kernel) rfl⟩, by decide +kernel⟩, by decide +kernel⟩, ⟨zIn (w := 5021) (by decide +kernel) rfl, zIn (w := 5022) (by decide +kernel) rfl⟩⟩
noncomputable abbrev yy_X9_nonceFor : zY := (yX9_nonceFor, cX9_nonceFor, 3, (some Jvm.ClassFile.FieldType.int), 10, 221)
noncomputable def g_X9_nonceFor (M : zM) (n : Nat) (r : Nat) (cd : Nat) : Int32 := (g_X1_fittingNonce (zPl M 12) r (nI cd))
set_option maxRecDepth 100000 in
theorem c_X9_nonceFor (M : zM) (sl : Nat → Option Nat) (ext : List va_E) (n : Nat) (r : Nat) (cd : Nat) (hn : M 5 0 = nI n) (h9 : n ≤ 9) (h_r : r < n) (h_cd : cd < n) : zC yy_X9_nonceFor 0 0 [.ref 0, .int (nI r), .int (nI cd)] (sh_X sl ext) M (some (.int (g_X9_nonceFor M n r cd))) (sh_X sl ext) M := by
  refine zC.of (by decide +kernel) rfl (Nat.le_of_ble_eq_true rfl) ?_
  refine zT.run [(.aload_n 0, 0, 0, 0), (.iload_n 1, 0, 0, 0)] (pe := 2) (ls' := [some (.ref 0), some (.int (nI r)), some (.int (nI cd))]) (st' := [.int (nI r), .ref 0]) (M' := M) (by decide +kernel) rfl ?_
  refine zT.cV_own (o := 0) (idx := 85) (av := [.int (nI r)]) (rv := none) (st := []) (S1 := []) (c_X9_needReplica_ok M sl ext n r hn h9 h_r) k_X9_needReplica _ _ rfl rfl rfl (zIn (w := 4197) (by decide +kernel) rfl) (by decide +kernel) (by decide +kernel) rfl (Nat.le_of_ble_eq_true rfl) rfl ?_
  refine zT.run [(.aload_n 0, 0, 0, 0), (.iload_n 2, 0, 0, 0)] (pe := 7) (ls' := [some (.ref 0), some (.int (nI r)), some (.int (nI cd))]) (st' := [.int (nI cd), .ref 0]) (M' := M) (by decide +kernel) rfl ?_
  refine zT.cV_own (o := 0) (idx := 85) (av := [.int (nI cd)]) (rv := none) (st := []) (S1 := []) (c_X9_needReplica_ok M sl ext n cd hn h9 h_cd) k_X9_needReplica _ _ rfl rfl rfl (zIn (w := 4197) (by decide +kernel) rfl) (by decide +kernel) (by decide +kernel) rfl (Nat.le_of_ble_eq_true rfl) rfl ?_
  refine zT.run [(.aload_n 0, 0, 0, 0), (.getfield 24, 7, 2, 2071), (.getfield 149, 2, 8, 1182), (.iload_n 1, 0, 0, 0), (.iload_n 2, 0, 0, 0)] (pe := 19) (ls' := [some (.ref 0), some (.int (nI r)), some (.int (nI cd))]) (st' := [.int (nI cd), .int (nI r), .ref 12]) (M' := M) (by decide +kernel) rfl ?_
  refine zT.cV_pure 12 (o := 0) (idx := 197) (av := [.int (nI r), .int (nI cd)]) (rv := (some (.int (g_X1_fittingNonce (zPl M 12) r (nI cd))))) (st := []) (S1 := [.int (g_X1_fittingNonce (zPl M 12) r (nI cd))]) (c_X1_fittingNonce (zPl M 12) r (nI cd) (by omega)) sub_X_12_Ballot k_X1_fittingNonce _ _ rfl rfl rfl (zIn (w := 5035) (by decide +kernel) rfl) (by decide +kernel) (by decide +kernel) rfl (Nat.le_of_ble_eq_true rfl) rfl ?_
  exact zT.iret (ty := Jvm.ClassFile.FieldType.int) (by simp only [g_X9_nonceFor]; try rfl) rfl rfl rfl (by decide +kernel)
theorem k_X9_nonceFor : zCal yy_X9_nonceFor 2 := ⟨⟨⟨⟨zIn (w := 5034) (by decide +kernel) rfl, zIn (w := 1001) (by decide +kernel) rfl⟩, by decide +kernel⟩, by decide +kernel⟩, ⟨zIn (w := 5032) (by decide +kernel) rfl, zIn (w := 5033) (by decide +kernel) rfl⟩⟩
noncomputable abbrev yy_X9_gap : zY := (yX9_gap, cX9_gap, 1, (some Jvm.ClassFile.FieldType.int), 3, 84)
noncomputable def g_X9_gap (M : zM) (n : Nat) (sz : Nat) : Int32 := ((((g_X1_strayVotes (zPl M 12)) + (g_X6_outOfOrder (zPl M 15) sz)) + (g_X4_termsAstray (zPl M 5) n)) + (g_X4_oneWayLinks (zPl M 5) n))
set_option maxRecDepth 100000 in
theorem c_X9_gap (M : zM) (sl : Nat → Option Nat) (ext : List va_E) (n : Nat) (sz : Nat) (hn : M 5 0 = nI n) (h9 : n ≤ 9) (hsz : M 15 0 = nI sz) (h12 : sz ≤ 12) : zC yy_X9_gap 0 0 [.ref 0] (sh_X sl ext) M (some (.int (g_X9_gap M n sz))) (sh_X sl ext) M := by
  refine zC.of (by decide +kernel) rfl (Nat.le_of_ble_eq_true rfl) ?_
  refine zT.run [(.aload_n 0, 0, 0, 0), (.getfield 24, 7, 2, 2071), (.getfield 149, 2, 8, 1182)] (pe := 7) (ls' := [some (.ref 0)]) (st' := [.ref 12]) (M' := M) (by decide +kernel) rfl ?_
  refine zT.cV_pure 12 (o := 0) (idx := 215) (av := []) (rv := (some (.int (g_X1_strayVotes (zPl M 12))))) (st := []) (S1 := [.int (g_X1_strayVotes (zPl M 12))]) (c_X1_strayVotes (zPl M 12)) sub_X_12_Ballot k_X1_strayVotes _ _ rfl rfl rfl (zIn (w := 5110) (by decide +kernel) rfl) (by decide +kernel) (by decide +kernel) rfl (Nat.le_of_ble_eq_true rfl) rfl ?_
  refine zT.run [(.aload_n 0, 0, 0, 0), (.getfield 24, 7, 2, 2071), (.getfield 170, 2, 9, 1184)] (pe := 17) (ls' := [some (.ref 0)]) (st' := [.ref 15, .int (g_X1_strayVotes (zPl M 12))]) (M' := M) (by decide +kernel) rfl ?_
  refine zT.cV_pure 15 (o := 0) (idx := 218) (av := []) (rv := (some (.int (g_X6_outOfOrder (zPl M 15) sz)))) (st := [.int (g_X1_strayVotes (zPl M 12))]) (S1 := [.int (g_X6_outOfOrder (zPl M 15) sz), .int (g_X1_strayVotes (zPl M 12))]) (c_X6_outOfOrder (zPl M 15) sz hsz h12) sub_X_15_Outcomes k_X6_outOfOrder _ _ rfl rfl rfl (zIn (w := 5118) (by decide +kernel) rfl) (by decide +kernel) (by decide +kernel) rfl (Nat.le_of_ble_eq_true rfl) rfl ?_
  refine zT.run [(.iadd, 0, 0, 0), (.aload_n 0, 0, 0, 0), (.getfield 24, 7, 2, 2071)] (pe := 25) (ls' := [some (.ref 0)]) (st' := [.ref 5, .int ((g_X1_strayVotes (zPl M 12)) + (g_X6_outOfOrder (zPl M 15) sz))]) (M' := M) (by decide +kernel) rfl ?_
  refine zT.cV_pure 5 (o := 0) (idx := 221) (av := []) (rv := (some (.int (g_X4_termsAstray (zPl M 5) n)))) (st := [.int ((g_X1_strayVotes (zPl M 12)) + (g_X6_outOfOrder (zPl M 15) sz))]) (S1 := [.int (g_X4_termsAstray (zPl M 5) n), .int ((g_X1_strayVotes (zPl M 12)) + (g_X6_outOfOrder (zPl M 15) sz))]) (c_X4_termsAstray (zPl M 5) n hn h9) sub_X_5_Office k_X4_termsAstray _ _ rfl rfl rfl (zIn (w := 5123) (by decide +kernel) rfl) (by decide +kernel) (by decide +kernel) rfl (Nat.le_of_ble_eq_true rfl) rfl ?_
  refine zT.run [(.iadd, 0, 0, 0), (.aload_n 0, 0, 0, 0), (.getfield 24, 7, 2, 2071)] (pe := 33) (ls' := [some (.ref 0)]) (st' := [.ref 5, .int (((g_X1_strayVotes (zPl M 12)) + (g_X6_outOfOrder (zPl M 15) sz)) + (g_X4_termsAstray (zPl M 5) n))]) (M' := M) (by decide +kernel) rfl ?_
  refine zT.cV_pure 5 (o := 0) (idx := 224) (av := []) (rv := (some (.int (g_X4_oneWayLinks (zPl M 5) n)))) (st := [.int (((g_X1_strayVotes (zPl M 12)) + (g_X6_outOfOrder (zPl M 15) sz)) + (g_X4_termsAstray (zPl M 5) n))]) (S1 := [.int (g_X4_oneWayLinks (zPl M 5) n), .int (((g_X1_strayVotes (zPl M 12)) + (g_X6_outOfOrder (zPl M 15) sz)) + (g_X4_termsAstray (zPl M 5) n))]) (c_X4_oneWayLinks (zPl M 5) n hn h9) sub_X_5_Office k_X4_oneWayLinks _ _ rfl rfl rfl (zIn (w := 5127) (by decide +kernel) rfl) (by decide +kernel) (by decide +kernel) rfl (Nat.le_of_ble_eq_true rfl) rfl ?_
  refine zT.run [(.iadd, 0, 0, 0)] (pe := 37) (ls' := [some (.ref 0)]) (st' := [.int ((((g_X1_strayVotes (zPl M 12)) + (g_X6_outOfOrder (zPl M 15) sz)) + (g_X4_termsAstray (zPl M 5) n)) + (g_X4_oneWayLinks (zPl M 5) n))]) (M' := M) (by decide +kernel) rfl ?_
  exact zT.iret (ty := Jvm.ClassFile.FieldType.int) (by simp only [g_X9_gap]; try rfl) rfl rfl rfl (by decide +kernel)
theorem k_X9_gap : zCal yy_X9_gap 0 := ⟨⟨⟨⟨zIn (w := 5109) (by decide +kernel) rfl, zIn (w := 1001) (by decide +kernel) rfl⟩, by decide +kernel⟩, by decide +kernel⟩, ⟨zIn (w := 5107) (by decide +kernel) rfl, zIn (w := 5108) (by decide +kernel) rfl⟩⟩
/-- what stands still while a text is opened: all but the opener, the text buffer and the draft -/
def zOu (o : Nat) : Prop := o = 0 ∨ (5 ≤ o ∧ o < 19) ∨ 33 ≤ o
theorem zWr_k2 {α β γ : Type} {d : α → β} {f : α → α ⊕ β} (q : α → γ) (q' : β → γ) (hd : ∀ x, q' (d x) = q x) (hi : ∀ x y, f x = .inl y → q y = q x) (hr : ∀ x b, f x = .inr b → q' b = q x) : ∀ (k : Nat) (x : α), q' (zWr d f k x) = q x
  | 0, x => hd x
  | k + 1, x => by
    cases e : f x with
    | inl y => rw [zWr, e]; exact (zWr_k2 q q' hd hi hr k y).trans (hi x y e)
    | inr b => rw [zWr, e]; exact hr x b e
theorem zOu_1 {m N : zM} {o : Nat} (h : zOu o) : zPs m 1 4 N o = m o := zPs_out (by unfold zOu at h; omega)
theorem zOu_2 {m N : zM} {o : Nat} (h : zOu o) : zPs m 2 2 N o = m o := zPs_out (by unfold zOu at h; omega)
theorem zOu_19 {m N : zM} {o : Nat} (h : zOu o) : zPs m 19 14 N o = m o := zPs_out (by unfold zOu at h; omega)
theorem fr_X5_readReplicas (M : zM) (ty o : Nat) (ho : zOu o) : (g_X5_readReplicas M ty).2 o = M o := by
  have hw : ∀ x, (w_X5_readReplicas_23 M ty x).2.2 o = x.2 o := by
    intro x
    refine zWr_k2 (fun (x : Int32 × zM) => x.2 o) (fun (b : Int32 × Int32 × zM) => b.2.2 o) (fun x => rfl) ?_ ?_ _ x
    · rintro ⟨t, m⟩ y h
      unfold f_X5_readReplicas_23 at h
      unfold m_X5_readReplicas_4 m_X5_readReplicas_3 m_X5_readReplicas_2 at h
      dsimp only at h
      (repeat' split at h) <;> first
        | (cases h; done)
        | (have e := Sum.inl.inj h
           subst e
           dsimp only
           rw [zOu_2 ho, zOu_19 ho, zOu_1 ho])
    · rintro ⟨t, m⟩ b h
      unfold f_X5_readReplicas_23 at h
      unfold m_X5_readReplicas_2 at h
      dsimp only at h
      (repeat' split at h) <;> first
        | (cases h; done)
        | (have e := Sum.inr.inj h
           subst e
           dsimp only
           try rw [zOu_1 ho])
  have h1 : (m_X5_readReplicas_1 M ty) o = M o := by
    unfold m_X5_readReplicas_1
    exact zOu_2 ho
  unfold g_X5_readReplicas
  have := (hw (0, m_X5_readReplicas_1 M ty)).trans h1
  generalize w_X5_readReplicas_23 M ty (0, m_X5_readReplicas_1 M ty) = w at this ⊢
  (repeat' split) <;> (try dsimp only) <;> (first | with_reducible rfl | exact this)
theorem fr_X5_open (M : zM) (ty o : Nat) (ho : zOu o) : (g_X5_open M ty).2 o = M o := by
  have hw : ∀ x, (w_X5_open_19 M ty x).2.2 o = x.2.2 o := by
    intro x
    refine zWr_k2 (fun (x : Int32 × Int32 × zM) => x.2.2 o) (fun (b : Int32 × Int32 × zM) => b.2.2 o) (fun x => rfl) ?_ ?_ _ x
    · rintro ⟨cd, t, m⟩ y h
      unfold f_X5_open_19 at h
      unfold m_X5_open_5 m_X5_open_4 m_X5_open_3 at h
      dsimp only at h
      (repeat' split at h) <;> first
        | (cases h; done)
        | (have e := Sum.inl.inj h
           subst e
           try dsimp only
           try simp only [zOu_2 ho, zOu_19 ho, zOu_1 ho])
    · rintro ⟨cd, t, m⟩ b h
      unfold f_X5_open_19 at h
      dsimp only at h
      (repeat' split at h) <;> first
        | (cases h; done)
        | (have e := Sum.inr.inj h
           subst e
           rfl)
  have h2 : (m_X5_open_2 M ty) o = M o := by
    unfold m_X5_open_2 m_X5_open_1
    rw [zOu_2 ho, zOu_19 ho]
  have h3 : (d_X5_open_1 M ty).2 o = M o := by
    unfold d_X5_open_1
    exact (fr_X5_readReplicas _ ty o ho).trans h2
  have := (hw ((d_X5_open_1 M ty).1, 0, (d_X5_open_1 M ty).2)).trans h3
  unfold g_X5_open
  generalize w_X5_open_19 M ty ((d_X5_open_1 M ty).1, 0, (d_X5_open_1 M ty).2) = w at this ⊢
  split <;> exact this
noncomputable abbrev yy_X9_load : zY := (yX9_load, cX9_load, 2, (some Jvm.ClassFile.FieldType.int), 8, 175)
noncomputable def d_X9_load_1 (M : zM) (ty : Nat) (nx : Nat) : Int32 × zM := (g_X5_open M ty)
noncomputable def d_X9_load_2 (M : zM) (ty : Nat) (nx : Nat) : zM := (g_X3_note (zU (d_X9_load_1 M ty nx).2 2 0 0) nx)
noncomputable def d_X9_load_3 (M : zM) (ty : Nat) (nx : Nat) : Int32 × zM := (g_X9_settled (g_X4_copyFrom (d_X9_load_2 M ty nx) 5 19) (d_X9_load_1 M ty nx).1)
noncomputable def g_X9_load (M : zM) (ty : Nat) (nx : Nat) : Int32 × zM := (if 0 ≤ (d_X9_load_1 M ty nx).1 then ((d_X9_load_3 M ty nx).1, (d_X9_load_3 M ty nx).2) else ((d_X9_load_1 M ty nx).1, (zU (d_X9_load_1 M ty nx).2 2 0 0)))
set_option maxRecDepth 100000 in
theorem c_X9_load (M : zM) (sl : Nat → Option Nat) (ext : List va_E) (ty : Nat) (nx : Nat) (hty : M 2 0 = nI ty) (h600 : ty ≤ 600) (hx : M 33 1 = nI nx) (hx11 : nx < 11) : zC yy_X9_load 0 0 [.ref 0] (sh_X sl ext) M (some (.int (g_X9_load M ty nx).1)) (sh_X sl ext) (g_X9_load M ty nx).2 := by
  refine zC.of (by decide +kernel) rfl (Nat.le_of_ble_eq_true rfl) ?_
  refine zT.run [(.aload_n 0, 0, 0, 0), (.getfield 10, 7, 0, 2069), (.aload_n 0, 0, 0, 0), (.getfield 28, 7, 3, 2072)] (pe := 8) (ls' := [some (.ref 0), none]) (st' := [.ref 19, .ref 1]) (M' := M) (by decide +kernel) rfl ?_
  refine zT.cV_all (o := 1) (idx := 65) (av := [.ref 19]) (rv := (some (.int (g_X5_open M ty).1))) (st := []) (S1 := [.int (g_X5_open M ty).1]) (c_X5_open M sl ext ty h600 hty) k_X5_open _ _ rfl rfl rfl (zIn (w := 3197) (by decide +kernel) rfl) (by decide +kernel) (by decide +kernel) rfl (Nat.le_of_ble_eq_true rfl) rfl ?_
  obtain ⟨v1, hv1⟩ : ∃ v, v = (g_X5_open M ty) := ⟨_, rfl⟩
  rw [← hv1]
  have ev1 : (d_X9_load_1 M ty nx) = v1 := by unfold d_X9_load_1; exact hv1.symm
  have fv1 : ∀ o, zOu o → v1.2 o = M o := fun o ho => by rw [hv1]; exact fr_X5_open M ty o ho
  refine zT.run [(.istore_n 1, 0, 0, 0), (.aload_n 0, 0, 0, 0), (.getfield 20, 7, 1, 2070), (.iconst 0, 0, 0, 0), (.putfield 69, 6, 0, 1048), (.iload_n 1, 0, 0, 0)] (pe := 21) (ls' := [some (.ref 0), some (.int v1.1)]) (st' := [.int v1.1]) (M' := (zU v1.2 2 0 0)) (by decide +kernel) rfl ?_
  refine zT.zge (tgt := 26) (off := 5) (by decide +kernel) (by decide) (fun (c1 : 0 ≤ v1.1) => ?_) (fun (c1 : ¬ 0 ≤ v1.1) => ?_)
  · skip
    refine zT.run [(.aload_n 0, 0, 0, 0), (.getfield 34, 7, 4, 2073), (.aload_n 0, 0, 0, 0), (.getfield 24, 7, 2, 2071)] (pe := 34) (ls' := [some (.ref 0), some (.int v1.1)]) (st' := [.ref 5, .ref 33]) (M' := (zU v1.2 2 0 0)) (by decide +kernel) rfl ?_
    refine zT.cV_all (o := 33) (idx := 75) (av := [.ref 5]) (rv := none) (st := []) (S1 := []) (c_X3_note (zU v1.2 2 0 0) sl ext nx ((congrFun (fv1 33 (by unfold zOu; omega)) 1).trans hx) hx11) k_X3_note _ _ rfl rfl rfl (zIn (w := 4156) (by decide +kernel) rfl) (by decide +kernel) (by decide +kernel) rfl (Nat.le_of_ble_eq_true rfl) rfl ?_
    obtain ⟨v2, hv2⟩ : ∃ v, v = (g_X3_note (zU v1.2 2 0 0) nx) := ⟨_, rfl⟩
    rw [← hv2]
    have ev2 : (d_X9_load_2 M ty nx) = v2 := by unfold d_X9_load_2; (try rw [ev1]); exact hv2.symm
    have fv2 : ∀ o, o < 35 → v2 o = (zU v1.2 2 0 0) o := fun o ho => by rw [hv2]; exact fr_X3_note (zU v1.2 2 0 0) nx o ho
    refine zT.run [(.aload_n 0, 0, 0, 0), (.getfield 24, 7, 2, 2071), (.aload_n 0, 0, 0, 0), (.getfield 28, 7, 3, 2072)] (pe := 45) (ls' := [some (.ref 0), some (.int v1.1)]) (st' := [.ref 19, .ref 5]) (M' := v2) (by decide +kernel) rfl ?_
    refine zT.cV_all (o := 5) (idx := 79) (av := [.ref 19]) (rv := none) (st := []) (S1 := []) (c_X4_copyFrom _ v2 5 19 sub_X_5_Office sub_X_19_Office) k_X4_copyFrom _ _ (by rw [Nat.zero_add]; exact (sub_X_5_Office) 0 (by decide)) rfl rfl (zIn (w := 4173) (by decide +kernel) rfl) (by decide +kernel) (by decide +kernel) (by simp [zRv]) (Nat.le_of_ble_eq_true rfl) rfl ?_
    refine zT.run [(.aload_n 0, 0, 0, 0), (.iload_n 1, 0, 0, 0)] (pe := 50) (ls' := [some (.ref 0), some (.int v1.1)]) (st' := [.int v1.1, .ref 0]) (M' := (g_X4_copyFrom v2 5 19)) (by decide +kernel) rfl ?_
    refine zT.cV_all (o := 0) (idx := 82) (av := [.int v1.1]) (rv := (some (.int (g_X9_settled (g_X4_copyFrom v2 5 19) v1.1).1))) (st := []) (S1 := [.int (g_X9_settled (g_X4_copyFrom v2 5 19) v1.1).1]) (c_X9_settled (g_X4_copyFrom v2 5 19) sl ext v1.1) k_X9_settled _ _ rfl rfl rfl (zIn (w := 4174) (by decide +kernel) rfl) (by decide +kernel) (by decide +kernel) rfl (Nat.le_of_ble_eq_true rfl) rfl ?_
    obtain ⟨v3, hv3⟩ : ∃ v, v = (g_X9_settled (g_X4_copyFrom v2 5 19) v1.1) := ⟨_, rfl⟩
    rw [← hv3]
    have ev3 : (d_X9_load_3 M ty nx) = v3 := by unfold d_X9_load_3; (try rw [ev1]); (try rw [ev2]); exact hv3.symm
    exact zT.iret (ty := Jvm.ClassFile.FieldType.int) (by unfold g_X9_load; (try rw [ev1]); (try rw [ev2]); (try rw [ev3]); first | done | rw [if_pos c1] | rfl) (by unfold g_X9_load; (try rw [ev1]); (try rw [ev2]); (try rw [ev3]); first | done | rw [if_pos c1] | rfl) rfl rfl (by decide +kernel)
  · skip
    refine zT.run [(.iload_n 1, 0, 0, 0)] (pe := 25) (ls' := [some (.ref 0), some (.int v1.1)]) (st' := [.int v1.1]) (M' := (zU v1.2 2 0 0)) (by decide +kernel) rfl ?_
    exact zT.iret (ty := Jvm.ClassFile.FieldType.int) (by unfold g_X9_load; (try rw [ev1]); first | done | rw [if_neg c1] | rfl) (by unfold g_X9_load; (try rw [ev1]); first | done | rw [if_neg c1] | rfl) rfl rfl (by decide +kernel)
theorem k_X9_load : zCal yy_X9_load 0 := ⟨⟨⟨⟨zIn (w := 3196) (by decide +kernel) rfl, zIn (w := 1001) (by decide +kernel) rfl⟩, by decide +kernel⟩, by decide +kernel⟩, ⟨zIn (w := 3194) (by decide +kernel) rfl, zIn (w := 3195) (by decide +kernel) rfl⟩⟩
