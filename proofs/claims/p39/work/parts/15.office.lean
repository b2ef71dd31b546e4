noncomputable abbrev yy_X4_makeEmpty : zY := (yX4_makeEmpty, cX4_makeEmpty, 1, none, 2, 60)
noncomputable def m_X4_makeEmpty_1 (M : zM) : zM := (zPs (zUa (zU (zU M 0 0 0) 0 1 0) 1 (va_cpy (fun j => ([2, 1, 1] : List Int32).getD j 0) ((zU (zU M 0 0 0) 0 1 0) 1) 0 0 3)) 7 3 (g_X1_clear (zPl (zUa (zU (zU M 0 0 0) 0 1 0) 1 (va_cpy (fun j => ([2, 1, 1] : List Int32).getD j 0) ((zU (zU M 0 0 0) 0 1 0) 1) 0 0 3)) 7)))
noncomputable def g_X4_makeEmpty (M : zM)  : zM := (zU (m_X4_makeEmpty_1 M) 10 0 0)
set_option maxRecDepth 100000 in
theorem c_X4_makeEmpty (M : zM)   : zC yy_X4_makeEmpty 0 0 [.ref 0] sh_Office M none sh_Office (g_X4_makeEmpty M) := by
  refine zC.of (by decide +kernel) rfl (Nat.le_of_ble_eq_true rfl) ?_
  refine zT.run [(.aload_n 0, 0, 0, 0), (.iconst 0, 0, 0, 0), (.putfield 51, 2, 0, 1170), (.aload_n 0, 0, 0, 0), (.iconst 0, 0, 0, 0), (.putfield 55, 2, 1, 1173)] (pe := 10) (ls' := [some (.ref 0)]) (st' := []) (M' := (zU (zU M 0 0 0) 0 1 0)) (by decide +kernel) rfl ?_
  refine zT.getsN (host := "SealedBallots") (idx := 58) 0 rfl rfl (zInN (w := 1233) (by decide +kernel) rfl) (by decide +kernel) ?_
  refine zT.run [(.iconst 0, 0, 0, 0), (.aload_n 0, 0, 0, 0), (.getfield 9, 2, 2, 1174), (.iconst 0, 0, 0, 0), (.iconst 3, 0, 0, 0)] (pe := 20) (ls' := [some (.ref 0)]) (st' := [.int 3, .int 0, .ref 1, .int 0, .retAddr 101]) (M' := (zU (zU M 0 0 0) 0 1 0)) (by decide +kernel) rfl ?_
  refine zT.copyt (idx := 61) 0 (a := 0) (b := 0) (n := 3) (f := (fun j => ([2, 1, 1] : List Int32).getD j 0)) rfl (by decide) rfl rfl rfl rfl (by decide) (by decide) (by decide) (by decide) ⟨⟨⟨⟨zIn (w := 1235) (by decide +kernel) rfl, zLa.1⟩, zLa.2.1⟩, zLa.2.2⟩, by decide +kernel, by decide +kernel⟩ (Nat.le_of_ble_eq_true rfl) (by decide +kernel) ?_
  refine zT.run [(.aload_n 0, 0, 0, 0), (.getfield 33, 2, 8, 1181)] (pe := 27) (ls' := [some (.ref 0)]) (st' := [.ref 7]) (M' := (zUa (zU (zU M 0 0 0) 0 1 0) 1 (va_cpy (fun j => ([2, 1, 1] : List Int32).getD j 0) ((zU (zU M 0 0 0) 0 1 0) 1) 0 0 3))) (by decide +kernel) rfl ?_
  refine zT.cV_sub 7 (o := 0) (idx := 67) (av := []) (rv := none) (st := []) (S1 := []) (c_X1_clear (zPl (zUa (zU (zU M 0 0 0) 0 1 0) 1 (va_cpy (fun j => ([2, 1, 1] : List Int32).getD j 0) ((zU (zU M 0 0 0) 0 1 0) 1) 0 0 3)) 7)) sub_Office_7_Ballot k_X1_clear _ _ rfl rfl rfl (zIn (w := 1238) (by decide +kernel) rfl) (by decide +kernel) (by decide +kernel) rfl (Nat.le_of_ble_eq_true rfl) rfl ?_
  refine zT.eqM (M2 := (m_X4_makeEmpty_1 M)) rfl ?_
  refine zT.run [(.aload_n 0, 0, 0, 0), (.getfield 40, 2, 9, 1183), (.iconst 0, 0, 0, 0), (.putfield 70, 4, 0, 1139)] (pe := 38) (ls' := [some (.ref 0)]) (st' := []) (M' := (zU (m_X4_makeEmpty_1 M) 10 0 0)) (by decide +kernel) rfl ?_
  exact zT.vret (by simp only [g_X4_makeEmpty]; try rfl) rfl (by decide +kernel)
theorem fr_X4_makeEmpty (M : zM)  (o : Nat) (ho : o ≠ 0 ∧ o ≠ 1 ∧ o ≠ 7 ∧ o ≠ 8 ∧ o ≠ 9 ∧ o ≠ 10) : (g_X4_makeEmpty M) o = M o := by
  simp only [g_X4_makeEmpty]
  (repeat' split) <;> simp only [zU_ne ho.1, zU_ne ho.2.1, zU_ne ho.2.2.1, zU_ne ho.2.2.2.1, zU_ne ho.2.2.2.2.1, zU_ne ho.2.2.2.2.2, zUa_ne ho.1, zUa_ne ho.2.1, zUa_ne ho.2.2.1, zUa_ne ho.2.2.2.1, zUa_ne ho.2.2.2.2.1, zUa_ne ho.2.2.2.2.2, m_X4_makeEmpty_1, (fun (MM : zM) => zPs_fr (M := MM) (b := 7) (n := 3) (N := (g_X1_clear (zPl MM 7))) (o := o) (fun j hj e => fr_X1_clear (zPl MM 7) j (by omega)))]
theorem k_X4_makeEmpty : zCal yy_X4_makeEmpty 0 := ⟨⟨⟨⟨zIn (w := 1232) (by decide +kernel) rfl, zIn (w := 1004) (by decide +kernel) rfl⟩, by decide +kernel⟩, by decide +kernel⟩, ⟨zIn (w := 1230) (by decide +kernel) rfl, zIn (w := 1231) (by decide +kernel) rfl⟩⟩
noncomputable abbrev yy_X4_addReplica : zY := (yX4_addReplica, cX4_addReplica, 5, none, 0, 0)
noncomputable def l_X4_addReplica_78 (M : zM) (n : Nat) (age : Int32) (fresh : Int32) (i1 : Nat) (s1 : zM) : zM := (zU s1 6 i1 ((s1 6 i1) ||| (1 <<< ((M 0 0) &&& 31))))
theorem fr_l_X4_addReplica_78 (M : zM) (n : Nat) (age : Int32) (fresh : Int32) (o : Nat) (ho : o ≠ 6) : ∀ (k : Nat) (s : zM), (zIt (l_X4_addReplica_78 M n age fresh) k s) o = s o := by
  intro k
  induction k with
  | zero => intro s; rfl
  | succ k ih =>
    intro s
    rw [← ih s]
    show (l_X4_addReplica_78 M n age fresh k (zIt (l_X4_addReplica_78 M n age fresh) k s)) o = _
    generalize zIt (l_X4_addReplica_78 M n age fresh) k s = t
    simp only [l_X4_addReplica_78]
    (repeat' split) <;> simp only [zU_ne ho]
noncomputable def m_X4_addReplica_1 (M : zM) (n : Nat) (age : Int32) (fresh : Int32) : zM := (zIt (l_X4_addReplica_78 M n age fresh) n (zU (zU (zU (zU (zU (zU (zU M 0 0 ((M 0 0) + 1)) 2 n age) 3 n fresh) 4 n 0) 5 n (-1)) 0 1 ((M 0 1) ||| (1 <<< ((M 0 0) &&& 31)))) 6 n ((M 0 1) ||| (1 <<< ((M 0 0) &&& 31)))))
noncomputable def g_X4_addReplica (M : zM) (n : Nat) (age : Int32) (fresh : Int32) : zM := (if (M 0 0) < 9 then (m_X4_addReplica_1 M n age fresh) else M)
set_option maxRecDepth 100000 in
theorem c_X4_addReplica (M : zM) (n : Nat) (age : Int32) (fresh : Int32) (hn : M 0 0 = nI n) (h9 : n ≤ 9) : zC yy_X4_addReplica 0 0 [.ref 0, .int age, .int fresh] sh_Office M none sh_Office (g_X4_addReplica M n age fresh) := by
  refine zC.of (by decide +kernel) rfl (Nat.le_of_ble_eq_true rfl) ?_
  refine zT.run [(.aload_n 0, 0, 0, 0), (.getfield 51, 2, 0, 1170), (.bipush 9, 0, 0, 0)] (pe := 6) (ls' := [some (.ref 0), some (.int age), some (.int fresh), none, none]) (st' := [.int 9, .int (M 0 0)]) (M' := M) (by decide +kernel) rfl ?_
  refine zT.clt (tgt := 10) (off := 4) (by decide +kernel) (by decide) (fun (c1 : (M 0 0) < 9) => ?_) (fun (c1 : ¬ (M 0 0) < 9) => ?_)
  · skip
    refine zT.run [(.aload_n 0, 0, 0, 0), (.getfield 51, 2, 0, 1170), (.istore_n 3, 0, 0, 0), (.aload_n 0, 0, 0, 0), (.dup, 0, 0, 0), (.getfield 51, 2, 0, 1170), (.iconst 1, 0, 0, 0), (.iadd, 0, 0, 0), (.putfield 51, 2, 0, 1170), (.aload_n 0, 0, 0, 0), (.getfield 15, 2, 3, 1175), (.iload_n 3, 0, 0, 0), (.iload_n 1, 0, 0, 0)] (pe := 31) (ls' := [some (.ref 0), some (.int age), some (.int fresh), some (.int (M 0 0)), none]) (st' := [.int age, .int (M 0 0), .ref 2]) (M' := (zU M 0 0 ((M 0 0) + 1))) (by decide +kernel) rfl ?_
    refine zT.iast (n := 9) (k := n) rfl hn (zLtB hn (by omega) (by omega) c1) (by decide) (by decide +kernel) ?_
    refine zT.run [(.aload_n 0, 0, 0, 0), (.getfield 18, 2, 4, 1176), (.iload_n 3, 0, 0, 0), (.iload_n 2, 0, 0, 0)] (pe := 38) (ls' := [some (.ref 0), some (.int age), some (.int fresh), some (.int (M 0 0)), none]) (st' := [.int fresh, .int (M 0 0), .ref 3]) (M' := (zU (zU M 0 0 ((M 0 0) + 1)) 2 n age)) (by decide +kernel) rfl ?_
    refine zT.iast (n := 9) (k := n) rfl hn (zLtB hn (by omega) (by omega) c1) (by decide) (by decide +kernel) ?_
    refine zT.run [(.aload_n 0, 0, 0, 0), (.getfield 21, 2, 5, 1177), (.iload_n 3, 0, 0, 0), (.iconst 0, 0, 0, 0)] (pe := 45) (ls' := [some (.ref 0), some (.int age), some (.int fresh), some (.int (M 0 0)), none]) (st' := [.int 0, .int (M 0 0), .ref 4]) (M' := (zU (zU (zU M 0 0 ((M 0 0) + 1)) 2 n age) 3 n fresh)) (by decide +kernel) rfl ?_
    refine zT.iast (n := 9) (k := n) rfl hn (zLtB hn (by omega) (by omega) c1) (by decide) (by decide +kernel) ?_
    refine zT.run [(.aload_n 0, 0, 0, 0), (.getfield 24, 2, 6, 1178), (.iload_n 3, 0, 0, 0), (.iconst (-1), 0, 0, 0)] (pe := 52) (ls' := [some (.ref 0), some (.int age), some (.int fresh), some (.int (M 0 0)), none]) (st' := [.int (-1), .int (M 0 0), .ref 5]) (M' := (zU (zU (zU (zU M 0 0 ((M 0 0) + 1)) 2 n age) 3 n fresh) 4 n 0)) (by decide +kernel) rfl ?_
    refine zT.iast (n := 9) (k := n) rfl hn (zLtB hn (by omega) (by omega) c1) (by decide) (by decide +kernel) ?_
    refine zT.run [(.aload_n 0, 0, 0, 0), (.dup, 0, 0, 0), (.getfield 55, 2, 1, 1173), (.iconst 1, 0, 0, 0), (.iload_n 3, 0, 0, 0), (.ishl, 0, 0, 0), (.ior, 0, 0, 0), (.putfield 55, 2, 1, 1173), (.aload_n 0, 0, 0, 0), (.getfield 27, 2, 7, 1179), (.iload_n 3, 0, 0, 0), (.aload_n 0, 0, 0, 0), (.getfield 55, 2, 1, 1173)] (pe := 74) (ls' := [some (.ref 0), some (.int age), some (.int fresh), some (.int (M 0 0)), none]) (st' := [.int ((M 0 1) ||| (1 <<< ((M 0 0) &&& 31))), .int (M 0 0), .ref 6]) (M' := (zU (zU (zU (zU (zU (zU M 0 0 ((M 0 0) + 1)) 2 n age) 3 n fresh) 4 n 0) 5 n (-1)) 0 1 ((M 0 1) ||| (1 <<< ((M 0 0) &&& 31))))) (by decide +kernel) rfl ?_
    refine zT.iast (n := 9) (k := n) rfl hn (zLtB hn (by omega) (by omega) c1) (by decide) (by decide +kernel) ?_
    refine zT.run [(.iconst 0, 0, 0, 0), (.istore 4, 0, 0, 0)] (pe := 78) (ls' := [some (.ref 0), some (.int age), some (.int fresh), some (.int (M 0 0)), some (.int 0)]) (st' := []) (M' := (zU (zU (zU (zU (zU (zU (zU M 0 0 ((M 0 0) + 1)) 2 n age) 3 n fresh) 4 n 0) 5 n (-1)) 0 1 ((M 0 1) ||| (1 <<< ((M 0 0) &&& 31)))) 6 n ((M 0 1) ||| (1 <<< ((M 0 0) &&& 31))))) (by decide +kernel) rfl ?_
    refine zT.loop (l_X4_addReplica_78 M n age fresh) (fun (i : Nat) (s : zM) => (78, [some (.ref 0), some (.int age), some (.int fresh), some (.int (M 0 0)), some (.int (nI i))], [], sh_Office, s)) n (zU (zU (zU (zU (zU (zU (zU M 0 0 ((M 0 0) + 1)) 2 n age) 3 n fresh) 4 n 0) 5 n (-1)) 0 1 ((M 0 1) ||| (1 <<< ((M 0 0) &&& 31)))) 6 n ((M 0 1) ||| (1 <<< ((M 0 0) &&& 31)))) (fun i1 hi1 k1 => ?_) ?_
    · skip
      generalize hs1 : zIt (l_X4_addReplica_78 M n age fresh) i1 (zU (zU (zU (zU (zU (zU (zU M 0 0 ((M 0 0) + 1)) 2 n age) 3 n fresh) 4 n 0) 5 n (-1)) 0 1 ((M 0 1) ||| (1 <<< ((M 0 0) &&& 31)))) 6 n ((M 0 1) ||| (1 <<< ((M 0 0) &&& 31)))) = s1 at k1 ⊢
      have hm1 : ∀ o : Nat, (o ≠ 6) → s1 o = (zU (zU (zU (zU (zU (zU (zU M 0 0 ((M 0 0) + 1)) 2 n age) 3 n fresh) 4 n 0) 5 n (-1)) 0 1 ((M 0 1) ||| (1 <<< ((M 0 0) &&& 31)))) 6 n ((M 0 1) ||| (1 <<< ((M 0 0) &&& 31)))) o := fun o ho => by rw [← hs1]; exact fr_l_X4_addReplica_78 M n age fresh o ho i1 (zU (zU (zU (zU (zU (zU (zU M 0 0 ((M 0 0) + 1)) 2 n age) 3 n fresh) 4 n 0) 5 n (-1)) 0 1 ((M 0 1) ||| (1 <<< ((M 0 0) &&& 31)))) 6 n ((M 0 1) ||| (1 <<< ((M 0 0) &&& 31))))
      show zT _ _ _ _ (78, [some (.ref 0), some (.int age), some (.int fresh), some (.int (M 0 0)), some (.int (nI i1))], [], sh_Office, s1)
      refine zT.run [(.iload 4, 0, 0, 0), (.iload_n 3, 0, 0, 0)] (pe := 81) (ls' := [some (.ref 0), some (.int age), some (.int fresh), some (.int (M 0 0)), some (.int (nI i1))]) (st' := [.int (M 0 0), .int (nI i1)]) (M' := s1) (by decide +kernel) rfl ?_
      refine zT.cge (tgt := 103) (off := 22) (by decide +kernel) (by decide) (fun c => absurd c (zGeN (n := n) hn (by omega) (by omega))) (fun _ => ?_)
      refine zT.run [(.aload_n 0, 0, 0, 0), (.getfield 27, 2, 7, 1179), (.iload 4, 0, 0, 0), (.dup2, 0, 0, 0)] (pe := 91) (ls' := [some (.ref 0), some (.int age), some (.int fresh), some (.int (M 0 0)), some (.int (nI i1))]) (st' := [.int (nI i1), .ref 6, .int (nI i1), .ref 6]) (M' := s1) (by decide +kernel) rfl ?_
      refine zT.iald (n := 9) (k := i1) rfl rfl (by omega) (by decide) (by decide +kernel) ?_
      refine zT.run [(.iconst 1, 0, 0, 0), (.iload_n 3, 0, 0, 0), (.ishl, 0, 0, 0), (.ior, 0, 0, 0)] (pe := 96) (ls' := [some (.ref 0), some (.int age), some (.int fresh), some (.int (M 0 0)), some (.int (nI i1))]) (st' := [.int ((s1 6 i1) ||| (1 <<< ((M 0 0) &&& 31))), .int (nI i1), .ref 6]) (M' := s1) (by decide +kernel) rfl ?_
      refine zT.iast (n := 9) (k := i1) rfl rfl (by omega) (by decide) (by decide +kernel) ?_
      refine zT.run [(.iinc 4 1, 0, 0, 0), (.goto (-22), 0, 0, 0)] (pe := 78) (ls' := [some (.ref 0), some (.int age), some (.int fresh), some (.int (M 0 0)), some (.int ((nI i1) + 1))]) (st' := []) (M' := (zU s1 6 i1 ((s1 6 i1) ||| (1 <<< ((M 0 0) &&& 31))))) (by decide +kernel) rfl ?_
      exact zT.eq (by simp only [l_X4_addReplica_78, nI_succ, zDl]; try rfl) k1
    · skip
      show zT _ _ _ _ (78, [some (.ref 0), some (.int age), some (.int fresh), some (.int (M 0 0)), some (.int (nI n))], [], sh_Office, (zIt (l_X4_addReplica_78 M n age fresh) n (zU (zU (zU (zU (zU (zU (zU M 0 0 ((M 0 0) + 1)) 2 n age) 3 n fresh) 4 n 0) 5 n (-1)) 0 1 ((M 0 1) ||| (1 <<< ((M 0 0) &&& 31)))) 6 n ((M 0 1) ||| (1 <<< ((M 0 0) &&& 31))))))
      refine zT.run [(.iload 4, 0, 0, 0), (.iload_n 3, 0, 0, 0)] (pe := 81) (ls' := [some (.ref 0), some (.int age), some (.int fresh), some (.int (M 0 0)), some (.int (nI n))]) (st' := [.int (M 0 0), .int (nI n)]) (M' := (zIt (l_X4_addReplica_78 M n age fresh) n (zU (zU (zU (zU (zU (zU (zU M 0 0 ((M 0 0) + 1)) 2 n age) 3 n fresh) 4 n 0) 5 n (-1)) 0 1 ((M 0 1) ||| (1 <<< ((M 0 0) &&& 31)))) 6 n ((M 0 1) ||| (1 <<< ((M 0 0) &&& 31)))))) (by decide +kernel) rfl ?_
      refine zT.cge (tgt := 103) (off := 22) (by decide +kernel) (by decide) (fun _ => ?_) (fun c => absurd (zGeY (n := n) hn) c)
      refine zT.eqM (M2 := (m_X4_addReplica_1 M n age fresh)) rfl ?_
      exact zT.vret (by simp only [g_X4_addReplica, if_pos c1]; try rfl) rfl (by decide +kernel)
  · skip
    exact zT.vret (by simp only [g_X4_addReplica, if_neg c1]; try rfl) rfl (by decide +kernel)
theorem fr_X4_addReplica (M : zM) (n : Nat) (age : Int32) (fresh : Int32) (o : Nat) (ho : o ≠ 0 ∧ o ≠ 2 ∧ o ≠ 3 ∧ o ≠ 4 ∧ o ≠ 5 ∧ o ≠ 6) : (g_X4_addReplica M n age fresh) o = M o := by
  simp only [g_X4_addReplica]
  (repeat' split) <;> simp only [zU_ne ho.1, zU_ne ho.2.1, zU_ne ho.2.2.1, zU_ne ho.2.2.2.1, zU_ne ho.2.2.2.2.1, zU_ne ho.2.2.2.2.2, zUa_ne ho.1, zUa_ne ho.2.1, zUa_ne ho.2.2.1, zUa_ne ho.2.2.2.1, zUa_ne ho.2.2.2.2.1, zUa_ne ho.2.2.2.2.2, m_X4_addReplica_1, (fr_l_X4_addReplica_78 M n age fresh o (by omega))]
theorem k_X4_addReplica : zCal yy_X4_addReplica 2 := ⟨⟨⟨⟨zIn (w := 2009) (by decide +kernel) rfl, zIn (w := 1004) (by decide +kernel) rfl⟩, by decide +kernel⟩, by decide +kernel⟩, ⟨zIn (w := 2007) (by decide +kernel) rfl, zIn (w := 2008) (by decide +kernel) rfl⟩⟩
noncomputable abbrev yy_X4_isMajority : zY := (yX4_isMajority, cX4_isMajority, 2, (some Jvm.ClassFile.FieldType.boolean), 1, 20)
noncomputable def g_X4_isMajority (M : zM) (set : Int32) : Int32 := (if (2 * (g_J6_bitCount_0f7a4 set)) ≤ (M 0 0) then 0 else 1)
set_option maxRecDepth 100000 in
theorem c_X4_isMajority (M : zM) (set : Int32)  : zC yy_X4_isMajority 0 0 [.ref 0, .int set] sh_Office M (some (.int (g_X4_isMajority M set))) sh_Office M := by
  refine zC.of (by decide +kernel) rfl (Nat.le_of_ble_eq_true rfl) ?_
  refine zT.run [(.iconst 2, 0, 0, 0), (.iload_n 1, 0, 0, 0)] (pe := 2) (ls' := [some (.ref 0), some (.int set)]) (st' := [.int set, .int 2]) (M' := M) (by decide +kernel) rfl ?_
  refine zT.cS_nil (idx := 124) (av := [.int set]) (rv := (some (.int (g_J6_bitCount_0f7a4 set)))) (st := [.int 2]) (S1 := [.int (g_J6_bitCount_0f7a4 set), .int 2]) (c_J6_bitCount_0f7a4 set) k_J6_bitCount_0f7a4 rfl (zIn (w := 2021) (by decide +kernel) rfl) (by decide +kernel) (by decide +kernel) rfl (Nat.le_of_ble_eq_true rfl) rfl ?_
  refine zT.run [(.imul, 0, 0, 0), (.aload_n 0, 0, 0, 0), (.getfield 51, 2, 0, 1170)] (pe := 10) (ls' := [some (.ref 0), some (.int set)]) (st' := [.int (M 0 0), .int (2 * (g_J6_bitCount_0f7a4 set))]) (M' := M) (by decide +kernel) rfl ?_
  refine zT.cle (tgt := 17) (off := 7) (by decide +kernel) (by decide) (fun (c1 : (2 * (g_J6_bitCount_0f7a4 set)) ≤ (M 0 0)) => ?_) (fun (c1 : ¬ (2 * (g_J6_bitCount_0f7a4 set)) ≤ (M 0 0)) => ?_)
  · skip
    refine zT.run [(.iconst 0, 0, 0, 0)] (pe := 18) (ls' := [some (.ref 0), some (.int set)]) (st' := [.int 0]) (M' := M) (by decide +kernel) rfl ?_
    exact zT.iret (ty := Jvm.ClassFile.FieldType.boolean) (by simp only [g_X4_isMajority, if_pos c1]; try rfl) rfl rfl rfl (by decide +kernel)
  · skip
    refine zT.run [(.iconst 1, 0, 0, 0), (.goto 4, 0, 0, 0)] (pe := 18) (ls' := [some (.ref 0), some (.int set)]) (st' := [.int 1]) (M' := M) (by decide +kernel) rfl ?_
    exact zT.iret (ty := Jvm.ClassFile.FieldType.boolean) (by simp only [g_X4_isMajority, if_neg c1]; try rfl) rfl rfl rfl (by decide +kernel)
theorem k_X4_isMajority : zCal yy_X4_isMajority 1 := ⟨⟨⟨⟨zIn (w := 2034) (by decide +kernel) rfl, zIn (w := 1004) (by decide +kernel) rfl⟩, by decide +kernel⟩, by decide +kernel⟩, ⟨zIn (w := 2033) (by decide +kernel) rfl, zIn (w := 1) (by decide +kernel) rfl⟩⟩
noncomputable abbrev yy_X4_othersLinked : zY := (yX4_othersLinked, cX4_othersLinked, 2, (some Jvm.ClassFile.FieldType.int), 0, 0)
noncomputable def g_X4_othersLinked (M : zM) (r : Nat) : Int32 := ((M 6 r) &&& ((1 <<< ((nI r) &&& 31)) ^^^ (-1)))
set_option maxRecDepth 100000 in
theorem c_X4_othersLinked (M : zM) (r : Nat) (h_r : r < 9) : zC yy_X4_othersLinked 0 0 [.ref 0, .int (nI r)] sh_Office M (some (.int (g_X4_othersLinked M r))) sh_Office M := by
  refine zC.of (by decide +kernel) rfl (Nat.le_of_ble_eq_true rfl) ?_
  refine zT.run [(.aload_n 0, 0, 0, 0), (.getfield 27, 2, 7, 1179), (.iload_n 1, 0, 0, 0)] (pe := 5) (ls' := [some (.ref 0), some (.int (nI r))]) (st' := [.int (nI r), .ref 6]) (M' := M) (by decide +kernel) rfl ?_
  refine zT.iald (n := 9) (k := r) rfl rfl (by omega) (by decide) (by decide +kernel) ?_
  refine zT.run [(.iconst 1, 0, 0, 0), (.iload_n 1, 0, 0, 0), (.ishl, 0, 0, 0), (.iconst (-1), 0, 0, 0), (.ixor, 0, 0, 0), (.iand, 0, 0, 0)] (pe := 12) (ls' := [some (.ref 0), some (.int (nI r))]) (st' := [.int ((M 6 r) &&& ((1 <<< ((nI r) &&& 31)) ^^^ (-1)))]) (M' := M) (by decide +kernel) rfl ?_
  exact zT.iret (ty := Jvm.ClassFile.FieldType.int) (by simp only [g_X4_othersLinked]; try rfl) rfl rfl rfl (by decide +kernel)
theorem k_X4_othersLinked : zCal yy_X4_othersLinked 1 := ⟨⟨⟨⟨zIn (w := 2020) (by decide +kernel) rfl, zIn (w := 1004) (by decide +kernel) rfl⟩, by decide +kernel⟩, by decide +kernel⟩, ⟨zIn (w := 2019) (by decide +kernel) rfl, zIn (w := 0) (by decide +kernel) rfl⟩⟩
noncomputable abbrev yy_X4_greatestTermOf : zY := (yX4_greatestTermOf, cX4_greatestTermOf, 4, (some Jvm.ClassFile.FieldType.int), 1, 60)
noncomputable def l_X4_greatestTermOf_4 (M : zM) (n : Nat) (set : Int32) (i1 : Nat) (s1 : Int32) : Int32 := (if (g_X9_has set (nI i1)) = 0 then s1 else (if s1 < (M 4 i1) then (M 4 i1) else s1))
noncomputable def g_X4_greatestTermOf (M : zM) (n : Nat) (set : Int32) : Int32 := (zIt (l_X4_greatestTermOf_4 M n set) n 0)
set_option maxRecDepth 100000 in
theorem c_X4_greatestTermOf (M : zM) (n : Nat) (set : Int32) (hn : M 0 0 = nI n) (h9 : n ≤ 9) : zC yy_X4_greatestTermOf 0 0 [.ref 0, .int set] sh_Office M (some (.int (g_X4_greatestTermOf M n set))) sh_Office M := by
  refine zC.of (by decide +kernel) rfl (Nat.le_of_ble_eq_true rfl) ?_
  refine zT.run [(.iconst 0, 0, 0, 0), (.istore_n 2, 0, 0, 0), (.iconst 0, 0, 0, 0), (.istore_n 3, 0, 0, 0)] (pe := 4) (ls' := [some (.ref 0), some (.int set), some (.int 0), some (.int 0)]) (st' := []) (M' := M) (by decide +kernel) rfl ?_
  refine zT.loop (l_X4_greatestTermOf_4 M n set) (fun (i : Nat) (s : Int32) => (4, [some (.ref 0), some (.int set), some (.int s), some (.int (nI i))], [], sh_Office, M)) n 0 (fun i1 hi1 k1 => ?_) ?_
  · skip
    generalize hs1 : zIt (l_X4_greatestTermOf_4 M n set) i1 0 = s1 at k1 ⊢
    show zT _ _ _ _ (4, [some (.ref 0), some (.int set), some (.int s1), some (.int (nI i1))], [], sh_Office, M)
    refine zT.run [(.iload_n 3, 0, 0, 0), (.aload_n 0, 0, 0, 0), (.getfield 51, 2, 0, 1170)] (pe := 9) (ls' := [some (.ref 0), some (.int set), some (.int s1), some (.int (nI i1))]) (st' := [.int (M 0 0), .int (nI i1)]) (M' := M) (by decide +kernel) rfl ?_
    refine zT.cge (tgt := 37) (off := 28) (by decide +kernel) (by decide) (fun c => absurd c (zGeN (n := n) hn (by omega) (by omega))) (fun _ => ?_)
    refine zT.run [(.iload_n 1, 0, 0, 0), (.iload_n 3, 0, 0, 0)] (pe := 14) (ls' := [some (.ref 0), some (.int set), some (.int s1), some (.int (nI i1))]) (st' := [.int (nI i1), .int set]) (M' := M) (by decide +kernel) rfl ?_
    refine zT.cN_nil "SealedBallots" (idx := 83) (av := [.int set, .int (nI i1)]) (rv := (some (.int (g_X9_has set (nI i1))))) (st := []) (S1 := [.int (g_X9_has set (nI i1))]) (c_X9_has set (nI i1)) k_X9_has rfl (zInN (w := 2014) (by decide +kernel) rfl) (by decide +kernel) (by decide +kernel) rfl (Nat.le_of_ble_eq_true rfl) rfl ?_
    refine zT.join (31, [some (.ref 0), some (.int set), some (.int (if (g_X9_has set (nI i1)) = 0 then s1 else (if s1 < (M 4 i1) then (M 4 i1) else s1))), some (.int (nI i1))], [], sh_Office, M) ?_ ?_
    · refine zT.zeq (tgt := 31) (off := 14) (by decide +kernel) (by decide) (fun (c1 : (g_X9_has set (nI i1)) = 0) => ?_) (fun (c1 : ¬ (g_X9_has set (nI i1)) = 0) => ?_)
      · skip
        exact zT.here (by simp only [if_pos c1])
      · skip
        refine zT.run [(.iload_n 2, 0, 0, 0), (.aload_n 0, 0, 0, 0), (.getfield 21, 2, 5, 1177), (.iload_n 3, 0, 0, 0)] (pe := 26) (ls' := [some (.ref 0), some (.int set), some (.int s1), some (.int (nI i1))]) (st' := [.int (nI i1), .ref 4, .int s1]) (M' := M) (by decide +kernel) rfl ?_
        refine zT.iald (n := 9) (k := i1) rfl rfl (by omega) (by decide) (by decide +kernel) ?_
        refine zT.mmax (idx := 207) ⟨⟨⟨⟨zIn (w := 2039) (by decide +kernel) rfl, zLm_max.1⟩, zLm_max.2.1⟩, zLm_max.2.2⟩, by decide +kernel, by decide +kernel⟩ (Nat.le_of_ble_eq_true rfl) (by decide +kernel) ?_
        refine zT.run [(.istore_n 2, 0, 0, 0)] (pe := 31) (ls' := [some (.ref 0), some (.int set), some (.int (if s1 < (M 4 i1) then (M 4 i1) else s1)), some (.int (nI i1))]) (st' := []) (M' := M) (by decide +kernel) rfl ?_
        exact zT.here (by simp only [if_neg c1])
    · skip
      refine zT.run [(.iinc 3 1, 0, 0, 0), (.goto (-30), 0, 0, 0)] (pe := 4) (ls' := [some (.ref 0), some (.int set), some (.int (if (g_X9_has set (nI i1)) = 0 then s1 else (if s1 < (M 4 i1) then (M 4 i1) else s1))), some (.int ((nI i1) + 1))]) (st' := []) (M' := M) (by decide +kernel) rfl ?_
      exact zT.eq (by simp only [l_X4_greatestTermOf_4, nI_succ, zDl]; try rfl) k1
  · skip
    show zT _ _ _ _ (4, [some (.ref 0), some (.int set), some (.int (zIt (l_X4_greatestTermOf_4 M n set) n 0)), some (.int (nI n))], [], sh_Office, M)
    refine zT.run [(.iload_n 3, 0, 0, 0), (.aload_n 0, 0, 0, 0), (.getfield 51, 2, 0, 1170)] (pe := 9) (ls' := [some (.ref 0), some (.int set), some (.int (zIt (l_X4_greatestTermOf_4 M n set) n 0)), some (.int (nI n))]) (st' := [.int (M 0 0), .int (nI n)]) (M' := M) (by decide +kernel) rfl ?_
    refine zT.cge (tgt := 37) (off := 28) (by decide +kernel) (by decide) (fun _ => ?_) (fun c => absurd (zGeY (n := n) hn) c)
    refine zT.run [(.iload_n 2, 0, 0, 0)] (pe := 38) (ls' := [some (.ref 0), some (.int set), some (.int (zIt (l_X4_greatestTermOf_4 M n set) n 0)), some (.int (nI n))]) (st' := [.int (zIt (l_X4_greatestTermOf_4 M n set) n 0)]) (M' := M) (by decide +kernel) rfl ?_
    exact zT.iret (ty := Jvm.ClassFile.FieldType.int) (by simp only [g_X4_greatestTermOf]; try rfl) rfl rfl rfl (by decide +kernel)
theorem k_X4_greatestTermOf : zCal yy_X4_greatestTermOf 1 := ⟨⟨⟨⟨zIn (w := 2038) (by decide +kernel) rfl, zIn (w := 1004) (by decide +kernel) rfl⟩, by decide +kernel⟩, by decide +kernel⟩, ⟨zIn (w := 2037) (by decide +kernel) rfl, zIn (w := 2) (by decide +kernel) rfl⟩⟩
noncomputable abbrev yy_X4_reachedSet : zY := (yX4_reachedSet, cX4_reachedSet, 2, (some Jvm.ClassFile.FieldType.int), 1, 21)
noncomputable def g_X4_reachedSet (M : zM)  : Int32 := (if (M 7 0) = 0 then 0 else (if (g_X9_has (M 0 1) (M 7 2)) = 0 then 0 else ((M 0 1) &&& (M 6 (M 7 2).toNatClampNeg))))
set_option maxRecDepth 100000 in
theorem c_X4_reachedSet (M : zM)  (hc : zHc M) : zC yy_X4_reachedSet 0 0 [.ref 0] sh_Office M (some (.int (g_X4_reachedSet M))) sh_Office M := by
  refine zC.of (by decide +kernel) rfl (Nat.le_of_ble_eq_true rfl) ?_
  refine zT.run [(.aload_n 0, 0, 0, 0), (.getfield 33, 2, 8, 1181), (.getfield 80, 0, 0, 1092)] (pe := 7) (ls' := [some (.ref 0), none]) (st' := [.int (M 7 0)]) (M' := M) (by decide +kernel) rfl ?_
  refine zT.zeq (tgt := 31) (off := 24) (by decide +kernel) (by decide) (fun (c1 : (M 7 0) = 0) => ?_) (fun (c1 : ¬ (M 7 0) = 0) => ?_)
  · skip
    refine zT.run [(.iconst 0, 0, 0, 0), (.istore_n 1, 0, 0, 0), (.iload_n 1, 0, 0, 0)] (pe := 34) (ls' := [some (.ref 0), some (.int 0)]) (st' := [.int 0]) (M' := M) (by decide +kernel) rfl ?_
    refine zT.zeq (tgt := 57) (off := 23) (by decide +kernel) (by decide) (fun _ => ?_) (fun c => absurd (by decide) c)
    refine zT.run [(.iconst 0, 0, 0, 0)] (pe := 58) (ls' := [some (.ref 0), some (.int 0)]) (st' := [.int 0]) (M' := M) (by decide +kernel) rfl ?_
    exact zT.iret (ty := Jvm.ClassFile.FieldType.int) (by simp only [g_X4_reachedSet, if_pos c1]; try rfl) rfl rfl rfl (by decide +kernel)
  · skip
    refine zT.run [(.aload_n 0, 0, 0, 0), (.getfield 55, 2, 1, 1173), (.aload_n 0, 0, 0, 0), (.getfield 33, 2, 8, 1181), (.getfield 204, 0, 2, 1096)] (pe := 21) (ls' := [some (.ref 0), none]) (st' := [.int (M 7 2), .int (M 0 1)]) (M' := M) (by decide +kernel) rfl ?_
    refine zT.cN_nil "SealedBallots" (idx := 83) (av := [.int (M 0 1), .int (M 7 2)]) (rv := (some (.int (g_X9_has (M 0 1) (M 7 2))))) (st := []) (S1 := [.int (g_X9_has (M 0 1) (M 7 2))]) (c_X9_has (M 0 1) (M 7 2)) k_X9_has rfl (zInN (w := 2014) (by decide +kernel) rfl) (by decide +kernel) (by decide +kernel) rfl (Nat.le_of_ble_eq_true rfl) rfl ?_
    refine zT.zeq (tgt := 31) (off := 7) (by decide +kernel) (by decide) (fun (c2 : (g_X9_has (M 0 1) (M 7 2)) = 0) => ?_) (fun (c2 : ¬ (g_X9_has (M 0 1) (M 7 2)) = 0) => ?_)
    · skip
      refine zT.run [(.iconst 0, 0, 0, 0), (.istore_n 1, 0, 0, 0), (.iload_n 1, 0, 0, 0)] (pe := 34) (ls' := [some (.ref 0), some (.int 0)]) (st' := [.int 0]) (M' := M) (by decide +kernel) rfl ?_
      refine zT.zeq (tgt := 57) (off := 23) (by decide +kernel) (by decide) (fun _ => ?_) (fun c => absurd (by decide) c)
      refine zT.run [(.iconst 0, 0, 0, 0)] (pe := 58) (ls' := [some (.ref 0), some (.int 0)]) (st' := [.int 0]) (M' := M) (by decide +kernel) rfl ?_
      exact zT.iret (ty := Jvm.ClassFile.FieldType.int) (by simp only [g_X4_reachedSet, if_neg c1, if_pos c2]; try rfl) rfl rfl rfl (by decide +kernel)
    · skip
      refine zT.run [(.iconst 1, 0, 0, 0), (.goto 4, 0, 0, 0), (.istore_n 1, 0, 0, 0), (.iload_n 1, 0, 0, 0)] (pe := 34) (ls' := [some (.ref 0), some (.int 1)]) (st' := [.int 1]) (M' := M) (by decide +kernel) rfl ?_
      refine zT.zeq (tgt := 57) (off := 23) (by decide +kernel) (by decide) (fun c => absurd c (by decide)) (fun _ => ?_)
      refine zT.run [(.aload_n 0, 0, 0, 0), (.getfield 55, 2, 1, 1173), (.aload_n 0, 0, 0, 0), (.getfield 27, 2, 7, 1179), (.aload_n 0, 0, 0, 0), (.getfield 33, 2, 8, 1181), (.getfield 204, 0, 2, 1096)] (pe := 52) (ls' := [some (.ref 0), some (.int 1)]) (st' := [.int (M 7 2), .ref 6, .int (M 0 1)]) (M' := M) (by decide +kernel) rfl ?_
      refine zT.iald (n := 9) (k := (M 7 2).toNatClampNeg) rfl (zHcI hc (by assumption)).1 (zHcI hc (by assumption)).2 (by decide) (by decide +kernel) ?_
      refine zT.run [(.iand, 0, 0, 0), (.goto 4, 0, 0, 0)] (pe := 58) (ls' := [some (.ref 0), some (.int 1)]) (st' := [.int ((M 0 1) &&& (M 6 (M 7 2).toNatClampNeg))]) (M' := M) (by decide +kernel) rfl ?_
      exact zT.iret (ty := Jvm.ClassFile.FieldType.int) (by simp only [g_X4_reachedSet, if_neg c1, if_neg c2]; try rfl) rfl rfl rfl (by decide +kernel)
theorem k_X4_reachedSet : zCal yy_X4_reachedSet 0 := ⟨⟨⟨⟨zIn (w := 2064) (by decide +kernel) rfl, zIn (w := 1004) (by decide +kernel) rfl⟩, by decide +kernel⟩, by decide +kernel⟩, ⟨zIn (w := 2063) (by decide +kernel) rfl, zIn (w := 3) (by decide +kernel) rfl⟩⟩
noncomputable abbrev yy_X4_callBallot : zY := (yX4_callBallot, cX4_callBallot, 5, (some Jvm.ClassFile.FieldType.int), 2, 83)
noncomputable def l_X4_callBallot_73 (M : zM) (n : Nat) (r : Nat) (i1 : Nat) (s1 : zM) : zM := (if (g_X9_has ((M 6 r) &&& (M 0 1)) (nI i1)) = 0 then s1 else (zU (zU s1 4 i1 ((g_X4_greatestTermOf M n ((M 6 r) &&& (M 0 1))) + 1)) 5 i1 (-1)))
theorem fr_l_X4_callBallot_73 (M : zM) (n : Nat) (r : Nat) (o : Nat) (ho : o ≠ 4 ∧ o ≠ 5) : ∀ (k : Nat) (s : zM), (zIt (l_X4_callBallot_73 M n r) k s) o = s o := by
  intro k
  induction k with
  | zero => intro s; rfl
  | succ k ih =>
    intro s
    rw [← ih s]
    show (l_X4_callBallot_73 M n r k (zIt (l_X4_callBallot_73 M n r) k s)) o = _
    generalize zIt (l_X4_callBallot_73 M n r) k s = t
    simp only [l_X4_callBallot_73]
    (repeat' split) <;> simp only [zU_ne ho.1, zU_ne ho.2]
noncomputable def m_X4_callBallot_1 (M : zM) (n : Nat) (r : Nat) : zM := (zPs (zIt (l_X4_callBallot_73 M n r) n M) 7 3 (g_X1_begin (zPl (zIt (l_X4_callBallot_73 M n r) n M) 7) ((g_X4_greatestTermOf M n ((M 6 r) &&& (M 0 1))) + 1) (nI r) ((M 6 r) &&& (M 0 1))))
noncomputable def g_X4_callBallot (M : zM) (n : Nat) (r : Nat) : Int32 × zM := (if (M 7 0) = 1 then ((-2), M) else (if (M 7 0) = 2 then ((-2), M) else (if (g_X9_has (M 0 1) (nI r)) = 0 then ((-3), M) else (if (g_X4_isMajority M ((M 6 r) &&& (M 0 1))) = 0 then ((-4), M) else (((g_X4_greatestTermOf M n ((M 6 r) &&& (M 0 1))) + 1), (m_X4_callBallot_1 M n r))))))
set_option maxRecDepth 100000 in
theorem c_X4_callBallot (M : zM) (n : Nat) (r : Nat) (hn : M 0 0 = nI n) (h9 : n ≤ 9) (h_r : r < 9) : zC yy_X4_callBallot 0 0 [.ref 0, .int (nI r)] sh_Office M (some (.int (g_X4_callBallot M n r).1)) sh_Office (g_X4_callBallot M n r).2 := by
  refine zC.of (by decide +kernel) rfl (Nat.le_of_ble_eq_true rfl) ?_
  refine zT.run [(.aload_n 0, 0, 0, 0), (.getfield 33, 2, 8, 1181), (.getfield 80, 0, 0, 1092), (.iconst 1, 0, 0, 0)] (pe := 8) (ls' := [some (.ref 0), some (.int (nI r)), none, none, none]) (st' := [.int 1, .int (M 7 0)]) (M' := M) (by decide +kernel) rfl ?_
  refine zT.ceq (tgt := 22) (off := 14) (by decide +kernel) (by decide) (fun (c1 : (M 7 0) = 1) => ?_) (fun (c1 : ¬ (M 7 0) = 1) => ?_)
  · skip
    refine zT.run [(.bipush (-2), 0, 0, 0)] (pe := 24) (ls' := [some (.ref 0), some (.int (nI r)), none, none, none]) (st' := [.int (-2)]) (M' := M) (by decide +kernel) rfl ?_
    exact zT.iret (ty := Jvm.ClassFile.FieldType.int) (by simp only [g_X4_callBallot, if_pos c1]; try rfl) (by simp only [g_X4_callBallot, if_pos c1]; try rfl) rfl rfl (by decide +kernel)
  · skip
    refine zT.run [(.aload_n 0, 0, 0, 0), (.getfield 33, 2, 8, 1181), (.getfield 80, 0, 0, 1092), (.iconst 2, 0, 0, 0)] (pe := 19) (ls' := [some (.ref 0), some (.int (nI r)), none, none, none]) (st' := [.int 2, .int (M 7 0)]) (M' := M) (by decide +kernel) rfl ?_
    refine zT.cne (tgt := 25) (off := 6) (by decide +kernel) (by decide) (fun (c2 : ¬ (M 7 0) = 2) => ?_) (fun (c2 : (M 7 0) = 2) => ?_)
    · skip
      refine zT.run [(.aload_n 0, 0, 0, 0), (.getfield 55, 2, 1, 1173), (.iload_n 1, 0, 0, 0)] (pe := 30) (ls' := [some (.ref 0), some (.int (nI r)), none, none, none]) (st' := [.int (nI r), .int (M 0 1)]) (M' := M) (by decide +kernel) rfl ?_
      refine zT.cN_nil "SealedBallots" (idx := 83) (av := [.int (M 0 1), .int (nI r)]) (rv := (some (.int (g_X9_has (M 0 1) (nI r))))) (st := []) (S1 := [.int (g_X9_has (M 0 1) (nI r))]) (c_X9_has (M 0 1) (nI r)) k_X9_has rfl (zInN (w := 2014) (by decide +kernel) rfl) (by decide +kernel) (by decide +kernel) rfl (Nat.le_of_ble_eq_true rfl) rfl ?_
      refine zT.zne (tgt := 39) (off := 6) (by decide +kernel) (by decide) (fun (c3 : ¬ (g_X9_has (M 0 1) (nI r)) = 0) => ?_) (fun (c3 : (g_X9_has (M 0 1) (nI r)) = 0) => ?_)
      · skip
        refine zT.run [(.aload_n 0, 0, 0, 0), (.getfield 27, 2, 7, 1179), (.iload_n 1, 0, 0, 0)] (pe := 44) (ls' := [some (.ref 0), some (.int (nI r)), none, none, none]) (st' := [.int (nI r), .ref 6]) (M' := M) (by decide +kernel) rfl ?_
        refine zT.iald (n := 9) (k := r) rfl rfl (by omega) (by decide) (by decide +kernel) ?_
        refine zT.run [(.aload_n 0, 0, 0, 0), (.getfield 55, 2, 1, 1173), (.iand, 0, 0, 0), (.istore_n 2, 0, 0, 0), (.aload_n 0, 0, 0, 0), (.iload_n 2, 0, 0, 0)] (pe := 53) (ls' := [some (.ref 0), some (.int (nI r)), some (.int ((M 6 r) &&& (M 0 1))), none, none]) (st' := [.int ((M 6 r) &&& (M 0 1)), .ref 0]) (M' := M) (by decide +kernel) rfl ?_
        refine zT.cV_own (o := 0) (idx := 87) (av := [.int ((M 6 r) &&& (M 0 1))]) (rv := (some (.int (g_X4_isMajority M ((M 6 r) &&& (M 0 1)))))) (st := []) (S1 := [.int (g_X4_isMajority M ((M 6 r) &&& (M 0 1)))]) (c_X4_isMajority M ((M 6 r) &&& (M 0 1))) k_X4_isMajority _ _ rfl rfl rfl (zIn (w := 2031) (by decide +kernel) rfl) (by decide +kernel) (by decide +kernel) rfl (Nat.le_of_ble_eq_true rfl) rfl ?_
        refine zT.zne (tgt := 62) (off := 6) (by decide +kernel) (by decide) (fun (c4 : ¬ (g_X4_isMajority M ((M 6 r) &&& (M 0 1))) = 0) => ?_) (fun (c4 : (g_X4_isMajority M ((M 6 r) &&& (M 0 1))) = 0) => ?_)
        · skip
          refine zT.run [(.aload_n 0, 0, 0, 0), (.iload_n 2, 0, 0, 0)] (pe := 64) (ls' := [some (.ref 0), some (.int (nI r)), some (.int ((M 6 r) &&& (M 0 1))), none, none]) (st' := [.int ((M 6 r) &&& (M 0 1)), .ref 0]) (M' := M) (by decide +kernel) rfl ?_
          refine zT.cV_own (o := 0) (idx := 91) (av := [.int ((M 6 r) &&& (M 0 1))]) (rv := (some (.int (g_X4_greatestTermOf M n ((M 6 r) &&& (M 0 1)))))) (st := []) (S1 := [.int (g_X4_greatestTermOf M n ((M 6 r) &&& (M 0 1)))]) (c_X4_greatestTermOf M n ((M 6 r) &&& (M 0 1)) hn h9) k_X4_greatestTermOf _ _ rfl rfl rfl (zIn (w := 2035) (by decide +kernel) rfl) (by decide +kernel) (by decide +kernel) rfl (Nat.le_of_ble_eq_true rfl) rfl ?_
          refine zT.run [(.iconst 1, 0, 0, 0), (.iadd, 0, 0, 0), (.istore_n 3, 0, 0, 0), (.iconst 0, 0, 0, 0), (.istore 4, 0, 0, 0)] (pe := 73) (ls' := [some (.ref 0), some (.int (nI r)), some (.int ((M 6 r) &&& (M 0 1))), some (.int ((g_X4_greatestTermOf M n ((M 6 r) &&& (M 0 1))) + 1)), some (.int 0)]) (st' := []) (M' := M) (by decide +kernel) rfl ?_
          refine zT.loop (l_X4_callBallot_73 M n r) (fun (i : Nat) (s : zM) => (73, [some (.ref 0), some (.int (nI r)), some (.int ((M 6 r) &&& (M 0 1))), some (.int ((g_X4_greatestTermOf M n ((M 6 r) &&& (M 0 1))) + 1)), some (.int (nI i))], [], sh_Office, s)) n M (fun i1 hi1 k1 => ?_) ?_
          · skip
            generalize hs1 : zIt (l_X4_callBallot_73 M n r) i1 M = s1 at k1 ⊢
            have hm1 : ∀ o : Nat, (o ≠ 4 ∧ o ≠ 5) → s1 o = M o := fun o ho => by rw [← hs1]; exact fr_l_X4_callBallot_73 M n r o ho i1 M
            show zT _ _ _ _ (73, [some (.ref 0), some (.int (nI r)), some (.int ((M 6 r) &&& (M 0 1))), some (.int ((g_X4_greatestTermOf M n ((M 6 r) &&& (M 0 1))) + 1)), some (.int (nI i1))], [], sh_Office, s1)
            refine zT.run [(.iload 4, 0, 0, 0), (.aload_n 0, 0, 0, 0), (.getfield 51, 2, 0, 1170)] (pe := 79) (ls' := [some (.ref 0), some (.int (nI r)), some (.int ((M 6 r) &&& (M 0 1))), some (.int ((g_X4_greatestTermOf M n ((M 6 r) &&& (M 0 1))) + 1)), some (.int (nI i1))]) (st' := [.int (s1 0 0), .int (nI i1)]) (M' := s1) (by decide +kernel) rfl ?_
            refine zT.cge (tgt := 113) (off := 34) (by decide +kernel) (by decide) (fun c => absurd c (zGeN (n := n) ((congrFun (hm1 0 (by decide)) 0).trans hn) (by omega) (by omega))) (fun _ => ?_)
            refine zT.run [(.iload_n 2, 0, 0, 0), (.iload 4, 0, 0, 0)] (pe := 85) (ls' := [some (.ref 0), some (.int (nI r)), some (.int ((M 6 r) &&& (M 0 1))), some (.int ((g_X4_greatestTermOf M n ((M 6 r) &&& (M 0 1))) + 1)), some (.int (nI i1))]) (st' := [.int (nI i1), .int ((M 6 r) &&& (M 0 1))]) (M' := s1) (by decide +kernel) rfl ?_
            refine zT.cN_nil "SealedBallots" (idx := 83) (av := [.int ((M 6 r) &&& (M 0 1)), .int (nI i1)]) (rv := (some (.int (g_X9_has ((M 6 r) &&& (M 0 1)) (nI i1))))) (st := []) (S1 := [.int (g_X9_has ((M 6 r) &&& (M 0 1)) (nI i1))]) (c_X9_has ((M 6 r) &&& (M 0 1)) (nI i1)) k_X9_has rfl (zInN (w := 2014) (by decide +kernel) rfl) (by decide +kernel) (by decide +kernel) rfl (Nat.le_of_ble_eq_true rfl) rfl ?_
            refine zT.zeq (tgt := 107) (off := 19) (by decide +kernel) (by decide) (fun (c5 : (g_X9_has ((M 6 r) &&& (M 0 1)) (nI i1)) = 0) => ?_) (fun (c5 : ¬ (g_X9_has ((M 6 r) &&& (M 0 1)) (nI i1)) = 0) => ?_)
            · skip
              refine zT.run [(.iinc 4 1, 0, 0, 0), (.goto (-37), 0, 0, 0)] (pe := 73) (ls' := [some (.ref 0), some (.int (nI r)), some (.int ((M 6 r) &&& (M 0 1))), some (.int ((g_X4_greatestTermOf M n ((M 6 r) &&& (M 0 1))) + 1)), some (.int ((nI i1) + 1))]) (st' := []) (M' := s1) (by decide +kernel) rfl ?_
              exact zT.eq (by simp only [l_X4_callBallot_73, if_pos c5, nI_succ, zDl]; try rfl) k1
            · skip
              refine zT.run [(.aload_n 0, 0, 0, 0), (.getfield 21, 2, 5, 1177), (.iload 4, 0, 0, 0), (.iload_n 3, 0, 0, 0)] (pe := 98) (ls' := [some (.ref 0), some (.int (nI r)), some (.int ((M 6 r) &&& (M 0 1))), some (.int ((g_X4_greatestTermOf M n ((M 6 r) &&& (M 0 1))) + 1)), some (.int (nI i1))]) (st' := [.int ((g_X4_greatestTermOf M n ((M 6 r) &&& (M 0 1))) + 1), .int (nI i1), .ref 4]) (M' := s1) (by decide +kernel) rfl ?_
              refine zT.iast (n := 9) (k := i1) rfl rfl (by omega) (by decide) (by decide +kernel) ?_
              refine zT.run [(.aload_n 0, 0, 0, 0), (.getfield 24, 2, 6, 1178), (.iload 4, 0, 0, 0), (.iconst (-1), 0, 0, 0)] (pe := 106) (ls' := [some (.ref 0), some (.int (nI r)), some (.int ((M 6 r) &&& (M 0 1))), some (.int ((g_X4_greatestTermOf M n ((M 6 r) &&& (M 0 1))) + 1)), some (.int (nI i1))]) (st' := [.int (-1), .int (nI i1), .ref 5]) (M' := (zU s1 4 i1 ((g_X4_greatestTermOf M n ((M 6 r) &&& (M 0 1))) + 1))) (by decide +kernel) rfl ?_
              refine zT.iast (n := 9) (k := i1) rfl rfl (by omega) (by decide) (by decide +kernel) ?_
              refine zT.run [(.iinc 4 1, 0, 0, 0), (.goto (-37), 0, 0, 0)] (pe := 73) (ls' := [some (.ref 0), some (.int (nI r)), some (.int ((M 6 r) &&& (M 0 1))), some (.int ((g_X4_greatestTermOf M n ((M 6 r) &&& (M 0 1))) + 1)), some (.int ((nI i1) + 1))]) (st' := []) (M' := (zU (zU s1 4 i1 ((g_X4_greatestTermOf M n ((M 6 r) &&& (M 0 1))) + 1)) 5 i1 (-1))) (by decide +kernel) rfl ?_
              exact zT.eq (by simp only [l_X4_callBallot_73, if_neg c5, nI_succ, zDl]; try rfl) k1
          · skip
            show zT _ _ _ _ (73, [some (.ref 0), some (.int (nI r)), some (.int ((M 6 r) &&& (M 0 1))), some (.int ((g_X4_greatestTermOf M n ((M 6 r) &&& (M 0 1))) + 1)), some (.int (nI n))], [], sh_Office, (zIt (l_X4_callBallot_73 M n r) n M))
            refine zT.run [(.iload 4, 0, 0, 0), (.aload_n 0, 0, 0, 0), (.getfield 51, 2, 0, 1170)] (pe := 79) (ls' := [some (.ref 0), some (.int (nI r)), some (.int ((M 6 r) &&& (M 0 1))), some (.int ((g_X4_greatestTermOf M n ((M 6 r) &&& (M 0 1))) + 1)), some (.int (nI n))]) (st' := [.int ((zIt (l_X4_callBallot_73 M n r) n M) 0 0), .int (nI n)]) (M' := (zIt (l_X4_callBallot_73 M n r) n M)) (by decide +kernel) rfl ?_
            refine zT.cge (tgt := 113) (off := 34) (by decide +kernel) (by decide) (fun _ => ?_) (fun c => absurd (zGeY (n := n) ((congrFun (fr_l_X4_callBallot_73 M n r 0 (by decide) n M) 0).trans hn)) c)
            refine zT.run [(.aload_n 0, 0, 0, 0), (.getfield 33, 2, 8, 1181), (.iload_n 3, 0, 0, 0), (.iload_n 1, 0, 0, 0), (.iload_n 2, 0, 0, 0)] (pe := 120) (ls' := [some (.ref 0), some (.int (nI r)), some (.int ((M 6 r) &&& (M 0 1))), some (.int ((g_X4_greatestTermOf M n ((M 6 r) &&& (M 0 1))) + 1)), some (.int (nI n))]) (st' := [.int ((M 6 r) &&& (M 0 1)), .int (nI r), .int ((g_X4_greatestTermOf M n ((M 6 r) &&& (M 0 1))) + 1), .ref 7]) (M' := (zIt (l_X4_callBallot_73 M n r) n M)) (by decide +kernel) rfl ?_
            refine zT.cV_sub 7 (o := 0) (idx := 95) (av := [.int ((g_X4_greatestTermOf M n ((M 6 r) &&& (M 0 1))) + 1), .int (nI r), .int ((M 6 r) &&& (M 0 1))]) (rv := none) (st := []) (S1 := []) (c_X1_begin (zPl (zIt (l_X4_callBallot_73 M n r) n M) 7) ((g_X4_greatestTermOf M n ((M 6 r) &&& (M 0 1))) + 1) (nI r) ((M 6 r) &&& (M 0 1))) sub_Office_7_Ballot k_X1_begin _ _ rfl rfl rfl (zIn (w := 2042) (by decide +kernel) rfl) (by decide +kernel) (by decide +kernel) rfl (Nat.le_of_ble_eq_true rfl) rfl ?_
            refine zT.eqM (M2 := (m_X4_callBallot_1 M n r)) rfl ?_
            refine zT.run [(.iload_n 3, 0, 0, 0)] (pe := 124) (ls' := [some (.ref 0), some (.int (nI r)), some (.int ((M 6 r) &&& (M 0 1))), some (.int ((g_X4_greatestTermOf M n ((M 6 r) &&& (M 0 1))) + 1)), some (.int (nI n))]) (st' := [.int ((g_X4_greatestTermOf M n ((M 6 r) &&& (M 0 1))) + 1)]) (M' := (m_X4_callBallot_1 M n r)) (by decide +kernel) rfl ?_
            exact zT.iret (ty := Jvm.ClassFile.FieldType.int) (by simp only [g_X4_callBallot, if_neg c1, if_neg c2, if_neg c3, if_neg c4]; try rfl) (by simp only [g_X4_callBallot, if_neg c1, if_neg c2, if_neg c3, if_neg c4]; try rfl) rfl rfl (by decide +kernel)
        · skip
          refine zT.run [(.bipush (-4), 0, 0, 0)] (pe := 61) (ls' := [some (.ref 0), some (.int (nI r)), some (.int ((M 6 r) &&& (M 0 1))), none, none]) (st' := [.int (-4)]) (M' := M) (by decide +kernel) rfl ?_
          exact zT.iret (ty := Jvm.ClassFile.FieldType.int) (by simp only [g_X4_callBallot, if_neg c1, if_neg c2, if_neg c3, if_pos c4]; try rfl) (by simp only [g_X4_callBallot, if_neg c1, if_neg c2, if_neg c3, if_pos c4]; try rfl) rfl rfl (by decide +kernel)
      · skip
        refine zT.run [(.bipush (-3), 0, 0, 0)] (pe := 38) (ls' := [some (.ref 0), some (.int (nI r)), none, none, none]) (st' := [.int (-3)]) (M' := M) (by decide +kernel) rfl ?_
        exact zT.iret (ty := Jvm.ClassFile.FieldType.int) (by simp only [g_X4_callBallot, if_neg c1, if_neg c2, if_pos c3]; try rfl) (by simp only [g_X4_callBallot, if_neg c1, if_neg c2, if_pos c3]; try rfl) rfl rfl (by decide +kernel)
    · skip
      refine zT.run [(.bipush (-2), 0, 0, 0)] (pe := 24) (ls' := [some (.ref 0), some (.int (nI r)), none, none, none]) (st' := [.int (-2)]) (M' := M) (by decide +kernel) rfl ?_
      exact zT.iret (ty := Jvm.ClassFile.FieldType.int) (by simp only [g_X4_callBallot, if_neg c1, if_pos c2]; try rfl) (by simp only [g_X4_callBallot, if_neg c1, if_pos c2]; try rfl) rfl rfl (by decide +kernel)
theorem fr_X4_callBallot (M : zM) (n : Nat) (r : Nat) (o : Nat) (ho : o ≠ 4 ∧ o ≠ 5 ∧ o ≠ 7 ∧ o ≠ 8 ∧ o ≠ 9) : (g_X4_callBallot M n r).2 o = M o := by
  simp only [g_X4_callBallot]
  (repeat' split) <;> simp only [zU_ne ho.1, zU_ne ho.2.1, zU_ne ho.2.2.1, zU_ne ho.2.2.2.1, zU_ne ho.2.2.2.2, zUa_ne ho.1, zUa_ne ho.2.1, zUa_ne ho.2.2.1, zUa_ne ho.2.2.2.1, zUa_ne ho.2.2.2.2, m_X4_callBallot_1, (fun (MM : zM) (t : Int32) (c : Int32) (r : Int32) => zPs_fr (M := MM) (b := 7) (n := 3) (N := (g_X1_begin (zPl MM 7) t c r)) (o := o) (fun j hj e => fr_X1_begin (zPl MM 7) t c r j (by omega))), (fr_l_X4_callBallot_73 M n r o (by omega))]
theorem k_X4_callBallot : zCal yy_X4_callBallot 1 := ⟨⟨⟨⟨zIn (w := 2030) (by decide +kernel) rfl, zIn (w := 1004) (by decide +kernel) rfl⟩, by decide +kernel⟩, by decide +kernel⟩, ⟨zIn (w := 2028) (by decide +kernel) rfl, zIn (w := 2029) (by decide +kernel) rfl⟩⟩
noncomputable abbrev yy_X4_sealWith : zY := (yX4_sealWith, cX4_sealWith, 3, (some Jvm.ClassFile.FieldType.int), 2, 42)
noncomputable def g_X4_sealWith (M : zM) (r : Nat) (x : Int32) : Int32 × zM := (if (M 7 0) = 1 then (if (g_X1_isOnRoll (zPl M 7) (nI r)) = 0 then ((-6), M) else (if (g_X9_has (M 7 5) (nI r)) = 0 then (if (g_X9_has (g_X4_reachedSet M) (nI r)) = 0 then ((-8), M) else ((g_J6_bitCount_0f7a4 ((g_X1_putSeal (zPl M 7) r x) 0 5)), (zPs M 7 3 (g_X1_putSeal (zPl M 7) r x)))) else ((-7), M))) else ((-5), M))
set_option maxRecDepth 100000 in
theorem c_X4_sealWith (M : zM) (r : Nat) (x : Int32) (hc : zHc M) (h_r : r < 9) : zC yy_X4_sealWith 0 0 [.ref 0, .int (nI r), .int x] sh_Office M (some (.int (g_X4_sealWith M r x).1)) sh_Office (g_X4_sealWith M r x).2 := by
  refine zC.of (by decide +kernel) rfl (Nat.le_of_ble_eq_true rfl) ?_
  refine zT.run [(.aload_n 0, 0, 0, 0), (.getfield 33, 2, 8, 1181), (.getfield 80, 0, 0, 1092), (.iconst 1, 0, 0, 0)] (pe := 8) (ls' := [some (.ref 0), some (.int (nI r)), some (.int x)]) (st' := [.int 1, .int (M 7 0)]) (M' := M) (by decide +kernel) rfl ?_
  refine zT.ceq (tgt := 14) (off := 6) (by decide +kernel) (by decide) (fun (c1 : (M 7 0) = 1) => ?_) (fun (c1 : ¬ (M 7 0) = 1) => ?_)
  · skip
    refine zT.run [(.aload_n 0, 0, 0, 0), (.getfield 33, 2, 8, 1181), (.iload_n 1, 0, 0, 0)] (pe := 19) (ls' := [some (.ref 0), some (.int (nI r)), some (.int x)]) (st' := [.int (nI r), .ref 7]) (M' := M) (by decide +kernel) rfl ?_
    refine zT.cV_pure 7 (o := 0) (idx := 110) (av := [.int (nI r)]) (rv := (some (.int (g_X1_isOnRoll (zPl M 7) (nI r))))) (st := []) (S1 := [.int (g_X1_isOnRoll (zPl M 7) (nI r))]) (c_X1_isOnRoll (zPl M 7) (nI r)) sub_Office_7_Ballot k_X1_isOnRoll _ _ rfl rfl rfl (zIn (w := 2056) (by decide +kernel) rfl) (by decide +kernel) (by decide +kernel) rfl (Nat.le_of_ble_eq_true rfl) rfl ?_
    refine zT.zne (tgt := 28) (off := 6) (by decide +kernel) (by decide) (fun (c2 : ¬ (g_X1_isOnRoll (zPl M 7) (nI r)) = 0) => ?_) (fun (c2 : (g_X1_isOnRoll (zPl M 7) (nI r)) = 0) => ?_)
    · skip
      refine zT.run [(.aload_n 0, 0, 0, 0), (.getfield 33, 2, 8, 1181), (.getfield 113, 0, 5, 1103), (.iload_n 1, 0, 0, 0)] (pe := 36) (ls' := [some (.ref 0), some (.int (nI r)), some (.int x)]) (st' := [.int (nI r), .int (M 7 5)]) (M' := M) (by decide +kernel) rfl ?_
      refine zT.cN_nil "SealedBallots" (idx := 83) (av := [.int (M 7 5), .int (nI r)]) (rv := (some (.int (g_X9_has (M 7 5) (nI r))))) (st := []) (S1 := [.int (g_X9_has (M 7 5) (nI r))]) (c_X9_has (M 7 5) (nI r)) k_X9_has rfl (zInN (w := 2014) (by decide +kernel) rfl) (by decide +kernel) (by decide +kernel) rfl (Nat.le_of_ble_eq_true rfl) rfl ?_
      refine zT.zeq (tgt := 45) (off := 6) (by decide +kernel) (by decide) (fun (c3 : (g_X9_has (M 7 5) (nI r)) = 0) => ?_) (fun (c3 : ¬ (g_X9_has (M 7 5) (nI r)) = 0) => ?_)
      · skip
        refine zT.run [(.aload_n 0, 0, 0, 0)] (pe := 46) (ls' := [some (.ref 0), some (.int (nI r)), some (.int x)]) (st' := [.ref 0]) (M' := M) (by decide +kernel) rfl ?_
        refine zT.cV_own (o := 0) (idx := 116) (av := []) (rv := (some (.int (g_X4_reachedSet M)))) (st := []) (S1 := [.int (g_X4_reachedSet M)]) (c_X4_reachedSet M hc) k_X4_reachedSet _ _ rfl rfl rfl (zIn (w := 2061) (by decide +kernel) rfl) (by decide +kernel) (by decide +kernel) rfl (Nat.le_of_ble_eq_true rfl) rfl ?_
        refine zT.run [(.iload_n 1, 0, 0, 0)] (pe := 50) (ls' := [some (.ref 0), some (.int (nI r)), some (.int x)]) (st' := [.int (nI r), .int (g_X4_reachedSet M)]) (M' := M) (by decide +kernel) rfl ?_
        refine zT.cN_nil "SealedBallots" (idx := 83) (av := [.int (g_X4_reachedSet M), .int (nI r)]) (rv := (some (.int (g_X9_has (g_X4_reachedSet M) (nI r))))) (st := []) (S1 := [.int (g_X9_has (g_X4_reachedSet M) (nI r))]) (c_X9_has (g_X4_reachedSet M) (nI r)) k_X9_has rfl (zInN (w := 2014) (by decide +kernel) rfl) (by decide +kernel) (by decide +kernel) rfl (Nat.le_of_ble_eq_true rfl) rfl ?_
        refine zT.zne (tgt := 59) (off := 6) (by decide +kernel) (by decide) (fun (c4 : ¬ (g_X9_has (g_X4_reachedSet M) (nI r)) = 0) => ?_) (fun (c4 : (g_X9_has (g_X4_reachedSet M) (nI r)) = 0) => ?_)
        · skip
          refine zT.run [(.aload_n 0, 0, 0, 0), (.getfield 33, 2, 8, 1181), (.iload_n 1, 0, 0, 0), (.iload_n 2, 0, 0, 0)] (pe := 65) (ls' := [some (.ref 0), some (.int (nI r)), some (.int x)]) (st' := [.int x, .int (nI r), .ref 7]) (M' := M) (by decide +kernel) rfl ?_
          refine zT.cV_sub 7 (o := 0) (idx := 120) (av := [.int (nI r), .int x]) (rv := none) (st := []) (S1 := []) (c_X1_putSeal (zPl M 7) r x (by omega)) sub_Office_7_Ballot k_X1_putSeal _ _ rfl rfl rfl (zIn (w := 2065) (by decide +kernel) rfl) (by decide +kernel) (by decide +kernel) rfl (Nat.le_of_ble_eq_true rfl) rfl ?_
          refine zT.run [(.aload_n 0, 0, 0, 0), (.getfield 33, 2, 8, 1181), (.getfield 113, 0, 5, 1103)] (pe := 75) (ls' := [some (.ref 0), some (.int (nI r)), some (.int x)]) (st' := [.int ((g_X1_putSeal (zPl M 7) r x) 0 5)]) (M' := (zPs M 7 3 (g_X1_putSeal (zPl M 7) r x))) (by decide +kernel) rfl ?_
          refine zT.cS_nil (idx := 124) (av := [.int ((g_X1_putSeal (zPl M 7) r x) 0 5)]) (rv := (some (.int (g_J6_bitCount_0f7a4 ((g_X1_putSeal (zPl M 7) r x) 0 5))))) (st := []) (S1 := [.int (g_J6_bitCount_0f7a4 ((g_X1_putSeal (zPl M 7) r x) 0 5))]) (c_J6_bitCount_0f7a4 ((g_X1_putSeal (zPl M 7) r x) 0 5)) k_J6_bitCount_0f7a4 rfl (zIn (w := 2021) (by decide +kernel) rfl) (by decide +kernel) (by decide +kernel) rfl (Nat.le_of_ble_eq_true rfl) rfl ?_
          exact zT.iret (ty := Jvm.ClassFile.FieldType.int) (by simp only [g_X4_sealWith, if_pos c1, if_neg c2, if_pos c3, if_neg c4]; try rfl) (by simp only [g_X4_sealWith, if_pos c1, if_neg c2, if_pos c3, if_neg c4]; try rfl) rfl rfl (by decide +kernel)
        · skip
          refine zT.run [(.bipush (-8), 0, 0, 0)] (pe := 58) (ls' := [some (.ref 0), some (.int (nI r)), some (.int x)]) (st' := [.int (-8)]) (M' := M) (by decide +kernel) rfl ?_
          exact zT.iret (ty := Jvm.ClassFile.FieldType.int) (by simp only [g_X4_sealWith, if_pos c1, if_neg c2, if_pos c3, if_pos c4]; try rfl) (by simp only [g_X4_sealWith, if_pos c1, if_neg c2, if_pos c3, if_pos c4]; try rfl) rfl rfl (by decide +kernel)
      · skip
        refine zT.run [(.bipush (-7), 0, 0, 0)] (pe := 44) (ls' := [some (.ref 0), some (.int (nI r)), some (.int x)]) (st' := [.int (-7)]) (M' := M) (by decide +kernel) rfl ?_
        exact zT.iret (ty := Jvm.ClassFile.FieldType.int) (by simp only [g_X4_sealWith, if_pos c1, if_neg c2, if_neg c3]; try rfl) (by simp only [g_X4_sealWith, if_pos c1, if_neg c2, if_neg c3]; try rfl) rfl rfl (by decide +kernel)
    · skip
      refine zT.run [(.bipush (-6), 0, 0, 0)] (pe := 27) (ls' := [some (.ref 0), some (.int (nI r)), some (.int x)]) (st' := [.int (-6)]) (M' := M) (by decide +kernel) rfl ?_
      exact zT.iret (ty := Jvm.ClassFile.FieldType.int) (by simp only [g_X4_sealWith, if_pos c1, if_pos c2]; try rfl) (by simp only [g_X4_sealWith, if_pos c1, if_pos c2]; try rfl) rfl rfl (by decide +kernel)
  · skip
    refine zT.run [(.bipush (-5), 0, 0, 0)] (pe := 13) (ls' := [some (.ref 0), some (.int (nI r)), some (.int x)]) (st' := [.int (-5)]) (M' := M) (by decide +kernel) rfl ?_
    exact zT.iret (ty := Jvm.ClassFile.FieldType.int) (by simp only [g_X4_sealWith, if_neg c1]; try rfl) (by simp only [g_X4_sealWith, if_neg c1]; try rfl) rfl rfl (by decide +kernel)
theorem fr_X4_sealWith (M : zM) (r : Nat) (x : Int32) (o : Nat) (ho : o ≠ 7 ∧ o ≠ 8) : (g_X4_sealWith M r x).2 o = M o := by
  simp only [g_X4_sealWith]
  (repeat' split) <;> simp only [zU_ne ho.1, zU_ne ho.2, zUa_ne ho.1, zUa_ne ho.2, (fun (MM : zM) (r : Nat) (x : Int32) => zPs_fr (M := MM) (b := 7) (n := 3) (N := (g_X1_putSeal (zPl MM 7) r x)) (o := o) (fun j hj e => fr_X1_putSeal (zPl MM 7) r x j (by omega)))]
theorem k_X4_sealWith : zCal yy_X4_sealWith 2 := ⟨⟨⟨⟨zIn (w := 2055) (by decide +kernel) rfl, zIn (w := 1004) (by decide +kernel) rfl⟩, by decide +kernel⟩, by decide +kernel⟩, ⟨zIn (w := 2053) (by decide +kernel) rfl, zIn (w := 2054) (by decide +kernel) rfl⟩⟩
noncomputable abbrev yy_X4_sealVote : zY := (yX4_sealVote, cX4_sealVote, 4, (some Jvm.ClassFile.FieldType.int), 3, 64)
noncomputable def g_X4_sealVote (M : zM) (r : Nat) (cd : Int32) (x : Int32) : Int32 × zM := ((g_X4_sealWith M r (g_X9_sealNumber cd x (M 7 1))).1, (g_X4_sealWith M r (g_X9_sealNumber cd x (M 7 1))).2)
set_option maxRecDepth 100000 in
theorem c_X4_sealVote (M : zM) (r : Nat) (cd : Int32) (x : Int32) (hc : zHc M) (h_r : r < 9) : zC yy_X4_sealVote 0 0 [.ref 0, .int (nI r), .int cd, .int x] sh_Office M (some (.int (g_X4_sealVote M r cd x).1)) sh_Office (g_X4_sealVote M r cd x).2 := by
  refine zC.of (by decide +kernel) rfl (Nat.le_of_ble_eq_true rfl) ?_
  refine zT.run [(.aload_n 0, 0, 0, 0), (.iload_n 1, 0, 0, 0), (.iload_n 2, 0, 0, 0), (.iload_n 3, 0, 0, 0), (.aload_n 0, 0, 0, 0), (.getfield 33, 2, 8, 1181), (.getfield 99, 0, 1, 1094)] (pe := 11) (ls' := [some (.ref 0), some (.int (nI r)), some (.int cd), some (.int x)]) (st' := [.int (M 7 1), .int x, .int cd, .int (nI r), .ref 0]) (M' := M) (by decide +kernel) rfl ?_
  refine zT.cN_nil "SealedBallots" (idx := 102) (av := [.int cd, .int x, .int (M 7 1)]) (rv := (some (.int (g_X9_sealNumber cd x (M 7 1))))) (st := [.int (nI r), .ref 0]) (S1 := [.int (g_X9_sealNumber cd x (M 7 1)), .int (nI r), .ref 0]) (c_X9_sealNumber cd x (M 7 1)) k_X9_sealNumber rfl (zInN (w := 2047) (by decide +kernel) rfl) (by decide +kernel) (by decide +kernel) rfl (Nat.le_of_ble_eq_true rfl) rfl ?_
  refine zT.cV_all (o := 0) (idx := 106) (av := [.int (nI r), .int (g_X9_sealNumber cd x (M 7 1))]) (rv := (some (.int (g_X4_sealWith M r (g_X9_sealNumber cd x (M 7 1))).1))) (st := []) (S1 := [.int (g_X4_sealWith M r (g_X9_sealNumber cd x (M 7 1))).1]) (c_X4_sealWith M r (g_X9_sealNumber cd x (M 7 1)) hc (by omega)) k_X4_sealWith _ _ rfl rfl rfl (zIn (w := 2052) (by decide +kernel) rfl) (by decide +kernel) (by decide +kernel) rfl (Nat.le_of_ble_eq_true rfl) rfl ?_
  exact zT.iret (ty := Jvm.ClassFile.FieldType.int) (by simp only [g_X4_sealVote]; try rfl) (by simp only [g_X4_sealVote]; try rfl) rfl rfl (by decide +kernel)
theorem fr_X4_sealVote (M : zM) (r : Nat) (cd : Int32) (x : Int32) (o : Nat) (ho : o ≠ 7 ∧ o ≠ 8) : (g_X4_sealVote M r cd x).2 o = M o := by
  simp only [g_X4_sealVote]
  (repeat' split) <;> simp only [zU_ne ho.1, zU_ne ho.2, zUa_ne ho.1, zUa_ne ho.2, (fun (MM : zM) (r : Nat) (x : Int32) => fr_X4_sealWith MM r x o (by omega))]
theorem k_X4_sealVote : zCal yy_X4_sealVote 3 := ⟨⟨⟨⟨zIn (w := 2046) (by decide +kernel) rfl, zIn (w := 1004) (by decide +kernel) rfl⟩, by decide +kernel⟩, by decide +kernel⟩, ⟨zIn (w := 2044) (by decide +kernel) rfl, zIn (w := 2045) (by decide +kernel) rfl⟩⟩
noncomputable abbrev yy_X4_closeSealing : zY := (yX4_closeSealing, cX4_closeSealing, 2, (some Jvm.ClassFile.FieldType.int), 3, 60)
noncomputable def g_X4_closeSealing (M : zM)  : Int32 × zM := (if (M 7 0) = 1 then (if (g_X1_need (zPl M 7)) ≤ (g_J6_bitCount_0f7a4 (M 7 5)) then ((g_J6_bitCount_0f7a4 (M 7 5)), (zU M 7 0 2)) else ((-9), M)) else ((-5), M))
set_option maxRecDepth 100000 in
theorem c_X4_closeSealing (M : zM)   : zC yy_X4_closeSealing 0 0 [.ref 0] sh_Office M (some (.int (g_X4_closeSealing M).1)) sh_Office (g_X4_closeSealing M).2 := by
  refine zC.of (by decide +kernel) rfl (Nat.le_of_ble_eq_true rfl) ?_
  refine zT.run [(.aload_n 0, 0, 0, 0), (.getfield 33, 2, 8, 1181), (.getfield 80, 0, 0, 1092), (.iconst 1, 0, 0, 0)] (pe := 8) (ls' := [some (.ref 0), none]) (st' := [.int 1, .int (M 7 0)]) (M' := M) (by decide +kernel) rfl ?_
  refine zT.ceq (tgt := 14) (off := 6) (by decide +kernel) (by decide) (fun (c1 : (M 7 0) = 1) => ?_) (fun (c1 : ¬ (M 7 0) = 1) => ?_)
  · skip
    refine zT.run [(.aload_n 0, 0, 0, 0), (.getfield 33, 2, 8, 1181), (.getfield 113, 0, 5, 1103)] (pe := 21) (ls' := [some (.ref 0), none]) (st' := [.int (M 7 5)]) (M' := M) (by decide +kernel) rfl ?_
    refine zT.cS_nil (idx := 124) (av := [.int (M 7 5)]) (rv := (some (.int (g_J6_bitCount_0f7a4 (M 7 5))))) (st := []) (S1 := [.int (g_J6_bitCount_0f7a4 (M 7 5))]) (c_J6_bitCount_0f7a4 (M 7 5)) k_J6_bitCount_0f7a4 rfl (zIn (w := 2021) (by decide +kernel) rfl) (by decide +kernel) (by decide +kernel) rfl (Nat.le_of_ble_eq_true rfl) rfl ?_
    refine zT.run [(.istore_n 1, 0, 0, 0), (.iload_n 1, 0, 0, 0), (.aload_n 0, 0, 0, 0), (.getfield 33, 2, 8, 1181)] (pe := 30) (ls' := [some (.ref 0), some (.int (g_J6_bitCount_0f7a4 (M 7 5)))]) (st' := [.ref 7, .int (g_J6_bitCount_0f7a4 (M 7 5))]) (M' := M) (by decide +kernel) rfl ?_
    refine zT.cV_pure 7 (o := 0) (idx := 129) (av := []) (rv := (some (.int (g_X1_need (zPl M 7))))) (st := [.int (g_J6_bitCount_0f7a4 (M 7 5))]) (S1 := [.int (g_X1_need (zPl M 7)), .int (g_J6_bitCount_0f7a4 (M 7 5))]) (c_X1_need (zPl M 7)) sub_Office_7_Ballot k_X1_need _ _ rfl rfl rfl (zIn (w := 4071) (by decide +kernel) rfl) (by decide +kernel) (by decide +kernel) rfl (Nat.le_of_ble_eq_true rfl) rfl ?_
    refine zT.cge (tgt := 39) (off := 6) (by decide +kernel) (by decide) (fun (c2 : (g_X1_need (zPl M 7)) ≤ (g_J6_bitCount_0f7a4 (M 7 5))) => ?_) (fun (c2 : ¬ (g_X1_need (zPl M 7)) ≤ (g_J6_bitCount_0f7a4 (M 7 5))) => ?_)
    · skip
      refine zT.run [(.aload_n 0, 0, 0, 0), (.getfield 33, 2, 8, 1181), (.iconst 2, 0, 0, 0), (.putfield 80, 0, 0, 1092), (.iload_n 1, 0, 0, 0)] (pe := 48) (ls' := [some (.ref 0), some (.int (g_J6_bitCount_0f7a4 (M 7 5)))]) (st' := [.int (g_J6_bitCount_0f7a4 (M 7 5))]) (M' := (zU M 7 0 2)) (by decide +kernel) rfl ?_
      exact zT.iret (ty := Jvm.ClassFile.FieldType.int) (by simp only [g_X4_closeSealing, if_pos c1, if_pos c2]; try rfl) (by simp only [g_X4_closeSealing, if_pos c1, if_pos c2]; try rfl) rfl rfl (by decide +kernel)
    · skip
      refine zT.run [(.bipush (-9), 0, 0, 0)] (pe := 38) (ls' := [some (.ref 0), some (.int (g_J6_bitCount_0f7a4 (M 7 5)))]) (st' := [.int (-9)]) (M' := M) (by decide +kernel) rfl ?_
      exact zT.iret (ty := Jvm.ClassFile.FieldType.int) (by simp only [g_X4_closeSealing, if_pos c1, if_neg c2]; try rfl) (by simp only [g_X4_closeSealing, if_pos c1, if_neg c2]; try rfl) rfl rfl (by decide +kernel)
  · skip
    refine zT.run [(.bipush (-5), 0, 0, 0)] (pe := 13) (ls' := [some (.ref 0), none]) (st' := [.int (-5)]) (M' := M) (by decide +kernel) rfl ?_
    exact zT.iret (ty := Jvm.ClassFile.FieldType.int) (by simp only [g_X4_closeSealing, if_neg c1]; try rfl) (by simp only [g_X4_closeSealing, if_neg c1]; try rfl) rfl rfl (by decide +kernel)
theorem fr_X4_closeSealing (M : zM)  (o : Nat) (ho : o ≠ 7) : (g_X4_closeSealing M).2 o = M o := by
  simp only [g_X4_closeSealing]
  (repeat' split) <;> simp only [zU_ne ho, zUa_ne ho]
theorem k_X4_closeSealing : zCal yy_X4_closeSealing 0 := ⟨⟨⟨⟨zIn (w := 4070) (by decide +kernel) rfl, zIn (w := 1004) (by decide +kernel) rfl⟩, by decide +kernel⟩, by decide +kernel⟩, ⟨zIn (w := 4068) (by decide +kernel) rfl, zIn (w := 4069) (by decide +kernel) rfl⟩⟩
noncomputable abbrev yy_X4_flawOf : zY := (yX4_flawOf, cX4_flawOf, 3, (some Jvm.ClassFile.FieldType.int), 2, 42)
noncomputable def g_X4_flawOf (M : zM) (v : Nat) (cd : Nat) : Int32 := (if (g_X1_isOnRoll (zPl M 7) (nI cd)) = 0 then 2 else (if (M 3 v) ≤ (M 3 cd) then (if (g_X9_has (M 0 1) (nI cd)) = 0 then 4 else 0) else 3))
set_option maxRecDepth 100000 in
theorem c_X4_flawOf (M : zM) (v : Nat) (cd : Nat) (h_v : v < 9) (h_cd : cd < 9) : zC yy_X4_flawOf 0 0 [.ref 0, .int (nI v), .int (nI cd)] sh_Office M (some (.int (g_X4_flawOf M v cd))) sh_Office M := by
  refine zC.of (by decide +kernel) rfl (Nat.le_of_ble_eq_true rfl) ?_
  refine zT.run [(.aload_n 0, 0, 0, 0), (.getfield 33, 2, 8, 1181), (.iload_n 2, 0, 0, 0)] (pe := 5) (ls' := [some (.ref 0), some (.int (nI v)), some (.int (nI cd))]) (st' := [.int (nI cd), .ref 7]) (M' := M) (by decide +kernel) rfl ?_
  refine zT.cV_pure 7 (o := 0) (idx := 110) (av := [.int (nI cd)]) (rv := (some (.int (g_X1_isOnRoll (zPl M 7) (nI cd))))) (st := []) (S1 := [.int (g_X1_isOnRoll (zPl M 7) (nI cd))]) (c_X1_isOnRoll (zPl M 7) (nI cd)) sub_Office_7_Ballot k_X1_isOnRoll _ _ rfl rfl rfl (zIn (w := 2056) (by decide +kernel) rfl) (by decide +kernel) (by decide +kernel) rfl (Nat.le_of_ble_eq_true rfl) rfl ?_
  refine zT.zne (tgt := 13) (off := 5) (by decide +kernel) (by decide) (fun (c1 : ¬ (g_X1_isOnRoll (zPl M 7) (nI cd)) = 0) => ?_) (fun (c1 : (g_X1_isOnRoll (zPl M 7) (nI cd)) = 0) => ?_)
  · skip
    refine zT.run [(.aload_n 0, 0, 0, 0), (.getfield 18, 2, 4, 1176), (.iload_n 2, 0, 0, 0)] (pe := 18) (ls' := [some (.ref 0), some (.int (nI v)), some (.int (nI cd))]) (st' := [.int (nI cd), .ref 3]) (M' := M) (by decide +kernel) rfl ?_
    refine zT.iald (n := 9) (k := cd) rfl rfl (by omega) (by decide) (by decide +kernel) ?_
    refine zT.run [(.aload_n 0, 0, 0, 0), (.getfield 18, 2, 4, 1176), (.iload_n 1, 0, 0, 0)] (pe := 24) (ls' := [some (.ref 0), some (.int (nI v)), some (.int (nI cd))]) (st' := [.int (nI v), .ref 3, .int (M 3 cd)]) (M' := M) (by decide +kernel) rfl ?_
    refine zT.iald (n := 9) (k := v) rfl rfl (by omega) (by decide) (by decide +kernel) ?_
    refine zT.cge (tgt := 30) (off := 5) (by decide +kernel) (by decide) (fun (c2 : (M 3 v) ≤ (M 3 cd)) => ?_) (fun (c2 : ¬ (M 3 v) ≤ (M 3 cd)) => ?_)
    · skip
      refine zT.run [(.aload_n 0, 0, 0, 0), (.getfield 55, 2, 1, 1173), (.iload_n 2, 0, 0, 0)] (pe := 35) (ls' := [some (.ref 0), some (.int (nI v)), some (.int (nI cd))]) (st' := [.int (nI cd), .int (M 0 1)]) (M' := M) (by decide +kernel) rfl ?_
      refine zT.cN_nil "SealedBallots" (idx := 83) (av := [.int (M 0 1), .int (nI cd)]) (rv := (some (.int (g_X9_has (M 0 1) (nI cd))))) (st := []) (S1 := [.int (g_X9_has (M 0 1) (nI cd))]) (c_X9_has (M 0 1) (nI cd)) k_X9_has rfl (zInN (w := 2014) (by decide +kernel) rfl) (by decide +kernel) (by decide +kernel) rfl (Nat.le_of_ble_eq_true rfl) rfl ?_
      refine zT.zeq (tgt := 45) (off := 7) (by decide +kernel) (by decide) (fun (c3 : (g_X9_has (M 0 1) (nI cd)) = 0) => ?_) (fun (c3 : ¬ (g_X9_has (M 0 1) (nI cd)) = 0) => ?_)
      · skip
        refine zT.run [(.iconst 4, 0, 0, 0)] (pe := 46) (ls' := [some (.ref 0), some (.int (nI v)), some (.int (nI cd))]) (st' := [.int 4]) (M' := M) (by decide +kernel) rfl ?_
        exact zT.iret (ty := Jvm.ClassFile.FieldType.int) (by simp only [g_X4_flawOf, if_neg c1, if_pos c2, if_pos c3]; try rfl) rfl rfl rfl (by decide +kernel)
      · skip
        refine zT.run [(.iconst 0, 0, 0, 0), (.goto 4, 0, 0, 0)] (pe := 46) (ls' := [some (.ref 0), some (.int (nI v)), some (.int (nI cd))]) (st' := [.int 0]) (M' := M) (by decide +kernel) rfl ?_
        exact zT.iret (ty := Jvm.ClassFile.FieldType.int) (by simp only [g_X4_flawOf, if_neg c1, if_pos c2, if_neg c3]; try rfl) rfl rfl rfl (by decide +kernel)
    · skip
      refine zT.run [(.iconst 3, 0, 0, 0)] (pe := 29) (ls' := [some (.ref 0), some (.int (nI v)), some (.int (nI cd))]) (st' := [.int 3]) (M' := M) (by decide +kernel) rfl ?_
      exact zT.iret (ty := Jvm.ClassFile.FieldType.int) (by simp only [g_X4_flawOf, if_neg c1, if_neg c2]; try rfl) rfl rfl rfl (by decide +kernel)
  · skip
    refine zT.run [(.iconst 2, 0, 0, 0)] (pe := 12) (ls' := [some (.ref 0), some (.int (nI v)), some (.int (nI cd))]) (st' := [.int 2]) (M' := M) (by decide +kernel) rfl ?_
    exact zT.iret (ty := Jvm.ClassFile.FieldType.int) (by simp only [g_X4_flawOf, if_pos c1]; try rfl) rfl rfl rfl (by decide +kernel)
theorem k_X4_flawOf : zCal yy_X4_flawOf 2 := ⟨⟨⟨⟨zIn (w := 4084) (by decide +kernel) rfl, zIn (w := 1004) (by decide +kernel) rfl⟩, by decide +kernel⟩, by decide +kernel⟩, ⟨zIn (w := 4082) (by decide +kernel) rfl, zIn (w := 4083) (by decide +kernel) rfl⟩⟩
noncomputable abbrev yy_X4_breakVote : zY := (yX4_breakVote, cX4_breakVote, 5, (some Jvm.ClassFile.FieldType.int), 3, 64)
noncomputable def g_X4_breakVote (M : zM) (v : Nat) (cd : Nat) (x : Int32) : Int32 × zM := (if (M 7 0) = 2 then (if (g_X1_isOnRoll (zPl M 7) (nI v)) = 0 then ((-6), M) else (if (g_X9_has (M 7 5) (nI v)) = 0 then ((-11), M) else (if (g_X9_has (g_X4_reachedSet M) (nI v)) = 0 then ((-8), M) else ((if (g_X1_sealFits (zPl M 7) v (nI cd) x) = 0 then 1 else (g_X4_flawOf M v cd)), (zPs M 7 3 (g_X1_putBroken (zPl M 7) v (nI cd) (if (g_X1_sealFits (zPl M 7) v (nI cd) x) = 0 then 1 else (g_X4_flawOf M v cd)))))))) else ((-10), M))
set_option maxRecDepth 100000 in
theorem c_X4_breakVote (M : zM) (v : Nat) (cd : Nat) (x : Int32) (hc : zHc M) (h_v : v < 9) (h_cd : cd < 9) : zC yy_X4_breakVote 0 0 [.ref 0, .int (nI v), .int (nI cd), .int x] sh_Office M (some (.int (g_X4_breakVote M v cd x).1)) sh_Office (g_X4_breakVote M v cd x).2 := by
  refine zC.of (by decide +kernel) rfl (Nat.le_of_ble_eq_true rfl) ?_
  refine zT.run [(.aload_n 0, 0, 0, 0), (.getfield 33, 2, 8, 1181), (.getfield 80, 0, 0, 1092), (.iconst 2, 0, 0, 0)] (pe := 8) (ls' := [some (.ref 0), some (.int (nI v)), some (.int (nI cd)), some (.int x), none]) (st' := [.int 2, .int (M 7 0)]) (M' := M) (by decide +kernel) rfl ?_
  refine zT.ceq (tgt := 14) (off := 6) (by decide +kernel) (by decide) (fun (c1 : (M 7 0) = 2) => ?_) (fun (c1 : ¬ (M 7 0) = 2) => ?_)
  · skip
    refine zT.run [(.aload_n 0, 0, 0, 0), (.getfield 33, 2, 8, 1181), (.iload_n 1, 0, 0, 0)] (pe := 19) (ls' := [some (.ref 0), some (.int (nI v)), some (.int (nI cd)), some (.int x), none]) (st' := [.int (nI v), .ref 7]) (M' := M) (by decide +kernel) rfl ?_
    refine zT.cV_pure 7 (o := 0) (idx := 110) (av := [.int (nI v)]) (rv := (some (.int (g_X1_isOnRoll (zPl M 7) (nI v))))) (st := []) (S1 := [.int (g_X1_isOnRoll (zPl M 7) (nI v))]) (c_X1_isOnRoll (zPl M 7) (nI v)) sub_Office_7_Ballot k_X1_isOnRoll _ _ rfl rfl rfl (zIn (w := 2056) (by decide +kernel) rfl) (by decide +kernel) (by decide +kernel) rfl (Nat.le_of_ble_eq_true rfl) rfl ?_
    refine zT.zne (tgt := 28) (off := 6) (by decide +kernel) (by decide) (fun (c2 : ¬ (g_X1_isOnRoll (zPl M 7) (nI v)) = 0) => ?_) (fun (c2 : (g_X1_isOnRoll (zPl M 7) (nI v)) = 0) => ?_)
    · skip
      refine zT.run [(.aload_n 0, 0, 0, 0), (.getfield 33, 2, 8, 1181), (.getfield 113, 0, 5, 1103), (.iload_n 1, 0, 0, 0)] (pe := 36) (ls' := [some (.ref 0), some (.int (nI v)), some (.int (nI cd)), some (.int x), none]) (st' := [.int (nI v), .int (M 7 5)]) (M' := M) (by decide +kernel) rfl ?_
      refine zT.cN_nil "SealedBallots" (idx := 83) (av := [.int (M 7 5), .int (nI v)]) (rv := (some (.int (g_X9_has (M 7 5) (nI v))))) (st := []) (S1 := [.int (g_X9_has (M 7 5) (nI v))]) (c_X9_has (M 7 5) (nI v)) k_X9_has rfl (zInN (w := 2014) (by decide +kernel) rfl) (by decide +kernel) (by decide +kernel) rfl (Nat.le_of_ble_eq_true rfl) rfl ?_
      refine zT.zne (tgt := 45) (off := 6) (by decide +kernel) (by decide) (fun (c3 : ¬ (g_X9_has (M 7 5) (nI v)) = 0) => ?_) (fun (c3 : (g_X9_has (M 7 5) (nI v)) = 0) => ?_)
      · skip
        refine zT.run [(.aload_n 0, 0, 0, 0)] (pe := 46) (ls' := [some (.ref 0), some (.int (nI v)), some (.int (nI cd)), some (.int x), none]) (st' := [.ref 0]) (M' := M) (by decide +kernel) rfl ?_
        refine zT.cV_own (o := 0) (idx := 116) (av := []) (rv := (some (.int (g_X4_reachedSet M)))) (st := []) (S1 := [.int (g_X4_reachedSet M)]) (c_X4_reachedSet M hc) k_X4_reachedSet _ _ rfl rfl rfl (zIn (w := 2061) (by decide +kernel) rfl) (by decide +kernel) (by decide +kernel) rfl (Nat.le_of_ble_eq_true rfl) rfl ?_
        refine zT.run [(.iload_n 1, 0, 0, 0)] (pe := 50) (ls' := [some (.ref 0), some (.int (nI v)), some (.int (nI cd)), some (.int x), none]) (st' := [.int (nI v), .int (g_X4_reachedSet M)]) (M' := M) (by decide +kernel) rfl ?_
        refine zT.cN_nil "SealedBallots" (idx := 83) (av := [.int (g_X4_reachedSet M), .int (nI v)]) (rv := (some (.int (g_X9_has (g_X4_reachedSet M) (nI v))))) (st := []) (S1 := [.int (g_X9_has (g_X4_reachedSet M) (nI v))]) (c_X9_has (g_X4_reachedSet M) (nI v)) k_X9_has rfl (zInN (w := 2014) (by decide +kernel) rfl) (by decide +kernel) (by decide +kernel) rfl (Nat.le_of_ble_eq_true rfl) rfl ?_
        refine zT.zne (tgt := 59) (off := 6) (by decide +kernel) (by decide) (fun (c4 : ¬ (g_X9_has (g_X4_reachedSet M) (nI v)) = 0) => ?_) (fun (c4 : (g_X9_has (g_X4_reachedSet M) (nI v)) = 0) => ?_)
        · skip
          refine zT.run [(.aload_n 0, 0, 0, 0), (.getfield 33, 2, 8, 1181), (.iload_n 1, 0, 0, 0), (.iload_n 2, 0, 0, 0), (.iload_n 3, 0, 0, 0)] (pe := 66) (ls' := [some (.ref 0), some (.int (nI v)), some (.int (nI cd)), some (.int x), none]) (st' := [.int x, .int (nI cd), .int (nI v), .ref 7]) (M' := M) (by decide +kernel) rfl ?_
          refine zT.cV_pure 7 (o := 0) (idx := 132) (av := [.int (nI v), .int (nI cd), .int x]) (rv := (some (.int (g_X1_sealFits (zPl M 7) v (nI cd) x)))) (st := []) (S1 := [.int (g_X1_sealFits (zPl M 7) v (nI cd) x)]) (c_X1_sealFits (zPl M 7) v (nI cd) x (by omega)) sub_Office_7_Ballot k_X1_sealFits _ _ rfl rfl rfl (zIn (w := 4076) (by decide +kernel) rfl) (by decide +kernel) (by decide +kernel) rfl (Nat.le_of_ble_eq_true rfl) rfl ?_
          refine zT.join (82, [some (.ref 0), some (.int (nI v)), some (.int (nI cd)), some (.int x), none], [.int (if (g_X1_sealFits (zPl M 7) v (nI cd) x) = 0 then 1 else (g_X4_flawOf M v cd))], sh_Office, M) ?_ ?_
          · refine zT.zeq (tgt := 81) (off := 12) (by decide +kernel) (by decide) (fun (c5 : (g_X1_sealFits (zPl M 7) v (nI cd) x) = 0) => ?_) (fun (c5 : ¬ (g_X1_sealFits (zPl M 7) v (nI cd) x) = 0) => ?_)
            · skip
              refine zT.run [(.iconst 1, 0, 0, 0)] (pe := 82) (ls' := [some (.ref 0), some (.int (nI v)), some (.int (nI cd)), some (.int x), none]) (st' := [.int 1]) (M' := M) (by decide +kernel) rfl ?_
              exact zT.here (by simp only [if_pos c5])
            · skip
              refine zT.run [(.aload_n 0, 0, 0, 0), (.iload_n 1, 0, 0, 0), (.iload_n 2, 0, 0, 0)] (pe := 75) (ls' := [some (.ref 0), some (.int (nI v)), some (.int (nI cd)), some (.int x), none]) (st' := [.int (nI cd), .int (nI v), .ref 0]) (M' := M) (by decide +kernel) rfl ?_
              refine zT.cV_own (o := 0) (idx := 136) (av := [.int (nI v), .int (nI cd)]) (rv := (some (.int (g_X4_flawOf M v cd)))) (st := []) (S1 := [.int (g_X4_flawOf M v cd)]) (c_X4_flawOf M v cd (by omega) (by omega)) k_X4_flawOf _ _ rfl rfl rfl (zIn (w := 4081) (by decide +kernel) rfl) (by decide +kernel) (by decide +kernel) rfl (Nat.le_of_ble_eq_true rfl) rfl ?_
              refine zT.run [(.goto 4, 0, 0, 0)] (pe := 82) (ls' := [some (.ref 0), some (.int (nI v)), some (.int (nI cd)), some (.int x), none]) (st' := [.int (g_X4_flawOf M v cd)]) (M' := M) (by decide +kernel) rfl ?_
              exact zT.here (by simp only [if_neg c5])
          · skip
            refine zT.run [(.istore 4, 0, 0, 0), (.aload_n 0, 0, 0, 0), (.getfield 33, 2, 8, 1181), (.iload_n 1, 0, 0, 0), (.iload_n 2, 0, 0, 0), (.iload 4, 0, 0, 0)] (pe := 92) (ls' := [some (.ref 0), some (.int (nI v)), some (.int (nI cd)), some (.int x), some (.int (if (g_X1_sealFits (zPl M 7) v (nI cd) x) = 0 then 1 else (g_X4_flawOf M v cd)))]) (st' := [.int (if (g_X1_sealFits (zPl M 7) v (nI cd) x) = 0 then 1 else (g_X4_flawOf M v cd)), .int (nI cd), .int (nI v), .ref 7]) (M' := M) (by decide +kernel) rfl ?_
            refine zT.cV_sub 7 (o := 0) (idx := 139) (av := [.int (nI v), .int (nI cd), .int (if (g_X1_sealFits (zPl M 7) v (nI cd) x) = 0 then 1 else (g_X4_flawOf M v cd))]) (rv := none) (st := []) (S1 := []) (c_X1_putBroken (zPl M 7) v (nI cd) (if (g_X1_sealFits (zPl M 7) v (nI cd) x) = 0 then 1 else (g_X4_flawOf M v cd)) (by omega)) sub_Office_7_Ballot k_X1_putBroken _ _ rfl rfl rfl (zIn (w := 4085) (by decide +kernel) rfl) (by decide +kernel) (by decide +kernel) rfl (Nat.le_of_ble_eq_true rfl) rfl ?_
            refine zT.run [(.iload 4, 0, 0, 0)] (pe := 97) (ls' := [some (.ref 0), some (.int (nI v)), some (.int (nI cd)), some (.int x), some (.int (if (g_X1_sealFits (zPl M 7) v (nI cd) x) = 0 then 1 else (g_X4_flawOf M v cd)))]) (st' := [.int (if (g_X1_sealFits (zPl M 7) v (nI cd) x) = 0 then 1 else (g_X4_flawOf M v cd))]) (M' := (zPs M 7 3 (g_X1_putBroken (zPl M 7) v (nI cd) (if (g_X1_sealFits (zPl M 7) v (nI cd) x) = 0 then 1 else (g_X4_flawOf M v cd))))) (by decide +kernel) rfl ?_
            exact zT.iret (ty := Jvm.ClassFile.FieldType.int) (by simp only [g_X4_breakVote, if_pos c1, if_neg c2, if_neg c3, if_neg c4]; try rfl) (by simp only [g_X4_breakVote, if_pos c1, if_neg c2, if_neg c3, if_neg c4]; try rfl) rfl rfl (by decide +kernel)
        · skip
          refine zT.run [(.bipush (-8), 0, 0, 0)] (pe := 58) (ls' := [some (.ref 0), some (.int (nI v)), some (.int (nI cd)), some (.int x), none]) (st' := [.int (-8)]) (M' := M) (by decide +kernel) rfl ?_
          exact zT.iret (ty := Jvm.ClassFile.FieldType.int) (by simp only [g_X4_breakVote, if_pos c1, if_neg c2, if_neg c3, if_pos c4]; try rfl) (by simp only [g_X4_breakVote, if_pos c1, if_neg c2, if_neg c3, if_pos c4]; try rfl) rfl rfl (by decide +kernel)
      · skip
        refine zT.run [(.bipush (-11), 0, 0, 0)] (pe := 44) (ls' := [some (.ref 0), some (.int (nI v)), some (.int (nI cd)), some (.int x), none]) (st' := [.int (-11)]) (M' := M) (by decide +kernel) rfl ?_
        exact zT.iret (ty := Jvm.ClassFile.FieldType.int) (by simp only [g_X4_breakVote, if_pos c1, if_neg c2, if_pos c3]; try rfl) (by simp only [g_X4_breakVote, if_pos c1, if_neg c2, if_pos c3]; try rfl) rfl rfl (by decide +kernel)
    · skip
      refine zT.run [(.bipush (-6), 0, 0, 0)] (pe := 27) (ls' := [some (.ref 0), some (.int (nI v)), some (.int (nI cd)), some (.int x), none]) (st' := [.int (-6)]) (M' := M) (by decide +kernel) rfl ?_
      exact zT.iret (ty := Jvm.ClassFile.FieldType.int) (by simp only [g_X4_breakVote, if_pos c1, if_pos c2]; try rfl) (by simp only [g_X4_breakVote, if_pos c1, if_pos c2]; try rfl) rfl rfl (by decide +kernel)
  · skip
    refine zT.run [(.bipush (-10), 0, 0, 0)] (pe := 13) (ls' := [some (.ref 0), some (.int (nI v)), some (.int (nI cd)), some (.int x), none]) (st' := [.int (-10)]) (M' := M) (by decide +kernel) rfl ?_
    exact zT.iret (ty := Jvm.ClassFile.FieldType.int) (by simp only [g_X4_breakVote, if_neg c1]; try rfl) (by simp only [g_X4_breakVote, if_neg c1]; try rfl) rfl rfl (by decide +kernel)
theorem fr_X4_breakVote (M : zM) (v : Nat) (cd : Nat) (x : Int32) (o : Nat) (ho : o ≠ 7 ∧ o ≠ 9) : (g_X4_breakVote M v cd x).2 o = M o := by
  simp only [g_X4_breakVote]
  (repeat' split) <;> simp only [zU_ne ho.1, zU_ne ho.2, zUa_ne ho.1, zUa_ne ho.2, (fun (MM : zM) (r : Nat) (c : Int32) (x : Int32) => zPs_fr (M := MM) (b := 7) (n := 3) (N := (g_X1_putBroken (zPl MM 7) r c x)) (o := o) (fun j hj e => fr_X1_putBroken (zPl MM 7) r c x j (by omega)))]
theorem k_X4_breakVote : zCal yy_X4_breakVote 3 := ⟨⟨⟨⟨zIn (w := 4075) (by decide +kernel) rfl, zIn (w := 1004) (by decide +kernel) rfl⟩, by decide +kernel⟩, by decide +kernel⟩, ⟨zIn (w := 4073) (by decide +kernel) rfl, zIn (w := 4074) (by decide +kernel) rfl⟩⟩
noncomputable abbrev yy_X4_forgetLeader : zY := (yX4_forgetLeader, cX4_forgetLeader, 4, none, 1, 21)
noncomputable def l_X4_forgetLeader_2 (M : zM) (n : Nat) (set : Int32) (ld : Int32) (i1 : Nat) (s1 : zM) : zM := (if (g_X9_has set (nI i1)) = 0 then s1 else (if (s1 5 i1) = ld then (zU s1 5 i1 (-1)) else s1))
theorem fr_l_X4_forgetLeader_2 (M : zM) (n : Nat) (set : Int32) (ld : Int32) (o : Nat) (ho : o ≠ 5) : ∀ (k : Nat) (s : zM), (zIt (l_X4_forgetLeader_2 M n set ld) k s) o = s o := by
  intro k
  induction k with
  | zero => intro s; rfl
  | succ k ih =>
    intro s
    rw [← ih s]
    show (l_X4_forgetLeader_2 M n set ld k (zIt (l_X4_forgetLeader_2 M n set ld) k s)) o = _
    generalize zIt (l_X4_forgetLeader_2 M n set ld) k s = t
    simp only [l_X4_forgetLeader_2]
    (repeat' split) <;> simp only [zU_ne ho]
noncomputable def g_X4_forgetLeader (M : zM) (n : Nat) (set : Int32) (ld : Int32) : zM := (zIt (l_X4_forgetLeader_2 M n set ld) n M)
set_option maxRecDepth 100000 in
theorem c_X4_forgetLeader (M : zM) (n : Nat) (set : Int32) (ld : Int32) (hn : M 0 0 = nI n) (h9 : n ≤ 9) : zC yy_X4_forgetLeader 0 0 [.ref 0, .int set, .int ld] sh_Office M none sh_Office (g_X4_forgetLeader M n set ld) := by
  refine zC.of (by decide +kernel) rfl (Nat.le_of_ble_eq_true rfl) ?_
  refine zT.run [(.iconst 0, 0, 0, 0), (.istore_n 3, 0, 0, 0)] (pe := 2) (ls' := [some (.ref 0), some (.int set), some (.int ld), some (.int 0)]) (st' := []) (M' := M) (by decide +kernel) rfl ?_
  refine zT.loop (l_X4_forgetLeader_2 M n set ld) (fun (i : Nat) (s : zM) => (2, [some (.ref 0), some (.int set), some (.int ld), some (.int (nI i))], [], sh_Office, s)) n M (fun i1 hi1 k1 => ?_) ?_
  · skip
    generalize hs1 : zIt (l_X4_forgetLeader_2 M n set ld) i1 M = s1 at k1 ⊢
    have hm1 : ∀ o : Nat, (o ≠ 5) → s1 o = M o := fun o ho => by rw [← hs1]; exact fr_l_X4_forgetLeader_2 M n set ld o ho i1 M
    show zT _ _ _ _ (2, [some (.ref 0), some (.int set), some (.int ld), some (.int (nI i1))], [], sh_Office, s1)
    refine zT.run [(.iload_n 3, 0, 0, 0), (.aload_n 0, 0, 0, 0), (.getfield 51, 2, 0, 1170)] (pe := 7) (ls' := [some (.ref 0), some (.int set), some (.int ld), some (.int (nI i1))]) (st' := [.int (s1 0 0), .int (nI i1)]) (M' := s1) (by decide +kernel) rfl ?_
    refine zT.cge (tgt := 41) (off := 34) (by decide +kernel) (by decide) (fun c => absurd c (zGeN (n := n) ((congrFun (hm1 0 (by decide)) 0).trans hn) (by omega) (by omega))) (fun _ => ?_)
    refine zT.run [(.iload_n 1, 0, 0, 0), (.iload_n 3, 0, 0, 0)] (pe := 12) (ls' := [some (.ref 0), some (.int set), some (.int ld), some (.int (nI i1))]) (st' := [.int (nI i1), .int set]) (M' := s1) (by decide +kernel) rfl ?_
    refine zT.cN_nil "SealedBallots" (idx := 83) (av := [.int set, .int (nI i1)]) (rv := (some (.int (g_X9_has set (nI i1))))) (st := []) (S1 := [.int (g_X9_has set (nI i1))]) (c_X9_has set (nI i1)) k_X9_has rfl (zInN (w := 2014) (by decide +kernel) rfl) (by decide +kernel) (by decide +kernel) rfl (Nat.le_of_ble_eq_true rfl) rfl ?_
    refine zT.zeq (tgt := 35) (off := 20) (by decide +kernel) (by decide) (fun (c1 : (g_X9_has set (nI i1)) = 0) => ?_) (fun (c1 : ¬ (g_X9_has set (nI i1)) = 0) => ?_)
    · skip
      refine zT.run [(.iinc 3 1, 0, 0, 0), (.goto (-36), 0, 0, 0)] (pe := 2) (ls' := [some (.ref 0), some (.int set), some (.int ld), some (.int ((nI i1) + 1))]) (st' := []) (M' := s1) (by decide +kernel) rfl ?_
      exact zT.eq (by simp only [l_X4_forgetLeader_2, if_pos c1, nI_succ, zDl]; try rfl) k1
    · skip
      refine zT.run [(.aload_n 0, 0, 0, 0), (.getfield 24, 2, 6, 1178), (.iload_n 3, 0, 0, 0)] (pe := 23) (ls' := [some (.ref 0), some (.int set), some (.int ld), some (.int (nI i1))]) (st' := [.int (nI i1), .ref 5]) (M' := s1) (by decide +kernel) rfl ?_
      refine zT.iald (n := 9) (k := i1) rfl rfl (by omega) (by decide) (by decide +kernel) ?_
      refine zT.run [(.iload_n 2, 0, 0, 0)] (pe := 25) (ls' := [some (.ref 0), some (.int set), some (.int ld), some (.int (nI i1))]) (st' := [.int ld, .int (s1 5 i1)]) (M' := s1) (by decide +kernel) rfl ?_
      refine zT.cne (tgt := 35) (off := 10) (by decide +kernel) (by decide) (fun (c2 : ¬ (s1 5 i1) = ld) => ?_) (fun (c2 : (s1 5 i1) = ld) => ?_)
      · skip
        refine zT.run [(.iinc 3 1, 0, 0, 0), (.goto (-36), 0, 0, 0)] (pe := 2) (ls' := [some (.ref 0), some (.int set), some (.int ld), some (.int ((nI i1) + 1))]) (st' := []) (M' := s1) (by decide +kernel) rfl ?_
        exact zT.eq (by simp only [l_X4_forgetLeader_2, if_neg c1, if_neg c2, nI_succ, zDl]; try rfl) k1
      · skip
        refine zT.run [(.aload_n 0, 0, 0, 0), (.getfield 24, 2, 6, 1178), (.iload_n 3, 0, 0, 0), (.iconst (-1), 0, 0, 0)] (pe := 34) (ls' := [some (.ref 0), some (.int set), some (.int ld), some (.int (nI i1))]) (st' := [.int (-1), .int (nI i1), .ref 5]) (M' := s1) (by decide +kernel) rfl ?_
        refine zT.iast (n := 9) (k := i1) rfl rfl (by omega) (by decide) (by decide +kernel) ?_
        refine zT.run [(.iinc 3 1, 0, 0, 0), (.goto (-36), 0, 0, 0)] (pe := 2) (ls' := [some (.ref 0), some (.int set), some (.int ld), some (.int ((nI i1) + 1))]) (st' := []) (M' := (zU s1 5 i1 (-1))) (by decide +kernel) rfl ?_
        exact zT.eq (by simp only [l_X4_forgetLeader_2, if_neg c1, if_pos c2, nI_succ, zDl]; try rfl) k1
  · skip
    show zT _ _ _ _ (2, [some (.ref 0), some (.int set), some (.int ld), some (.int (nI n))], [], sh_Office, (zIt (l_X4_forgetLeader_2 M n set ld) n M))
    refine zT.run [(.iload_n 3, 0, 0, 0), (.aload_n 0, 0, 0, 0), (.getfield 51, 2, 0, 1170)] (pe := 7) (ls' := [some (.ref 0), some (.int set), some (.int ld), some (.int (nI n))]) (st' := [.int ((zIt (l_X4_forgetLeader_2 M n set ld) n M) 0 0), .int (nI n)]) (M' := (zIt (l_X4_forgetLeader_2 M n set ld) n M)) (by decide +kernel) rfl ?_
    refine zT.cge (tgt := 41) (off := 34) (by decide +kernel) (by decide) (fun _ => ?_) (fun c => absurd (zGeY (n := n) ((congrFun (fr_l_X4_forgetLeader_2 M n set ld 0 (by decide) n M) 0).trans hn)) c)
    exact zT.vret (by simp only [g_X4_forgetLeader]; try rfl) rfl (by decide +kernel)
theorem fr_X4_forgetLeader (M : zM) (n : Nat) (set : Int32) (ld : Int32) (o : Nat) (ho : o ≠ 5) : (g_X4_forgetLeader M n set ld) o = M o := by
  simp only [g_X4_forgetLeader]
  (repeat' split) <;> simp only [zU_ne ho, zUa_ne ho, (fr_l_X4_forgetLeader_2 M n set ld o (by omega))]
theorem k_X4_forgetLeader : zCal yy_X4_forgetLeader 2 := ⟨⟨⟨⟨zIn (w := 4142) (by decide +kernel) rfl, zIn (w := 1004) (by decide +kernel) rfl⟩, by decide +kernel⟩, by decide +kernel⟩, ⟨zIn (w := 4141) (by decide +kernel) rfl, zIn (w := 16) (by decide +kernel) rfl⟩⟩
noncomputable abbrev yy_X4_giveBallotUp : zY := (yX4_giveBallotUp, cX4_giveBallotUp, 2, (some Jvm.ClassFile.FieldType.int), 2, 44)
noncomputable def g_X4_giveBallotUp (M : zM)  : Int32 × zM := (if (M 7 0) = 0 then ((-17), M) else ((M 7 1), (zPs M 7 3 (g_X1_clear (zPl M 7)))))
set_option maxRecDepth 100000 in
theorem c_X4_giveBallotUp (M : zM)   : zC yy_X4_giveBallotUp 0 0 [.ref 0] sh_Office M (some (.int (g_X4_giveBallotUp M).1)) sh_Office (g_X4_giveBallotUp M).2 := by
  refine zC.of (by decide +kernel) rfl (Nat.le_of_ble_eq_true rfl) ?_
  refine zT.run [(.aload_n 0, 0, 0, 0), (.getfield 33, 2, 8, 1181), (.getfield 80, 0, 0, 1092)] (pe := 7) (ls' := [some (.ref 0), none]) (st' := [.int (M 7 0)]) (M' := M) (by decide +kernel) rfl ?_
  refine zT.zne (tgt := 13) (off := 6) (by decide +kernel) (by decide) (fun (c1 : ¬ (M 7 0) = 0) => ?_) (fun (c1 : (M 7 0) = 0) => ?_)
  · skip
    refine zT.run [(.aload_n 0, 0, 0, 0), (.getfield 33, 2, 8, 1181), (.getfield 99, 0, 1, 1094), (.istore_n 1, 0, 0, 0), (.aload_n 0, 0, 0, 0), (.getfield 33, 2, 8, 1181)] (pe := 25) (ls' := [some (.ref 0), some (.int (M 7 1))]) (st' := [.ref 7]) (M' := M) (by decide +kernel) rfl ?_
    refine zT.cV_sub 7 (o := 0) (idx := 67) (av := []) (rv := none) (st := []) (S1 := []) (c_X1_clear (zPl M 7)) sub_Office_7_Ballot k_X1_clear _ _ rfl rfl rfl (zIn (w := 1238) (by decide +kernel) rfl) (by decide +kernel) (by decide +kernel) rfl (Nat.le_of_ble_eq_true rfl) rfl ?_
    refine zT.run [(.iload_n 1, 0, 0, 0)] (pe := 29) (ls' := [some (.ref 0), some (.int (M 7 1))]) (st' := [.int (M 7 1)]) (M' := (zPs M 7 3 (g_X1_clear (zPl M 7)))) (by decide +kernel) rfl ?_
    exact zT.iret (ty := Jvm.ClassFile.FieldType.int) (by simp only [g_X4_giveBallotUp, if_neg c1]; try rfl) (by simp only [g_X4_giveBallotUp, if_neg c1]; try rfl) rfl rfl (by decide +kernel)
  · skip
    refine zT.run [(.bipush (-17), 0, 0, 0)] (pe := 12) (ls' := [some (.ref 0), none]) (st' := [.int (-17)]) (M' := M) (by decide +kernel) rfl ?_
    exact zT.iret (ty := Jvm.ClassFile.FieldType.int) (by simp only [g_X4_giveBallotUp, if_pos c1]; try rfl) (by simp only [g_X4_giveBallotUp, if_pos c1]; try rfl) rfl rfl (by decide +kernel)
theorem fr_X4_giveBallotUp (M : zM)  (o : Nat) (ho : o ≠ 7 ∧ o ≠ 8 ∧ o ≠ 9) : (g_X4_giveBallotUp M).2 o = M o := by
  simp only [g_X4_giveBallotUp]
  (repeat' split) <;> simp only [zU_ne ho.1, zU_ne ho.2.1, zU_ne ho.2.2, zUa_ne ho.1, zUa_ne ho.2.1, zUa_ne ho.2.2, (fun (MM : zM) => zPs_fr (M := MM) (b := 7) (n := 3) (N := (g_X1_clear (zPl MM 7))) (o := o) (fun j hj e => fr_X1_clear (zPl MM 7) j (by omega)))]
theorem k_X4_giveBallotUp : zCal yy_X4_giveBallotUp 0 := ⟨⟨⟨⟨zIn (w := 4150) (by decide +kernel) rfl, zIn (w := 1004) (by decide +kernel) rfl⟩, by decide +kernel⟩, by decide +kernel⟩, ⟨zIn (w := 4148) (by decide +kernel) rfl, zIn (w := 4149) (by decide +kernel) rfl⟩⟩
noncomputable abbrev yy_X4_changeUp : zY := (yX4_changeUp, cX4_changeUp, 3, (some Jvm.ClassFile.FieldType.int), 2, 44)
noncomputable def g_X4_changeUp (M : zM) (n : Nat) (r : Nat) (up : Int32) : Int32 × zM := (if (g_X9_has (M 0 1) (nI r)) = up then ((-16), M) else (if up = 0 then ((g_J6_bitCount_0f7a4 ((g_X4_forgetLeader (zU (zU M 0 1 ((M 0 1) ^^^ (1 <<< ((nI r) &&& 31)))) 5 r (-1)) n (M 6 r) (nI r)) 0 1)), (g_X4_forgetLeader (zU (zU M 0 1 ((M 0 1) ^^^ (1 <<< ((nI r) &&& 31)))) 5 r (-1)) n (M 6 r) (nI r))) else ((g_J6_bitCount_0f7a4 ((M 0 1) ^^^ (1 <<< ((nI r) &&& 31)))), (zU M 0 1 ((M 0 1) ^^^ (1 <<< ((nI r) &&& 31)))))))
set_option maxRecDepth 100000 in
theorem c_X4_changeUp (M : zM) (n : Nat) (r : Nat) (up : Int32) (hn : M 0 0 = nI n) (h9 : n ≤ 9) (h_r : r < 9) : zC yy_X4_changeUp 0 0 [.ref 0, .int (nI r), .int up] sh_Office M (some (.int (g_X4_changeUp M n r up).1)) sh_Office (g_X4_changeUp M n r up).2 := by
  refine zC.of (by decide +kernel) rfl (Nat.le_of_ble_eq_true rfl) ?_
  refine zT.run [(.aload_n 0, 0, 0, 0), (.getfield 55, 2, 1, 1173), (.iload_n 1, 0, 0, 0)] (pe := 5) (ls' := [some (.ref 0), some (.int (nI r)), some (.int up)]) (st' := [.int (nI r), .int (M 0 1)]) (M' := M) (by decide +kernel) rfl ?_
  refine zT.cN_nil "SealedBallots" (idx := 83) (av := [.int (M 0 1), .int (nI r)]) (rv := (some (.int (g_X9_has (M 0 1) (nI r))))) (st := []) (S1 := [.int (g_X9_has (M 0 1) (nI r))]) (c_X9_has (M 0 1) (nI r)) k_X9_has rfl (zInN (w := 2014) (by decide +kernel) rfl) (by decide +kernel) (by decide +kernel) rfl (Nat.le_of_ble_eq_true rfl) rfl ?_
  refine zT.run [(.iload_n 2, 0, 0, 0)] (pe := 9) (ls' := [some (.ref 0), some (.int (nI r)), some (.int up)]) (st' := [.int up, .int (g_X9_has (M 0 1) (nI r))]) (M' := M) (by decide +kernel) rfl ?_
  refine zT.cne (tgt := 15) (off := 6) (by decide +kernel) (by decide) (fun (c1 : ¬ (g_X9_has (M 0 1) (nI r)) = up) => ?_) (fun (c1 : (g_X9_has (M 0 1) (nI r)) = up) => ?_)
  · skip
    refine zT.run [(.aload_n 0, 0, 0, 0), (.dup, 0, 0, 0), (.getfield 55, 2, 1, 1173), (.iconst 1, 0, 0, 0), (.iload_n 1, 0, 0, 0), (.ishl, 0, 0, 0), (.ixor, 0, 0, 0), (.putfield 55, 2, 1, 1173), (.iload_n 2, 0, 0, 0)] (pe := 28) (ls' := [some (.ref 0), some (.int (nI r)), some (.int up)]) (st' := [.int up]) (M' := (zU M 0 1 ((M 0 1) ^^^ (1 <<< ((nI r) &&& 31))))) (by decide +kernel) rfl ?_
    refine zT.zne (tgt := 49) (off := 21) (by decide +kernel) (by decide) (fun (c2 : ¬ up = 0) => ?_) (fun (c2 : up = 0) => ?_)
    · skip
      refine zT.run [(.aload_n 0, 0, 0, 0), (.getfield 55, 2, 1, 1173)] (pe := 53) (ls' := [some (.ref 0), some (.int (nI r)), some (.int up)]) (st' := [.int ((M 0 1) ^^^ (1 <<< ((nI r) &&& 31)))]) (M' := (zU M 0 1 ((M 0 1) ^^^ (1 <<< ((nI r) &&& 31))))) (by decide +kernel) rfl ?_
      refine zT.cS_nil (idx := 124) (av := [.int ((M 0 1) ^^^ (1 <<< ((nI r) &&& 31)))]) (rv := (some (.int (g_J6_bitCount_0f7a4 ((M 0 1) ^^^ (1 <<< ((nI r) &&& 31))))))) (st := []) (S1 := [.int (g_J6_bitCount_0f7a4 ((M 0 1) ^^^ (1 <<< ((nI r) &&& 31))))]) (c_J6_bitCount_0f7a4 ((M 0 1) ^^^ (1 <<< ((nI r) &&& 31)))) k_J6_bitCount_0f7a4 rfl (zIn (w := 2021) (by decide +kernel) rfl) (by decide +kernel) (by decide +kernel) rfl (Nat.le_of_ble_eq_true rfl) rfl ?_
      exact zT.iret (ty := Jvm.ClassFile.FieldType.int) (by simp only [g_X4_changeUp, if_neg c1, if_neg c2]; try rfl) (by simp only [g_X4_changeUp, if_neg c1, if_neg c2]; try rfl) rfl rfl (by decide +kernel)
    · skip
      refine zT.run [(.aload_n 0, 0, 0, 0), (.getfield 24, 2, 6, 1178), (.iload_n 1, 0, 0, 0), (.iconst (-1), 0, 0, 0)] (pe := 37) (ls' := [some (.ref 0), some (.int (nI r)), some (.int up)]) (st' := [.int (-1), .int (nI r), .ref 5]) (M' := (zU M 0 1 ((M 0 1) ^^^ (1 <<< ((nI r) &&& 31))))) (by decide +kernel) rfl ?_
      refine zT.iast (n := 9) (k := r) rfl rfl (by omega) (by decide) (by decide +kernel) ?_
      refine zT.run [(.aload_n 0, 0, 0, 0), (.aload_n 0, 0, 0, 0), (.getfield 27, 2, 7, 1179), (.iload_n 1, 0, 0, 0)] (pe := 44) (ls' := [some (.ref 0), some (.int (nI r)), some (.int up)]) (st' := [.int (nI r), .ref 6, .ref 0]) (M' := (zU (zU M 0 1 ((M 0 1) ^^^ (1 <<< ((nI r) &&& 31)))) 5 r (-1))) (by decide +kernel) rfl ?_
      refine zT.iald (n := 9) (k := r) rfl rfl (by omega) (by decide) (by decide +kernel) ?_
      refine zT.run [(.iload_n 1, 0, 0, 0)] (pe := 46) (ls' := [some (.ref 0), some (.int (nI r)), some (.int up)]) (st' := [.int (nI r), .int (M 6 r), .ref 0]) (M' := (zU (zU M 0 1 ((M 0 1) ^^^ (1 <<< ((nI r) &&& 31)))) 5 r (-1))) (by decide +kernel) rfl ?_
      refine zT.cV_all (o := 0) (idx := 183) (av := [.int (M 6 r), .int (nI r)]) (rv := none) (st := []) (S1 := []) (c_X4_forgetLeader (zU (zU M 0 1 ((M 0 1) ^^^ (1 <<< ((nI r) &&& 31)))) 5 r (-1)) n (M 6 r) (nI r) hn h9) k_X4_forgetLeader _ _ rfl rfl rfl (zIn (w := 4139) (by decide +kernel) rfl) (by decide +kernel) (by decide +kernel) rfl (Nat.le_of_ble_eq_true rfl) rfl ?_
      refine zT.run [(.aload_n 0, 0, 0, 0), (.getfield 55, 2, 1, 1173)] (pe := 53) (ls' := [some (.ref 0), some (.int (nI r)), some (.int up)]) (st' := [.int ((g_X4_forgetLeader (zU (zU M 0 1 ((M 0 1) ^^^ (1 <<< ((nI r) &&& 31)))) 5 r (-1)) n (M 6 r) (nI r)) 0 1)]) (M' := (g_X4_forgetLeader (zU (zU M 0 1 ((M 0 1) ^^^ (1 <<< ((nI r) &&& 31)))) 5 r (-1)) n (M 6 r) (nI r))) (by decide +kernel) rfl ?_
      refine zT.cS_nil (idx := 124) (av := [.int ((g_X4_forgetLeader (zU (zU M 0 1 ((M 0 1) ^^^ (1 <<< ((nI r) &&& 31)))) 5 r (-1)) n (M 6 r) (nI r)) 0 1)]) (rv := (some (.int (g_J6_bitCount_0f7a4 ((g_X4_forgetLeader (zU (zU M 0 1 ((M 0 1) ^^^ (1 <<< ((nI r) &&& 31)))) 5 r (-1)) n (M 6 r) (nI r)) 0 1))))) (st := []) (S1 := [.int (g_J6_bitCount_0f7a4 ((g_X4_forgetLeader (zU (zU M 0 1 ((M 0 1) ^^^ (1 <<< ((nI r) &&& 31)))) 5 r (-1)) n (M 6 r) (nI r)) 0 1))]) (c_J6_bitCount_0f7a4 ((g_X4_forgetLeader (zU (zU M 0 1 ((M 0 1) ^^^ (1 <<< ((nI r) &&& 31)))) 5 r (-1)) n (M 6 r) (nI r)) 0 1)) k_J6_bitCount_0f7a4 rfl (zIn (w := 2021) (by decide +kernel) rfl) (by decide +kernel) (by decide +kernel) rfl (Nat.le_of_ble_eq_true rfl) rfl ?_
      exact zT.iret (ty := Jvm.ClassFile.FieldType.int) (by simp only [g_X4_changeUp, if_neg c1, if_pos c2]; try rfl) (by simp only [g_X4_changeUp, if_neg c1, if_pos c2]; try rfl) rfl rfl (by decide +kernel)
  · skip
    refine zT.run [(.bipush (-16), 0, 0, 0)] (pe := 14) (ls' := [some (.ref 0), some (.int (nI r)), some (.int up)]) (st' := [.int (-16)]) (M' := M) (by decide +kernel) rfl ?_
    exact zT.iret (ty := Jvm.ClassFile.FieldType.int) (by simp only [g_X4_changeUp, if_pos c1]; try rfl) (by simp only [g_X4_changeUp, if_pos c1]; try rfl) rfl rfl (by decide +kernel)
theorem fr_X4_changeUp (M : zM) (n : Nat) (r : Nat) (up : Int32) (o : Nat) (ho : o ≠ 0 ∧ o ≠ 5) : (g_X4_changeUp M n r up).2 o = M o := by
  simp only [g_X4_changeUp]
  (repeat' split) <;> simp only [zU_ne ho.1, zU_ne ho.2, zUa_ne ho.1, zUa_ne ho.2, (fun (MM : zM) (n : Nat) (set : Int32) (ld : Int32) => fr_X4_forgetLeader MM n set ld o (by omega))]
theorem k_X4_changeUp : zCal yy_X4_changeUp 2 := ⟨⟨⟨⟨zIn (w := 4154) (by decide +kernel) rfl, zIn (w := 1004) (by decide +kernel) rfl⟩, by decide +kernel⟩, by decide +kernel⟩, ⟨zIn (w := 4152) (by decide +kernel) rfl, zIn (w := 4153) (by decide +kernel) rfl⟩⟩
noncomputable abbrev yy_X4_changeLink : zY := (yX4_changeLink, cX4_changeLink, 4, (some Jvm.ClassFile.FieldType.int), 1, 21)
noncomputable def g_X4_changeLink (M : zM) (r : Nat) (o : Nat) (is : Int32) : Int32 × zM := (if (nI r) = (nI o) then ((-16), M) else (if (g_X9_has (M 6 r) (nI o)) = is then ((-16), M) else ((g_J6_bitCount_0f7a4 (g_X4_othersLinked (zU (zU M 6 r ((M 6 r) ^^^ (1 <<< ((nI o) &&& 31)))) 6 o (((zU M 6 r ((M 6 r) ^^^ (1 <<< ((nI o) &&& 31)))) 6 o) ^^^ (1 <<< ((nI r) &&& 31)))) r)), (zU (zU M 6 r ((M 6 r) ^^^ (1 <<< ((nI o) &&& 31)))) 6 o (((zU M 6 r ((M 6 r) ^^^ (1 <<< ((nI o) &&& 31)))) 6 o) ^^^ (1 <<< ((nI r) &&& 31)))))))
set_option maxRecDepth 100000 in
theorem c_X4_changeLink (M : zM) (r : Nat) (o : Nat) (is : Int32) (h_r : r < 9) (h_o : o < 9) : zC yy_X4_changeLink 0 0 [.ref 0, .int (nI r), .int (nI o), .int is] sh_Office M (some (.int (g_X4_changeLink M r o is).1)) sh_Office (g_X4_changeLink M r o is).2 := by
  refine zC.of (by decide +kernel) rfl (Nat.le_of_ble_eq_true rfl) ?_
  refine zT.run [(.iload_n 1, 0, 0, 0), (.iload_n 2, 0, 0, 0)] (pe := 2) (ls' := [some (.ref 0), some (.int (nI r)), some (.int (nI o)), some (.int is)]) (st' := [.int (nI o), .int (nI r)]) (M' := M) (by decide +kernel) rfl ?_
  refine zT.ceq (tgt := 19) (off := 17) (by decide +kernel) (by decide) (fun (c1 : (nI r) = (nI o)) => ?_) (fun (c1 : ¬ (nI r) = (nI o)) => ?_)
  · skip
    refine zT.run [(.bipush (-16), 0, 0, 0)] (pe := 21) (ls' := [some (.ref 0), some (.int (nI r)), some (.int (nI o)), some (.int is)]) (st' := [.int (-16)]) (M' := M) (by decide +kernel) rfl ?_
    exact zT.iret (ty := Jvm.ClassFile.FieldType.int) (by simp only [g_X4_changeLink, if_pos c1]; try rfl) (by simp only [g_X4_changeLink, if_pos c1]; try rfl) rfl rfl (by decide +kernel)
  · skip
    refine zT.run [(.aload_n 0, 0, 0, 0), (.getfield 27, 2, 7, 1179), (.iload_n 1, 0, 0, 0)] (pe := 10) (ls' := [some (.ref 0), some (.int (nI r)), some (.int (nI o)), some (.int is)]) (st' := [.int (nI r), .ref 6]) (M' := M) (by decide +kernel) rfl ?_
    refine zT.iald (n := 9) (k := r) rfl rfl (by omega) (by decide) (by decide +kernel) ?_
    refine zT.run [(.iload_n 2, 0, 0, 0)] (pe := 12) (ls' := [some (.ref 0), some (.int (nI r)), some (.int (nI o)), some (.int is)]) (st' := [.int (nI o), .int (M 6 r)]) (M' := M) (by decide +kernel) rfl ?_
    refine zT.cN_nil "SealedBallots" (idx := 83) (av := [.int (M 6 r), .int (nI o)]) (rv := (some (.int (g_X9_has (M 6 r) (nI o))))) (st := []) (S1 := [.int (g_X9_has (M 6 r) (nI o))]) (c_X9_has (M 6 r) (nI o)) k_X9_has rfl (zInN (w := 2014) (by decide +kernel) rfl) (by decide +kernel) (by decide +kernel) rfl (Nat.le_of_ble_eq_true rfl) rfl ?_
    refine zT.run [(.iload_n 3, 0, 0, 0)] (pe := 16) (ls' := [some (.ref 0), some (.int (nI r)), some (.int (nI o)), some (.int is)]) (st' := [.int is, .int (g_X9_has (M 6 r) (nI o))]) (M' := M) (by decide +kernel) rfl ?_
    refine zT.cne (tgt := 22) (off := 6) (by decide +kernel) (by decide) (fun (c2 : ¬ (g_X9_has (M 6 r) (nI o)) = is) => ?_) (fun (c2 : (g_X9_has (M 6 r) (nI o)) = is) => ?_)
    · skip
      refine zT.run [(.aload_n 0, 0, 0, 0), (.getfield 27, 2, 7, 1179), (.iload_n 1, 0, 0, 0), (.dup2, 0, 0, 0)] (pe := 28) (ls' := [some (.ref 0), some (.int (nI r)), some (.int (nI o)), some (.int is)]) (st' := [.int (nI r), .ref 6, .int (nI r), .ref 6]) (M' := M) (by decide +kernel) rfl ?_
      refine zT.iald (n := 9) (k := r) rfl rfl (by omega) (by decide) (by decide +kernel) ?_
      refine zT.run [(.iconst 1, 0, 0, 0), (.iload_n 2, 0, 0, 0), (.ishl, 0, 0, 0), (.ixor, 0, 0, 0)] (pe := 33) (ls' := [some (.ref 0), some (.int (nI r)), some (.int (nI o)), some (.int is)]) (st' := [.int ((M 6 r) ^^^ (1 <<< ((nI o) &&& 31))), .int (nI r), .ref 6]) (M' := M) (by decide +kernel) rfl ?_
      refine zT.iast (n := 9) (k := r) rfl rfl (by omega) (by decide) (by decide +kernel) ?_
      refine zT.run [(.aload_n 0, 0, 0, 0), (.getfield 27, 2, 7, 1179), (.iload_n 2, 0, 0, 0), (.dup2, 0, 0, 0)] (pe := 40) (ls' := [some (.ref 0), some (.int (nI r)), some (.int (nI o)), some (.int is)]) (st' := [.int (nI o), .ref 6, .int (nI o), .ref 6]) (M' := (zU M 6 r ((M 6 r) ^^^ (1 <<< ((nI o) &&& 31))))) (by decide +kernel) rfl ?_
      refine zT.iald (n := 9) (k := o) rfl rfl (by omega) (by decide) (by decide +kernel) ?_
      refine zT.run [(.iconst 1, 0, 0, 0), (.iload_n 1, 0, 0, 0), (.ishl, 0, 0, 0), (.ixor, 0, 0, 0)] (pe := 45) (ls' := [some (.ref 0), some (.int (nI r)), some (.int (nI o)), some (.int is)]) (st' := [.int (((zU M 6 r ((M 6 r) ^^^ (1 <<< ((nI o) &&& 31)))) 6 o) ^^^ (1 <<< ((nI r) &&& 31))), .int (nI o), .ref 6]) (M' := (zU M 6 r ((M 6 r) ^^^ (1 <<< ((nI o) &&& 31))))) (by decide +kernel) rfl ?_
      refine zT.iast (n := 9) (k := o) rfl rfl (by omega) (by decide) (by decide +kernel) ?_
      refine zT.run [(.aload_n 0, 0, 0, 0), (.iload_n 1, 0, 0, 0)] (pe := 48) (ls' := [some (.ref 0), some (.int (nI r)), some (.int (nI o)), some (.int is)]) (st' := [.int (nI r), .ref 0]) (M' := (zU (zU M 6 r ((M 6 r) ^^^ (1 <<< ((nI o) &&& 31)))) 6 o (((zU M 6 r ((M 6 r) ^^^ (1 <<< ((nI o) &&& 31)))) 6 o) ^^^ (1 <<< ((nI r) &&& 31))))) (by decide +kernel) rfl ?_
      refine zT.cV_own (o := 0) (idx := 189) (av := [.int (nI r)]) (rv := (some (.int (g_X4_othersLinked (zU (zU M 6 r ((M 6 r) ^^^ (1 <<< ((nI o) &&& 31)))) 6 o (((zU M 6 r ((M 6 r) ^^^ (1 <<< ((nI o) &&& 31)))) 6 o) ^^^ (1 <<< ((nI r) &&& 31)))) r)))) (st := []) (S1 := [.int (g_X4_othersLinked (zU (zU M 6 r ((M 6 r) ^^^ (1 <<< ((nI o) &&& 31)))) 6 o (((zU M 6 r ((M 6 r) ^^^ (1 <<< ((nI o) &&& 31)))) 6 o) ^^^ (1 <<< ((nI r) &&& 31)))) r)]) (c_X4_othersLinked (zU (zU M 6 r ((M 6 r) ^^^ (1 <<< ((nI o) &&& 31)))) 6 o (((zU M 6 r ((M 6 r) ^^^ (1 <<< ((nI o) &&& 31)))) 6 o) ^^^ (1 <<< ((nI r) &&& 31)))) r (by omega)) k_X4_othersLinked _ _ rfl rfl rfl (zIn (w := 2017) (by decide +kernel) rfl) (by decide +kernel) (by decide +kernel) rfl (Nat.le_of_ble_eq_true rfl) rfl ?_
      refine zT.cS_nil (idx := 124) (av := [.int (g_X4_othersLinked (zU (zU M 6 r ((M 6 r) ^^^ (1 <<< ((nI o) &&& 31)))) 6 o (((zU M 6 r ((M 6 r) ^^^ (1 <<< ((nI o) &&& 31)))) 6 o) ^^^ (1 <<< ((nI r) &&& 31)))) r)]) (rv := (some (.int (g_J6_bitCount_0f7a4 (g_X4_othersLinked (zU (zU M 6 r ((M 6 r) ^^^ (1 <<< ((nI o) &&& 31)))) 6 o (((zU M 6 r ((M 6 r) ^^^ (1 <<< ((nI o) &&& 31)))) 6 o) ^^^ (1 <<< ((nI r) &&& 31)))) r))))) (st := []) (S1 := [.int (g_J6_bitCount_0f7a4 (g_X4_othersLinked (zU (zU M 6 r ((M 6 r) ^^^ (1 <<< ((nI o) &&& 31)))) 6 o (((zU M 6 r ((M 6 r) ^^^ (1 <<< ((nI o) &&& 31)))) 6 o) ^^^ (1 <<< ((nI r) &&& 31)))) r))]) (c_J6_bitCount_0f7a4 (g_X4_othersLinked (zU (zU M 6 r ((M 6 r) ^^^ (1 <<< ((nI o) &&& 31)))) 6 o (((zU M 6 r ((M 6 r) ^^^ (1 <<< ((nI o) &&& 31)))) 6 o) ^^^ (1 <<< ((nI r) &&& 31)))) r)) k_J6_bitCount_0f7a4 rfl (zIn (w := 2021) (by decide +kernel) rfl) (by decide +kernel) (by decide +kernel) rfl (Nat.le_of_ble_eq_true rfl) rfl ?_
      exact zT.iret (ty := Jvm.ClassFile.FieldType.int) (by simp only [g_X4_changeLink, if_neg c1, if_neg c2]; try rfl) (by simp only [g_X4_changeLink, if_neg c1, if_neg c2]; try rfl) rfl rfl (by decide +kernel)
    · skip
      refine zT.run [(.bipush (-16), 0, 0, 0)] (pe := 21) (ls' := [some (.ref 0), some (.int (nI r)), some (.int (nI o)), some (.int is)]) (st' := [.int (-16)]) (M' := M) (by decide +kernel) rfl ?_
      exact zT.iret (ty := Jvm.ClassFile.FieldType.int) (by simp only [g_X4_changeLink, if_neg c1, if_pos c2]; try rfl) (by simp only [g_X4_changeLink, if_neg c1, if_pos c2]; try rfl) rfl rfl (by decide +kernel)
theorem fr_X4_changeLink (M : zM) (r : Nat) (o : Nat) (is : Int32) (o : Nat) (ho : o ≠ 6) : (g_X4_changeLink M r o is).2 o = M o := by
  simp only [g_X4_changeLink]
  (repeat' split) <;> simp only [zU_ne ho, zUa_ne ho]
theorem k_X4_changeLink : zCal yy_X4_changeLink 3 := ⟨⟨⟨⟨zIn (w := 2013) (by decide +kernel) rfl, zIn (w := 1004) (by decide +kernel) rfl⟩, by decide +kernel⟩, by decide +kernel⟩, ⟨zIn (w := 2011) (by decide +kernel) rfl, zIn (w := 2012) (by decide +kernel) rfl⟩⟩
noncomputable abbrev yy_X4_changeFresh : zY := (yX4_changeFresh, cX4_changeFresh, 4, (some Jvm.ClassFile.FieldType.int), 0, 0)
noncomputable def g_X4_changeFresh (M : zM) (r : Nat) (x : Int32) : Int32 × zM := ((M 3 r), (zU M 3 r x))
set_option maxRecDepth 100000 in
theorem c_X4_changeFresh (M : zM) (r : Nat) (x : Int32) (h_r : r < 9) : zC yy_X4_changeFresh 0 0 [.ref 0, .int (nI r), .int x] sh_Office M (some (.int (g_X4_changeFresh M r x).1)) sh_Office (g_X4_changeFresh M r x).2 := by
  refine zC.of (by decide +kernel) rfl (Nat.le_of_ble_eq_true rfl) ?_
  refine zT.run [(.aload_n 0, 0, 0, 0), (.getfield 18, 2, 4, 1176), (.iload_n 1, 0, 0, 0)] (pe := 5) (ls' := [some (.ref 0), some (.int (nI r)), some (.int x), none]) (st' := [.int (nI r), .ref 3]) (M' := M) (by decide +kernel) rfl ?_
  refine zT.iald (n := 9) (k := r) rfl rfl (by omega) (by decide) (by decide +kernel) ?_
  refine zT.run [(.istore_n 3, 0, 0, 0), (.aload_n 0, 0, 0, 0), (.getfield 18, 2, 4, 1176), (.iload_n 1, 0, 0, 0), (.iload_n 2, 0, 0, 0)] (pe := 13) (ls' := [some (.ref 0), some (.int (nI r)), some (.int x), some (.int (M 3 r))]) (st' := [.int x, .int (nI r), .ref 3]) (M' := M) (by decide +kernel) rfl ?_
  refine zT.iast (n := 9) (k := r) rfl rfl (by omega) (by decide) (by decide +kernel) ?_
  refine zT.run [(.iload_n 3, 0, 0, 0)] (pe := 15) (ls' := [some (.ref 0), some (.int (nI r)), some (.int x), some (.int (M 3 r))]) (st' := [.int (M 3 r)]) (M' := (zU M 3 r x)) (by decide +kernel) rfl ?_
  exact zT.iret (ty := Jvm.ClassFile.FieldType.int) (by simp only [g_X4_changeFresh]; try rfl) (by simp only [g_X4_changeFresh]; try rfl) rfl rfl (by decide +kernel)
theorem fr_X4_changeFresh (M : zM) (r : Nat) (x : Int32) (o : Nat) (ho : o ≠ 3) : (g_X4_changeFresh M r x).2 o = M o := by
  simp only [g_X4_changeFresh]
  (repeat' split) <;> simp only [zU_ne ho, zUa_ne ho]
theorem k_X4_changeFresh : zCal yy_X4_changeFresh 2 := ⟨⟨⟨⟨zIn (w := 5081) (by decide +kernel) rfl, zIn (w := 1004) (by decide +kernel) rfl⟩, by decide +kernel⟩, by decide +kernel⟩, ⟨zIn (w := 5079) (by decide +kernel) rfl, zIn (w := 5080) (by decide +kernel) rfl⟩⟩
noncomputable abbrev yy_X4_changeSetting : zY := (yX4_changeSetting, cX4_changeSetting, 4, (some Jvm.ClassFile.FieldType.int), 0, 0)
noncomputable def g_X4_changeSetting (M : zM) (w : Nat) (x : Int32) : Int32 × zM := ((M 1 w), (zU M 1 w x))
set_option maxRecDepth 100000 in
theorem c_X4_changeSetting (M : zM) (w : Nat) (x : Int32) (h_w : w < 3) : zC yy_X4_changeSetting 0 0 [.ref 0, .int (nI w), .int x] sh_Office M (some (.int (g_X4_changeSetting M w x).1)) sh_Office (g_X4_changeSetting M w x).2 := by
  refine zC.of (by decide +kernel) rfl (Nat.le_of_ble_eq_true rfl) ?_
  refine zT.run [(.aload_n 0, 0, 0, 0), (.getfield 9, 2, 2, 1174), (.iload_n 1, 0, 0, 0)] (pe := 5) (ls' := [some (.ref 0), some (.int (nI w)), some (.int x), none]) (st' := [.int (nI w), .ref 1]) (M' := M) (by decide +kernel) rfl ?_
  refine zT.iald (n := 3) (k := w) rfl rfl (by omega) (by decide) (by decide +kernel) ?_
  refine zT.run [(.istore_n 3, 0, 0, 0), (.aload_n 0, 0, 0, 0), (.getfield 9, 2, 2, 1174), (.iload_n 1, 0, 0, 0), (.iload_n 2, 0, 0, 0)] (pe := 13) (ls' := [some (.ref 0), some (.int (nI w)), some (.int x), some (.int (M 1 w))]) (st' := [.int x, .int (nI w), .ref 1]) (M' := M) (by decide +kernel) rfl ?_
  refine zT.iast (n := 3) (k := w) rfl rfl (by omega) (by decide) (by decide +kernel) ?_
  refine zT.run [(.iload_n 3, 0, 0, 0)] (pe := 15) (ls' := [some (.ref 0), some (.int (nI w)), some (.int x), some (.int (M 1 w))]) (st' := [.int (M 1 w)]) (M' := (zU M 1 w x)) (by decide +kernel) rfl ?_
  exact zT.iret (ty := Jvm.ClassFile.FieldType.int) (by simp only [g_X4_changeSetting]; try rfl) (by simp only [g_X4_changeSetting]; try rfl) rfl rfl (by decide +kernel)
theorem fr_X4_changeSetting (M : zM) (w : Nat) (x : Int32) (o : Nat) (ho : o ≠ 1) : (g_X4_changeSetting M w x).2 o = M o := by
  simp only [g_X4_changeSetting]
  (repeat' split) <;> simp only [zU_ne ho, zUa_ne ho]
theorem k_X4_changeSetting : zCal yy_X4_changeSetting 2 := ⟨⟨⟨⟨zIn (w := 4063) (by decide +kernel) rfl, zIn (w := 1004) (by decide +kernel) rfl⟩, by decide +kernel⟩, by decide +kernel⟩, ⟨zIn (w := 4061) (by decide +kernel) rfl, zIn (w := 4062) (by decide +kernel) rfl⟩⟩
