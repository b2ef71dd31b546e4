/-! THE CASES turnout, meanAge -/
set_option maxRecDepth 100000 in
theorem v_turnout {Z : zS → Prop} {kc nc : Nat} (s : Nat → Int32) (Ns i : Nat) (gp gp' : Nat → Option Nat) (ob : Nat → Int64) (sl : Nat → Option Nat) (ext : List va_E) (m m' x x' : zM) (p : UInt32) (hne : vf_n64 (FP.f2d p)) (hx : zC yy_X9_turnout 0 0 [.ref 0] (sh_X sl ext) x (some (.float p)) (sh_X sl ext) x') (hm : zC yy_X10_turnout 0 0 [.ref 0] (sh_Model gp) m (some (.float p)) (sh_Model gp') m') (k9 : zV s Ns kc nc Z (23, [some (.retAddr 998), some (.ref 22), some (.ref 0), some (.ref 21), some (.int (nI (6 * (i + 1)))), none, none, none, none], [], sh_W Ns gp' ob sl ext, zJ s m' x')) : zV s Ns kc nc Z (1896, [some (.retAddr 998), some (.ref 22), some (.ref 0), some (.ref 21), some (.int (nI (6 * i))), none, none, none, none], [], sh_W Ns gp ob sl ext, zJ s m x) := by
  refine zV.v0 (zT.run [(.aload_n 1, 0, 0, 0)] (pe := 1897) (ls' := [some (.retAddr 998), some (.ref 22), some (.ref 0), some (.ref 21), some (.int (nI (6 * i))), none, none, none, none]) (st' := [.ref 22]) (M' := (zJ s m x)) (by decide +kernel) rfl (zT.here rfl)) ?_
  refine zV.v0 (zT.eq9 (zT.callV (k1 := 0) (n1 := 0) (kc := 0) (nc := 0) (idx := 210) (b := 22) (o := 0) (av := []) (st := []) hx sub_W23 (fun j _ => zJ_inx) (zBack.same sub_W23 rfl) rfl rfl rfl rfl k_X9_turnout.1 k_X9_turnout.2 (zIn (w := 3209) (by decide +kernel) rfl) (by decide +kernel) (Nat.le_of_ble_eq_true rfl) (by decide +kernel) (zT.here rfl))) ?_
  refine zV.v0 (zT.congM (M2 := zJ s m x') (fun k hk => zJ_x (by rw [len_W] at hk; rw [zX_len]; omega)) (zT.here rfl)) ?_
  refine zV.v0 (zT.eqS (st2 := [.float p]) rfl (zT.here rfl)) ?_
  refine zV.v0 (zT.f2d (by decide +kernel) hne (zT.here rfl)) ?_
  refine zV.v0 (zT.dstore (i := 5) (by decide +kernel) (by decide) rfl rfl (zT.here rfl)) ?_
  refine zV.v0 (zT.run [(.aload_n 2, 0, 0, 0)] (pe := 1904) (ls' := [some (.retAddr 998), some (.ref 22), some (.ref 0), some (.ref 21), some (.int (nI (6 * i))), some (.double (FP.f2d p)), none, none, none]) (st' := [.ref 0]) (M' := (zJ s m x')) (by decide +kernel) rfl (zT.here rfl)) ?_
  refine zV.v0 (zT.eq9 (zT.callV (k1 := 0) (n1 := 0) (kc := 0) (nc := 0) (idx := 214) (b := 0) (o := 0) (av := []) (st := []) hm sub_W1 (fun j hj => zJ_in hj) back_W1 rfl rfl rfl rfl k_X10_turnout.1 k_X10_turnout.2 (zIn (w := 7103) (by decide +kernel) rfl) (by decide +kernel) (Nat.le_of_ble_eq_true rfl) (by decide +kernel) (zT.here rfl))) ?_
  refine zV.v0 (zT.congM (M2 := zJ s m' x') (fun k hk => zJ_m rfl) (zT.here rfl)) ?_
  refine zV.v0 (zT.eqS (st2 := [.float p]) rfl (zT.here rfl)) ?_
  refine zV.v0 (zT.f2d (by decide +kernel) hne (zT.here rfl)) ?_
  refine zV.v0 (zT.dstore (i := 7) (by decide +kernel) (by decide) rfl rfl (zT.here rfl)) ?_
  refine zV.v0 (zT.eq (S1 := (1910, [some (.retAddr 998), some (.ref 22), some (.ref 0), some (.ref 21), some (.int (nI (6 * i))), some (.double (FP.f2d p)), none, some (.double (FP.f2d p)), none], [], sh_W Ns gp' ob sl ext, zJ s m' x')) rfl (zT.here rfl)) ?_
  have KE : zV s Ns kc nc Z (1936, [some (.retAddr 998), some (.ref 22), some (.ref 0), some (.ref 21), some (.int (nI (6 * i))), some (.double (FP.f2d p)), none, some (.double (FP.f2d p)), none], [], sh_W Ns gp' ob sl ext, zJ s m' x') := by
    refine zV.v0 (zT.run [(.goto 82, 0, 0, 0)] (pe := 2018) (ls' := [some (.retAddr 998), some (.ref 22), some (.ref 0), some (.ref 21), some (.int (nI (6 * i))), some (.double (FP.f2d p)), none, some (.double (FP.f2d p)), none]) (st' := []) (M' := (zJ s m' x')) (by decide +kernel) rfl (zT.here rfl)) ?_
    refine zV.v0 (zT.run [(.iinc 4 6, 0, 0, 0), (.goto (-1998), 0, 0, 0)] (pe := 23) (ls' := [some (.retAddr 998), some (.ref 22), some (.ref 0), some (.ref 21), some (.int (nI (6 * i) + 6)), some (.double (FP.f2d p)), none, some (.double (FP.f2d p)), none]) (st' := []) (M' := (zJ s m' x')) (by decide +kernel) rfl (zT.here rfl)) ?_
    refine zV.drop 5 (zV.drop 7 ?_)
    exact zV.eq (by rw [show nI (6 * i) + 6 = nI (6 * (i + 1)) from nI_addl (6 * i) 6]; rfl) k9
  refine zV.v0 (zT.dload (i := 5) (by decide +kernel) rfl (zT.here rfl)) ?_
  refine zV.v0 (zT.dload (i := 7) (by decide +kernel) rfl (zT.here rfl)) ?_
  refine zV.v0 (zT.dcmp (op := .l) (by decide +kernel) (zT.here rfl)) ?_
  refine zV.zeq (tgt := 1936) (off := 21) (by decide +kernel) (by decide) (fun _ => KE) (fun c1 => ?_)
  refine zV.v0 (zT.dload (i := 5) (by decide +kernel) rfl (zT.here rfl)) ?_
  refine zV.v0 (zT.dload (i := 5) (by decide +kernel) rfl (zT.here rfl)) ?_
  refine zV.v0 (zT.dcmp (op := .l) (by decide +kernel) (zT.here rfl)) ?_
  refine zV.zeq (tgt := 1934) (off := 11) (by decide +kernel) (by decide) (fun c => absurd c c1) (fun _ => ?_)
  refine zV.v0 (zT.dload (i := 7) (by decide +kernel) rfl (zT.here rfl)) ?_
  refine zV.v0 (zT.dload (i := 7) (by decide +kernel) rfl (zT.here rfl)) ?_
  refine zV.v0 (zT.dcmp (op := .l) (by decide +kernel) (zT.here rfl)) ?_
  exact zV.zne (tgt := 1936) (off := 5) (by decide +kernel) (by decide) (fun _ => KE) (fun c => absurd c c1)
set_option maxRecDepth 100000 in
theorem v_meanAge {Z : zS → Prop} {kc nc : Nat} (s : Nat → Int32) (Ns i : Nat) (gp gp' : Nat → Option Nat) (ob : Nat → Int64) (sl : Nat → Option Nat) (ext : List va_E) (m m' x x' : zM) (p : UInt64) (hx : zC yy_X9_meanAge 0 0 [.ref 0] (sh_X sl ext) x (some (.double p)) (sh_X sl ext) x') (hm : zC yy_X10_meanAge 0 0 [.ref 0] (sh_Model gp) m (some (.double p)) (sh_Model gp') m') (k9 : zV s Ns kc nc Z (23, [some (.retAddr 998), some (.ref 22), some (.ref 0), some (.ref 21), some (.int (nI (6 * (i + 1)))), none, none, none, none], [], sh_W Ns gp' ob sl ext, zJ s m' x')) : zV s Ns kc nc Z (1939, [some (.retAddr 998), some (.ref 22), some (.ref 0), some (.ref 21), some (.int (nI (6 * i))), none, none, none, none], [], sh_W Ns gp ob sl ext, zJ s m x) := by
  refine zV.v0 (zT.run [(.aload_n 1, 0, 0, 0)] (pe := 1940) (ls' := [some (.retAddr 998), some (.ref 22), some (.ref 0), some (.ref 21), some (.int (nI (6 * i))), none, none, none, none]) (st' := [.ref 22]) (M' := (zJ s m x)) (by decide +kernel) rfl (zT.here rfl)) ?_
  refine zV.v0 (zT.eq9 (zT.callV (k1 := 0) (n1 := 0) (kc := 0) (nc := 0) (idx := 215) (b := 22) (o := 0) (av := []) (st := []) hx sub_W23 (fun j _ => zJ_inx) (zBack.same sub_W23 rfl) rfl rfl rfl rfl k_X9_meanAge.1 k_X9_meanAge.2 (zIn (w := 3215) (by decide +kernel) rfl) (by decide +kernel) (Nat.le_of_ble_eq_true rfl) (by decide +kernel) (zT.here rfl))) ?_
  refine zV.v0 (zT.congM (M2 := zJ s m x') (fun k hk => zJ_x (by rw [len_W] at hk; rw [zX_len]; omega)) (zT.here rfl)) ?_
  refine zV.v0 (zT.eqS (st2 := [.double p]) rfl (zT.here rfl)) ?_
  refine zV.v0 (zT.dstore (i := 5) (by decide +kernel) (by decide) rfl rfl (zT.here rfl)) ?_
  refine zV.v0 (zT.run [(.aload_n 2, 0, 0, 0)] (pe := 1946) (ls' := [some (.retAddr 998), some (.ref 22), some (.ref 0), some (.ref 21), some (.int (nI (6 * i))), some (.double p), none, none, none]) (st' := [.ref 0]) (M' := (zJ s m x')) (by decide +kernel) rfl (zT.here rfl)) ?_
  refine zV.v0 (zT.eq9 (zT.callV (k1 := 0) (n1 := 0) (kc := 0) (nc := 0) (idx := 219) (b := 0) (o := 0) (av := []) (st := []) hm sub_W1 (fun j hj => zJ_in hj) back_W1 rfl rfl rfl rfl k_X10_meanAge.1 k_X10_meanAge.2 (zIn (w := 7107) (by decide +kernel) rfl) (by decide +kernel) (Nat.le_of_ble_eq_true rfl) (by decide +kernel) (zT.here rfl))) ?_
  refine zV.v0 (zT.congM (M2 := zJ s m' x') (fun k hk => zJ_m rfl) (zT.here rfl)) ?_
  refine zV.v0 (zT.eqS (st2 := [.double p]) rfl (zT.here rfl)) ?_
  refine zV.v0 (zT.dstore (i := 7) (by decide +kernel) (by decide) rfl rfl (zT.here rfl)) ?_
  refine zV.v0 (zT.eq (S1 := (1951, [some (.retAddr 998), some (.ref 22), some (.ref 0), some (.ref 21), some (.int (nI (6 * i))), some (.double p), none, some (.double p), none], [], sh_W Ns gp' ob sl ext, zJ s m' x')) rfl (zT.here rfl)) ?_
  have KE : zV s Ns kc nc Z (1977, [some (.retAddr 998), some (.ref 22), some (.ref 0), some (.ref 21), some (.int (nI (6 * i))), some (.double p), none, some (.double p), none], [], sh_W Ns gp' ob sl ext, zJ s m' x') := by
    refine zV.v0 (zT.run [(.goto 41, 0, 0, 0)] (pe := 2018) (ls' := [some (.retAddr 998), some (.ref 22), some (.ref 0), some (.ref 21), some (.int (nI (6 * i))), some (.double p), none, some (.double p), none]) (st' := []) (M' := (zJ s m' x')) (by decide +kernel) rfl (zT.here rfl)) ?_
    refine zV.v0 (zT.run [(.iinc 4 6, 0, 0, 0), (.goto (-1998), 0, 0, 0)] (pe := 23) (ls' := [some (.retAddr 998), some (.ref 22), some (.ref 0), some (.ref 21), some (.int (nI (6 * i) + 6)), some (.double p), none, some (.double p), none]) (st' := []) (M' := (zJ s m' x')) (by decide +kernel) rfl (zT.here rfl)) ?_
    refine zV.drop 5 (zV.drop 7 ?_)
    exact zV.eq (by rw [show nI (6 * i) + 6 = nI (6 * (i + 1)) from nI_addl (6 * i) 6]; rfl) k9
  refine zV.v0 (zT.dload (i := 5) (by decide +kernel) rfl (zT.here rfl)) ?_
  refine zV.v0 (zT.dload (i := 7) (by decide +kernel) rfl (zT.here rfl)) ?_
  refine zV.v0 (zT.dcmp (op := .l) (by decide +kernel) (zT.here rfl)) ?_
  refine zV.zeq (tgt := 1977) (off := 21) (by decide +kernel) (by decide) (fun _ => KE) (fun c1 => ?_)
  refine zV.v0 (zT.dload (i := 5) (by decide +kernel) rfl (zT.here rfl)) ?_
  refine zV.v0 (zT.dload (i := 5) (by decide +kernel) rfl (zT.here rfl)) ?_
  refine zV.v0 (zT.dcmp (op := .l) (by decide +kernel) (zT.here rfl)) ?_
  refine zV.zeq (tgt := 1975) (off := 11) (by decide +kernel) (by decide) (fun c => absurd c c1) (fun _ => ?_)
  refine zV.v0 (zT.dload (i := 7) (by decide +kernel) rfl (zT.here rfl)) ?_
  refine zV.v0 (zT.dload (i := 7) (by decide +kernel) rfl (zT.here rfl)) ?_
  refine zV.v0 (zT.dcmp (op := .l) (by decide +kernel) (zT.here rfl)) ?_
  exact zV.zne (tgt := 1977) (off := 5) (by decide +kernel) (by decide) (fun _ => KE) (fun c => absurd c c1)
section CASES
variable {n oz nx pc ty rp T : Nat} {sl : Nat → Option Nat} {ext : List va_E} {gq : Nat → Nat} {x m : zM}
theorem K_turnout {Z : zS → Prop} {kc nc : Nat} (s : Nat → Int32) (Ns i : Nat) (ob : Nat → Int64) (H : xR n oz nx pc ty rp T sl ext gq x m) (k9 : zK9 kc nc Z s Ns (i + 1) (T + 601)) : zV s Ns (14 + kc) (199 + nc) Z (zCase 32, [some (.retAddr 998), some (.ref 22), some (.ref 0), some (.ref 21), some (.int (nI (6 * i))), none, none, none, none], [], sh_W Ns (zGp gq) ob sl ext, zJ s m x) := by
  obtain ⟨e, e0, hE⟩ := ok_turnout H
  obtain ⟨-, t1, t2⟩ := e_turnout H.1.2 gq pc
  have hx := c_X9_turnout x sl ext (fun q => by
    obtain ⟨a, b, ha, hb, h0, ea, eb⟩ := t1 q
    have ea' : g_J6_bitCount_0f7a4 (x 12 6) = nI a := ea
    have eb' : g_X1_rollSize (zPl x 12) = nI b := eb
    rw [ea', eb']
    exact (zNan32 a ha b hb h0).1)
  have hm := c_X10_turnout m gq pc n H.m3 H.pc10 H.hq H.m10 H.n9 (fun q => by
    obtain ⟨a, b, ha, hb, h0, ea, eb⟩ := t2 q
    rw [ea, eb]
    exact (zNan32 a ha b hb h0).1)
  have hne : vf_n64 (FP.f2d (g_X9_turnout x)) := by
    unfold g_X9_turnout
    split
    · exact zNan64f
    · rename_i q
      obtain ⟨a, b, ha, hb, h0, ea, eb⟩ := t1 q
      have ea' : g_J6_bitCount_0f7a4 (x 12 6) = nI a := ea
      have eb' : g_X1_rollSize (zPl x 12) = nI b := eb
      rw [ea', eb']
      exact (zNan32 a ha b hb h0).2
  rw [e] at hx hne
  exact (v_turnout s Ns i (zGp gq) _ ob sl ext m _ x _ _ hne hx hm (k9 _ _ _ _ _ _ hE)).widen (by omega) (by omega)
theorem K_meanAge {Z : zS → Prop} {kc nc : Nat} (s : Nat → Int32) (Ns i : Nat) (ob : Nat → Int64) (H : xR n oz nx pc ty rp T sl ext gq x m) (k9 : zK9 kc nc Z s Ns (i + 1) (T + 601)) : zV s Ns (14 + kc) (199 + nc) Z (zCase 33, [some (.retAddr 998), some (.ref 22), some (.ref 0), some (.ref 21), some (.int (nI (6 * i))), none, none, none, none], [], sh_W Ns (zGp gq) ob sl ext, zJ s m x) := by
  obtain ⟨e, e0, hE⟩ := ok_meanAge H
  have h9 := H.n9
  have hr := H.1.2
  obtain ⟨a1, a2, a3, a4, -⟩ := id hr
  obtain ⟨g1, sm, hs, g2⟩ := e_ages (M := m) h9 a4 a2 gq pc
  have hb5 : g_J6_bitCount_0f7a4 (x 5 1) = nI (qN n (qB (x 5 1))) := bc_n h9 a2.1
  have hle := qN_le (f := qB (x 5 1)) n
  have hnan : ∀ b, b = nI (qN n (qB (x 5 1))) → ¬ b = 0 → vf_n64 (FP.ddiv (FP.i2d (nI sm)) (FP.i2d b)) := fun b eb q => by
    rw [eb] at q ⊢
    exact zNan64w (by omega) (by omega) (fun z => q (by rw [z]; rfl))
  have hx := c_X9_meanAge x sl ext n H.c5 h9 (fun q => by
    rw [g2]
    exact hnan _ hb5 q)
  have hm := c_X10_meanAge m gq pc n H.m3 H.pc10 H.hq H.m10 h9 (fun q => by
    rw [← g1, g2]
    refine hnan _ ?_ q
    exact (m_ups (M := zU m 0 0 0) (N := zPl x 5) h9 (by rw [zU_ne (show (1 : Nat) ≠ 0 by decide)]; exact a2)).trans hb5)
  rw [e] at hx
  exact (v_meanAge s Ns i (zGp gq) _ ob sl ext m _ x _ _ hx hm (k9 _ _ _ _ _ _ hE)).widen (by omega) (by omega)
end CASES
