/-! THE LAW: the world is the script, the reference, the row of one long, the object -/
noncomputable abbrev yy_X10_thrown : zY := (yX10_thrown, cX10_thrown, 1, (some Jvm.ClassFile.FieldType.int), 0, 0)
theorem c_X10_thrown (M : zM) (gp : Nat → Option Nat) : zC yy_X10_thrown 0 0 [.ref 0] (sh_Model gp) M (some (.int (M 0 0))) (sh_Model gp) M := by
  refine zC.of (by decide +kernel) rfl (Nat.le_of_ble_eq_true rfl) ?_
  refine zT.run [(.aload_n 0, 0, 0, 0), (.getfield 61, 8, 0, 5149)] (pe := 4) (ls' := [some (.ref 0)]) (st' := [.int (M 0 0)]) (M' := M) (by decide +kernel) rfl ?_
  exact zT.iret (ty := Jvm.ClassFile.FieldType.int) rfl rfl rfl rfl (by decide +kernel)
theorem k_X10_thrown : zCal yy_X10_thrown 0 := ⟨⟨⟨⟨zIn (w := 5211) (by decide +kernel) rfl, zIn (w := 1012) (by decide +kernel) rfl⟩, by decide +kernel⟩, by decide +kernel⟩, ⟨zIn (w := 5209) (by decide +kernel) rfl, zIn (w := 5210) (by decide +kernel) rfl⟩⟩
noncomputable def sh_W (Ns : Nat) (gp : Nat → Option Nat) (ob : Nat → Int64) (sl : Nat → Option Nat) (ext : List va_E) : List va_E := (sh_Model gp).map (zRe 0) ++ (sh_O ob sl ext).map (zRe 21)
def zJo (x : zM) : zM := fun k => if k = 0 then (fun _ => 0) else x (k - 1)
def zJ (s : Nat → Int32) (m x : zM) : zM := fun k => if k < 21 then m k else zJo x (k - 21)
theorem zPl_Jo {x : zM} : zPl (zJo x) 1 = x := by
  funext k
  show zJo x (1 + k) = x k
  unfold zJo
  rw [if_neg (by omega)]
  congr 1
  omega
theorem zBack.mid {a sc sc' t : List va_E} {b n : Nat} (ha : a.length = b) (hn : sc.length = n) (hl : sc'.length = sc.length) : zBack (a ++ sc.map (zRe b) ++ t) b n sc' (a ++ sc'.map (zRe b) ++ t) := by
  subst ha hn
  refine ⟨by simp [hl], fun k => ?_⟩
  rw [zSg_eq, zSg_eq, zSg_eq, List.append_assoc, List.append_assoc]
  by_cases h1 : k < a.length
  · rw [if_neg (by omega), List.getElem?_append_left h1, List.getElem?_append_left h1]
  · rw [List.getElem?_append_right (l₁ := a) (by omega), List.getElem?_append_right (l₁ := a) (by omega)]
    by_cases h2 : k < a.length + sc.length
    · rw [if_pos ⟨by omega, h2⟩, List.getElem?_append_left (by rw [List.length_map]; omega), List.getElem?_map]
    · rw [if_neg (by omega), List.getElem?_append_right (l₁ := sc'.map (zRe a.length)) (by rw [List.length_map]; omega), List.getElem?_append_right (l₁ := sc.map (zRe a.length)) (by rw [List.length_map]; omega), List.length_map, List.length_map, hl]
theorem sub_W1 {Ns : Nat} {gp : Nat → Option Nat} {ob : Nat → Int64} {sl : Nat → Option Nat} {ext : List va_E} : zSub (sh_W Ns gp ob sl ext) 0 (sh_Model gp) := zSub.of rfl
theorem sub_W22 {Ns : Nat} {gp : Nat → Option Nat} {ob : Nat → Int64} {sl : Nat → Option Nat} {ext : List va_E} : zSub (sh_W Ns gp ob sl ext) 21 (sh_O ob sl ext) := zSub.end rfl
theorem sub_W23 {Ns : Nat} {gp : Nat → Option Nat} {ob : Nat → Int64} {sl : Nat → Option Nat} {ext : List va_E} : zSub (sh_W Ns gp ob sl ext) 22 (sh_X sl ext) := zSub.tr (a := 21) (j := 1) sub_W22 sub_O
theorem back_W1 {gp' : Nat → Option Nat} {Ns : Nat} {gp : Nat → Option Nat} {ob : Nat → Int64} {sl : Nat → Option Nat} {ext : List va_E} : zBack (sh_W Ns gp ob sl ext) 0 (sh_Model gp).length (sh_Model gp') (sh_W Ns gp' ob sl ext) := by
  have h := zBack.mid (a := []) (sc := sh_Model gp) (sc' := sh_Model gp') (t := (sh_O ob sl ext).map (zRe 21)) (b := 0) (n := (sh_Model gp).length) rfl rfl rfl
  simp only [List.nil_append] at h
  exact h
theorem len_O {ob : Nat → Int64} {sl : Nat → Option Nat} {ext : List va_E} : (sh_O ob sl ext).length = 192 + ext.length := by
  show ((sh_X sl ext).map (zRe 1)).length + 1 = _
  rw [List.length_map, zX_len]
  omega
theorem back_W22 {ob' : Nat → Int64} {Ns : Nat} {gp : Nat → Option Nat} {ob : Nat → Int64} {sl : Nat → Option Nat} {ext : List va_E} : zBack (sh_W Ns gp ob sl ext) 21 (sh_O ob sl ext).length (sh_O ob' sl ext) (sh_W Ns gp ob' sl ext) := by
  have := zBack.mid (a := (sh_Model gp).map (zRe 0)) (sc := sh_O ob sl ext) (sc' := sh_O ob' sl ext) (t := []) (b := 21) (n := (sh_O ob sl ext).length) rfl rfl (by rw [len_O, len_O])
  rw [List.append_nil, List.append_nil] at this
  exact this
theorem zJ_m {s : Nat → Int32} {m m' x : zM} {n : Nat} {k : Nat} (hn : n = 21) : zPs (zJ s m x) 0 n m' k = zJ s m' x k := by
  subst hn
  by_cases h : k < 21
  · rw [zPs_in (Nat.zero_le _) (by omega), Nat.sub_zero]
    unfold zJ
    rw [if_pos h]
  · rw [zPs_out (by omega)]
    unfold zJ
    rw [if_neg h, if_neg h]
theorem zJ_o {s : Nat → Int32} {m x x' X : zM} {n L : Nat} {k : Nat} (hX : ∀ j, j < n → X j = zJo x' j) (hk : k < L) (hL : L = 21 + n) : zPs (zJ s m x) 21 n X k = zJ s m x' k := by
  by_cases h : 21 ≤ k
  · rw [zPs_in h (by omega), hX _ (by omega)]
    unfold zJ
    rw [if_neg (by omega)]
  · rw [zPs_out (by omega)]
    unfold zJ
    rw [if_pos (by omega), if_pos (by omega)]
theorem zJ_x {s : Nat → Int32} {m x x' : zM} {n : Nat} {k : Nat} (hk : k < 22 + n) : zPs (zJ s m x) 22 n x' k = zJ s m x' k := by
  by_cases h : 22 ≤ k
  · rw [zPs_in h (by omega)]
    unfold zJ zJo
    rw [if_neg (by omega), if_neg (by omega)]
    congr 1 <;> omega
  · rw [zPs_out (by omega)]
    unfold zJ zJo
    by_cases h1 : k < 21
    · rw [if_pos h1, if_pos h1]
    · rw [if_neg h1, if_neg h1, if_pos (by omega), if_pos (by omega)]
theorem nI_addl (a : Nat) : ∀ b, nI a + nI b = nI (a + b)
  | 0 => Int32.add_zero _
  | b + 1 => by rw [nI_succ b, ← Int32.add_assoc, nI_addl a b, ← nI_succ (a + b), Nat.add_assoc]
theorem lg_cmp_rf (x : Int64) : lg_cmp x x = 0 := by
  unfold lg_cmp
  simp [Int64.lt_irrefl]
theorem len_W {Ns : Nat} {gp : Nat → Option Nat} {ob : Nat → Int64} {sl : Nat → Option Nat} {ext : List va_E} : (sh_W Ns gp ob sl ext).length = 21 + (192 + ext.length) := by
  show ((sh_Model gp).map (zRe 0) ++ (sh_O ob sl ext).map (zRe 21)).length = _
  rw [List.length_append, List.length_map, List.length_map, len_O]
  rfl
noncomputable abbrev yy_L_law : zY := (yL_law, cL_law, 9, some .boolean, 12, 436)
theorem zJ_in {s : Nat → Int32} {m x : zM} {j : Nat} (h : j < 21) : m j = zJ s m x (0 + j) := by
  unfold zJ
  rw [if_pos (by omega), Nat.zero_add]
theorem zT.eq9 {Y : zY} {kc nc : Nat} {Z : zS → Prop} {S : zS} (h : zT Y (0 + kc) (0 + nc) Z S) : zT Y kc nc Z S := by
  rw [Nat.zero_add, Nat.zero_add] at h
  exact h
/-! THE LAW'S OWN JUDGEMENT: the script stands outside the world (local 0 is no cell) -/
def zV (scr : Nat → Int32) (Ns : Nat) (k n : Nat) (Z : zS → Prop) (S : zS) : Prop :=
  ∀ (p : Program) (l : Launch) (e : Jvm.Env) (R : Room) (s : State) (m : MethodId) (args : Array Value) (below : List Frame) (meth : Method) (c : Code) (D : va_G) (cA : Nat → ClassId) (ex : Nat → Nat) (A : Nat → Prop), zEv yy_L_law p l R s m args meth c D cA ex A → va_T .int (ex 998) Ns (fun j => .int (scr j)) A s s.heap →
    ∀ (Q : State → Prop) (cells slots : Nat) (as : Nat → Nat), cells + k ≤ R.cells → slots + n ≤ R.slots →
      (∀ (S' : zS) (as' : Nat → Nat), Z S' → zG yy_L_law p l e R s m args below meth c D cA ex A Q (cells + k) (slots + n) as' S') →
      zG yy_L_law p l e R s m args below meth c D cA ex A Q cells slots as S
section ZV
variable {s : Nat → Int32} {Ns kc nc : Nat} {Z : zS → Prop}
theorem zV.via {a b : Nat} {S S1 : zS} (h : zT yy_L_law a b (fun S' => S' = S1) S) (k : zV s Ns kc nc Z S1) : zV s Ns (a + kc) (b + nc) Z S := by
  intro p l e R s0 m args below meth c D cA ex A E hX Q cells slots as g1 g2 kk
  refine h p l e R s0 m args below meth c D cA ex A E Q cells slots as (by omega) (by omega) fun S' as' _ e' => ?_
  subst e'
  refine k p l e R s0 m args below meth c D cA ex A E hX Q (cells + a) (slots + b) as' (by omega) (by omega) fun S2 as2 hz => ?_
  rw [Nat.add_assoc, Nat.add_assoc]
  exact kk S2 as2 hz
theorem zV.v0 {S S1 : zS} (h : zT yy_L_law 0 0 (fun S' => S' = S1) S) (k : zV s Ns kc nc Z S1) : zV s Ns kc nc Z S := by
  have := zV.via h k
  rw [Nat.zero_add, Nat.zero_add] at this
  exact this
theorem zV.here {S : zS} (h : Z S) : zV s Ns 0 0 Z S := fun _ _ _ _ _ _ _ _ _ _ _ _ _ _ _ _ _ _ _ as _ _ kk => kk S as h
theorem zV.widen {k n k' n' : Nat} {S : zS} (h1 : k ≤ k') (h2 : n ≤ n') (h : zV s Ns k n Z S) : zV s Ns k' n' Z S := by
  have : zT yy_L_law (k' - k) (n' - n) (fun S' => S' = S) S := (zT.here (Y := yy_L_law) (Z := fun S' => S' = S) (S := S) rfl).widen (Nat.zero_le _) (Nat.zero_le _)
  have := zV.via this h
  rw [Nat.sub_add_cancel h1, Nat.sub_add_cancel h2] at this
  exact this
variable {pc : Nat} {ls : zL} {st : List Value} {sh : List va_E} {M : zM} {tgt : Nat} {off : Int}
theorem zV.eq {S S1 : zS} (h : S = S1) (k1 : zV s Ns kc nc Z S1) : zV s Ns kc nc Z S := h ▸ k1
theorem zV.eqS {st2 : List Value} (h : st = st2) (k1 : zV s Ns kc nc Z (pc, ls, st2, sh, M)) : zV s Ns kc nc Z (pc, ls, st, sh, M) := h ▸ k1
theorem zV.drop (i : Nat) (k1 : zV s Ns kc nc Z (pc, zDl ls i, st, sh, M)) : zV s Ns kc nc Z (pc, ls, st, sh, M) := zV.v0 (zT.drop i (zT.here rfl)) k1
theorem zV.ceq {x y : Int32} (hd : decode yy_L_law.2.1 pc = .ok (.if_icmp .eq off, 3)) (ht : (pc : Int) + off = (tgt : Int)) (kt : x = y → zV s Ns kc nc Z (tgt, ls, st, sh, M)) (kf : ¬ x = y → zV s Ns kc nc Z (pc + 3, ls, st, sh, M)) : zV s Ns kc nc Z (pc, ls, .int y :: .int x :: st, sh, M) := by
  by_cases c : x = y
  · exact zV.v0 (zT.ceq hd ht (fun _ => zT.here rfl) (fun c' => absurd c c')) (kt c)
  · exact zV.v0 (zT.ceq hd ht (fun c' => absurd c' c) (fun _ => zT.here rfl)) (kf c)
theorem zV.zeq {x : Int32} (hd : decode yy_L_law.2.1 pc = .ok (.ifCond .eq off, 3)) (ht : (pc : Int) + off = (tgt : Int)) (kt : x = 0 → zV s Ns kc nc Z (tgt, ls, st, sh, M)) (kf : ¬ x = 0 → zV s Ns kc nc Z (pc + 3, ls, st, sh, M)) : zV s Ns kc nc Z (pc, ls, .int x :: st, sh, M) := by
  by_cases c : x = 0
  · exact zV.v0 (zT.zeq hd ht (fun _ => zT.here rfl) (fun c' => absurd c c')) (kt c)
  · exact zV.v0 (zT.zeq hd ht (fun c' => absurd c' c) (fun _ => zT.here rfl)) (kf c)
theorem zV.zne {x : Int32} (hd : decode yy_L_law.2.1 pc = .ok (.ifCond .ne off, 3)) (ht : (pc : Int) + off = (tgt : Int)) (kt : ¬ x = 0 → zV s Ns kc nc Z (tgt, ls, st, sh, M)) (kf : x = 0 → zV s Ns kc nc Z (pc + 3, ls, st, sh, M)) : zV s Ns kc nc Z (pc, ls, .int x :: st, sh, M) := by
  by_cases c : x = 0
  · exact zV.v0 (zT.zne hd ht (fun c' => absurd c c') (fun _ => zT.here rfl)) (kf c)
  · exact zV.v0 (zT.zne hd ht (fun _ => zT.here rfl) (fun c' => absurd c' c)) (kt c)
theorem zV.cgt {x y : Int32} (hd : decode yy_L_law.2.1 pc = .ok (.if_icmp .gt off, 3)) (ht : (pc : Int) + off = (tgt : Int)) (kt : y < x → zV s Ns kc nc Z (tgt, ls, st, sh, M)) (kf : ¬ y < x → zV s Ns kc nc Z (pc + 3, ls, st, sh, M)) : zV s Ns kc nc Z (pc, ls, .int y :: .int x :: st, sh, M) := by
  by_cases c : y < x
  · exact zV.v0 (zT.cgt hd ht (fun _ => zT.here rfl) (fun c' => absurd c c')) (kt c)
  · exact zV.v0 (zT.cgt hd ht (fun c' => absurd c' c) (fun _ => zT.here rfl)) (kf c)
/-- a place of the script -/
theorem zV.iald {k : Nat} {i : Int32} (hi : i = nI k) (hk : k < Ns) (hn : Ns < 2 ^ 31) (hd : decode yy_L_law.2.1 pc = .ok (.iaload, 1)) (k1 : zV s Ns kc nc Z (pc + 1, ls, .int (s k) :: st, sh, M)) : zV s Ns kc nc Z (pc, ls, .int i :: .retAddr 998 :: st, sh, M) := by
  intro p l e R s0 m args below meth c D cA ex A E hX Q cells slots as g1 g2 kk H locs lsR hP hD hS hl
  refine va_ti E.1 E.2.1 (i := i) (v := .int (s k)) hX hS ?_ ?_ hd (k1 p l e R s0 m args below meth c D cA ex A E hX Q cells slots as g1 g2 kk H locs lsR hP hD hS hl)
  · rw [hi]
    exact nI_in hk hn
  · rw [hi, nI_clamp (by omega)]
/-- its length -/
theorem zV.alen (hd : decode yy_L_law.2.1 pc = .ok (.arraylength, 1)) (k1 : zV s Ns kc nc Z (pc + 1, ls, .int (nI Ns) :: st, sh, M)) : zV s Ns kc nc Z (pc, ls, .retAddr 998 :: st, sh, M) := by
  intro p l e R s0 m args below meth c D cA ex A E hX Q cells slots as g1 g2 kk H locs lsR hP hD hS hl
  exact va_tlen E.1 E.2.1 hX hS rfl hd (k1 p l e R s0 m args below meth c D cA ex A E hX Q cells slots as g1 g2 kk H locs lsR hP hD hS hl)
end ZV
