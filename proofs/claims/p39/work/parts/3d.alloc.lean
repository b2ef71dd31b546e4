/-! ALLOCATION: the world grows at its end; what is written there speaks of no place beyond it -/
/-- an entry that speaks of no place from n on -/
def zCe (n : Nat) (q : va_E) : Prop := ∀ (as as' : Nat → Nat), (∀ k, k < n → as' k = as k) → ∀ (cA : Nat → ClassId) (ex : Nat → Nat) (f : Nat → Int32), zTrE cA as' ex (zMkE f q) = zTrE cA as ex (zMkE f q)
def zCs (n : Nat) (sh : List va_E) : Prop := ∀ q ∈ sh, zCe n q
def zVb (n : Nat) (v : Value) : Bool := match v with
  | .ref k => Nat.blt k n
  | _ => true
theorem zVb_tr {n : Nat} {v : Value} {as as' ex : Nat → Nat} (h : zVb n v = true) (ha : ∀ k, k < n → as' k = as k) : zTr as' ex v = zTr as ex v := by
  cases v with
  | ref k =>
    show Value.ref (as' k) = Value.ref (as k)
    rw [ha k (Nat.le_of_ble_eq_true h)]
  | _ => rfl
theorem zVb_trs {n : Nat} {as as' ex : Nat → Nat} (ha : ∀ k, k < n → as' k = as k) : ∀ {st : List Value}, st.all (zVb n) = true → st.map (zTr as' ex) = st.map (zTr as ex)
  | [], _ => rfl
  | v :: r, h => by
    simp only [List.all_cons, Bool.and_eq_true] at h
    rw [List.map_cons, List.map_cons, zVb_tr h.1 ha, zVb_trs ha h.2]
theorem zVb_I {n : Nat} {v : Value} {x : Int32} (h : zVb n v = true) : zVb n (zI v x) = true := by cases v <;> first | rfl | exact h
theorem zVb_mk {n : Nat} {f : Nat → Int32} : ∀ {fs : List Value} {j : Nat}, fs.all (zVb n) = true → (zMkF f j fs).all (zVb n) = true
  | [], _, _ => rfl
  | v :: r, j, h => by
    simp only [List.all_cons, Bool.and_eq_true] at h
    simp only [zMkF, List.all_cons, Bool.and_eq_true]
    exact ⟨zVb_I h.1, zVb_mk h.2⟩
def zEb (n : Nat) (q : va_E) : Bool := match q with
  | .inl (_, _, .inr (.inr (.inr (.inr _)))) => false
  | .inr (_, fs) => fs.all (zVb n)
  | _ => true
theorem zEb_ok {n : Nat} {q : va_E} (h : zEb n q = true) : zCe n q := by
  intro as as' ha cA ex f
  rcases q with ⟨t, m, y | y | y | y | g⟩ | ⟨ci, fs⟩
  · rfl
  · rfl
  · rfl
  · rfl
  · cases h
  · show (Sum.inr (ci, (zMkF f 0 fs).map (zTr as' ex)) : va_E) = Sum.inr (ci, (zMkF f 0 fs).map (zTr as ex))
    rw [zVb_trs ha (zVb_mk h)]
theorem zCe_ref {n t m : Nat} {g : Nat → Option Nat} (h : ∀ j k, g j = some k → k < n) : zCe n (.inl (t, m, .inr (.inr (.inr (.inr g))))) := by
  intro as as' ha cA ex f
  show (Sum.inl (cA t, m, Sum.inr (Sum.inr (Sum.inr (Sum.inr fun j => (g j).map as')))) : va_E) = Sum.inl (cA t, m, Sum.inr (Sum.inr (Sum.inr (Sum.inr fun j => (g j).map as))))
  have : (fun j => (g j).map as') = fun j => (g j).map as := by
    funext j
    cases e : g j with
    | none => rfl
    | some k => exact congrArg some (ha k (h j k e))
  rw [this]
theorem zCs_of {n : Nat} {sh : List va_E} (h : sh.all (zEb n) = true) : zCs n sh := fun q hq => zEb_ok (List.all_eq_true.mp h q hq)
theorem zCe.mono {n m : Nat} {q : va_E} (h : zCe n q) (hn : n ≤ m) : zCe m q := fun as as' ha => h as as' (fun k hk => ha k (by omega))
theorem zCs.mono {n m : Nat} {sh : List va_E} (h : zCs n sh) (hn : n ≤ m) : zCs m sh := fun q hq => (h q hq).mono hn
theorem zCs.app {n : Nat} {a b : List va_E} (h1 : zCs n a) (h2 : zCs n b) : zCs n (a ++ b) := fun q hq => (List.mem_append.mp hq).elim (h1 q) (h2 q)
theorem zCs.cons {n : Nat} {q : va_E} {b : List va_E} (h1 : zCe n q) (h2 : zCs n b) : zCs n (q :: b) := fun x hq => (List.mem_cons.mp hq).elim (fun e => by rw [e]; exact h1) (h2 x)
theorem zWd_as {cA : Nat → ClassId} {as as' ex : Nat → Nat} {M : zM} {n : Nat} : ∀ {sh : List va_E} {b : Nat}, zCs n sh → b + sh.length ≤ n → (∀ k, k < n → as' k = as k) → zWd cA as' ex M b sh = zWd cA as ex M b sh
  | [], _, _, _, _ => rfl
  | q :: r, b, h, hn, ha => by
    simp only [List.length_cons] at hn
    simp only [zWd]
    rw [ha b (by omega), h q List.mem_cons_self as as' ha, zWd_as (b := b + 1) (fun x hx => h x (List.mem_cons_of_mem _ hx)) (by omega) ha]
theorem zWd_M {cA : Nat → ClassId} {as ex : Nat → Nat} {M M' : zM} : ∀ {sh : List va_E} {b : Nat}, (∀ k, b ≤ k → k < b + sh.length → M' k = M k) → zWd cA as ex M' b sh = zWd cA as ex M b sh
  | [], _, _ => rfl
  | q :: r, b, h => by
    simp only [List.length_cons] at h
    simp only [zWd]
    rw [h b (by omega) (by omega), zWd_M (b := b + 1) (fun k h1 h2 => h k (by omega) (by omega))]
theorem zWd_app {cA : Nat → ClassId} {as ex : Nat → Nat} {M : zM} {t : List va_E} : ∀ {sh : List va_E} {b : Nat}, zWd cA as ex M b (sh ++ t) = zWd cA as ex M b sh ++ zWd cA as ex M (b + sh.length) t
  | [], b => rfl
  | q :: r, b => by
    simp only [List.cons_append, zWd, List.length_cons]
    rw [zWd_app (b := b + 1), show b + 1 + r.length = b + (r.length + 1) by omega]
def zLb (n : Nat) (ls : zL) : Bool := ls.all fun v => match v with
  | some v => zVb n v
  | none => true
theorem zLv_as {as as' ex : Nat → Nat} {n : Nat} (ha : ∀ k, k < n → as' k = as k) : ∀ {ls : zL} {b : Nat}, zLb n ls = true → zLv as' ex b ls = zLv as ex b ls
  | [], _, _ => rfl
  | none :: r, b, h => by
    simp only [zLb, List.all_cons, Bool.and_eq_true] at h
    simp only [zLv]
    exact zLv_as ha h.2
  | some v :: r, b, h => by
    simp only [zLb, List.all_cons, Bool.and_eq_true] at h
    simp only [zLv]
    rw [zVb_tr h.1 ha, zLv_as ha h.2]
/-- one cell more -/
def zAs1 (as : Nat → Nat) (n q : Nat) : Nat → Nat := fun k => bif Nat.beq k n then q else as k
theorem zAs1_lt {as : Nat → Nat} {n q k : Nat} (h : k < n) : zAs1 as n q k = as k := by
  have : Nat.beq k n = false := by
    cases hb : Nat.beq k n with
    | true => have := Nat.eq_of_beq_eq_true hb; omega
    | false => rfl
  simp [zAs1, this]
theorem zAs1_gt {as : Nat → Nat} {n q k : Nat} (h : n < k) : zAs1 as n q k = as k := by
  have : Nat.beq k n = false := by
    cases hb : Nat.beq k n with
    | true => have := Nat.eq_of_beq_eq_true hb; omega
    | false => rfl
  simp [zAs1, this]
theorem zAs1_eq {as : Nat → Nat} {n q : Nat} : zAs1 as n q n = q := by simp [zAs1, Nat.beq_refl]
/-- the world with one cell more -/
theorem zWd_one {cA : Nat → ClassId} {as ex : Nat → Nat} {M : zM} {sh : List va_E} {q : Nat} {e e0 : va_E} (hc : zCs sh.length sh) (he : ∀ as' : Nat → Nat, zTrE cA as' ex (zMkE (fun _ => 0) e) = e0) :
    zWd cA (zAs1 as sh.length q) ex (zUa M sh.length (fun _ => 0)) 0 (sh ++ [e]) = zWd cA as ex M 0 sh ++ [(q, e0)] := by
  rw [zWd_app, zWd_as (n := sh.length) (as := as) hc (by omega) (fun k hk => zAs1_lt hk), zWd_M (M := M) (fun k _ hk => zUa_ne (by omega))]
  congr 1
  show [(zAs1 as sh.length q (0 + sh.length), zTrE cA (zAs1 as sh.length q) ex (zMkE (zUa M sh.length (fun _ => 0) (0 + sh.length)) e))] = _
  rw [Nat.zero_add, zAs1_eq, zUa_eq, he]
section ZAL
variable {Y : zY} {kc nc : Nat} {Z : zS → Prop} {pc : Nat} {ls : zL} {st : List Value} {sh : List va_E} {M : zM}
/-- the core: a step that makes a cell, behind what is on the stack -/
theorem zT.grow {k1 n1 : Nat} {S : zS} {e : va_E} {pc' : Nat} {st' : List Value} (hc : zCs sh.length sh) (hl : zLb sh.length ls = true) (hst : st'.all (zVb sh.length) = true) (hS : S.2.2.2.1 = sh) (hS2 : S.2.2.2.2 = M) (hS3 : S.2.1 = ls)
    (h : ∀ (p : Program) (l : Launch) (e9 : Jvm.Env) (R : Room) (s : State) (m : MethodId) (args : Array Value) (below : List Frame) (meth : Method) (c : Code) (D : va_G) (cA : Nat → ClassId) (ex : Nat → Nat) (A : Nat → Prop), zEv Y p l R s m args meth c D cA ex A →
      ∀ (Q : State → Prop) (cells slots : Nat) (as : Nat → Nat), cells + k1 ≤ R.cells → slots + n1 ≤ R.slots → ∀ (H : Heap) (locs : List Loc) (lsR : Array Slot), va_P D vwCl (zWd cA as ex M 0 sh) H → va_D A (zWd cA as ex M 0 sh) → va_S A s.heap H locs → lv_has lsR Y.2.2.1 (zLv as ex 0 ls) →
        ∃ e0 : va_E, (∀ as' : Nat → Nat, zTrE cA as' ex (zMkE (fun _ => 0) e) = e0) ∧
          ((∀ (q : Nat) (H1 : Heap), va_P D vwCl (zWd cA as ex M 0 sh ++ [(q, e0)]) H1 → va_D A (zWd cA as ex M 0 sh ++ [(q, e0)]) → va_S A s.heap H1 locs → W p l e9 R s m args below meth c H1 locs (cells + k1) (slots + n1) Q (F0 m pc' lsR (.ref q :: st'.map (zTr as ex)))) →
            W p l e9 R s m args below meth c H locs cells slots Q (F0 m S.1 lsR (S.2.2.1.map (zTr as ex)))))
    (k9 : zT Y kc nc Z (pc', ls, .ref sh.length :: st', sh ++ [e], zUa M sh.length (fun _ => 0))) : zT Y (k1 + kc) (n1 + nc) Z S := by
  obtain ⟨pcS, lsS, stS, shS, MS⟩ := S
  simp only at hS hS2 hS3 h
  subst hS hS2 hS3
  intro p l e9 R s m args below meth c D cA ex A E Q cells slots as g1 g2 kk H locs lsR hP hD hS hl9
  obtain ⟨e0, he0, hk⟩ := h p l e9 R s m args below meth c D cA ex A E Q cells slots as (by omega) (by omega) H locs lsR hP hD hS hl9
  refine hk fun q H1 hP1 hD1 hS1 => ?_
  have hw := zWd_one (cA := cA) (as := as) (ex := ex) (M := MS) (q := q) hc he0
  have hlt : ∀ k, k < shS.length → zAs1 as shS.length q k = as k := fun k hk => zAs1_lt hk
  have := k9 p l e9 R s m args below meth c D cA ex A E Q (cells + k1) (slots + n1) (zAs1 as shS.length q) (by omega) (by omega) (fun S' as' ha hz => by
    have := kk S' as' (by
      obtain ⟨a1, a2⟩ := ha
      simp only [List.length_append, List.length_singleton] at a1 a2
      exact ⟨by show shS.length ≤ _; omega, fun k hk => by
        have hk : k < shS.length ∨ _ ≤ k := hk
        rcases hk with hk | hk
        · rw [a2 k (Or.inl (by omega)), hlt k hk]
        · rw [a2 k (Or.inr hk), zAs1_gt (by omega)]⟩) hz
    rw [← Nat.add_assoc, ← Nat.add_assoc] at this
    exact this) H1 locs lsR (by show va_P D vwCl (zWd cA _ ex _ 0 (shS ++ [e])) H1; rw [hw]; exact hP1) (by show va_D A (zWd cA _ ex _ 0 (shS ++ [e])); rw [hw]; exact hD1) hS1 (by show lv_has lsR Y.2.2.1 (zLv _ ex 0 lsS); rw [zLv_as hlt hl]; exact hl9)
  have e8 : ((Value.ref shS.length :: st').map (zTr (zAs1 as shS.length q) ex)) = .ref q :: st'.map (zTr as ex) := by
    rw [List.map_cons, zVb_trs hlt hst]
    show Value.ref (zAs1 as shS.length q shS.length) :: _ = _
    rw [zAs1_eq]
  have this : W p l e9 R s m args below meth c H1 locs (cells + k1) (slots + n1) Q (F0 m pc' lsR ((Value.ref shS.length :: st').map (zTr (zAs1 as shS.length q) ex))) := this
  rw [e8] at this
  exact this
/-- new C -/
theorem zT.new {ci ik : Nat} {q : vw_C} {fs : List Value} (hq : vwCl[ci]? = some q) (hcl : Cond.classLink Y.1.cls ik q.1 ∈ zW) (hin : Cond.instantiable q.1 q.2.2 ∈ zW) (hini : Cond.initialized q.1 ∈ zW) (hfs : ∀ j, j < q.2.2 → defaultValue (zFt ci j) = vp_V fs j) (hz : zMkF (fun _ => 0) 0 fs = fs) (hn : ∀ as ex : Nat → Nat, fs.map (zTr as ex) = fs)
    (hc : zCs sh.length sh) (hl : zLb sh.length ls = true) (hst : st.all (zVb sh.length) = true) (hd : decode Y.2.1 pc = .ok (.new ik, 3))
    (k9 : zT Y kc nc Z (pc + 3, ls, .ref sh.length :: st, sh ++ [.inr (ci, fs)], zUa M sh.length (fun _ => 0))) : zT Y (1 + kc) (q.2.2 + nc) Z (pc, ls, st, sh, M) := by
  refine zT.grow (S := (pc, ls, st, sh, M)) hc hl hst rfl rfl rfl ?_ k9
  intro p l e9 R s m args below meth c D cA ex A E Q cells slots as g1 g2 H locs lsR hP hD hS hl9
  refine ⟨.inr (ci, fs), fun as' => ?_, fun k => ?_⟩
  · show (Sum.inr (ci, (zMkF (fun _ => 0) 0 fs).map (zTr as' ex)) : va_E) = _
    rw [hz, hn]
  · obtain ⟨hx0, hb, hml, hown, hts, hK, hA, hSt, hfl, hlk, hret, hnm, hfr, hlo⟩ := E
    exact va_new hx0 hb hts (zCl_in q (List.mem_of_getElem? hq)) (zFt ci) (zCl_ty _ q hq) hown (hts _ hcl) (hts _ hin) (hts _ hini) hK hP hD hS hA hq hfs g1 g2 hd k
/-- new arrays of words -/
theorem zT.newa {t N : Nat} {i : Int32} {aty : ArrayType} {ty : FieldType} {z : (Nat → Int32) ⊕ ((Nat → Int64) ⊕ ((Nat → UInt32) ⊕ ((Nat → UInt64) ⊕ (Nat → Option Nat))))} (ht : newarray.typeOf aty = ty) (hty : ∀ cA : Nat → ClassId, (zTys cA)[t]? = some (cA t, ty)) (harr : Cond.arrayClass ty ∈ zW) (hz : ∀ (cA : Nat → ClassId) (as ex : Nat → Nat), zTrE cA as ex (zMkE (fun _ => 0) (.inl (t, N, z))) = .inl (cA t, N, z)) (ha : ∀ cA : ClassId, vp_cell cA (N, z) = arrV cA N (fun _ => defaultValue ty)) (hi : i = nI N) (hN : N < 2 ^ 20) (hby : componentBytes ty ≤ 8)
    (hc : zCs sh.length sh) (hl : zLb sh.length ls = true) (hst : st.all (zVb sh.length) = true) (hd : decode Y.2.1 pc = .ok (.newarray aty, 2))
    (k9 : zT Y kc nc Z (pc + 2, ls, .ref sh.length :: st, sh ++ [.inl (t, N, z)], zUa M sh.length (fun _ => 0))) : zT Y (1 + kc) (N + nc) Z (pc, ls, .int i :: st, sh, M) := by
  refine zT.grow (S := (pc, ls, .int i :: st, sh, M)) hc hl hst rfl rfl rfl ?_ k9
  intro p l e9 R s m args below meth c D cA ex A E Q cells slots as g1 g2 H locs lsR hP hD hS hl9
  refine ⟨.inl (cA t, N, z), fun as' => hz cA as' ex, fun k => ?_⟩
  obtain ⟨hx0, hb, hml, hown, hts, hK, hA, hSt, hfl, hlk, hret, hnm, hfr, hlo⟩ := E
  subst hi ht
  refine va_newa hx0 hb (hts _ harr) rfl hK hP hD hS hA ha (nI_pos (by omega)) (nI_clamp (by omega)) (Nat.le_trans (Nat.mul_le_mul (Nat.le_of_lt hN) hby) (by decide)) g1 g2 hd fun q cN H1 hK1 hP1 hD1 hS1 => ?_
  have hcN : cN = cA t := by
    have h1 := (hK1.2 (zTys cA).length (cN, newarray.typeOf aty) (by simp)).2
    have h2 := (hK.2 t _ (hty cA)).2
    unfold va_RA at h1 h2
    cases aty <;> exact Option.some.inj (h1.symm.trans h2)
  rw [hcN] at hP1 hD1
  exact k q H1 hP1 hD1 hS1
/-- a field that holds a thing of the world -/
theorem zT.putR {ci b o o2 idx w : Nat} {fs : List Value} {q : vw_C} {v : Value} (hs : zSg sh o = some (.inr (ci, fs))) (hb : fs[b]? = some v) (hv : v = .null ∨ ∃ j, v = .ref j) (hq : vwCl[ci]? = some q) (hbq : b < q.2.2) (hw : zAt w = some (Cond.fieldLink Y.1.cls idx (q.2.1 b).1 (q.2.1 b).2.1 (q.2.1 b).2.2.1)) (hty : (∃ n, zFt ci b = .object n) ∨ ∃ t, zFt ci b = .array t) (hfin : (q.2.1 b).2.2.2 = false ∨ ((q.2.1 b).2.2.2 = true ∧ Y.1.name = "<init>" ∧ (q.2.1 b).1 = Y.1.cls)) (hd : decode Y.2.1 pc = .ok (.putfield idx, 3))
    (k1 : zT Y kc nc Z (pc + 3, ls, st, sh.set o (.inr (ci, fs.set b (.ref o2))), M)) : zT Y kc nc Z (pc, ls, .ref o2 :: .ref o :: st, sh, M) := by
  refine zT.step (S1 := (pc + 3, ls, st, sh.set o (.inr (ci, fs.set b (.ref o2))), M)) (by simp) ?_ k1
  intro p l e R s m args below meth c D cA ex A E Q cells slots as _ _ k9 H locs lsR hP hD hS hl
  obtain ⟨hx0, hb0, hml, hown, hts, hK, hA, hSt, hfl, hlk, hret, hnm, hfr, hlo⟩ := E
  have ha := zWd_at (cA := cA) (as := as) (ex := ex) (M := M) hs
  have hb' : b < fs.length := (List.getElem?_eq_some_iff.mp hb).1
  have hlen : b < ((zMkF (M o) 0 fs).map (zTr as ex)).length := by rw [List.length_map, zMkF_len]; exact hb'
  have e9 : (zWd cA as ex M 0 sh).set o (as o, .inr (ci, ((zMkF (M o) 0 fs).map (zTr as ex)).set b (.ref (as o2)))) = zWd cA as ex M 0 (sh.set o (.inr (ci, fs.set b (.ref o2)))) := by
    have h8 := zWd_set (cA := cA) (as := as) (ex := ex) (M := M) (M' := M) (sh := sh) (k := o) (q' := .inr (ci, fs.set b (.ref o2))) (fun j hj => rfl)
    rw [← h8]
    congr 2
    show (Sum.inr (ci, _) : va_E) = Sum.inr (ci, _)
    congr 2
    apply List.ext_getElem?
    intro j
    rw [List.getElem?_map, zMkF_get, List.getElem?_set, List.getElem?_set, List.length_map, zMkF_len]
    by_cases hj : b = j
    · subst hj
      rw [if_pos rfl, if_pos rfl, if_pos hb', if_pos hb']
      rfl
    · rw [if_neg hj, if_neg hj, List.getElem?_map, zMkF_get]
  have kk : ∀ (H1 : Heap) (locs1 : List Loc), va_P D vwCl ((zWd cA as ex M 0 sh).set o (as o, .inr (ci, ((zMkF (M o) 0 fs).map (zTr as ex)).set b (.ref (as o2))))) H1 → va_D A ((zWd cA as ex M 0 sh).set o (as o, .inr (ci, ((zMkF (M o) 0 fs).map (zTr as ex)).set b (.ref (as o2))))) → va_S A s.heap H1 locs1 → W p l e R s m args below meth c H1 locs1 cells slots Q (F0 m (pc + 3) lsR (st.map (zTr as ex))) := fun H1 locs1 hP1 hD1 hS1 => by
    rw [e9] at hP1 hD1
    exact k9 H1 locs1 lsR hP1 hD1 hS1 hl
  have hn : narrow (zFt ci b) (.ref (as o2)) = .ref (as o2) := by rcases hty with ⟨n, h⟩ | ⟨t, h⟩ <;> rw [h] <;> rfl
  have hft : fits (zFt ci b) (.ref (as o2)) = true := by rcases hty with ⟨n, h⟩ | ⟨t, h⟩ <;> rw [h] <;> rfl
  rcases hfin with hf | ⟨hf, hin, hdc⟩
  · exact va_put hx0 hb0 hts (zCl_in q (List.mem_of_getElem? hq)) (zFt _) (zCl_ty _ q hq) (zCl_nm _ q hq) hown hK hP hD hS o ha hq b hbq (hts _ (zIn hw rfl)) (fun _ h9 => h9) hf (zCl_ty _ q hq b hbq) hn hft hlen hd kk
  · exact va_putF hx0 hb0 hts (zCl_in q (List.mem_of_getElem? hq)) (zFt _) (zCl_ty _ q hq) (zCl_nm _ q hq) hown hK hP hD hS o ha hq b hbq (hts _ (zIn hw rfl)) (fun _ h9 => h9) hf (hnm hin) hdc (zCl_ty _ q hq b hbq) hn hft hlen hd kk
/-- Object's constructor -/
theorem zT.objInit {a idx : Nat} (hlk : Cond.methodLink Y.1.cls idx Lib.objectInit ∈ zW) (hin : Cond.instanceMethod Lib.objectInit ∈ zW) (hco : Cond.code Lib.objectInit ⟨#[0xb1]⟩ 1 none ∈ zW) (hfr9 : 1 ≤ Y.2.2.2.2.1) (hlo9 : 20 ≤ Y.2.2.2.2.2) (hw : (st.map fun v => v.category).sum ≤ 8) (hd : decode Y.2.1 pc = .ok (.invokespecial idx, 3))
    (k1 : zT Y kc nc Z (pc + 3, ls, st, sh, M)) : zT Y kc nc Z (pc, ls, .ref a :: st, sh, M) := by
  refine zT.step (S1 := (pc + 3, ls, st, sh, M)) rfl ?_ k1
  intro p l e R s m args below meth c D cA ex A E Q cells slots as _ _ k9 H locs lsR hP hD hS hl
  obtain ⟨hx0, hb0, hml, hown, hts, hK, hA, hSt, hfl, hlk9, hret, hnm, hfr, hlo⟩ := E
  refine W.objInit hx0 hb0 hown (hts _ hlk) (hts _ hin) (hts _ hco) rfl (hl.1.trans hml.symm) rfl hd (Nat.le_trans hfr9 hfr) ?_ (k9 H locs lsR hP hD hS hl)
  have := zTr_sum as ex st
  show 0 + ((st.map (zTr as ex)).map fun v => v.category).sum + 12 ≤ R.locals
  rw [this]
  omega
end ZAL
