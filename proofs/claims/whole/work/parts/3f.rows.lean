/-! ROWS: of offices, of rows of ints -/
section ZRO
variable {Y : zY} {kc nc : Nat} {Z : zS → Prop} {pc : Nat} {ls : zL} {st : List Value} {sh : List va_E} {M : zM}
theorem zT.anewO {ik N : Nat} {i : Int32} (hcl : Cond.classLink Y.1.cls ik "SealedBallots$Office" ∈ zW) (hi : i = nI N) (hN : N < 2 ^ 20)
    (hc : zCs sh.length sh) (hl : zLb sh.length ls = true) (hst : st.all (zVb sh.length) = true) (hd : decode Y.2.1 pc = .ok (.anewarray ik, 3))
    (k9 : zT Y kc nc Z (pc + 3, ls, .ref sh.length :: st, sh ++ [.inl (3, N, .inr (.inr (.inr (.inr (fun _ => none)))))], zUa M sh.length (fun _ => 0))) : zT Y (1 + kc) (N + nc) Z (pc, ls, .int i :: st, sh, M) := by
  refine zT.grow (S := (pc, ls, .int i :: st, sh, M)) hc hl hst rfl rfl rfl ?_ k9
  intro p l e9 R s m args below meth c D cA ex A E Q cells slots as g1 g2 H locs lsR hP hD hS hl9
  refine ⟨.inl (cA 3, N, .inr (.inr (.inr (.inr (fun _ => none))))), fun as' => rfl, fun k => ?_⟩
  obtain ⟨hx0, hb, hml, hown, hts, hK, hA, hSt, hfl, hlk, hret, hnm, hfr, hlo⟩ := E
  subst hi
  refine va_newq hx0 hb hown (hts _ hcl) hSt.2.2.2.2.2.2.2.2.2.1 hK hP hD hS hA (nI_pos (by omega)) (nI_clamp (by omega)) (by omega) g1 g2 hd fun q cN H1 hK1 hP1 hD1 hS1 => ?_
  have hcN : cN = cA 3 := by
    obtain ⟨_, _, -, -, -, h1⟩ := (hK1.2 (zTys cA).length (cN, .object "SealedBallots$Office") (by simp)).2
    obtain ⟨_, _, -, -, -, h2⟩ := (hK.2 3 (cA 3, .object "SealedBallots$Office") rfl).2
    exact Option.some.inj (h1.symm.trans h2)
  rw [hcN] at hP1 hD1
  exact k q H1 hP1 hD1 hS1
theorem zT.oast {o n k q : Nat} {i : Int32} {g : Nat → Option Nat} {vs : List Value}
    (hs : zSg sh o = some (.inl (3, n, .inr (.inr (.inr (.inr g)))))) (hq : zSg sh q = some (.inr (2, vs))) (hi : i = nI k) (hk : k < n) (hn : n < 2 ^ 31) (hd : decode Y.2.1 pc = .ok (.aastore, 1))
    (k1 : zT Y kc nc Z (pc + 1, ls, st, sh.set o (.inl (3, n, .inr (.inr (.inr (.inr (fun j => if j = k then some q else g j)))))), M)) : zT Y kc nc Z (pc, ls, .ref q :: .int i :: .ref o :: st, sh, M) := by
  refine zT.step (S1 := (pc + 1, ls, st, sh.set o (.inl (3, n, .inr (.inr (.inr (.inr (fun j => if j = k then some q else g j)))))), M)) (by simp) ?_ k1
  intro p l e R s m args below meth c D cA ex A E Q cells slots as _ _ k9 H locs lsR hP hD hS hl
  subst hi
  have ha := zWd_at (cA := cA) (as := as) (ex := ex) (M := M) hs
  have hv := zWd_at (cA := cA) (as := as) (ex := ex) (M := M) hq
  have hW : (zWd cA as ex M 0 sh).set o (as o, .inl (cA 3, n, .inr (.inr (.inr (.inr (va_up (fun j => (g j).map as) k (some (as q)))))))) = zWd cA as ex M 0 (sh.set o (.inl (3, n, .inr (.inr (.inr (.inr (fun j => if j = k then some q else g j))))))) := by
    have h8 := zWd_set (cA := cA) (as := as) (ex := ex) (M := M) (M' := M) (sh := sh) (k := o) (q' := .inl (3, n, .inr (.inr (.inr (.inr (fun j => if j = k then some q else g j)))))) (fun j hj => rfl)
    rw [← h8]
    congr 1
    refine congrArg (fun f : Nat → Option Nat => ((as o, Sum.inl (cA 3, n, Sum.inr (Sum.inr (Sum.inr (Sum.inr f))))) : Nat × va_E)) (funext fun j => ?_)
    by_cases hj : j = k
    · subst hj
      simp [va_up]
    · simp [va_up, hj]
  refine va_astq (a := as o) (v := as q) (r := (RX4, TX4, 11)) E.1 E.2.1 E.2.2.2.2.2.1 hP hD hS o 3 q 2 ha rfl hv rfl (vp_in_nI hk hn) hd (fun H1 locs1 hP1 hD1 hS1 => ?_)
  rw [nI_clamp (by omega), hW] at hP1 hD1
  exact k9 H1 locs1 lsR hP1 hD1 hS1 hl
def zAsM (as : Nat → Nat) (n N q : Nat) (r : Nat → Nat) : Nat → Nat := fun k => if k = n then q else if n < k ∧ k ≤ n + N then r (k - n - 1) else as k
def zRowG (n N : Nat) : Nat → Option Nat := fun i => if i < N then some (n + 1 + i) else none
theorem zWd_rep {cA : Nat → ClassId} {as ex : Nat → Nat} {M : zM} {b N : Nat} {e e0 : va_E} (h : ∀ i, i < N → zTrE cA as ex (zMkE (M (b + i)) e) = e0) : zWd cA as ex M b (List.replicate N e) = (List.range N).map (fun i => (as (b + i), e0)) := by
  apply List.ext_getElem?
  intro k
  rw [zWd_get, zSg_eq, List.getElem?_replicate, List.getElem?_map]
  by_cases hk : k < N
  · rw [if_pos hk, List.getElem?_range hk]
    show some (as (b + k), zTrE cA as ex (zMkE (M (b + k)) e)) = some (as (b + k), e0)
    rw [h k hk]
  · rw [if_neg hk, List.getElem?_eq_none (by rw [List.length_range]; omega)]
    rfl
set_option maxHeartbeats 2000000 in
/-- new int[N][K] -/
theorem zT.mna {ik N K : Nat} {i j : Int32} (hcl : Cond.classLink Y.1.cls ik "[[I" ∈ zW) (harr : Cond.arrayClass .int ∈ zW) (hi : i = nI N) (hj : j = nI K) (hN : N < 2 ^ 20) (hK9 : K < 2 ^ 20)
    (hM : ∀ k, sh.length ≤ k → k ≤ sh.length + N → M k = fun _ => 0) (hc : zCs sh.length sh) (hl : zLb sh.length ls = true) (hst : st.all (zVb sh.length) = true) (hd : decode Y.2.1 pc = .ok (.multianewarray ik 2, 4))
    (k9 : zT Y kc nc Z (pc + 4, ls, .ref sh.length :: st, sh ++ .inl (4, N, .inr (.inr (.inr (.inr (zRowG sh.length N))))) :: List.replicate N (.inl (0, K, .inl (fun _ => 0))), M)) : zT Y (1 + N + kc) (N + N * K + nc) Z (pc, ls, .int j :: .int i :: st, sh, M) := by
  subst hi hj
  intro p l e9 R s m args below meth c D cA ex A E Q cells slots as g1 g2 kk H locs lsR hP hD hS hl9
  obtain ⟨hx0, hb, hml, hown, hts, hK, hA, hSt, hfl, hlk, hret, hnm, hfr, hlo⟩ := E
  have hcy : s.vm.findClass (FieldType.array .int).toString = some (cA 0) := (hK.2 0 (cA 0, .int) rfl).2
  refine va_mna (X := zWd cA as ex M 0 sh) (L := []) (f := fun _ => .inr (0, [])) (ty := .int) (cy := cA 0) (N' := N) (K' := K) (z := (K, .inl (fun _ => 0))) hx0 hb hown (hts _ hcl) hSt.2.2.2.2.2.2.2.2.2.2.1 (hts _ harr) hcy hK (by rw [show va_pl [] (fun _ => (.inr (0, []) : va_E)) = [] from rfl, List.append_nil]; exact hP) (by rw [show va_pl [] (fun _ => (.inr (0, []) : va_E)) = [] from rfl, List.append_nil]; exact hD) hS hA
    (nI_pos (by omega)) (nI_pos (by omega)) (nI_clamp (by omega)) (nI_clamp (by omega)) (by omega) (by show K * 4 ≤ _; omega) (by omega) rfl rfl (by omega) (by omega) (fun c9 => by show ({ cls := c9, slots := Array.replicate K (defaultValue .int), vm := .none } : Cell) = _; rw [arrV_new]; rfl) hd fun q r cN H1 hinj hnl hK1 hP1 hD1 hS1 => ?_
  have hcN : cN = cA 4 := by
    have h1 : s.vm.findClass _ = some cN := (hK1.2 (zTys cA).length (cN, .array .int) (by simp)).2
    have h2 : s.vm.findClass _ = some (cA 4) := (hK.2 4 (cA 4, .array .int) rfl).2
    exact Option.some.inj (h1.symm.trans h2)
  subst hcN
  have hlt : ∀ k, k < sh.length → zAsM as sh.length N q r k = as k := fun k hk => by
    unfold zAsM
    rw [if_neg (by omega), if_neg (by omega)]
  have hgt : ∀ k, sh.length + N < k → zAsM as sh.length N q r k = as k := fun k hk => by
    unfold zAsM
    rw [if_neg (by omega), if_neg (by omega)]
  have hrow : ∀ i, i < N → zAsM as sh.length N q r (sh.length + 1 + i) = r i := fun i hi => by
    unfold zAsM
    rw [if_neg (by omega), if_pos ⟨by omega, by omega⟩]
    congr 1
    omega
  have hq : zAsM as sh.length N q r sh.length = q := if_pos rfl
  have hw : zWd cA (zAsM as sh.length N q r) ex M 0 (sh ++ .inl (4, N, .inr (.inr (.inr (.inr (zRowG sh.length N))))) :: List.replicate N (.inl (0, K, .inl (fun _ => 0)))) =
      (zWd cA as ex M 0 sh ++ [(q, .inl (cA 4, N, .inr (.inr (.inr (.inr (fun i => if i < N then some (r i) else none))))))]) ++ va_pl ([] ++ (List.range N).map r) (vr_up (fun _ => .inr (0, [])) ((List.range N).map r) (.inl (cA 0, (K, .inl (fun _ => 0))))) := by
    rw [zWd_app, zWd_as (n := sh.length) (as := as) hc (by omega) hlt, List.append_assoc]
    congr 1
    rw [Nat.zero_add]
    show (zAsM as sh.length N q r sh.length, _) :: zWd cA _ ex M (sh.length + 1) (List.replicate N _) = _
    rw [zWd_rep (e0 := .inl (cA 0, (K, .inl (fun _ => 0)))) (fun i hi => by
      show (Sum.inl (cA 0, K, Sum.inl (M (sh.length + 1 + i))) : va_E) = _
      rw [hM _ (by omega) (by omega)]), hq]
    show _ :: _ = (q, _) :: va_pl ((List.range N).map r) _
    congr 1
    · refine congrArg (fun g : Nat → Option Nat => ((q, Sum.inl (cA 4, N, Sum.inr (Sum.inr (Sum.inr (Sum.inr g))))) : Nat × va_E)) (funext fun i => ?_)
      unfold zRowG
      by_cases hi : i < N
      · simp [hi, hrow i hi]
      · simp [hi]
    · unfold va_pl
      rw [List.map_map]
      apply List.map_congr_left
      intro i hi
      have hi := List.mem_range.mp hi
      show (zAsM as sh.length N q r (sh.length + 1 + i), _) = (r i, _)
      rw [hrow i hi, vr_up_in (List.mem_map.mpr ⟨i, List.mem_range.mpr hi, rfl⟩)]
  rw [← hw] at hP1 hD1
  have E : zEv Y p l R s m args meth c D cA ex A := ⟨hx0, hb, hml, hown, hts, hK, hA, hSt, hfl, hlk, hret, hnm, hfr, hlo⟩
  have := k9 p l e9 R s m args below meth c D cA ex A E Q (cells + (1 + N)) (slots + (N + N * K)) (zAsM as sh.length N q r) (by omega) (by omega) (fun S' as' ha hz => by
    have := kk S' as' (by
      obtain ⟨a1, a2⟩ := ha
      simp only [List.length_append, List.length_cons, List.length_replicate] at a1 a2
      exact ⟨by show sh.length ≤ _; omega, fun k hk => by
        have hk : k < sh.length ∨ _ ≤ k := hk
        rcases hk with hk | hk
        · rw [a2 k (Or.inl (by omega)), hlt k hk]
        · rw [a2 k (Or.inr hk), hgt k (by omega)]⟩) hz
    rw [← Nat.add_assoc cells, ← Nat.add_assoc slots] at this
    exact this) H1 locs lsR hP1 hD1 hS1 (by show lv_has lsR Y.2.2.1 (zLv _ ex 0 ls); rw [zLv_as hlt hl]; exact hl9)
  have e8 : ((Value.ref sh.length :: st).map (zTr (zAsM as sh.length N q r) ex)) = .ref q :: st.map (zTr as ex) := by
    rw [List.map_cons, zVb_trs hlt hst]
    show Value.ref (zAsM as sh.length N q r sh.length) :: _ = _
    rw [hq]
  have this : W p l e9 R s m args below meth c H1 locs (cells + (1 + N)) (slots + (N + N * K)) Q (F0 m (pc + 4) lsR ((Value.ref sh.length :: st).map (zTr (zAsM as sh.length N q r) ex))) := this
  rw [e8] at this
  rw [← Nat.add_assoc, ← Nat.add_assoc] at this
  exact this
end ZRO
