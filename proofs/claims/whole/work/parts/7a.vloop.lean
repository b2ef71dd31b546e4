/-! THE LOOP of the law -/
theorem K_all {Z : zS → Prop} {kc nc T : Nat} {sl : Nat → Option Nat} {ext : List va_E} {gq : Nat → Nat} {x m : zM} (s : Nat → Int32) (Ns i : Nat) (hNs : Ns < 2 ^ 31) (hi : 6 * i + 6 ≤ Ns) (ob : Nat → Int64) (hE : xE T sl ext gq x m) (hT : T < 2 ^ 28) (k9 : zK9 kc nc Z s Ns (i + 1) (T + 601)) (c : Nat) (hc : c < 36) : zV s Ns (14 + kc) (199 + nc) Z (zCase c, [some (.retAddr 998), some (.ref 22), some (.ref 0), some (.ref 21), some (.int (nI (6 * i))), none, none, none, none], [], sh_W Ns (zGp gq) ob sl ext, zJ s m x) := by
  obtain ⟨n, oz, nx, pc, ty, rp, H⟩ := hE
  match c, hc with
  | 0, _ => exact K_load s Ns i hNs hi ob H hT k9
  | 1, _ => exact K_call s Ns i hNs hi ob H hT k9
  | 2, _ => exact K_seal s Ns i hNs hi ob H hT k9
  | 3, _ => exact K_vote s Ns i hNs hi ob H hT k9
  | 4, _ => exact K_close s Ns i hNs hi ob H hT k9
  | 5, _ => exact K_breakSeal s Ns i hNs hi ob H hT k9
  | 6, _ => exact K_count s Ns i hNs hi ob H hT k9
  | 7, _ => exact K_recount s Ns i hNs hi ob H hT k9
  | 8, _ => exact K_giveUp s Ns i hNs hi ob H hT k9
  | 9, _ => exact K_setUp s Ns i hNs hi ob H hT k9
  | 10, _ => exact K_setLink s Ns i hNs hi ob H hT k9
  | 11, _ => exact K_setFresh s Ns i hNs hi ob H hT k9
  | 12, _ => exact K_set s Ns i hNs hi ob H k9
  | 13, _ => exact K_undo s Ns i hNs hi ob H hT k9
  | 14, _ => exact K_keep s Ns i hNs hi ob H k9
  | 15, _ => exact K_restore s Ns i hNs hi ob H k9
  | 16, _ => exact K_append s Ns i hNs hi ob H hT k9
  | 17, _ => exact K_truncate s Ns i hNs hi ob H k9
  | 18, _ => exact K_office s Ns i hNs hi ob H hT k9
  | 19, _ => exact K_replica s Ns i hNs hi ob H hT k9
  | 20, _ => exact K_isLinked s Ns i hNs hi ob H hT k9
  | 21, _ => exact K_outcome s Ns i hNs hi ob H hT k9
  | 22, _ => exact K_sealFor s Ns i hNs hi ob H hT k9
  | 23, _ => exact K_ahead s Ns i hNs hi ob H hT k9
  | 24, _ => exact K_aheadIf s Ns i hNs hi ob H hT k9
  | 25, _ => exact K_canWin s Ns i hNs hi ob H hT k9
  | 26, _ => exact K_wouldSpoil s Ns i hNs hi ob H hT k9
  | 27, _ => exact K_nonceFor s Ns i hNs hi ob H hT k9
  | 28, _ => exact K_callers s Ns i hNs hi ob H hT k9
  | 29, _ => exact K_vital s Ns i hNs hi ob H hT k9
  | 30, _ => exact K_why s Ns i hNs hi ob H hT k9
  | 31, _ => exact K_gap s Ns i hNs hi ob H hT k9
  | 32, _ => exact K_turnout s Ns i ob H k9
  | 33, _ => exact K_meanAge s Ns i ob H k9
  | 34, _ => exact K_writeVotes s Ns i hNs hi ob H hT k9
  | 35, _ => exact K_reportByte s Ns i hNs hi ob H hT k9
  | c + 36, h => exact absurd h (by omega)
/-- the law's last step but one -/
def zFin (S : zS) : Prop := S.1 = 2025 ∧ S.2.2.1 = [.int 1]
abbrev zSt6 : Type := (Nat → Int64) × (Nat → Nat) × (Nat → Option Nat) × List va_E × zM × zM
theorem L_loop (s : Nat → Int32) (Ns : Nat) (hNs : Ns ≤ 3072) (T : Nat) (hT : T < 2 ^ 27) (u : zSt6) (hE : xE T u.2.2.1 u.2.2.2.1 u.2.1 u.2.2.2.2.2 u.2.2.2.2.1) : zV s Ns 7168 101888 zFin (23, [some (.retAddr 998), some (.ref 22), some (.ref 0), some (.ref 21), some (.int (nI (6 * 0))), none, none, none, none], [], sh_W Ns (zGp u.2.1) u.1 u.2.2.1 u.2.2.2.1, zJ s u.2.2.2.2.1 u.2.2.2.2.2) := by
  have hn : Ns / 6 ≤ 512 := by omega
  have h := zV.rounds (s := s) (Ns := Ns) (K := 14) (N := 199) (Z := zFin) (St := zSt6) (fun i u => xE (T + 601 * i) u.2.2.1 u.2.2.2.1 u.2.1 u.2.2.2.2.2 u.2.2.2.2.1) (fun i u => (23, [some (.retAddr 998), some (.ref 22), some (.ref 0), some (.ref 21), some (.int (nI (6 * i))), none, none, none, none], [], sh_W Ns (zGp u.2.1) u.1 u.2.2.1 u.2.2.2.1, zJ s u.2.2.2.2.1 u.2.2.2.2.2)) (Ns / 6) (fun u hu => ?_) (fun i hi u hu kc nc k => ?_) (Ns / 6) 0 (by omega) u hE
  · exact h.widen (by omega) (by omega)
  · exact L_head s Ns (Ns / 6) (by omega) (by omega) (zGp u.2.1) u.1 u.2.2.1 u.2.2.2.1 u.2.2.2.2.1 u.2.2.2.2.2 (fun _ => zV.here ⟨rfl, rfl⟩) (fun h => absurd h (by omega))
  · have k9 : zK9 kc nc zFin s Ns (i + 1) (T + 601 * i + 601) := fun ob' gq' sl' ext' m' x' hE' => k ⟨ob', gq', sl', ext', m', x'⟩ (by
      show xE (T + 601 * (i + 1)) sl' ext' gq' x' m'
      rw [show T + 601 * (i + 1) = T + 601 * i + 601 by omega]
      exact hE')
    refine L_head s Ns i (by omega) (by omega) (zGp u.2.1) u.1 u.2.2.1 u.2.2.2.1 u.2.2.2.2.1 u.2.2.2.2.2 (fun h => absurd h (by omega)) (fun hle => ?_)
    refine L_sw _ (fun c hc _ => K_all s Ns i (by omega) hle u.1 hu (by omega) k9 c hc) (fun _ => ?_)
    obtain ⟨n, oz, nx, pc, ty, rp, H⟩ := hu
    exact (L_def s Ns i (zGp u.2.1) u.1 u.2.2.1 u.2.2.2.1 u.2.2.2.2.1 u.2.2.2.2.2 (k9 _ _ _ _ _ _ H.up)).widen (by omega) (by omega)
