/-! bs_R: the class's state and the reference's -/
abbrev bs_V0 : Nat → Int32 := bs_kw (bs_Kx bs_KK 0)
abbrev bs_V1 : Nat → Int32 := bs_kw (bs_Kx bs_KK 1)
abbrev bs_cK (fb : Nat → Int32) (n : Nat) : Nat → Bool := bs_cb bs_CTf bs_SBf bs_V0 bs_V1 fb (nI n)
abbrev bs_sK (fb : Nat → Int32) (n : Nat) : Nat → Int64 := bs_sh bs_CTf bs_SBf bs_V0 bs_V1 fb (nI n)
/-- key n -/
def bs_RK (n : Nat) (fb : Nat → Int32) (ff fs : Nat → Int64) (ft fk ts hh : Nat → Int32) (ss : Nat → Int64) : Prop :=
  (∀ j, j < 160 → fb j = fk (160 * n + j)) ∧ bs_ck bs_CTf bs_SBf bs_V0 bs_V1 fb (nI n) ff fs ft ∧ (ts n = 0 → ∀ i, i < 256 → hh (256 * n + i) = bs_z (bs_cK fb n i) ∧ ss (256 * n + i) = bs_sK fb n i)
/-- the bytes are bytes -/
def bs_By (fk : Nat → Int32) : Prop := ∀ j, j < 320 → ∃ n, n < 256 ∧ fk j = nI n
/-- shelf n -/
def bs_RS (n B v : Nat) (lc : Int32) (fr : Nat → Nat → Int64) (fo fv fp : Nat → Int64) (nv fc : Nat → Int32) : Prop :=
  v ≤ B ∧ nv n = nI v ∧ fc n = lc ∧ (∀ r, r < 9 → ∀ j, j < 256 → fr r j = fv (256 * (9 * n + r) + j)) ∧ ∀ j, j < 256 → fo j = fp (256 * n + j)
/-- mailbox n -/
def bs_RL (n : Nat) (fl fx : Nat → Int64) : Prop := ∀ j, j < 256 → fl j = fx (256 * n + j)
theorem bs_RK_hst {n : Nat} {fb : Nat → Int32} {ff fs : Nat → Int64} {ft fk ts hh : Nat → Int32} {ss : Nat → Int64} (hn : n < 2) (h : bs_RK n fb ff fs ft fk ts hh ss) : ts n = 0 → ∀ i, i < 256 → hh (256 * n + i) = bs_chm bs_KK fk n i ∧ ss (256 * n + i) = bs_shm bs_KK fk n i := by
  intro h1 i hi
  obtain ⟨a, b⟩ := h.2.2 h1 i hi
  have e1 : bs_cK fb n i = bs_cm bs_KK fk n i := bs_t_cb bs_KK_lt hn hi h.1
  have e2 : bs_sK fb n i = bs_shm bs_KK fk n i := bs_t_sh bs_KK_lt hn hi h.1
  refine ⟨?_, ?_⟩
  · rw [a, e1]
    rfl
  · rw [b, e2]
theorem bs_RK_ck {n : Nat} {fb : Nat → Int32} {ff fs ff2 fs2 : Nat → Int64} {ft ft2 fk ts hh : Nat → Int32} {ss : Nat → Int64} (h : bs_RK n fb ff fs ft fk ts hh ss) (h2 : bs_ck bs_CTf bs_SBf bs_V0 bs_V1 fb (nI n) ff2 fs2 ft2) : bs_RK n fb ff2 fs2 ft2 fk ts hh ss := ⟨h.1, h2, h.2.2⟩
theorem bs_RK_so {n : Nat} {fb : Nat → Int32} {ff fs : Nat → Int64} {ft fk ts hh : Nat → Int32} {ss : Nat → Int64} (hn : n < 2) (h : bs_RK n fb ff fs ft fk ts hh ss) : bs_RK n fb ff fs ft fk (upd ts n (nI 0)) (bs_so (bs_chm bs_KK fk n) hh n 256) (bs_so (bs_shm bs_KK fk n) ss n 256) := by
  refine ⟨h.1, h.2.1, fun _ i hi => ?_⟩
  have e1 : bs_cK fb n i = bs_cm bs_KK fk n i := bs_t_cb bs_KK_lt hn hi h.1
  have e2 : bs_sK fb n i = bs_shm bs_KK fk n i := bs_t_sh bs_KK_lt hn hi h.1
  rw [bs_so_at _ _ _ hi, bs_so_at _ _ _ hi]
  refine ⟨?_, ?_⟩
  · show bs_chm bs_KK fk n i = bs_z (bs_cK fb n i)
    rw [e1]
    rfl
  · exact e2.symm
theorem bs_RK_so' {n k : Nat} {fb : Nat → Int32} {ff fs : Nat → Int64} {ft fk ts hh : Nat → Int32} {ss : Nat → Int64} (hk : ¬ k = n) (h : bs_RK n fb ff fs ft fk ts hh ss) (x : Int32) (F : Nat → Int32) (G : Nat → Int64) : bs_RK n fb ff fs ft fk (upd ts k x) (bs_so F hh k 256) (bs_so G ss k 256) := by
  refine ⟨h.1, h.2.1, fun h1 i hi => ?_⟩
  rw [bs_upd_ne _ _ (fun q => hk q.symm)] at h1
  rw [bs_so_ne _ _ hk hi (Nat.le_refl _), bs_so_ne _ _ hk hi (Nat.le_refl _)]
  exact h.2.2 h1 i hi
theorem bs_nI1 : ¬ nI 1 = 0 := by decide +kernel
theorem bs_RK_set {n i : Nat} {fb : Nat → Int32} {ff fs : Nat → Int64} {ft fk ts hh : Nat → Int32} {ss : Nat → Int64} (h : bs_RK n fb ff fs ft fk ts hh ss) (x : Int32) (ff2 fs2 : Nat → Int64) (ft2 : Nat → Int32) : bs_RK n (upd fb i x) (vp_updL ff2 1 (bs_rd (upd fb i x) 0 8)) (vp_updL fs2 1 (bs_rd (upd fb i x) 8 8)) (upd (bs_fill ft2 (-1) 512) 1 (nI n)) (upd fk (160 * n + i) x) (upd ts n (nI 1)) hh ss := by
  refine ⟨fun j hj => ?_, bs_ck_new _ _ _ _ _ _ _ _ _, fun h1 => ?_⟩
  · by_cases e : j = i
    · subst e
      rw [bs_upd_at, bs_upd_at]
    · rw [bs_upd_ne _ _ e, bs_upd_ne _ _ (by omega)]
      exact h.1 j hj
  · rw [bs_upd_at] at h1
    exact absurd h1 bs_nI1
theorem bs_RK_set' {n k i : Nat} {fb : Nat → Int32} {ff fs : Nat → Int64} {ft fk ts hh : Nat → Int32} {ss : Nat → Int64} (hk : ¬ k = n) (hi : i < 160) (h : bs_RK n fb ff fs ft fk ts hh ss) (x y : Int32) : bs_RK n fb ff fs ft (upd fk (160 * k + i) x) (upd ts k y) hh ss := by
  refine ⟨fun j hj => ?_, h.2.1, fun h1 => ?_⟩
  · rw [bs_upd_ne _ _ (by omega)]
    exact h.1 j hj
  · rw [bs_upd_ne _ _ (fun q => hk q.symm)] at h1
    exact h.2.2 h1
theorem bs_By_set {fk : Nat → Int32} {j : Nat} (h : bs_By fk) (x : Int32) : bs_By (upd fk j (x &&& nI 255)) := by
  intro i hi
  by_cases e : i = j
  · subst e
    rw [bs_upd_at]
    obtain ⟨m, hm, e2⟩ := pk_andE x (m := nI 255) 8 (by decide +kernel)
    exact ⟨m, hm, e2⟩
  · rw [bs_upd_ne _ _ e]
    exact h i hi
theorem bs_By_wr {fk : Nat → Int32} (h : bs_By fk) (a : Nat) (v : Int64) (n : Nat) : bs_By (bs_wr fk a v n) := by
  intro j hj
  unfold bs_wr
  by_cases e : a ≤ j ∧ j < a + n
  · rw [if_pos e]
    exact ⟨_, bs_lb_lt _ _, rfl⟩
  · rw [if_neg e]
    exact h j hj
theorem bs_fl_by : ∀ (p q : Bool) (x : Nat), x < 2 → ∃ n, n < 256 ∧ bs_fl1 p x ||| bs_fl1 q (1 - x) = nI n := by
  intro p q x hx
  have hx : x = 0 ∨ x = 1 := by omega
  rcases hx with rfl | rfl <;> cases p <;> cases q
  · exact ⟨0, by decide, by decide +kernel⟩
  · exact ⟨2, by decide, by decide +kernel⟩
  · exact ⟨1, by decide, by decide +kernel⟩
  · exact ⟨3, by decide, by decide +kernel⟩
  · exact ⟨0, by decide, by decide +kernel⟩
  · exact ⟨1, by decide, by decide +kernel⟩
  · exact ⟨2, by decide, by decide +kernel⟩
  · exact ⟨3, by decide, by decide +kernel⟩
theorem bs_By_lvm {fk : Nat → Int32} (h : bs_By fk) (a : Nat) (z r : Int64) {fl : Int32} (hf : ∃ n, n < 256 ∧ fl = nI n) : bs_By (bs_lvm fk a z r fl) := by
  intro j hj
  unfold bs_lvm
  by_cases e : j = a + 16
  · subst e
    rw [bs_upd_at]
    exact hf
  · rw [bs_upd_ne _ _ e]
    exact bs_By_wr (bs_By_wr h _ _ _) _ _ _ j hj
theorem bs_By_ykb {fk : Nat → Int32} (h : bs_By fk) (K : Nat → Nat) (pl : Nat) (y : bs_N6) : ∀ i, bs_By (bs_ykb K pl y fk i)
  | 0 => h
  | i + 1 => bs_By_lvm (bs_By_lvm (bs_By_ykb h K pl y i) _ _ _ (bs_fl_by _ _ _ (Nat.mod_lt _ (by decide)))) _ _ _ (bs_fl_by _ _ _ (Nat.mod_lt _ (by decide)))
theorem bs_By_ykm {fk : Nat → Int32} (h : bs_By fk) (K : Nat → Nat) (pl : Nat) (y : bs_N6) (msg : Int64) : bs_By (bs_ykm K pl y msg fk) :=
  bs_By_wr (bs_By_wr (bs_By_ykb (bs_By_wr (bs_By_wr (bs_By_wr (bs_By_wr h _ _ _) _ _ _) _ _ _) _ _ _) K pl y 8) _ _ _) _ _ _
theorem bs_RS_put {n B v i : Nat} {lc : Int32} {fr : Nat → Nat → Int64} {fo fv fp : Nat → Int64} {nv fc : Nat → Int32} (h : bs_RS n B v lc fr fo fv fp nv fc) (w : Int64) : bs_RS n B v lc fr (vp_updL fo i w) fv (vp_updL fp (256 * n + i) w) nv fc := by
  refine ⟨h.1, h.2.1, h.2.2.1, h.2.2.2.1, fun j hj => ?_⟩
  by_cases e : j = i
  · subst e
    rw [pk_uLs, pk_uLs]
  · rw [pk_uLn e, pk_uLn (by omega)]
    exact h.2.2.2.2 j hj
theorem bs_RS_put' {n k B v i : Nat} {lc : Int32} {fr : Nat → Nat → Int64} {fo fv fp : Nat → Int64} {nv fc : Nat → Int32} (hk : ¬ k = n) (hi : i < 256) (h : bs_RS n B v lc fr fo fv fp nv fc) (w : Int64) : bs_RS n B v lc fr fo fv (vp_updL fp (256 * k + i) w) nv fc := by
  refine ⟨h.1, h.2.1, h.2.2.1, h.2.2.2.1, fun j hj => ?_⟩
  rw [pk_uLn (by omega)]
  exact h.2.2.2.2 j hj
theorem bs_RS_le {n B B2 v : Nat} {lc : Int32} {fr : Nat → Nat → Int64} {fo fv fp : Nat → Int64} {nv fc : Nat → Int32} (h : bs_RS n B v lc fr fo fv fp nv fc) (hB : B ≤ B2) : bs_RS n B2 v lc fr fo fv fp nv fc := ⟨Nat.le_trans h.1 hB, h.2⟩
/-- what the reference counts as changed, by the class's rows -/
theorem bs_RS_chg {n B v : Nat} {lc : Int32} {fr : Nat → Nat → Int64} {fo fv fp : Nat → Int64} {nv fc : Nat → Int32} (h : bs_RS n B v lc fr fo fv fp nv fc) : bs_chg fo (fr (v % 9)) 256 = bs_chg (bs_fa fp (256 * n)) (bs_fa fv (256 * (9 * n + v % 9))) 256 :=
  bs_t_chg (fun j hj => h.2.2.2.2 j hj) (fun j hj => h.2.2.2.1 _ (Nat.mod_lt _ (by decide)) j hj) 256 (Nat.le_refl _)
theorem bs_RS_close {n B v : Nat} {lc : Int32} {fr : Nat → Nat → Int64} {fo fv fp : Nat → Int64} {nv fc : Nat → Int32} (h : bs_RS n B v lc fr fo fv fp nv fc) : bs_RS n (B + 1) (v + 1) (nI (bs_chg fo (fr (v % 9)) 256)) (fun r => bs_rw fo fr ((v + 1) % 9) r) fo (bs_so (bs_fa fp (256 * n)) fv (9 * n + (v + 1) % 9) 256) fp (upd nv n (nI (v + 1))) (upd fc n (nI (bs_chg (bs_fa fp (256 * n)) (bs_fa fv (256 * (9 * n + v % 9))) 256))) := by
  refine ⟨Nat.succ_le_succ h.1, bs_upd_at _ _ _, ?_, fun r hr j hj => ?_, h.2.2.2.2⟩
  · rw [bs_upd_at, bs_RS_chg h]
  · show bs_rw fo fr ((v + 1) % 9) r j = _
    unfold bs_rw
    by_cases e : r = (v + 1) % 9
    · rw [if_pos e, e, bs_so_at _ _ _ hj]
      exact h.2.2.2.2 j hj
    · rw [if_neg e, bs_so_ne _ _ (fun q => e (by omega)) hj (Nat.le_refl _)]
      exact h.2.2.2.1 r hr j hj
theorem bs_RS_close' {n k B v r9 : Nat} {lc : Int32} {fr : Nat → Nat → Int64} {fo fv fp : Nat → Int64} {nv fc : Nat → Int32} (hk : ¬ k = n) (hr9 : r9 < 9) (h : bs_RS n B v lc fr fo fv fp nv fc) (F : Nat → Int64) (x y : Int32) : bs_RS n (B + 1) v lc fr fo (bs_so F fv (9 * k + r9) 256) fp (upd nv k x) (upd fc k y) := by
  refine ⟨Nat.le_succ_of_le h.1, ?_, ?_, fun r hr j hj => ?_, h.2.2.2.2⟩
  · rw [bs_upd_ne _ _ (fun q => hk q.symm)]
    exact h.2.1
  · rw [bs_upd_ne _ _ (fun q => hk q.symm)]
    exact h.2.2.1
  · rw [bs_so_ne _ _ (fun q => hk (by omega)) hj (Nat.le_refl _)]
    exact h.2.2.2.1 r hr j hj
theorem bs_RL_dep {n : Nat} {fl fx : Nat → Int64} (h : bs_RL n fl fx) {F G : Nat → Int64} (hF : ∀ j, j < 256 → F j = G j) : bs_RL n (fun j => fl j ^^^ F j) (bs_so (fun j => fx (256 * n + j) ^^^ G j) fx n 256) := by
  intro j hj
  rw [bs_so_at _ _ _ hj]
  show fl j ^^^ F j = fx (256 * n + j) ^^^ G j
  rw [h j hj, hF j hj]
theorem bs_RL_dep' {n k : Nat} {fl fx : Nat → Int64} (hk : ¬ k = n) (h : bs_RL n fl fx) (F : Nat → Int64) : bs_RL n fl (bs_so F fx k 256) := by
  intro j hj
  rw [bs_so_ne _ _ hk hj (Nat.le_refl _)]
  exact h j hj
theorem bs_rd_r0 (f : Nat → Int32) (x y : Int64) : bs_rd (bs_wr (bs_wr f 0 x 8) 8 y 8) 0 8 = x := bs_rd_lb _ _ _ (fun i hi => by
  show bs_wr (bs_wr f 0 x 8) 8 y 8 (0 + i) = nI (bs_lb x i)
  unfold bs_wr
  rw [if_neg (by omega), if_pos (by omega), show 0 + i - 0 = i by omega])
theorem bs_rd_r8 (f : Nat → Int32) (x y : Int64) : bs_rd (bs_wr (bs_wr f 0 x 8) 8 y 8) 8 8 = y := bs_rd_lb _ _ _ (fun i hi => by
  show bs_wr (bs_wr f 0 x 8) 8 y 8 (8 + i) = nI (bs_lb y i)
  unfold bs_wr
  rw [if_pos (by omega), show 8 + i - 8 = i by omega])
theorem bs_u_root (f0 f1 : Nat → Int32) (fa ga fe ge : Int64) : ((bs_rd (bs_wr (bs_wr f0 0 fa 8) 8 ga 8) 0 8, bs_rd (bs_wr (bs_wr f1 0 fe 8) 8 ge 8) 0 8, bs_rd (bs_wr (bs_wr f0 0 fa 8) 8 ga 8) 8 8, bs_rd (bs_wr (bs_wr f1 0 fe 8) 8 ge 8) 8 8, nI 0, nI 1) : bs_M6) = bs_uy (fa, fe, ga, ge, false, true) := by
  rw [bs_rd_r0, bs_rd_r0, bs_rd_r8, bs_rd_r8]
  rfl
/-- both keys made: key n -/
theorem bs_RK_make {n : Nat} (hn : n < 2) {root fk : Nat → Int32} (pl : Nat) (y : bs_N6) (msg : Int64) {u : bs_M6} (hu : u = bs_uy y) (hr : ∀ j, j < 160 → root j = bs_yk0 fk y.1 y.2.2.1 y.2.1 y.2.2.2.1 (160 * n + j)) {FB : Nat → Int32} (hF : FB = bs_wr (bs_mkb bs_CTf bs_SBf bs_V0 bs_V1 pl u root 8) 152 ((msg ^^^ (bs_mks bs_CTf bs_SBf bs_V0 bs_V1 pl u 8).1) ^^^ (bs_mks bs_CTf bs_SBf bs_V0 bs_V1 pl u 8).2.1) 8) (ff fs : Nat → Int64) (ft ts hh : Nat → Int32) (ss : Nat → Int64) :
    bs_RK n FB (vp_updL ff 1 (bs_rd FB 0 8)) (vp_updL fs 1 (bs_rd FB 8 8)) (upd (bs_fill ft (-1) 512) 1 (nI n)) (bs_ykm bs_KK pl y msg fk) (upd (upd ts 0 (nI 1)) 1 (nI 1)) hh ss := by
  refine ⟨fun j hj => ?_, bs_ck_new _ _ _ _ _ _ _ _ _, fun h1 => ?_⟩
  · rw [hF, hu, bs_t_mks bs_KK_lt]
    exact bs_t_last hn _ (bs_t_mkb bs_KK_lt pl y hn hr 8 (Nat.le_refl _)) hj
  · have h2 : n = 0 ∨ n = 1 := by omega
    rcases h2 with rfl | rfl
    · rw [bs_upd_ne _ _ (by decide), bs_upd_at] at h1
      exact absurd h1 bs_nI1
    · rw [bs_upd_at] at h1
      exact absurd h1 bs_nI1
