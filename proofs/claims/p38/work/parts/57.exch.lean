/-! ===== the law's exchange ===== -/
/-- three new rows -/
def X3 (h : aH) (a b g : Nat) (fa fb fg : Nat → Int32) : aH := hset (hset (hset h a (10, 36, fun k => .int (fa k))) b (10, 36, fun k => .int (fb k))) g (10, 20, fun k => .int (fg k))
def xok (sz a b g : Nat) : Prop := sz ≤ a ∧ a < b ∧ b < g
section X3S
variable {h : aH} {sz a b g : Nat} {fa fb fg : Nat → Int32}
theorem X3_ga (hx : xok sz a b g) : X3 h a b g fa fb fg a = some (10, 36, fun k => .int (fa k)) := by
  obtain ⟨h1, h2, h3⟩ := hx
  unfold X3
  rw [hset_n (by omega), hset_n (by omega), hset_s]
theorem X3_gb (hx : xok sz a b g) : X3 h a b g fa fb fg b = some (10, 36, fun k => .int (fb k)) := by
  obtain ⟨h1, h2, h3⟩ := hx
  unfold X3
  rw [hset_n (by omega), hset_s]
theorem X3_gg : X3 h a b g fa fb fg g = some (10, 20, fun k => .int (fg k)) := by
  unfold X3
  rw [hset_s]
theorem X3_o (hx : xok sz a b g) {x : Nat} (h9 : x < sz) : X3 h a b g fa fb fg x = h x := by
  obtain ⟨h1, h2, h3⟩ := hx
  unfold X3
  rw [hset_n (by omega), hset_n (by omega), hset_n (by omega)]
theorem X3_p (hx : xok sz a b g) {x : Nat} (h9 : x < sz) {c : aC} (h8 : h x = some c) : X3 h a b g fa fb fg x = some c := (X3_o hx h9).trans h8
theorem X3_sa (hx : xok sz a b g) {k : Nat} {y : Int32} : hset (X3 h a b g fa fb fg) a (10, 36, updV (fun k => .int (fa k)) k (.int y)) = X3 h a b g (upd fa k y) fb fg := by
  obtain ⟨h1, h2, h3⟩ := hx
  rw [updV_int]
  funext x
  unfold X3
  by_cases e : x = a
  · subst e
    rw [hset_s, hset_n (by omega), hset_n (by omega), hset_s]
  · rw [hset_n e]
    by_cases e2 : x = g
    · subst e2; rw [hset_s, hset_s]
    · rw [hset_n e2, hset_n e2]
      by_cases e3 : x = b
      · subst e3; rw [hset_s, hset_s]
      · rw [hset_n e3, hset_n e3, hset_n e, hset_n e]
theorem X3_sb (hx : xok sz a b g) {k : Nat} {y : Int32} : hset (X3 h a b g fa fb fg) b (10, 36, updV (fun k => .int (fb k)) k (.int y)) = X3 h a b g fa (upd fb k y) fg := by
  obtain ⟨h1, h2, h3⟩ := hx
  rw [updV_int]
  funext x
  unfold X3
  by_cases e3 : x = b
  · subst e3; rw [hset_s, hset_n (by omega), hset_s]
  · rw [hset_n e3]
    by_cases e2 : x = g
    · subst e2; rw [hset_s, hset_s]
    · rw [hset_n e2, hset_n e2, hset_n e3, hset_n e3]
theorem X3_sg {k : Nat} {y : Int32} : hset (X3 h a b g fa fb fg) g (10, 20, updV (fun k => .int (fg k)) k (.int y)) = X3 h a b g fa fb (upd fg k y) := by
  rw [updV_int]
  unfold X3
  rw [hset2]
end X3S
def cpy (r : Nat → Int32) (i : Nat) : Nat → Int32 := fun k => if k < i then r k else 0
theorem cpy_s (r : Nat → Int32) (i : Nat) : upd (cpy r i) i (r i) = cpy r (i + 1) := by
  funext k
  unfold upd cpy
  by_cases e : k = i
  · rw [if_pos e, if_pos (by omega), e]
  · rw [if_neg e]
    by_cases e2 : k < i
    · rw [if_pos e2, if_pos (by omega)]
    · rw [if_neg e2, if_neg (by omega)]
theorem okpq_c {F : Nat → Nat} {pr qr : Nat → Int32} (h : okpq F pr qr) : okpq F (cpy pr 36) (cpy qr 36) := ⟨h.1, fun k hk => by
  unfold cpy
  rw [if_pos hk, if_pos hk]
  exact h.2 k hk⟩
/-- who can capture on t -/
def ccb (F : Nat → Nat) (t k : Nat) : Bool := hld F k (1 - sd (F t)) && (gfr F k).testBit t
def l99 (F : Nat → Nat) : Option Nat → Nat
  | none => 99
  | some k => wr (F k)
theorem l99_le (F : Nat → Nat) (o : Option Nat) : l99 F o ≤ 99 := by
  cases o with
  | none => exact Nat.le_refl 99
  | some k => have := wr_le (F k); show wr (F k) ≤ 99; omega
theorem chb_y {F : Nat → Nat} {b : Nat → Bool} {k : Nat} (h : b k = true) (h2 : wr (F k) < l99 F (chb F b k)) : chb F b (k + 1) = some k := by
  unfold chb
  rw [if_pos h]
  cases hc : chb F b k with
  | none => rfl
  | some j =>
    rw [hc] at h2
    dsimp only
    rw [if_pos (show wr (F k) < wr (F j) from h2)]
theorem chb_n {F : Nat → Nat} {b : Nat → Bool} {k : Nat} (h : b k = true) (h2 : ¬ wr (F k) < l99 F (chb F b k)) : chb F b (k + 1) = chb F b k := by
  have e : chb F b (k + 1) = if b k then (match chb F b k with
    | none => some k
    | some j => if wr (F k) < wr (F j) then some k else some j) else chb F b k := rfl
  rw [e, if_pos h]
  cases hc : chb F b k with
  | none =>
    rw [hc] at h2
    have := wr_le (F k)
    exact absurd (show wr (F k) < 99 by omega) h2
  | some j =>
    rw [hc] at h2
    dsimp only
    rw [if_neg (show ¬ wr (F k) < wr (F j) from h2)]
theorem chb_o {F : Nat → Nat} {b : Nat → Bool} {k : Nat} (h : b k = false) : chb F b (k + 1) = chb F b k := by
  have e : chb F b (k + 1) = if b k then (match chb F b k with
    | none => some k
    | some j => if wr (F k) < wr (F j) then some k else some j) else chb F b k := rfl
  rw [e, h, if_neg (by decide)]
theorem chb_cam {F : Nat → Nat} (hF : okF F) {t : Nat} (ht : t < 36) : chb F (ccb F t) 36 = cam F (1 - sd (F t)) t := chb_ext (fun k hk => by
  unfold ccb cab
  rw [gfr_gop hF hk ht])
theorem wr_e {v : Nat} (h : v < 128) : wst (stp v) + v / 32 % 2 * 10 = wr v := by
  unfold wr ldr
  rcases (show v / 32 % 2 = 0 ∨ v / 32 % 2 = 1 by omega) with g | g <;> (rw [g]; simp)
theorem ct_Lw_worthF {E : zE} (hE : zEv E) {l : Launch} (hl : l.stackTraces = false) (v : Nat) (hv : v < 128) (h : aH) (sz : Nat) : zM E l y_Lw_worth [.code y_Lw_worth c_Lw_worth 4 (some .int)] rm_Lw_worth [.int (nI (stp v)), .int (nI (v / 32))] h sz (zRet (some (.int (nI (wr v)))) h sz) := by
  have := ct_Lw_worth hE hl (stp v) (stp_lt v) (v / 32) (by omega) h sz
  rw [wr_e hv] at this
  exact this
theorem bit_1 {a t : Nat} (ha : a < 2 ^ 62) (ht : t < 64) : lg_cmp (lN a >>> ((nI t).toInt64 &&& 63) &&& lN 1) (lN 1) = 0 ↔ a.testBit t = true := by
  rw [lN_shr ha ht]
  have h9 : a / 2 ^ t < 2 ^ 64 := Nat.lt_of_le_of_lt (Nat.div_le_self _ _) (by omega)
  rw [show lN 1 = (1 : Int64) from rfl, wb_a1 h9, Nat.testBit_eq_decide_div_mod_eq]
  rcases (show a / 2 ^ t % 2 = 0 ∨ a / 2 ^ t % 2 = 1 by omega) with g | g
  · rw [g]; decide
  · rw [g]; decide
theorem tb_x : ∀ a, a < 128 → ∀ v, v < 128 → nI (stp v) ||| nI (stp a) = nI (stp (lra a v)) ∧ lra a v / 32 = a / 32 := by decide +kernel
theorem okpq_mv {F : Nat → Nat} {fa fb : Nat → Int32} (h : okpq F fa fb) {j t : Nat} (hj : j < 36) (ht : t < 36) (hjt : j ≠ t) (h0 : F j ≠ 0) : okpq (mvF F j t) (upd (upd fa t (nI (stp (F t)) ||| nI (stp (F j)))) j (nI 0)) (upd fb t (nI (F j / 32))) := by
  refine ⟨okF_mv h.1 hj, fun k hk => ?_⟩
  obtain ⟨g1, g2⟩ := tb_x _ (h.1 j hj) _ (h.1 t ht)
  unfold mvF
  by_cases e : k = j
  · subst e
    rw [if_pos rfl, upd_s]
    exact ⟨rfl, fun _ => rfl, fun z => absurd rfl z⟩
  · rw [if_neg e, upd_n e]
    by_cases e2 : k = t
    · subst e2
      rw [if_pos rfl, upd_s, upd_s, crr_lra, g1, g2]
      refine ⟨rfl, fun z => ?_, fun _ => rfl⟩
      have h9 : stp (F j) = 0 := by
        have : nI (stp (F k)) ||| nI (stp (F j)) = nI 0 := by rw [g1, z]
        rw [nI_or] at this
        have h5 := nI_inj32 (Nat.lt_trans (Nat.or_lt_two_pow (n := 5) (stp_lt _) (stp_lt _)) (by decide)) (by decide) this
        exact (Nat.or_eq_zero_iff.mp h5).2
      exact absurd ((h.2 j hj).2.1 h9) h0
    · rw [if_neg e2, upd_n e2, upd_n e2]
      exact h.2 k hk
theorem nI_slt {a w : Nat} (h : a < w) (ha : a < 36) (hw : w < 36) : nI a - nI w < 0 := by
  have e : nI a - nI w = -(nI (w - a)) := by
    rw [← nI_sub (by omega)]
    grind
  rw [e]
  have : ∀ d, d < 36 → d ≠ 0 → -(nI d) < 0 := by decide +kernel
  exact this (w - a) (by omega) (by omega)
theorem gw_t : ∀ a, a < 36 → ∀ w, w < 36 → (0 ≤ nI a - nI w → nI a - nI w = nI (a - w)) ∧ (¬ 0 ≤ nI a - nI w → a - w = 0) := by
  intro a ha w hw
  by_cases e : w ≤ a
  · rw [nI_sub e]
    refine ⟨fun _ => rfl, fun z => absurd (Int32.not_lt.mp (nI_nn (a := a - w) (by omega))) z⟩
  · refine ⟨fun z => ?_, fun _ => by omega⟩
    exact absurd z (Int32.not_le.mpr (nI_slt (by omega) (by omega) (by omega)))
theorem exM_j {d : Nat} {F : Nat → Nat} {q k : Nat} (h : cam F (1 - sd (F q)) q = some k) : exM (d + 1) F q = wr (F q) - exM d (mvF F k q) q := by
  have e : exM (d + 1) F q = match cam F (1 - sd (F q)) q with
    | none => 0
    | some k => wr (F q) - exM d (mvF F k q) q := rfl
  rw [e, h]
theorem nI_dec (a : Nat) : nI a + (-1) = nI a - nI 1 := by
  rw [Int32.sub_eq_add_neg]
  rfl
theorem nI_pm {m : Nat} (h : m < 2 ^ 31) : (nI m - nI 1 < 0 ↔ m = 0) := by
  cases m with
  | zero => exact ⟨fun _ => rfl, fun _ => by decide⟩
  | succ m =>
    rw [nI_sub (by omega), show m + 1 - 1 = m by omega]
    exact ⟨fun z => absurd z (nI_nn (by omega)), fun z => by omega⟩
theorem gfd_lt {g : Nat → Nat} : ∀ {m w : Nat}, (∀ k, k < m → g k < 36) → w < 36 → gfd g m w < 36 := by
  intro m
  induction m with
  | zero => intro w h hw; exact hw
  | succ m ih =>
    intro w h hw
    unfold gfd
    exact ih (fun k hk => h k (by omega)) (by have := h m (by omega); omega)
set_option maxRecDepth 20000 in
theorem xd_244 {E : zE} {G : zG} {O : zO} (C : zCx E G c_Lw_exchange 12 y_Lw_exchange.cls y_Lw_exchange.name (some .int) rm_Lw_exchange) (q : zEndX E G O rm_Lw_exchange.cells rm_Lw_exchange.slots)  {F : Nat → Nat} {pr qr : Nat → Int32} (hpq : okpq F pr qr) {h : aH} {pa qa : Nat} (hp : h pa = some (10, 36, fun k => .int (pr k))) (hq : h qa = some (10, 36, fun k => .int (qr k)))  {sz : Nat} (hpa : pa < sz) (hqa : qa < sz) (hlo : zB E ≤ sz) {a b g : Nat} (hx : xok sz a b g) {t : Nat} (ht : t < 36) {gs : Nat → Nat} {fg : Nat → Int32} {fa fb : Nat → Int32} (hgs : ∀ k, k < 20 → fg k = nI (gs k)) (hg36 : ∀ k, k < 20 → gs k < 36) {r : Nat} (kk : ∀ w : Nat, w = r → Z E G (X3 h a b g fa fb fg) (g + 1) 3 92 (282, [some (.ref pa), some (.ref qa), some (.int (nI t)), some (.ref a), some (.ref b), some (.ref g), none, none, some (.int (nI w)), some (.int (nI 0 - nI 1)), none, none], [.int (nI w)])) : ∀ m : Nat, m ≤ 20 → ∀ w : Nat, w < 36 → gfd gs m w = r → Z E G (X3 h a b g fa fb fg) (g + 1) 3 92 (244, [some (.ref pa), some (.ref qa), some (.int (nI t)), some (.ref a), some (.ref b), some (.ref g), none, none, some (.int (nI w)), some (.int (nI m - nI 1)), none, none], []) := by
  intro m
  induction m with
  | zero =>
    intro hm w hw36 hO
    refine Z_run C it_Lw_exchange 1 (f2 := (246, [some (.ref pa), some (.ref qa), some (.int (nI t)), some (.ref a), some (.ref b), some (.ref g), none, none, some (.int (nI w)), some (.int (nI 0 - nI 1)), none, none], [.int (nI 0 - nI 1)])) rfl ?_
    refine Z_br C it_Lw_exchange rfl rfl (fun hc1 => ?_) (fun hc1 => absurd ((nI_pm (by decide)).mpr rfl) hc1)
    refine Z_run C it_Lw_exchange 1 (f2 := (282, [some (.ref pa), some (.ref qa), some (.int (nI t)), some (.ref a), some (.ref b), some (.ref g), none, none, some (.int (nI w)), some (.int (nI 0 - nI 1)), none, none], [.int (nI w)])) rfl ?_
    exact kk w hO
  | succ m ih =>
    intro hm w hw36 hO
    have e1 : nI (m + 1) - nI 1 = nI m := by rw [nI_sub (by omega)]; rfl
    rw [e1]
    refine Z_run C it_Lw_exchange 1 (f2 := (246, [some (.ref pa), some (.ref qa), some (.int (nI t)), some (.ref a), some (.ref b), some (.ref g), none, none, some (.int (nI w)), some (.int (nI m)), none, none], [.int (nI m)])) rfl ?_
    refine Z_br C it_Lw_exchange rfl rfl (fun hc1 => ?_) (fun hc1 => ?_)
    · exact absurd hc1 (nI_nn (by omega))
    · skip
      refine Z_run C it_Lw_exchange 2 (f2 := (253, [some (.ref pa), some (.ref qa), some (.int (nI t)), some (.ref a), some (.ref b), some (.ref g), none, none, some (.int (nI w)), some (.int (nI m)), none, none], [.int (nI m), .ref g])) rfl ?_
      refine Z_ald C it_Lw_exchange (tg := 10) rfl X3_gg (by decide) rfl (j := m) (by omega) (by decide) (v := .int (nI (gs m))) (congrArg Value.int (hgs m (by omega))) ?_
      refine Z_run C it_Lw_exchange 2 (f2 := (257, [some (.ref pa), some (.ref qa), some (.int (nI t)), some (.ref a), some (.ref b), some (.ref g), none, none, some (.int (nI w)), some (.int (nI m)), none, none], [.int (nI (gs m) - nI w)])) rfl ?_
      refine Z_br C it_Lw_exchange rfl rfl (fun hc2 => ?_) (fun hc2 => ?_)
      · have hgw := (gw_t _ (hg36 m (by omega)) w hw36).1 hc2
        refine Z_run C it_Lw_exchange 2 (f2 := (268, [some (.ref pa), some (.ref qa), some (.int (nI t)), some (.ref a), some (.ref b), some (.ref g), none, none, some (.int (nI w)), some (.int (nI m)), none, none], [.int (nI m), .ref g])) rfl ?_
        refine Z_ald C it_Lw_exchange (tg := 10) rfl X3_gg (by decide) rfl (j := m) (by omega) (by decide) (v := .int (nI (gs m))) (congrArg Value.int (hgs m (by omega))) ?_
        refine Z_run C it_Lw_exchange 5 (f2 := (244, [some (.ref pa), some (.ref qa), some (.int (nI t)), some (.ref a), some (.ref b), some (.ref g), none, none, some (.int (nI (gs m) - nI w)), some (.int (nI m + (-1))), none, none], [])) rfl ?_
        have e8 : nI (gs m) - nI w = nI (gs m - w) := hgw
        rw [e8]
        have e1 : nI m + (-1) = nI m - nI 1 := nI_dec m
        rw [e1]
        exact ih (by omega) (gs m - w) (by have := hg36 m (by omega); omega) hO
      · have hgw := (gw_t _ (hg36 m (by omega)) w hw36).2 hc2
        refine Z_run C it_Lw_exchange 5 (f2 := (244, [some (.ref pa), some (.ref qa), some (.int (nI t)), some (.ref a), some (.ref b), some (.ref g), none, none, some (.int (nI 0)), some (.int (nI m + (-1))), none, none], [])) rfl ?_
        have e8 : nI 0 = nI (gs m - w) := by rw [hgw]
        rw [e8]
        have e2 : nI m + (-1) = nI m - nI 1 := nI_dec m
        rw [e2]
        exact ih (by omega) (gs m - w) (by have := hg36 m (by omega); omega) hO
set_option maxRecDepth 20000 in
theorem xb_71 {E : zE} {G : zG} {O : zO} (C : zCx E G c_Lw_exchange 12 y_Lw_exchange.cls y_Lw_exchange.name (some .int) rm_Lw_exchange) (q : zEndX E G O rm_Lw_exchange.cells rm_Lw_exchange.slots)  {F : Nat → Nat} {pr qr : Nat → Int32} (hpq : okpq F pr qr) {h : aH} {pa qa : Nat} (hp : h pa = some (10, 36, fun k => .int (pr k))) (hq : h qa = some (10, 36, fun k => .int (qr k)))  {sz : Nat} (hpa : pa < sz) (hqa : qa < sz) (hlo : zB E ≤ sz) {a b g : Nat} (hx : xok sz a b g) {t : Nat} (ht : t < 36) {Fn : Nat → Nat} {fa fb fg : Nat → Int32} (hpn : okpq Fn fa fb) (h0 : Fn t ≠ 0) {n : Nat} (kk : Z E G (X3 h a b g fa fb fg) (g + 1) 3 92 (173, [some (.ref pa), some (.ref qa), some (.int (nI t)), some (.ref a), some (.ref b), some (.ref g), some (.int (nI n)), some (.int (nI 1)), some (.int (nI (l99 Fn (chb Fn (ccb Fn t) 36)))), some (.int (oI (chb Fn (ccb Fn t) 36))), some (.int (nI 36)), none], [])) : ∀ (y i : Nat), 36 - i < y → i ≤ 36 → Z E G (X3 h a b g fa fb fg) (g + 1) 3 92 (71, [some (.ref pa), some (.ref qa), some (.int (nI t)), some (.ref a), some (.ref b), some (.ref g), some (.int (nI n)), some (.int (nI 1)), some (.int (nI (l99 Fn (chb Fn (ccb Fn t) i)))), some (.int (oI (chb Fn (ccb Fn t) i))), some (.int (nI i)), none], []) := by
  intro y
  induction y with
  | zero =>
    intro i h1 h2
    omega
  | succ y ih =>
    intro i h1 h2
    have hst := stp_lt (Fn i)
    have hl9 := l99_le Fn (chb Fn (ccb Fn t) i)
    have hwi := wr_le (Fn i)
    have hgl := gfr_lt Fn i
    have hFt := hpn.1 t ht
    have hFi : i < 36 → Fn i < 128 := fun z => hpn.1 i z
    refine Z_run C it_Lw_exchange 2 (f2 := (75, [some (.ref pa), some (.ref qa), some (.int (nI t)), some (.ref a), some (.ref b), some (.ref g), some (.int (nI n)), some (.int (nI 1)), some (.int (nI (l99 Fn (chb Fn (ccb Fn t) i)))), some (.int (oI (chb Fn (ccb Fn t) i))), some (.int (nI i)), none], [.int (nI 36), .int (nI i)])) rfl ?_
    refine Z_br C it_Lw_exchange rfl rfl (fun hc1 => ?_) (fun hc1 => ?_)
    · exact (show i = 36 by have := (nI_leI (a := 36) (b := i) (by omega) (by omega)).mp hc1; omega) ▸ kk
    · have hi36 : i < 36 := by have z : ¬ 36 ≤ i := fun z9 => hc1 ((nI_leI (a := 36) (b := i) (by omega) (by omega)).mpr z9); omega
      refine Z_run C it_Lw_exchange 2 (f2 := (81, [some (.ref pa), some (.ref qa), some (.int (nI t)), some (.ref a), some (.ref b), some (.ref g), some (.int (nI n)), some (.int (nI 1)), some (.int (nI (l99 Fn (chb Fn (ccb Fn t) i)))), some (.int (oI (chb Fn (ccb Fn t) i))), some (.int (nI i)), none], [.int (nI i), .ref a])) rfl ?_
      refine Z_ald C it_Lw_exchange (tg := 10) rfl (X3_ga hx) (by decide) rfl (j := i) (by omega) (by decide) (v := .int (nI (stp (Fn i)))) (congrArg Value.int (hpn.2 i (by omega)).1) ?_
      refine Z_br C it_Lw_exchange rfl rfl (fun hc2 => ?_) (fun hc2 => ?_)
      · have hz : Fn i = 0 := (hpn.2 i (by omega)).2.1 ((nI_le0 (by omega)).mp hc2)
        refine Z_run C it_Lw_exchange 2 (f2 := (127, [some (.ref pa), some (.ref qa), some (.int (nI t)), some (.ref a), some (.ref b), some (.ref g), some (.int (nI n)), some (.int (nI 1)), some (.int (nI (l99 Fn (chb Fn (ccb Fn t) i)))), some (.int (oI (chb Fn (ccb Fn t) i))), some (.int (nI i)), some (.int (nI 0))], [])) rfl ?_
        have hcb : ccb Fn t i = false := by first | (unfold ccb hld; rw [hz]; rfl) | (unfold ccb; rw [hbt, Bool.and_false]) | (unfold ccb hld; have hsn : ¬ sd (Fn i) = 1 - sd (Fn t) := (by unfold sd; omega); simp [hsn])
        refine Z_run C it_Lw_exchange 1 (f2 := (129, [some (.ref pa), some (.ref qa), some (.int (nI t)), some (.ref a), some (.ref b), some (.ref g), some (.int (nI n)), some (.int (nI 1)), some (.int (nI (l99 Fn (chb Fn (ccb Fn t) i)))), some (.int (oI (chb Fn (ccb Fn t) i))), some (.int (nI i)), some (.int (nI 0))], [.int (nI 0)])) rfl ?_
        refine Z_br C it_Lw_exchange rfl rfl (fun hc3 => ?_) (fun hc3 => ?_)
        · skip
          refine Z_run C it_Lw_exchange 1 (f2 := (170, [some (.ref pa), some (.ref qa), some (.int (nI t)), some (.ref a), some (.ref b), some (.ref g), some (.int (nI n)), some (.int (nI 1)), some (.int (nI (l99 Fn (chb Fn (ccb Fn t) i)))), some (.int (oI (chb Fn (ccb Fn t) i))), some (.int (nI i + nI 1)), some (.int (nI 0))], [])) rfl ?_
          rw [nI_add i 1]
          refine Z_run C it_Lw_exchange 1 (f2 := (71, [some (.ref pa), some (.ref qa), some (.int (nI t)), some (.ref a), some (.ref b), some (.ref g), some (.int (nI n)), some (.int (nI 1)), some (.int (nI (l99 Fn (chb Fn (ccb Fn t) i)))), some (.int (oI (chb Fn (ccb Fn t) i))), some (.int (nI (i + 1))), some (.int (nI 0))], [])) rfl ?_
          have e9 : chb Fn (ccb Fn t) (i + 1) = chb Fn (ccb Fn t) i := by first | exact chb_o hcb | exact chb_n hcb hnl
          refine Z_sub (ls2 := [some (.ref pa), some (.ref qa), some (.int (nI t)), some (.ref a), some (.ref b), some (.ref g), some (.int (nI n)), some (.int (nI 1)), some (.int (nI (l99 Fn (chb Fn (ccb Fn t) i)))), some (.int (oI (chb Fn (ccb Fn t) i))), some (.int (nI (i + 1))), none]) ⟨rfl, rfl, rfl, rfl, rfl, rfl, rfl, rfl, rfl, rfl, rfl, trivial⟩ ?_
          have ih2 := ih (i + 1) (by omega) (by omega)
          rw [e9] at ih2
          exact ih2
        · exact absurd rfl hc3
      · have hne : Fn i ≠ 0 := fun z => hc2 ((nI_le0 (by omega)).mpr (by rw [z]; rfl))
        refine Z_run C it_Lw_exchange 2 (f2 := (89, [some (.ref pa), some (.ref qa), some (.int (nI t)), some (.ref a), some (.ref b), some (.ref g), some (.int (nI n)), some (.int (nI 1)), some (.int (nI (l99 Fn (chb Fn (ccb Fn t) i)))), some (.int (oI (chb Fn (ccb Fn t) i))), some (.int (nI i)), none], [.int (nI i), .ref b])) rfl ?_
        refine Z_ald C it_Lw_exchange (tg := 10) rfl (X3_gb hx) (by decide) rfl (j := i) (by omega) (by decide) (v := .int (nI (Fn i / 32))) (congrArg Value.int ((hpn.2 i (by omega)).2.2 (by assumption))) ?_
        refine Z_run C it_Lw_exchange 2 (f2 := (92, [some (.ref pa), some (.ref qa), some (.int (nI t)), some (.ref a), some (.ref b), some (.ref g), some (.int (nI n)), some (.int (nI 1)), some (.int (nI (l99 Fn (chb Fn (ccb Fn t) i)))), some (.int (oI (chb Fn (ccb Fn t) i))), some (.int (nI i)), none], [.int (nI (Fn i / 32) / nI 2)])) rfl ?_
        rw [nI_div (a := Fn i / 32) (d := 2) (by omega) (by omega) (by omega)]
        refine Z_run C it_Lw_exchange 2 (f2 := (95, [some (.ref pa), some (.ref qa), some (.int (nI t)), some (.ref a), some (.ref b), some (.ref g), some (.int (nI n)), some (.int (nI 1)), some (.int (nI (l99 Fn (chb Fn (ccb Fn t) i)))), some (.int (oI (chb Fn (ccb Fn t) i))), some (.int (nI i)), none], [.int (nI t), .ref b, .int (nI ((Fn i / 32) / 2))])) rfl ?_
        refine Z_ald C it_Lw_exchange (tg := 10) rfl (X3_gb hx) (by decide) rfl (j := t) (by omega) (by decide) (v := .int (nI (Fn t / 32))) (congrArg Value.int ((hpn.2 t (by omega)).2.2 (by assumption))) ?_
        refine Z_run C it_Lw_exchange 2 (f2 := (98, [some (.ref pa), some (.ref qa), some (.int (nI t)), some (.ref a), some (.ref b), some (.ref g), some (.int (nI n)), some (.int (nI 1)), some (.int (nI (l99 Fn (chb Fn (ccb Fn t) i)))), some (.int (oI (chb Fn (ccb Fn t) i))), some (.int (nI i)), none], [.int (nI (Fn t / 32) / nI 2), .int (nI ((Fn i / 32) / 2))])) rfl ?_
        rw [nI_div (a := Fn t / 32) (d := 2) (by omega) (by omega) (by omega)]
        refine Z_br C it_Lw_exchange rfl rfl (fun hc4 => ?_) (fun hc4 => ?_)
        · replace hc4 := (nI_eq (a := (Fn i / 32) / 2) (b := (Fn t / 32) / 2) (by omega) (by omega)).mp hc4
          refine Z_run C it_Lw_exchange 2 (f2 := (127, [some (.ref pa), some (.ref qa), some (.int (nI t)), some (.ref a), some (.ref b), some (.ref g), some (.int (nI n)), some (.int (nI 1)), some (.int (nI (l99 Fn (chb Fn (ccb Fn t) i)))), some (.int (oI (chb Fn (ccb Fn t) i))), some (.int (nI i)), some (.int (nI 0))], [])) rfl ?_
          have hcb : ccb Fn t i = false := by first | (unfold ccb hld; rw [hz]; rfl) | (unfold ccb; rw [hbt, Bool.and_false]) | (unfold ccb hld; have hsn : ¬ sd (Fn i) = 1 - sd (Fn t) := (by unfold sd; omega); simp [hsn])
          refine Z_run C it_Lw_exchange 1 (f2 := (129, [some (.ref pa), some (.ref qa), some (.int (nI t)), some (.ref a), some (.ref b), some (.ref g), some (.int (nI n)), some (.int (nI 1)), some (.int (nI (l99 Fn (chb Fn (ccb Fn t) i)))), some (.int (oI (chb Fn (ccb Fn t) i))), some (.int (nI i)), some (.int (nI 0))], [.int (nI 0)])) rfl ?_
          refine Z_br C it_Lw_exchange rfl rfl (fun hc5 => ?_) (fun hc5 => ?_)
          · skip
            refine Z_run C it_Lw_exchange 1 (f2 := (170, [some (.ref pa), some (.ref qa), some (.int (nI t)), some (.ref a), some (.ref b), some (.ref g), some (.int (nI n)), some (.int (nI 1)), some (.int (nI (l99 Fn (chb Fn (ccb Fn t) i)))), some (.int (oI (chb Fn (ccb Fn t) i))), some (.int (nI i + nI 1)), some (.int (nI 0))], [])) rfl ?_
            rw [nI_add i 1]
            refine Z_run C it_Lw_exchange 1 (f2 := (71, [some (.ref pa), some (.ref qa), some (.int (nI t)), some (.ref a), some (.ref b), some (.ref g), some (.int (nI n)), some (.int (nI 1)), some (.int (nI (l99 Fn (chb Fn (ccb Fn t) i)))), some (.int (oI (chb Fn (ccb Fn t) i))), some (.int (nI (i + 1))), some (.int (nI 0))], [])) rfl ?_
            have e9 : chb Fn (ccb Fn t) (i + 1) = chb Fn (ccb Fn t) i := by first | exact chb_o hcb | exact chb_n hcb hnl
            refine Z_sub (ls2 := [some (.ref pa), some (.ref qa), some (.int (nI t)), some (.ref a), some (.ref b), some (.ref g), some (.int (nI n)), some (.int (nI 1)), some (.int (nI (l99 Fn (chb Fn (ccb Fn t) i)))), some (.int (oI (chb Fn (ccb Fn t) i))), some (.int (nI (i + 1))), none]) ⟨rfl, rfl, rfl, rfl, rfl, rfl, rfl, rfl, rfl, rfl, rfl, trivial⟩ ?_
            have ih2 := ih (i + 1) (by omega) (by omega)
            rw [e9] at ih2
            exact ih2
          · exact absurd rfl hc5
        · replace hc4 : ¬ _ := fun z9 => hc4 ((nI_eq (a := (Fn i / 32) / 2) (b := (Fn t / 32) / 2) (by omega) (by omega)).mpr z9)
          refine Z_run C it_Lw_exchange 3 (f2 := (105, [some (.ref pa), some (.ref qa), some (.int (nI t)), some (.ref a), some (.ref b), some (.ref g), some (.int (nI n)), some (.int (nI 1)), some (.int (nI (l99 Fn (chb Fn (ccb Fn t) i)))), some (.int (oI (chb Fn (ccb Fn t) i))), some (.int (nI i)), none], [.int (nI i), .ref a, .ref a])) rfl ?_
          refine Z_ald C it_Lw_exchange (tg := 10) rfl (X3_ga hx) (by decide) rfl (j := i) (by omega) (by decide) (v := .int (nI (stp (Fn i)))) (congrArg Value.int (hpn.2 i (by omega)).1) ?_
          refine Z_run C it_Lw_exchange 1 (f2 := (108, [some (.ref pa), some (.ref qa), some (.int (nI t)), some (.ref a), some (.ref b), some (.ref g), some (.int (nI n)), some (.int (nI 1)), some (.int (nI (l99 Fn (chb Fn (ccb Fn t) i)))), some (.int (oI (chb Fn (ccb Fn t) i))), some (.int (nI i)), none], [.int (nI i), .int (nI (stp (Fn i))), .ref a])) rfl ?_
          refine Zr_callS C it_Lw_exchange rfl p_Lw_covers ml_Lw_16 [.ref a, .int (nI (stp (Fn i))), .int (nI i)] (ct_Lw_covers C.ev C.l Fn hpn.1 _ (fun k hk => (hpn.2 k hk).1) (fun k hk => (hpn.2 k hk).2.1) (X3 h a b g fa fb fg) _ (X3_ga hx) (stp (Fn i)) (stp_lt _) i (by omega) _) rfl rfl ⟨by decide, by decide, by decide, by decide⟩ (Nat.le_of_ble_eq_true rfl) rfl ?_
          show Z E G (X3 h a b g fa fb fg) (g + 1) 3 92 (111, [some (.ref pa), some (.ref qa), some (.int (nI t)), some (.ref a), some (.ref b), some (.ref g), some (.int (nI n)), some (.int (nI 1)), some (.int (nI (l99 Fn (chb Fn (ccb Fn t) i)))), some (.int (oI (chb Fn (ccb Fn t) i))), some (.int (nI i)), none], [.long (lN (cvo Fn (stp (Fn i)) i 5))])
          have e1 : lN (cvo Fn (stp (Fn i)) i 5) = lN (gfr Fn i) := by rw [cvo_gfr (by omega)]
          rw [e1]
          refine Z_run C it_Lw_exchange 6 (f2 := (117, [some (.ref pa), some (.ref qa), some (.int (nI t)), some (.ref a), some (.ref b), some (.ref g), some (.int (nI n)), some (.int (nI 1)), some (.int (nI (l99 Fn (chb Fn (ccb Fn t) i)))), some (.int (oI (chb Fn (ccb Fn t) i))), some (.int (nI i)), none], [.int (lg_cmp ((lN (gfr Fn i) >>> ((nI t).toInt64 &&& 63)) &&& lN 1) (lN 1))])) rfl ?_
          refine Z_br C it_Lw_exchange rfl rfl (fun hc6 => ?_) (fun hc6 => ?_)
          · have hbt : (gfr Fn i).testBit t = false := by rw [← Bool.not_eq_true]; exact fun z => hc6 ((bit_1 (by omega) (by omega)).mpr z)
            refine Z_run C it_Lw_exchange 2 (f2 := (127, [some (.ref pa), some (.ref qa), some (.int (nI t)), some (.ref a), some (.ref b), some (.ref g), some (.int (nI n)), some (.int (nI 1)), some (.int (nI (l99 Fn (chb Fn (ccb Fn t) i)))), some (.int (oI (chb Fn (ccb Fn t) i))), some (.int (nI i)), some (.int (nI 0))], [])) rfl ?_
            have hcb : ccb Fn t i = false := by first | (unfold ccb hld; rw [hz]; rfl) | (unfold ccb; rw [hbt, Bool.and_false]) | (unfold ccb hld; have hsn : ¬ sd (Fn i) = 1 - sd (Fn t) := (by unfold sd; omega); simp [hsn])
            refine Z_run C it_Lw_exchange 1 (f2 := (129, [some (.ref pa), some (.ref qa), some (.int (nI t)), some (.ref a), some (.ref b), some (.ref g), some (.int (nI n)), some (.int (nI 1)), some (.int (nI (l99 Fn (chb Fn (ccb Fn t) i)))), some (.int (oI (chb Fn (ccb Fn t) i))), some (.int (nI i)), some (.int (nI 0))], [.int (nI 0)])) rfl ?_
            refine Z_br C it_Lw_exchange rfl rfl (fun hc7 => ?_) (fun hc7 => ?_)
            · skip
              refine Z_run C it_Lw_exchange 1 (f2 := (170, [some (.ref pa), some (.ref qa), some (.int (nI t)), some (.ref a), some (.ref b), some (.ref g), some (.int (nI n)), some (.int (nI 1)), some (.int (nI (l99 Fn (chb Fn (ccb Fn t) i)))), some (.int (oI (chb Fn (ccb Fn t) i))), some (.int (nI i + nI 1)), some (.int (nI 0))], [])) rfl ?_
              rw [nI_add i 1]
              refine Z_run C it_Lw_exchange 1 (f2 := (71, [some (.ref pa), some (.ref qa), some (.int (nI t)), some (.ref a), some (.ref b), some (.ref g), some (.int (nI n)), some (.int (nI 1)), some (.int (nI (l99 Fn (chb Fn (ccb Fn t) i)))), some (.int (oI (chb Fn (ccb Fn t) i))), some (.int (nI (i + 1))), some (.int (nI 0))], [])) rfl ?_
              have e9 : chb Fn (ccb Fn t) (i + 1) = chb Fn (ccb Fn t) i := by first | exact chb_o hcb | exact chb_n hcb hnl
              refine Z_sub (ls2 := [some (.ref pa), some (.ref qa), some (.int (nI t)), some (.ref a), some (.ref b), some (.ref g), some (.int (nI n)), some (.int (nI 1)), some (.int (nI (l99 Fn (chb Fn (ccb Fn t) i)))), some (.int (oI (chb Fn (ccb Fn t) i))), some (.int (nI (i + 1))), none]) ⟨rfl, rfl, rfl, rfl, rfl, rfl, rfl, rfl, rfl, rfl, rfl, trivial⟩ ?_
              have ih2 := ih (i + 1) (by omega) (by omega)
              rw [e9] at ih2
              exact ih2
            · exact absurd rfl hc7
          · have hbt : (gfr Fn i).testBit t = true := (bit_1 (by omega) (by omega)).mp (Classical.not_not.mp hc6)
            refine Z_run C it_Lw_exchange 3 (f2 := (127, [some (.ref pa), some (.ref qa), some (.int (nI t)), some (.ref a), some (.ref b), some (.ref g), some (.int (nI n)), some (.int (nI 1)), some (.int (nI (l99 Fn (chb Fn (ccb Fn t) i)))), some (.int (oI (chb Fn (ccb Fn t) i))), some (.int (nI i)), some (.int (nI 1))], [])) rfl ?_
            have hcb : ccb Fn t i = true := by unfold ccb; rw [hbt, Bool.and_true]; unfold hld; have := sd_le (Fn i); have := sd_le (Fn t); simp only [Bool.and_eq_true, bne_iff_ne, beq_iff_eq]; exact ⟨hne, by unfold sd; omega⟩
            refine Z_run C it_Lw_exchange 1 (f2 := (129, [some (.ref pa), some (.ref qa), some (.int (nI t)), some (.ref a), some (.ref b), some (.ref g), some (.int (nI n)), some (.int (nI 1)), some (.int (nI (l99 Fn (chb Fn (ccb Fn t) i)))), some (.int (oI (chb Fn (ccb Fn t) i))), some (.int (nI i)), some (.int (nI 1))], [.int (nI 1)])) rfl ?_
            refine Z_br C it_Lw_exchange rfl rfl (fun hc8 => ?_) (fun hc8 => ?_)
            · exact absurd hc8 (by decide)
            · skip
              refine Z_run C it_Lw_exchange 2 (f2 := (135, [some (.ref pa), some (.ref qa), some (.int (nI t)), some (.ref a), some (.ref b), some (.ref g), some (.int (nI n)), some (.int (nI 1)), some (.int (nI (l99 Fn (chb Fn (ccb Fn t) i)))), some (.int (oI (chb Fn (ccb Fn t) i))), some (.int (nI i)), some (.int (nI 1))], [.int (nI i), .ref a])) rfl ?_
              refine Z_ald C it_Lw_exchange (tg := 10) rfl (X3_ga hx) (by decide) rfl (j := i) (by omega) (by decide) (v := .int (nI (stp (Fn i)))) (congrArg Value.int (hpn.2 i (by omega)).1) ?_
              refine Z_run C it_Lw_exchange 2 (f2 := (140, [some (.ref pa), some (.ref qa), some (.int (nI t)), some (.ref a), some (.ref b), some (.ref g), some (.int (nI n)), some (.int (nI 1)), some (.int (nI (l99 Fn (chb Fn (ccb Fn t) i)))), some (.int (oI (chb Fn (ccb Fn t) i))), some (.int (nI i)), some (.int (nI 1))], [.int (nI i), .ref b, .int (nI (stp (Fn i)))])) rfl ?_
              refine Z_ald C it_Lw_exchange (tg := 10) rfl (X3_gb hx) (by decide) rfl (j := i) (by omega) (by decide) (v := .int (nI (Fn i / 32))) (congrArg Value.int ((hpn.2 i (by omega)).2.2 (by assumption))) ?_
              refine Zr_callS C it_Lw_exchange rfl p_Lw_worth ml_Lw_34 [.int (nI (stp (Fn i))), .int (nI (Fn i / 32))] (ct_Lw_worthF C.ev C.l (Fn i) (hpn.1 _ (by omega)) (X3 h a b g fa fb fg) _) rfl rfl ⟨by decide, by decide, by decide, by decide⟩ (Nat.le_of_ble_eq_true rfl) rfl ?_
              show Z E G (X3 h a b g fa fb fg) (g + 1) 3 92 (144, [some (.ref pa), some (.ref qa), some (.int (nI t)), some (.ref a), some (.ref b), some (.ref g), some (.int (nI n)), some (.int (nI 1)), some (.int (nI (l99 Fn (chb Fn (ccb Fn t) i)))), some (.int (oI (chb Fn (ccb Fn t) i))), some (.int (nI i)), some (.int (nI 1))], [.int (nI (wr (Fn i)))])
              refine Z_run C it_Lw_exchange 1 (f2 := (146, [some (.ref pa), some (.ref qa), some (.int (nI t)), some (.ref a), some (.ref b), some (.ref g), some (.int (nI n)), some (.int (nI 1)), some (.int (nI (l99 Fn (chb Fn (ccb Fn t) i)))), some (.int (oI (chb Fn (ccb Fn t) i))), some (.int (nI i)), some (.int (nI 1))], [.int (nI (l99 Fn (chb Fn (ccb Fn t) i))), .int (nI (wr (Fn i)))])) rfl ?_
              refine Z_br C it_Lw_exchange rfl rfl (fun hc9 => ?_) (fun hc9 => ?_)
              · have hnl : ¬ wr (Fn i) < l99 Fn (chb Fn (ccb Fn t) i) := by have z := (nI_leI (b := wr (Fn i)) (by omega) (by omega)).mp hc9; omega
                refine Z_run C it_Lw_exchange 1 (f2 := (170, [some (.ref pa), some (.ref qa), some (.int (nI t)), some (.ref a), some (.ref b), some (.ref g), some (.int (nI n)), some (.int (nI 1)), some (.int (nI (l99 Fn (chb Fn (ccb Fn t) i)))), some (.int (oI (chb Fn (ccb Fn t) i))), some (.int (nI i + nI 1)), some (.int (nI 1))], [])) rfl ?_
                rw [nI_add i 1]
                refine Z_run C it_Lw_exchange 1 (f2 := (71, [some (.ref pa), some (.ref qa), some (.int (nI t)), some (.ref a), some (.ref b), some (.ref g), some (.int (nI n)), some (.int (nI 1)), some (.int (nI (l99 Fn (chb Fn (ccb Fn t) i)))), some (.int (oI (chb Fn (ccb Fn t) i))), some (.int (nI (i + 1))), some (.int (nI 1))], [])) rfl ?_
                have e9 : chb Fn (ccb Fn t) (i + 1) = chb Fn (ccb Fn t) i := by first | exact chb_o hcb | exact chb_n hcb hnl
                refine Z_sub (ls2 := [some (.ref pa), some (.ref qa), some (.int (nI t)), some (.ref a), some (.ref b), some (.ref g), some (.int (nI n)), some (.int (nI 1)), some (.int (nI (l99 Fn (chb Fn (ccb Fn t) i)))), some (.int (oI (chb Fn (ccb Fn t) i))), some (.int (nI (i + 1))), none]) ⟨rfl, rfl, rfl, rfl, rfl, rfl, rfl, rfl, rfl, rfl, rfl, trivial⟩ ?_
                have ih2 := ih (i + 1) (by omega) (by omega)
                rw [e9] at ih2
                exact ih2
              · have hlt : wr (Fn i) < l99 Fn (chb Fn (ccb Fn t) i) := by have z : ¬ l99 Fn (chb Fn (ccb Fn t) i) ≤ wr (Fn i) := fun z9 => hc9 ((nI_leI (by omega) (by omega)).mpr z9); omega
                refine Z_run C it_Lw_exchange 2 (f2 := (152, [some (.ref pa), some (.ref qa), some (.int (nI t)), some (.ref a), some (.ref b), some (.ref g), some (.int (nI n)), some (.int (nI 1)), some (.int (nI (l99 Fn (chb Fn (ccb Fn t) i)))), some (.int (oI (chb Fn (ccb Fn t) i))), some (.int (nI i)), some (.int (nI 1))], [.int (nI i), .ref a])) rfl ?_
                refine Z_ald C it_Lw_exchange (tg := 10) rfl (X3_ga hx) (by decide) rfl (j := i) (by omega) (by decide) (v := .int (nI (stp (Fn i)))) (congrArg Value.int (hpn.2 i (by omega)).1) ?_
                refine Z_run C it_Lw_exchange 2 (f2 := (157, [some (.ref pa), some (.ref qa), some (.int (nI t)), some (.ref a), some (.ref b), some (.ref g), some (.int (nI n)), some (.int (nI 1)), some (.int (nI (l99 Fn (chb Fn (ccb Fn t) i)))), some (.int (oI (chb Fn (ccb Fn t) i))), some (.int (nI i)), some (.int (nI 1))], [.int (nI i), .ref b, .int (nI (stp (Fn i)))])) rfl ?_
                refine Z_ald C it_Lw_exchange (tg := 10) rfl (X3_gb hx) (by decide) rfl (j := i) (by omega) (by decide) (v := .int (nI (Fn i / 32))) (congrArg Value.int ((hpn.2 i (by omega)).2.2 (by assumption))) ?_
                refine Zr_callS C it_Lw_exchange rfl p_Lw_worth ml_Lw_34 [.int (nI (stp (Fn i))), .int (nI (Fn i / 32))] (ct_Lw_worthF C.ev C.l (Fn i) (hpn.1 _ (by omega)) (X3 h a b g fa fb fg) _) rfl rfl ⟨by decide, by decide, by decide, by decide⟩ (Nat.le_of_ble_eq_true rfl) rfl ?_
                show Z E G (X3 h a b g fa fb fg) (g + 1) 3 92 (161, [some (.ref pa), some (.ref qa), some (.int (nI t)), some (.ref a), some (.ref b), some (.ref g), some (.int (nI n)), some (.int (nI 1)), some (.int (nI (l99 Fn (chb Fn (ccb Fn t) i)))), some (.int (oI (chb Fn (ccb Fn t) i))), some (.int (nI i)), some (.int (nI 1))], [.int (nI (wr (Fn i)))])
                refine Z_run C it_Lw_exchange 4 (f2 := (170, [some (.ref pa), some (.ref qa), some (.int (nI t)), some (.ref a), some (.ref b), some (.ref g), some (.int (nI n)), some (.int (nI 1)), some (.int (nI (wr (Fn i)))), some (.int (nI i)), some (.int (nI i + nI 1)), some (.int (nI 1))], [])) rfl ?_
                rw [nI_add i 1]
                refine Z_run C it_Lw_exchange 1 (f2 := (71, [some (.ref pa), some (.ref qa), some (.int (nI t)), some (.ref a), some (.ref b), some (.ref g), some (.int (nI n)), some (.int (nI 1)), some (.int (nI (wr (Fn i)))), some (.int (nI i)), some (.int (nI (i + 1))), some (.int (nI 1))], [])) rfl ?_
                have e9 := chb_y (F := Fn) hcb hlt
                refine Z_sub (ls2 := [some (.ref pa), some (.ref qa), some (.int (nI t)), some (.ref a), some (.ref b), some (.ref g), some (.int (nI n)), some (.int (nI 1)), some (.int (nI (wr (Fn i)))), some (.int (nI i)), some (.int (nI (i + 1))), none]) ⟨rfl, rfl, rfl, rfl, rfl, rfl, rfl, rfl, rfl, rfl, rfl, trivial⟩ ?_
                have ih2 := ih (i + 1) (by omega) (by omega)
                rw [e9] at ih2
                exact ih2
set_option maxRecDepth 20000 in
theorem xc_56 {E : zE} {G : zG} {O : zO} (C : zCx E G c_Lw_exchange 12 y_Lw_exchange.cls y_Lw_exchange.name (some .int) rm_Lw_exchange) (q : zEndX E G O rm_Lw_exchange.cells rm_Lw_exchange.slots)  {F : Nat → Nat} {pr qr : Nat → Int32} (hpq : okpq F pr qr) {h : aH} {pa qa : Nat} (hp : h pa = some (10, 36, fun k => .int (pr k))) (hq : h qa = some (10, 36, fun k => .int (qr k)))  {sz : Nat} (hpa : pa < sz) (hqa : qa < sz) (hlo : zB E ≤ sz) {a b g : Nat} (hx : xok sz a b g) {t : Nat} (ht : t < 36) (kk : ∀ (fa fb fg : Nat → Int32) (l8 l9 : Option Value), Z E G (X3 h a b g fa fb fg) (g + 1) 3 92 (282, [some (.ref pa), some (.ref qa), some (.int (nI t)), some (.ref a), some (.ref b), some (.ref g), none, none, l8, l9, none, none], [.int (nI (exM 16 F t))])) : ∀ (y n : Nat) (Fn : Nat → Nat) (gs : Nat → Nat) (fa fb fg : Nat → Int32), pcs_ Fn < y → okpq Fn fa fb → Fn t ≠ 0 → pcs_ Fn + n ≤ 16 → (∀ k, k < 20 → fg k = nI (gs k)) → (∀ k, k < 20 → gs k < 36) → exM 16 F t = gfd gs n (exM (16 - n) Fn t) → Z E G (X3 h a b g fa fb fg) (g + 1) 3 92 (56, [some (.ref pa), some (.ref qa), some (.int (nI t)), some (.ref a), some (.ref b), some (.ref g), some (.int (nI n)), some (.int (nI 1)), none, none, none, none], []) := by
  intro y
  induction y with
  | zero =>
    intro n Fn gs fa fb fg h1
    omega
  | succ y ih =>
    intro n Fn gs fa fb fg h1 hpn h0 hpc hgs hg36 hex
    have hpos : 0 < pcs_ Fn := cnt_pos.mpr ⟨t, ht, by simp [h0]⟩
    have hFt := hpn.1 t ht
    refine Z_run C it_Lw_exchange 1 (f2 := (58, [some (.ref pa), some (.ref qa), some (.int (nI t)), some (.ref a), some (.ref b), some (.ref g), some (.int (nI n)), some (.int (nI 1)), none, none, none, none], [.int (nI 1)])) rfl ?_
    refine Z_br C it_Lw_exchange rfl rfl (fun hc1 => ?_) (fun hc1 => ?_)
    · exact absurd hc1 (by decide)
    · skip
      refine Z_run C it_Lw_exchange 6 (f2 := (71, [some (.ref pa), some (.ref qa), some (.int (nI t)), some (.ref a), some (.ref b), some (.ref g), some (.int (nI n)), some (.int (nI 1)), some (.int (nI 99)), some (.int ((-1))), some (.int (nI 0)), none], [])) rfl ?_
      have e98 : nI 99 = nI (l99 Fn (chb Fn (ccb Fn t) 0)) := rfl
      have e99 : (-1 : Int32) = oI (chb Fn (ccb Fn t) 0) := rfl
      rw [e98, e99]
      refine Z_sub (ls2 := [some (.ref pa), some (.ref qa), some (.int (nI t)), some (.ref a), some (.ref b), some (.ref g), some (.int (nI n)), some (.int (nI 1)), some (.int (nI (l99 Fn (chb Fn (ccb Fn t) 0)))), some (.int (oI (chb Fn (ccb Fn t) 0))), some (.int (nI 0)), none]) ⟨rfl, rfl, rfl, rfl, rfl, rfl, rfl, rfl, rfl, rfl, rfl, trivial⟩ ?_
      refine xb_71 C q hpq hp hq hpa hqa hlo hx ht hpn h0 ?_ 37 0 (by omega) (by omega)
      rw [chb_cam hpn.1 ht]
      cases hcam : cam Fn (1 - sd (Fn t)) t with
      | none =>
        show Z E G (X3 h a b g fa fb fg) (g + 1) 3 92 (173, [some (.ref pa), some (.ref qa), some (.int (nI t)), some (.ref a), some (.ref b), some (.ref g), some (.int (nI n)), some (.int (nI 1)), some (.int (nI (l99 Fn (none)))), some (.int ((-1))), some (.int (nI 36)), none], [])
        refine Z_run C it_Lw_exchange 1 (f2 := (175, [some (.ref pa), some (.ref qa), some (.int (nI t)), some (.ref a), some (.ref b), some (.ref g), some (.int (nI n)), some (.int (nI 1)), some (.int (nI (l99 Fn (none)))), some (.int ((-1))), some (.int (nI 36)), none], [.int ((-1))])) rfl ?_
        refine Z_br C it_Lw_exchange rfl rfl (fun hc2 => ?_) (fun hc2 => ?_)
        · skip
          refine Z_run C it_Lw_exchange 3 (f2 := (187, [some (.ref pa), some (.ref qa), some (.int (nI t)), some (.ref a), some (.ref b), some (.ref g), some (.int (nI n)), some (.int (nI 0)), some (.int (nI (l99 Fn (none)))), some (.int ((-1))), some (.int (nI 36)), none], [.int (nI 0)])) rfl ?_
          refine Z_br C it_Lw_exchange rfl rfl (fun hc3 => ?_) (fun hc3 => ?_)
          · skip
            refine Z_run C it_Lw_exchange 1 (f2 := (56, [some (.ref pa), some (.ref qa), some (.int (nI t)), some (.ref a), some (.ref b), some (.ref g), some (.int (nI n)), some (.int (nI 0)), some (.int (nI (l99 Fn (none)))), some (.int ((-1))), some (.int (nI 36)), none], [])) rfl ?_
            refine Z_run C it_Lw_exchange 1 (f2 := (58, [some (.ref pa), some (.ref qa), some (.int (nI t)), some (.ref a), some (.ref b), some (.ref g), some (.int (nI n)), some (.int (nI 0)), some (.int (nI (l99 Fn (none)))), some (.int ((-1))), some (.int (nI 36)), none], [.int (nI 0)])) rfl ?_
            refine Z_br C it_Lw_exchange rfl rfl (fun hc4 => ?_) (fun hc4 => ?_)
            · skip
              refine Z_run C it_Lw_exchange 6 (f2 := (244, [some (.ref pa), some (.ref qa), some (.int (nI t)), some (.ref a), some (.ref b), some (.ref g), some (.int (nI n)), some (.int (nI 0)), some (.int (nI 0)), some (.int (nI n - nI 1)), some (.int (nI 36)), none], [])) rfl ?_
              have e16 : 16 - n = (15 - n) + 1 := by omega
              have ez : exM (16 - n) Fn t = 0 := by rw [e16]; unfold exM; rw [hcam]
              rw [ez] at hex
              refine Z_sub (ls2 := [some (.ref pa), some (.ref qa), some (.int (nI t)), some (.ref a), some (.ref b), some (.ref g), none, none, some (.int (nI 0)), some (.int (nI n - nI 1)), none, none]) ⟨rfl, rfl, rfl, rfl, rfl, rfl, rfl, rfl, trivial⟩ ?_
              refine xd_244 C q hpq hp hq hpa hqa hlo hx ht hgs hg36 (r := exM 16 F t) (fun w hw => ?_) n (by omega) 0 (by decide) hex.symm
              rw [hw]
              exact kk _ _ _ _ _
            · exact absurd rfl hc4
          · exact absurd rfl hc3
        · exact absurd (by decide) hc2
      | some j =>
        show Z E G (X3 h a b g fa fb fg) (g + 1) 3 92 (173, [some (.ref pa), some (.ref qa), some (.int (nI t)), some (.ref a), some (.ref b), some (.ref g), some (.int (nI n)), some (.int (nI 1)), some (.int (nI (l99 Fn (some j)))), some (.int (nI j)), some (.int (nI 36)), none], [])
        obtain ⟨hj36, hcab⟩ := chb_lt hcam
        obtain ⟨hne, hsdj, hjt⟩ := cab_ne hcab
        refine Z_run C it_Lw_exchange 1 (f2 := (175, [some (.ref pa), some (.ref qa), some (.int (nI t)), some (.ref a), some (.ref b), some (.ref g), some (.int (nI n)), some (.int (nI 1)), some (.int (nI (l99 Fn (some j)))), some (.int (nI j)), some (.int (nI 36)), none], [.int (nI j)])) rfl ?_
        refine Z_br C it_Lw_exchange rfl rfl (fun hc5 => ?_) (fun hc5 => ?_)
        · exact absurd hc5 (nI_nn (by omega))
        · skip
          refine Z_run C it_Lw_exchange 4 (f2 := (187, [some (.ref pa), some (.ref qa), some (.int (nI t)), some (.ref a), some (.ref b), some (.ref g), some (.int (nI n)), some (.int (nI 1)), some (.int (nI (l99 Fn (some j)))), some (.int (nI j)), some (.int (nI 36)), none], [.int (nI 1)])) rfl ?_
          refine Z_br C it_Lw_exchange rfl rfl (fun hc6 => ?_) (fun hc6 => ?_)
          · exact absurd hc6 (by decide)
          · skip
            refine Z_run C it_Lw_exchange 4 (f2 := (196, [some (.ref pa), some (.ref qa), some (.int (nI t)), some (.ref a), some (.ref b), some (.ref g), some (.int (nI n)), some (.int (nI 1)), some (.int (nI (l99 Fn (some j)))), some (.int (nI j)), some (.int (nI 36)), none], [.int (nI t), .ref a, .int (nI n), .ref g])) rfl ?_
            refine Z_ald C it_Lw_exchange (tg := 10) rfl (X3_ga hx) (by decide) rfl (j := t) (by omega) (by decide) (v := .int (nI (stp (Fn t)))) (congrArg Value.int (hpn.2 t (by omega)).1) ?_
            refine Z_run C it_Lw_exchange 2 (f2 := (200, [some (.ref pa), some (.ref qa), some (.int (nI t)), some (.ref a), some (.ref b), some (.ref g), some (.int (nI n)), some (.int (nI 1)), some (.int (nI (l99 Fn (some j)))), some (.int (nI j)), some (.int (nI 36)), none], [.int (nI t), .ref b, .int (nI (stp (Fn t))), .int (nI n), .ref g])) rfl ?_
            refine Z_ald C it_Lw_exchange (tg := 10) rfl (X3_gb hx) (by decide) rfl (j := t) (by omega) (by decide) (v := .int (nI (Fn t / 32))) (congrArg Value.int ((hpn.2 t (by omega)).2.2 (by assumption))) ?_
            refine Zr_callS C it_Lw_exchange rfl p_Lw_worth ml_Lw_34 [.int (nI (stp (Fn t))), .int (nI (Fn t / 32))] (ct_Lw_worthF C.ev C.l (Fn t) (hpn.1 _ (by omega)) (X3 h a b g fa fb fg) _) rfl rfl ⟨by decide, by decide, by decide, by decide⟩ (Nat.le_of_ble_eq_true rfl) rfl ?_
            show Z E G (X3 h a b g fa fb fg) (g + 1) 3 92 (204, [some (.ref pa), some (.ref qa), some (.int (nI t)), some (.ref a), some (.ref b), some (.ref g), some (.int (nI n)), some (.int (nI 1)), some (.int (nI (l99 Fn (some j)))), some (.int (nI j)), some (.int (nI 36)), none], [.int (nI (wr (Fn t))), .int (nI n), .ref g])
            refine Z_ast C it_Lw_exchange (tg := 10) rfl X3_gg rfl (j := n) (by omega) (by decide) trivial (by have := hx.1; have := hx.2.1; have := hx.2.2; omega) ?_
            rw [X3_sg]
            show Z E G (X3 h a b g fa fb (upd fg n (nI (wr (Fn t))))) (g + 1) 3 92 (205, [some (.ref pa), some (.ref qa), some (.int (nI t)), some (.ref a), some (.ref b), some (.ref g), some (.int (nI n)), some (.int (nI 1)), some (.int (nI (l99 Fn (some j)))), some (.int (nI j)), some (.int (nI 36)), none], [])
            refine Z_run C it_Lw_exchange 1 (f2 := (208, [some (.ref pa), some (.ref qa), some (.int (nI t)), some (.ref a), some (.ref b), some (.ref g), some (.int (nI n + nI 1)), some (.int (nI 1)), some (.int (nI (l99 Fn (some j)))), some (.int (nI j)), some (.int (nI 36)), none], [])) rfl ?_
            rw [nI_add n 1]
            refine Z_run C it_Lw_exchange 3 (f2 := (211, [some (.ref pa), some (.ref qa), some (.int (nI t)), some (.ref a), some (.ref b), some (.ref g), some (.int (nI (n + 1))), some (.int (nI 1)), some (.int (nI (l99 Fn (some j)))), some (.int (nI j)), some (.int (nI 36)), none], [.int (nI t), .ref a, .int (nI t), .ref a])) rfl ?_
            refine Z_ald C it_Lw_exchange (tg := 10) rfl (X3_ga hx) (by decide) rfl (j := t) (by omega) (by decide) (v := .int (nI (stp (Fn t)))) (congrArg Value.int (hpn.2 t (by omega)).1) ?_
            refine Z_run C it_Lw_exchange 2 (f2 := (215, [some (.ref pa), some (.ref qa), some (.int (nI t)), some (.ref a), some (.ref b), some (.ref g), some (.int (nI (n + 1))), some (.int (nI 1)), some (.int (nI (l99 Fn (some j)))), some (.int (nI j)), some (.int (nI 36)), none], [.int (nI j), .ref a, .int (nI (stp (Fn t))), .int (nI t), .ref a])) rfl ?_
            refine Z_ald C it_Lw_exchange (tg := 10) rfl (X3_ga hx) (by decide) rfl (j := j) (by omega) (by decide) (v := .int (nI (stp (Fn j)))) (congrArg Value.int (hpn.2 j (by omega)).1) ?_
            refine Z_run C it_Lw_exchange 1 (f2 := (217, [some (.ref pa), some (.ref qa), some (.int (nI t)), some (.ref a), some (.ref b), some (.ref g), some (.int (nI (n + 1))), some (.int (nI 1)), some (.int (nI (l99 Fn (some j)))), some (.int (nI j)), some (.int (nI 36)), none], [.int (nI (stp (Fn t)) ||| nI (stp (Fn j))), .int (nI t), .ref a])) rfl ?_
            refine Z_ast C it_Lw_exchange (tg := 10) rfl (X3_ga hx) rfl (j := t) (by omega) (by decide) trivial (by have := hx.1; omega) ?_
            rw [X3_sa hx]
            show Z E G (X3 h a b g (upd fa t (nI (stp (Fn t)) ||| nI (stp (Fn j)))) fb (upd fg n (nI (wr (Fn t))))) (g + 1) 3 92 (218, [some (.ref pa), some (.ref qa), some (.int (nI t)), some (.ref a), some (.ref b), some (.ref g), some (.int (nI (n + 1))), some (.int (nI 1)), some (.int (nI (l99 Fn (some j)))), some (.int (nI j)), some (.int (nI 36)), none], [])
            refine Z_run C it_Lw_exchange 4 (f2 := (225, [some (.ref pa), some (.ref qa), some (.int (nI t)), some (.ref a), some (.ref b), some (.ref g), some (.int (nI (n + 1))), some (.int (nI 1)), some (.int (nI (l99 Fn (some j)))), some (.int (nI j)), some (.int (nI 36)), none], [.int (nI j), .ref b, .int (nI t), .ref b])) rfl ?_
            refine Z_ald C it_Lw_exchange (tg := 10) rfl (X3_gb hx) (by decide) rfl (j := j) (by omega) (by decide) (v := .int (nI (Fn j / 32))) (congrArg Value.int ((hpn.2 j (by omega)).2.2 (by assumption))) ?_
            refine Z_ast C it_Lw_exchange (tg := 10) rfl (X3_gb hx) rfl (j := t) (by omega) (by decide) trivial (by have := hx.1; have := hx.2.1; omega) ?_
            rw [X3_sb hx]
            show Z E G (X3 h a b g (upd fa t (nI (stp (Fn t)) ||| nI (stp (Fn j)))) (upd fb t (nI (Fn j / 32))) (upd fg n (nI (wr (Fn t))))) (g + 1) 3 92 (227, [some (.ref pa), some (.ref qa), some (.int (nI t)), some (.ref a), some (.ref b), some (.ref g), some (.int (nI (n + 1))), some (.int (nI 1)), some (.int (nI (l99 Fn (some j)))), some (.int (nI j)), some (.int (nI 36)), none], [])
            refine Z_run C it_Lw_exchange 3 (f2 := (231, [some (.ref pa), some (.ref qa), some (.int (nI t)), some (.ref a), some (.ref b), some (.ref g), some (.int (nI (n + 1))), some (.int (nI 1)), some (.int (nI (l99 Fn (some j)))), some (.int (nI j)), some (.int (nI 36)), none], [.int (nI 0), .int (nI j), .ref a])) rfl ?_
            refine Z_ast C it_Lw_exchange (tg := 10) rfl (X3_ga hx) rfl (j := j) (by omega) (by decide) trivial (by have := hx.1; omega) ?_
            rw [X3_sa hx]
            show Z E G (X3 h a b g (upd (upd fa t (nI (stp (Fn t)) ||| nI (stp (Fn j)))) j (nI 0)) (upd fb t (nI (Fn j / 32))) (upd fg n (nI (wr (Fn t))))) (g + 1) 3 92 (232, [some (.ref pa), some (.ref qa), some (.int (nI t)), some (.ref a), some (.ref b), some (.ref g), some (.int (nI (n + 1))), some (.int (nI 1)), some (.int (nI (l99 Fn (some j)))), some (.int (nI j)), some (.int (nI 36)), none], [])
            refine Z_run C it_Lw_exchange 1 (f2 := (56, [some (.ref pa), some (.ref qa), some (.int (nI t)), some (.ref a), some (.ref b), some (.ref g), some (.int (nI (n + 1))), some (.int (nI 1)), some (.int (nI (l99 Fn (some j)))), some (.int (nI j)), some (.int (nI 36)), none], [])) rfl ?_
            have hpm := pcs_mv hj36 hjt hne h0
            have hok := okpq_mv hpn hj36 ht hjt hne
            have hm0 : mvF Fn j t t ≠ 0 := by unfold mvF; rw [if_neg (Ne.symm hjt), if_pos rfl, crr_lra]; exact lra_ne hne
            refine Z_sub (ls2 := [some (.ref pa), some (.ref qa), some (.int (nI t)), some (.ref a), some (.ref b), some (.ref g), some (.int (nI (n + 1))), some (.int (nI 1)), none, none, none, none]) ⟨rfl, rfl, rfl, rfl, rfl, rfl, rfl, rfl, trivial⟩ ?_
            refine ih (n + 1) (mvF Fn j t) (fun k => if k = n then wr (Fn t) else gs k) _ _ _ (by omega) hok hm0 (by omega) (fun k hk => ?_) (fun k hk => ?_) ?_
            · unfold upd
              by_cases e : k = n
              · rw [if_pos e, if_pos e]
              · rw [if_neg e, if_neg e]; exact hgs k hk
            · split
              · have := wr_le (Fn t); omega
              · exact hg36 k hk
            · rw [hex]
              have e16 : 16 - n = (16 - (n + 1)) + 1 := by omega
              have ee : exM (16 - n) Fn t = wr (Fn t) - exM (16 - (n + 1)) (mvF Fn j t) t := by rw [e16]; exact exM_j hcam
              rw [ee]
              have ef : gfd (fun k => if k = n then wr (Fn t) else gs k) (n + 1) (exM (16 - (n + 1)) (mvF Fn j t) t) = gfd (fun k => if k = n then wr (Fn t) else gs k) n ((if n = n then wr (Fn t) else gs n) - exM (16 - (n + 1)) (mvF Fn j t) t) := rfl
              rw [ef, if_pos rfl]
              exact gfd_ext (fun k hk => by rw [if_neg (by omega)])
set_option maxRecDepth 20000 in
theorem xa_20 {E : zE} {G : zG} {O : zO} (C : zCx E G c_Lw_exchange 12 y_Lw_exchange.cls y_Lw_exchange.name (some .int) rm_Lw_exchange) (q : zEndX E G O rm_Lw_exchange.cells rm_Lw_exchange.slots)  {F : Nat → Nat} {pr qr : Nat → Int32} (hpq : okpq F pr qr) {h : aH} {pa qa : Nat} (hp : h pa = some (10, 36, fun k => .int (pr k))) (hq : h qa = some (10, 36, fun k => .int (qr k)))  {sz : Nat} (hpa : pa < sz) (hqa : qa < sz) (hlo : zB E ≤ sz) {a b g : Nat} (hx : xok sz a b g) {t : Nat} (ht : t < 36) {fg : Nat → Int32} (kk : Z E G (X3 h a b g (cpy pr 36) (cpy qr 36) fg) (g + 1) 3 92 (50, [some (.ref pa), some (.ref qa), some (.int (nI t)), some (.ref a), some (.ref b), some (.ref g), some (.int (nI 36)), none, none, none, none, none], [])) : ∀ (y i : Nat), 36 - i < y → i ≤ 36 → Z E G (X3 h a b g (cpy pr i) (cpy qr i) fg) (g + 1) 3 92 (20, [some (.ref pa), some (.ref qa), some (.int (nI t)), some (.ref a), some (.ref b), some (.ref g), some (.int (nI i)), none, none, none, none, none], []) := by
  intro y
  induction y with
  | zero =>
    intro i h1 h2
    omega
  | succ y ih =>
    intro i h1 h2
    refine Z_run C it_Lw_exchange 2 (f2 := (24, [some (.ref pa), some (.ref qa), some (.int (nI t)), some (.ref a), some (.ref b), some (.ref g), some (.int (nI i)), none, none, none, none, none], [.int (nI 36), .int (nI i)])) rfl ?_
    refine Z_br C it_Lw_exchange rfl rfl (fun hc1 => ?_) (fun hc1 => ?_)
    · exact (show i = 36 by have := (nI_leI (a := 36) (b := i) (by omega) (by omega)).mp hc1; omega) ▸ kk
    · have hi36 : i < 36 := by have z : ¬ 36 ≤ i := fun z9 => hc1 ((nI_leI (a := 36) (b := i) (by omega) (by omega)).mpr z9); omega
      refine Z_run C it_Lw_exchange 4 (f2 := (33, [some (.ref pa), some (.ref qa), some (.int (nI t)), some (.ref a), some (.ref b), some (.ref g), some (.int (nI i)), none, none, none, none, none], [.int (nI i), .ref pa, .int (nI i), .ref a])) rfl ?_
      refine Z_ald C it_Lw_exchange (tg := 10) rfl (X3_p hx hpa hp) (by decide) rfl (j := i) (by omega) (by decide) (v := .int (pr i)) rfl ?_
      refine Z_ast C it_Lw_exchange (tg := 10) rfl (X3_ga hx) rfl (j := i) (by omega) (by decide) trivial (by have := hx.1; omega) ?_
      rw [X3_sa hx]
      show Z E G (X3 h a b g (upd (cpy pr i) i (pr i)) (cpy qr i) fg) (g + 1) 3 92 (35, [some (.ref pa), some (.ref qa), some (.int (nI t)), some (.ref a), some (.ref b), some (.ref g), some (.int (nI i)), none, none, none, none, none], [])
      refine Z_run C it_Lw_exchange 4 (f2 := (42, [some (.ref pa), some (.ref qa), some (.int (nI t)), some (.ref a), some (.ref b), some (.ref g), some (.int (nI i)), none, none, none, none, none], [.int (nI i), .ref qa, .int (nI i), .ref b])) rfl ?_
      refine Z_ald C it_Lw_exchange (tg := 10) rfl (X3_p hx hqa hq) (by decide) rfl (j := i) (by omega) (by decide) (v := .int (qr i)) rfl ?_
      refine Z_ast C it_Lw_exchange (tg := 10) rfl (X3_gb hx) rfl (j := i) (by omega) (by decide) trivial (by have := hx.1; have := hx.2.1; omega) ?_
      rw [X3_sb hx]
      show Z E G (X3 h a b g (upd (cpy pr i) i (pr i)) (upd (cpy qr i) i (qr i)) fg) (g + 1) 3 92 (44, [some (.ref pa), some (.ref qa), some (.int (nI t)), some (.ref a), some (.ref b), some (.ref g), some (.int (nI i)), none, none, none, none, none], [])
      refine Z_run C it_Lw_exchange 1 (f2 := (47, [some (.ref pa), some (.ref qa), some (.int (nI t)), some (.ref a), some (.ref b), some (.ref g), some (.int (nI i + nI 1)), none, none, none, none, none], [])) rfl ?_
      rw [nI_add i 1]
      refine Z_run C it_Lw_exchange 1 (f2 := (20, [some (.ref pa), some (.ref qa), some (.int (nI t)), some (.ref a), some (.ref b), some (.ref g), some (.int (nI (i + 1))), none, none, none, none, none], [])) rfl ?_
      rw [cpy_s, cpy_s]
      exact ih (i + 1) (by omega) (by omega)
set_option maxRecDepth 20000 in
theorem ct_Lw_exchange {E : zE} (hE : zEv E) {l : Launch} (hl : l.stackTraces = false) (F : Nat → Nat) (pr qr : Nat → Int32) (hpq : okpq F pr qr) (h : aH) (pa qa : Nat) (hp : h pa = some (10, 36, fun k => .int (pr k))) (hq : h qa = some (10, 36, fun k => .int (qr k))) (t : Nat) (ht : t < 36) (h0 : F t ≠ 0) (hpc : pcs_ F ≤ 16) (sz : Nat) : zM E l y_Lw_exchange [.code y_Lw_exchange c_Lw_exchange 12 (some .int)] rm_Lw_exchange [.ref pa, .ref qa, .int (nI t)] h sz (zRet (some (.int (nI (exM 16 F t)))) h sz) := by
  refine zM_of hE hl (by decide +kernel) [some (.ref pa), some (.ref qa), some (.int (nI t)), none, none, none, none, none, none, none, none, none] ⟨rfl, rfl, Nat.le_of_ble_eq_true rfl⟩ ?_
  intro G C q htb
  refine Z_dom (fun hdm => ?_)
  refine Z_lo (fun hlo => ?_)
  have hpa := hdm _ _ hp
  have hqa := hdm _ _ hq
  refine Z_run C it_Lw_exchange 1 (f2 := (2, [some (.ref pa), some (.ref qa), some (.int (nI t)), none, none, none, none, none, none, none, none, none], [.int (nI 36)])) rfl ?_
  refine Z_newa C it_Lw_exchange (at9 := .int) rfl (tg := 10) (N := 36) (by decide) rfl wR_int rfl (by decide) (by decide) (by decide) (fun a ha1 ha2 => ?_)
  refine Z_run C it_Lw_exchange 2 (f2 := (7, [some (.ref pa), some (.ref qa), some (.int (nI t)), some (.ref a), none, none, none, none, none, none, none, none], [.int (nI 36)])) rfl ?_
  refine Z_newa C it_Lw_exchange (at9 := .int) rfl (tg := 10) (N := 36) (by decide) rfl wR_int rfl (by decide) (by decide) (by decide) (fun b hb1 hb2 => ?_)
  refine Z_run C it_Lw_exchange 2 (f2 := (13, [some (.ref pa), some (.ref qa), some (.int (nI t)), some (.ref a), some (.ref b), none, none, none, none, none, none, none], [.int (nI 20)])) rfl ?_
  refine Z_newa C it_Lw_exchange (at9 := .int) rfl (tg := 10) (N := 20) (by decide) rfl wR_int rfl (by decide) (by decide) (by decide) (fun g hg1 hg2 => ?_)
  have hx : xok sz a b g := ⟨ha1, by omega, by omega⟩
  refine Z_run C it_Lw_exchange 3 (f2 := (20, [some (.ref pa), some (.ref qa), some (.int (nI t)), some (.ref a), some (.ref b), some (.ref g), some (.int (nI 0)), none, none, none, none, none], [])) rfl ?_
  have e0 : ∀ r : Nat → Int32, cpy r 0 = fun _ => 0 := fun r => by funext k; unfold cpy; rw [if_neg (by omega)]
  have eX : hset (hset (hset h a (10, 36, fun _ => defaultValue (zty 10))) b (10, 36, fun _ => defaultValue (zty 10))) g (10, 20, fun _ => defaultValue (zty 10)) = X3 h a b g (cpy pr 0) (cpy qr 0) (fun _ => 0) := by
    rw [e0, e0]
    rfl
  rw [eX]
  refine xa_20 C q hpq hp hq hpa hqa hlo hx ht ?_ 37 0 (by omega) (by omega)
  refine Z_run C it_Lw_exchange 4 (f2 := (56, [some (.ref pa), some (.ref qa), some (.int (nI t)), some (.ref a), some (.ref b), some (.ref g), some (.int (nI 0)), some (.int (nI 1)), none, none, none, none], [])) rfl ?_
  refine xc_56 C q hpq hp hq hpa hqa hlo hx ht (fun fa fb fg l8 l9 => ?_) 37 0 F (fun _ => 0) _ _ _ ?_ (okpq_c hpq) h0 (by omega) (fun k hk => rfl) (fun k hk => by decide) rfl
  · refine Z_heap (h2 := h) (sz2 := sz) (by have := hx.1; have := hx.2.1; have := hx.2.2; omega) hlo (fun x c hc => ⟨(X3_o hx (hdm x c hc)).trans hc, hdm x c hc⟩) ?_
    exact Z_iret C q.e it_Lw_exchange rfl ⟨rfl, rfl, rfl⟩ (by decide) (by decide)
  · have : pcs_ F ≤ 36 := cnt_le
    omega
