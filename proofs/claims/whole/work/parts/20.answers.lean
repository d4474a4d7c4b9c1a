/-! the dominator of a vertex -/
def sp_Id (n : Nat) (L : Nat → Int64) (r v d : Nat) : Prop := d ≠ v ∧ dm_D (gf_E n L) r d v ∧ ∀ u, u ≠ v → dm_D (gf_E n L) r u v → dm_D (gf_E n L) r u d
theorem sp_Id_u {n : Nat} {L : Nat → Int64} {r v d e : Nat} (h1 : sp_Id n L r v d) (h2 : sp_Id n L r v e) : d = e := dm_as (h2.2.2 d h1.1 h1.2.1) (h1.2.2 e h2.1 h2.2.1)
/-- the answer: r stands for it, or for none -/
def sp_Dm (n : Nat) (L : Nat → Int64) (r v : Nat) (a : Int32) : Prop := (∃ d, sp_Id n L r v d ∧ a = nI d) ∨ ((∀ d, ¬ sp_Id n L r v d) ∧ a = -1)
theorem sp_Dm_u {n : Nat} {L : Nat → Int64} {r v : Nat} {a b : Int32} (h1 : sp_Dm n L r v a) (h2 : sp_Dm n L r v b) : a = b := by
  rcases h1 with ⟨d, q1, q2⟩ | ⟨q1, q2⟩ <;> rcases h2 with ⟨e, z1, z2⟩ | ⟨z1, z2⟩
  · rw [q2, z2, sp_Id_u q1 z1]
  · exact absurd q1 (z1 d)
  · exact absurd z1 (q1 e)
  · rw [q2, z2]
theorem cl_cond {n : Nat} (hn : n ≤ 64) {L : Nat → Int64} {r : Nat} {ab : Nat → Int64} (h : cl_ok n L r ab) {u v : Nat} (hu : u < n) (hv : v < n) : (bs_t (ab v &&& (bs_b v ^^^ (-1))) u = true ∧ ab u = ab v &&& (bs_b v ^^^ (-1))) ↔ sp_Id n L r v u := by
  have hm : ∀ i, bs_t (ab v &&& (bs_b v ^^^ (-1))) i = true ↔ (dm_D (gf_E n L) r i v ∧ i ≠ v) := fun i => by
    have := md_mk_t v (ab v) i
    unfold md_mk at this
    rw [if_pos (by omega)] at this
    rw [this, h v i hv]
  constructor
  · rintro ⟨h1, h2⟩
    obtain ⟨q1, q2⟩ := (hm u).mp h1
    refine ⟨q2, q1, fun x hx hd => ?_⟩
    rw [← h u x hu, h2]
    exact (hm x).mpr ⟨hd, hx⟩
  · rintro ⟨h1, h2, h3⟩
    refine ⟨(hm u).mpr ⟨h2, h1⟩, ?_⟩
    apply bs_ext
    intro x _
    rw [Bool.eq_iff_iff, h u x hu, hm]
    constructor
    · intro hd
      exact ⟨dm_tr hd h2, fun e => h1 (dm_as h2 (by rw [← e]; exact hd))⟩
    · rintro ⟨q1, q2⟩
      exact h3 x q2 q1
/-- how many dominate v -/
noncomputable def sp_rk (n : Nat) (L : Nat → Int64) (r v : Nat) : Nat := ct_n (fun u => gf_d (dm_D (gf_E n L) r u v)) n
theorem sp_rk_le (n : Nat) (L : Nat → Int64) (r v : Nat) : sp_rk n L r v ≤ n := ct_le _ _
theorem sp_rk_lt {n : Nat} {L : Nat → Int64} (hL : ∀ u v, gf_E n L u v → v < n) {r : Nat} (hr : r < n) {b u : Nat} (h : dm_D (gf_E n L) r b u) (hne : b ≠ u) : sp_rk n L r b < sp_rk n L r u := by
  refine ct_lt (j := u) (fun i _ hi => gf_di.mpr (dm_tr (gf_di.mp hi) h)) (gf_lt hL hr h.2.1) (gf_df.mpr (fun q => hne (dm_as h q))) (gf_di.mpr (dm_rf h.2.1))
theorem sp_rk_pos {n : Nat} {L : Nat → Int64} (hL : ∀ u v, gf_E n L u v → v < n) {r : Nat} (hr : r < n) {u : Nat} (h : gf_R (gf_E n L) r u) : 0 < sp_rk n L r u := ct_pos (gf_lt hL hr h) (gf_di.mpr (dm_rf h))
theorem cl_rk {n : Nat} (hn : n ≤ 64) {L : Nat → Int64} (hL : ∀ u v, gf_E n L u v → v < n) {r : Nat} (hr : r < n) {ab : Nat → Int64} (h : cl_ok n L r ab) {v : Nat} (hv : v < n) : bs_c (ab v) = sp_rk n L r v := by
  unfold bs_c sp_rk
  have e : ∀ i, bs_t (ab v) i = gf_d (dm_D (gf_E n L) r i v) := fun i => by rw [Bool.eq_iff_iff, h v i hv, gf_di]
  rw [ct_congr (fun i _ => e i), ct_cut hn]
  intro i hi
  rw [gf_df]
  intro q
  have := gf_lt hL hr q.1
  omega
/-- the reference's search, below k -/
def md_B (n : Nat) (L : Nat → Int64) (r v k : Nat) (best most : Int32) : Prop :=
  (best = -1 ∧ most = 0 ∧ ∀ u, u < k → u ≠ v → ¬ dm_D (gf_E n L) r u v) ∨ ∃ b, b < k ∧ best = nI b ∧ most = nI (sp_rk n L r b) ∧ b ≠ v ∧ dm_D (gf_E n L) r b v ∧ ∀ u, u < k → u ≠ v → dm_D (gf_E n L) r u v → sp_rk n L r u ≤ sp_rk n L r b
theorem md_B0 (n : Nat) (L : Nat → Int64) (r v : Nat) : md_B n L r v 0 (-1) 0 := Or.inl ⟨rfl, rfl, fun u hu => by omega⟩
theorem md_Bk {n : Nat} (hn : n ≤ 64) {L : Nat → Int64} (hL : ∀ u v, gf_E n L u v → v < n) {r : Nat} (hr : r < n) {v k : Nat} {best most : Int32} (h : md_B n L r v k best most) (hk : ¬ (k ≠ v ∧ dm_D (gf_E n L) r k v ∧ most < nI (sp_rk n L r k))) : md_B n L r v (k + 1) best most := by
  have hb := sp_rk_le n L r k
  rcases h with ⟨q1, q2, q3⟩ | ⟨b, q1, q2, q3, q4, q5, q6⟩
  · refine Or.inl ⟨q1, q2, fun u hu hv hd => ?_⟩
    by_cases e : u = k
    · subst e
      apply hk
      refine ⟨hv, hd, ?_⟩
      rw [q2, ← nI_0, nI_ltI (by omega) (by omega)]
      exact sp_rk_pos hL hr hd.1
    · exact q3 u (by omega) hv hd
  · refine Or.inr ⟨b, by omega, q2, q3, q4, q5, fun u hu hv hd => ?_⟩
    by_cases e : u = k
    · subst e
      have hb2 := sp_rk_le n L r b
      apply Classical.byContradiction
      intro z
      apply hk
      refine ⟨hv, hd, ?_⟩
      rw [q3, nI_ltI (by omega) (by omega)]
      omega
    · exact q6 u (by omega) hv hd
theorem md_Bt {n : Nat} (hn : n ≤ 64) {L : Nat → Int64} {r : Nat} {v k : Nat} {best most : Int32} (h : md_B n L r v k best most) (hk : k ≠ v ∧ dm_D (gf_E n L) r k v ∧ most < nI (sp_rk n L r k)) : md_B n L r v (k + 1) (nI k) (nI (sp_rk n L r k)) := by
  have hb := sp_rk_le n L r k
  refine Or.inr ⟨k, by omega, rfl, rfl, hk.1, hk.2.1, fun u hu hv hd => ?_⟩
  by_cases e : u = k
  · rw [e]; exact Nat.le_refl _
  · rcases h with ⟨q1, q2, q3⟩ | ⟨b, q1, q2, q3, q4, q5, q6⟩
    · exact absurd hd (q3 u (by omega) hv)
    · have hb2 := sp_rk_le n L r b
      have z := hk.2.2
      rw [q3, nI_ltI (by omega) (by omega)] at z
      have := q6 u (by omega) hv hd
      omega
theorem md_Be {n : Nat} {L : Nat → Int64} (hL : ∀ u v, gf_E n L u v → v < n) {r : Nat} (hr : r < n) {v : Nat} {best most : Int32} (h : md_B n L r v n best most) : sp_Dm n L r v best := by
  rcases h with ⟨q1, q2, q3⟩ | ⟨b, q1, q2, q3, q4, q5, q6⟩
  · refine Or.inr ⟨fun d hd => q3 d (gf_lt hL hr hd.2.1.1) hd.1 hd.2.1, q1⟩
  · refine Or.inl ⟨b, ⟨q4, q5, fun u hu hd => ?_⟩, q2⟩
    rcases dm_chain hd q5 with c | c
    · exact c
    · by_cases e : b = u
      · rw [← e]; exact dm_rf q5.1
      · have := sp_rk_lt hL hr c e
        have := q6 u (gf_lt hL hr hd.1) hu hd
        omega
theorem cl_dm {n : Nat} (hn : n ≤ 64) {L : Nat → Int64} (hL : ∀ u v, gf_E n L u v → v < n) {r : Nat} (hr : r < n) {ab : Nat → Int64} (h : cl_ok n L r ab) {v : Nat} (hv : v < n) (hno : ∀ u, u < n → ¬ (bs_t (ab v &&& (bs_b v ^^^ (-1))) u = true ∧ ab u = ab v &&& (bs_b v ^^^ (-1)))) : sp_Dm n L r v (-1) :=
  Or.inr ⟨fun d hd => hno d (gf_lt hL hr hd.2.1.1) ((cl_cond hn h (gf_lt hL hr hd.2.1.1) hv).mpr hd), rfl⟩
/-! what depends on a vertex -/
def sp_Ct (n : Nat) (L : Nat → Int64) (x u v : Nat) : Prop := (∃ w, gf_E n L u w ∧ dm_D (gf_E n (gf_T n L)) x v w) ∧ (v = u ∨ ¬ dm_D (gf_E n (gf_T n L)) x v u)
noncomputable def sp_ct (n : Nat) (L : Nat → Int64) (x u : Nat) : Int64 := gf_set (fun v => sp_Ct n L x u v) 64
theorem sp_Ct_end {n : Nat} (hn : n ≤ 64) {L : Nat → Int64} (hL : ∀ u v, gf_E n L u v → v < n) {x u v : Nat} (h : sp_Ct n L x u v) : gf_R (gf_E n (gf_T n L)) x u := by
  obtain ⟨⟨w, h1, h2⟩, -⟩ := h
  exact gf_st h2.2.1 ((gf_T_E hn hL u w).mpr h1)
theorem cl_ct {n : Nat} (hn : n ≤ 64) {L : Nat → Int64} (hL : ∀ u v, gf_E n L u v → v < n) {x : Nat} {ab : Nat → Int64} (h : cl_ok n (gf_T n L) x ab) {u : Nat} (hu : u < n) : md_or ab (L u) 0 n &&& ((ab u &&& (bs_b u ^^^ (-1))) ^^^ (-1)) = sp_ct n L x u := by
  refine gf_set_eq (fun v hv => ?_)
  have hm : bs_t (ab u &&& (bs_b u ^^^ (-1))) v = true ↔ (dm_D (gf_E n (gf_T n L)) x v u ∧ v ≠ u) := by
    have := md_mk_t u (ab u) v
    unfold md_mk at this
    rw [if_pos (by omega)] at this
    rw [this, h u v hu]
  rw [bs_and, bs_not _ hv, Bool.and_eq_true, md_or_t]
  have e1 : (!bs_t (ab u &&& (bs_b u ^^^ (-1))) v) = true ↔ (v = u ∨ ¬ dm_D (gf_E n (gf_T n L)) x v u) := by
    rw [Bool.not_eq_true', ← Bool.not_eq_true, hm]
    constructor
    · intro q
      by_cases e : v = u
      · exact Or.inl e
      · exact Or.inr (fun z => q ⟨z, e⟩)
    · rintro (q | q) z
      · exact z.2 q
      · exact q z.1
  rw [e1]
  constructor
  · rintro ⟨q1 | ⟨w, q1, q2, q3⟩, q4⟩
    · rw [bs_0] at q1; cases q1
    · exact ⟨⟨w, ⟨hu, q2⟩, (h w v q1).mp q3⟩, q4⟩
  · rintro ⟨⟨w, q1, q2⟩, q3⟩
    have hw := hL u w q1
    exact ⟨Or.inr ⟨w, hw, q1.2, (h w v hw).mpr q2⟩, q3⟩
/-! rings, by the order of leaving -/
/-- by left: the k-th that was left -/
def sd_bl (n : Nat) (L : Nat → Int64) (r cnt : Nat) (bl lf : Nat → Int32) : Prop := cnt ≤ n ∧ (∀ i, i < cnt → ∃ v, v < n ∧ bl i = nI v ∧ lf v = nI i ∧ gf_R (gf_E n L) r v) ∧ (∀ v, gf_R (gf_E n L) r v → ∃ i, i < cnt ∧ bl i = nI v ∧ lf v = nI i)
theorem df_bl {n r : Nat} {L : Nat → Int64} (hn : n ≤ 64) (hL : ∀ u v, gf_E n L u v → v < n) (hr : r < n) (bl : Nat → Int32) {met : Int64} (hmet : ∀ v, bs_t met v = true ↔ gf_R (gf_E n L) r v) : sd_bl n L r (bs_c met) (df_F n L r bl).2.2.2.1 (df_F n L r bl).2.2.1 ∧ (df_F n L r bl).2.2.2.2.2 = bs_c met := by
  have hm := df_met hn hL hr bl
  have hI := df_Iit hn hL hr bl (2 * n)
  have he := df_end hn hL hr bl
  unfold df_F at hm ⊢
  generalize df_it n L (df_0 r bl) (2 * n) = z at hI he hm
  obtain ⟨tr, en, lf, bl, a, g⟩ := z
  have he : tr = [] := he
  subst he
  obtain ⟨h1, h2, h3, h4, h5, h6, h7, h8, h9, h10, h11⟩ := hI
  have hm : ∀ v, ¬ en v < 0 ↔ gf_R (gf_E n L) r v := hm
  have h7 : g + 0 = a := h7
  have ec : bs_c met = a := by
    rw [h6]
    unfold bs_c
    have e : ∀ i, bs_t met i = !decide (en i < 0) := fun i => by rw [Bool.eq_iff_iff, hmet, ← hm]; simp
    rw [ct_congr (fun i _ => e i), ct_cut hn]
    intro i hi
    rw [← e]
    cases q : bs_t met i with
    | false => rfl
    | true => have := gf_lt hL hr ((hmet i).mp q); omega
  have eg : g = bs_c met := by omega
  refine ⟨?_, eg⟩
  show sd_bl n L r (bs_c met) bl lf
  rw [← eg]
  have han := ct_le (fun v => !decide (en v < 0)) n
  refine ⟨by omega, fun i hi => ?_, fun v hv => ?_⟩
  · obtain ⟨v, q1, q2, q3⟩ := h5 i hi
    exact ⟨v, q1, q2, q3, (hm v).mp (h4 v (by rw [q3]; exact nI_pos (by omega))).1⟩
  · rcases (h3 v ((hm v).mpr hv)).2 with q | q
    · cases q
    · obtain ⟨-, i, z1, z2, z3⟩ := h4 v q
      exact ⟨i, z1, z3, z2⟩
/-- what the class has looked at, below k -/
def cl_X (n : Nat) (L : Nat → Int64) (r : Nat) (bl lf : Nat → Int32) (done : Int64) (k : Nat) : Prop :=
  (∀ w, bs_t done w = true ↔ ∃ i, i < k ∧ bl i = nI w ∧ w < n) ∧ ∀ i u w, i < k → bl i = nI u → u < n → gf_B n L r u w → lf w < lf u
theorem cl_X0 (n : Nat) (L : Nat → Int64) (r : Nat) (bl lf : Nat → Int32) : cl_X n L r bl lf 0 0 := ⟨fun w => by
    rw [bs_0]
    constructor
    · intro h; cases h
    · rintro ⟨i, h, -⟩; omega, fun i u w hi => by omega⟩
theorem cl_Xb {n : Nat} (hn : n ≤ 64) {L : Nat → Int64} (hL : ∀ u v, gf_E n L u v → v < n) {r cnt : Nat} {bl lf : Nat → Int32} (hb : sd_bl n L r cnt bl lf) {done : Int64} {k : Nat} (h : cl_X n L r bl lf done k) (hk : k < cnt) {u : Nat} (hu : bl k = nI u) (hun : u < n) {ab : Nat → Int64} (hab : cl_ok n L r ab) (w : Nat) :
    bs_t (L u &&& (ab u ^^^ (-1)) &&& (done ^^^ (-1))) w = true ↔ (gf_B n L r u w ∧ ¬ lf w < lf u) := by
  obtain ⟨hc, hb1, hb2⟩ := hb
  obtain ⟨u2, q1, q2, q3, q4⟩ := hb1 k hk
  have eu : u2 = u := by rw [hu] at q2; exact ((nI_eq (by omega) (by omega)).mp q2).symm
  subst eu
  have hd : w < n → gf_R (gf_E n L) r w → (bs_t done w = true ↔ lf w < lf u2) := by
    intro hwn hw
    rw [h.1 w, q3]
    obtain ⟨j, z1, z2, z3⟩ := hb2 w hw
    rw [z3, nI_ltI (by omega) (by omega)]
    constructor
    · rintro ⟨i, y1, y2, -⟩
      obtain ⟨v, x1, x2, x3, -⟩ := hb1 i (by omega)
      have ev : v = w := by rw [y2] at x2; exact ((nI_eq (by omega) (by omega)).mp x2).symm
      subst ev
      rw [x3] at z3
      have := (nI_eq (by omega) (by omega)).mp z3
      omega
    · intro y
      exact ⟨j, y, z2, hwn⟩
  rcases Nat.lt_or_ge w 64 with g | g
  · rw [bs_and, bs_and, bs_not _ g, bs_not _ g, Bool.and_eq_true, Bool.and_eq_true, Bool.not_eq_true', Bool.not_eq_true', ← Bool.not_eq_true, ← Bool.not_eq_true, hab u2 w hun]
    constructor
    · rintro ⟨⟨y1, y2⟩, y3⟩
      have he : gf_E n L u2 w := ⟨hun, y1⟩
      exact ⟨⟨he, q4, y2⟩, fun z => y3 ((hd (hL u2 w he) (gf_st q4 he)).mpr z)⟩
    · rintro ⟨⟨y1, y2, y3⟩, y4⟩
      exact ⟨⟨y1.2, y3⟩, fun z => y4 ((hd (hL u2 w y1) (gf_st q4 y1)).mp z)⟩
  · rw [bs_big g]
    constructor
    · intro z; cases z
    · rintro ⟨y1, -⟩
      have := bs_lt y1.1.2
      omega
theorem cl_Xf {n : Nat} (hn : n ≤ 64) {L : Nat → Int64} (hL : ∀ u v, gf_E n L u v → v < n) {r cnt : Nat} (hr : r < n) {bl0 : Nat → Int32} {bl lf : Nat → Int32} (hlf : lf = (df_F n L r bl0).2.2.1) (hb : sd_bl n L r cnt bl lf) {done : Int64} {k : Nat} (h : cl_X n L r bl lf done k) (hk : k < cnt) {u : Nat} (hu : bl k = nI u) (hun : u < n) {ab : Nat → Int64} (hab : cl_ok n L r ab) (hne : ¬ L u &&& (ab u ^^^ (-1)) &&& (done ^^^ (-1)) = 0) : ¬ sp_Red n L r := by
  intro hred
  obtain ⟨w, -, hw⟩ := bs_ne0 hne
  obtain ⟨q1, q2⟩ := (cl_Xb hn hL hb h hk hu hun hab w).mp hw
  apply q2
  rw [hlf]
  exact sp_red_of hn hL hr bl0 hred u w q1
theorem cl_Xs {n : Nat} (hn : n ≤ 64) {L : Nat → Int64} (hL : ∀ u v, gf_E n L u v → v < n) {r cnt : Nat} {bl lf : Nat → Int32} (hb : sd_bl n L r cnt bl lf) {done : Int64} {k : Nat} (h : cl_X n L r bl lf done k) (hk : k < cnt) {u : Nat} (hu : bl k = nI u) (hun : u < n) {ab : Nat → Int64} (hab : cl_ok n L r ab) (he : L u &&& (ab u ^^^ (-1)) &&& (done ^^^ (-1)) = 0) : cl_X n L r bl lf (done ||| bs_b u) (k + 1) := by
  refine ⟨fun w => ?_, fun i x w hi hx hxn hbw => ?_⟩
  · rw [bs_or, Bool.or_eq_true, h.1 w, bs_bit (by omega), decide_eq_true_eq]
    constructor
    · rintro (⟨i, q1, q2⟩ | q)
      · exact ⟨i, by omega, q2⟩
      · rw [← q]; exact ⟨k, by omega, hu, hun⟩
    · rintro ⟨i, q1, q2, q3⟩
      by_cases e : i = k
      · subst e
        right
        rw [hu] at q2
        exact (nI_eq (by omega) (by omega)).mp q2
      · exact Or.inl ⟨i, by omega, q2, q3⟩
  · by_cases e : i = k
    · subst e
      have ex : u = x := by rw [hu] at hx; exact (nI_eq (by omega) (by omega)).mp hx
      subst ex
      apply Classical.byContradiction
      intro z
      have := (cl_Xb hn hL hb h hk hu hun hab w).mpr ⟨hbw, z⟩
      rw [he, bs_0] at this
      cases this
    · exact h.2 i x w (by omega) hx hxn hbw
theorem cl_Xe {n : Nat} {L : Nat → Int64} {r cnt : Nat} {bl lf : Nat → Int32} (hb : sd_bl n L r cnt bl lf) (hL : ∀ u v, gf_E n L u v → v < n) (hr : r < n) {done : Int64} (h : cl_X n L r bl lf done cnt) : sp_Red n L r := by
  refine sp_red_lf (lf := lf) (fun u w hbw => ?_)
  obtain ⟨i, q1, q2, -⟩ := hb.2.2 u hbw.2.1
  exact h.2 i u w q1 q2 (gf_lt hL hr hbw.2.1) hbw
