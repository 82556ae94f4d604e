/-! ===== each call of the law, the class's and the Model's together ===== -/
theorem out_i {z a : Nat} (O : fx_O) (k : fx_H) (j : Nat) (ha : a < z) : fx_i (outH z O k) a j = fx_i k a j := by
  unfold outH
  split
  · exact ph_i _ _ _ ha
  · rfl
theorem out_cr {z q : Nat} {k : fx_H} (O : fx_O) (hz : q + 38 ≤ z) (h : mCR k q) : mCR (outH z O k) q := by
  intro s hs
  rw [out_i O k _ (by omega), out_i O k _ (by omega)]
  exact h s hs
section CALLS
variable {g : fx_G} {h : fx_H} {w q z f b : Nat}
theorem L_surface (ok : fx_ok g) (I : LI h w q z f b) (cl cs rs : Int32) : ∃ (c : Int32) (K : fx_H) (v : Int32) (K2 : fx_H), fx_C g mq_LA_surface [.ref w, .int cl, .int cs, .int rs, .ref z] h (fx_is (some c) K) 1 6 ∧ isM K q ∧ fx_C g mq_MO_surface [.ref q, .int cl, .int cs, .int rs] K (fx_is (some v) K2) 0 0 ∧ v_MO_thrown K2 q = c ∧ (c = 0 → fx_i K2 z 0 = v) ∧ ∃ f b, LI K2 w q z f b := by
  have I' := I
  obtain ⟨hF, hM, hj, hz, hqz⟩ := I'
  obtain ⟨a1, a2, a3⟩ := A_surface hj cl cs rs
  have hk := kx_FS_surface h w f b cl cs rs
  have hO := OA_surface h w f b cl cs rs
  obtain ⟨m1, m2, m3, m4⟩ := L_out (fun u => k_MO_surface u q cl cs rs) (fun u => v_MO_surface u q cl cs rs) I hO hk (fun u => kx_sm (sm_MO_surface u q cl cs rs)) (fun v => ph_surface hqz v _ cl cs rs) a1 a2 a3
  exact ⟨_, _, _, _, c_LA_surface ok h _ w cl cs rs _ hF.1 z ((hk.1 z).trans hz) hO (c_FS_surface ok h w f b cl cs rs hF), m1, c_MO_surface ok _ q cl cs rs m1, m2, m3, f, b, m4⟩
theorem L_fill (ok : fx_ok g) (I : LI h w q z f b) (s x y cs rs co : Int32) : ∃ (c : Int32) (K : fx_H) (v : Int32) (K2 : fx_H), fx_C g mq_LA_fill [.ref w, .int s, .int x, .int y, .int cs, .int rs, .int co, .ref z] h (fx_is (some c) K) 1 6 ∧ isM K q ∧ fx_C g mq_MO_fill [.ref q, .int s, .int x, .int y, .int cs, .int rs, .int co] K (fx_is (some v) K2) 0 0 ∧ v_MO_thrown K2 q = c ∧ (c = 0 → fx_i K2 z 0 = v) ∧ ∃ f b, LI K2 w q z f b := by
  have I' := I
  obtain ⟨hF, hM, hj, hz, hqz⟩ := I'
  obtain ⟨p1, cr, a1, a2, a3⟩ := A_fill hj s x y cs rs co
  have hk := kx_FS_fill h w f b s x y cs rs co
  have hO := OA_fill h w f b s x y cs rs co
  obtain ⟨m1, m2, m3, m4⟩ := L_out (fun u => k_MO_fill u q s x y cs rs co) (fun u => v_MO_fill u q s x y cs rs co) I hO hk (fun u => kx_sm (sm_MO_fill u q s x y cs rs co)) (fun v => ph_fill hqz v _ s x y cs rs co) a1 a2 a3
  exact ⟨_, _, _, _, c_LA_fill ok h _ w s x y cs rs co _ hF.1 z ((hk.1 z).trans hz) hO (O1_fill _ _ _ _ _ _ _ _ _ _) (c_FS_fill ok h w f b s x y cs rs co hF p1), m1, c_MO_fill ok _ q s x y cs rs co m1 (out_cr _ hqz cr), m2, m3, f, b, m4⟩
theorem L_copy (ok : fx_ok g) (I : LI h w q z f b) (fr to_ x y cs rs tx ty : Int32) : ∃ (c : Int32) (K : fx_H) (v : Int32) (K2 : fx_H), fx_C g mq_LA_copy [.ref w, .int fr, .int to_, .int x, .int y, .int cs, .int rs, .int tx, .int ty, .ref z] h (fx_is (some c) K) 1 6 ∧ isM K q ∧ fx_C g mq_MO_copy [.ref q, .int fr, .int to_, .int x, .int y, .int cs, .int rs, .int tx, .int ty] K (fx_is (some v) K2) 0 0 ∧ v_MO_thrown K2 q = c ∧ (c = 0 → fx_i K2 z 0 = v) ∧ ∃ f b, LI K2 w q z f b := by
  have I' := I
  obtain ⟨hF, hM, hj, hz, hqz⟩ := I'
  obtain ⟨p1, cr, a1, a2, a3⟩ := A_copy hj fr to_ x y cs rs tx ty
  have hk := kx_FS_copy h w f b fr to_ x y cs rs tx ty
  have hO := OA_copy h w f b fr to_ x y cs rs tx ty
  obtain ⟨m1, m2, m3, m4⟩ := L_out (fun u => k_MO_copy u q fr to_ x y cs rs tx ty) (fun u => v_MO_copy u q fr to_ x y cs rs tx ty) I hO hk (fun u => kx_sm (sm_MO_copy u q fr to_ x y cs rs tx ty)) (fun v => ph_copy hqz v _ fr to_ x y cs rs tx ty) a1 a2 a3
  exact ⟨_, _, _, _, c_LA_copy ok h _ w fr to_ x y cs rs tx ty _ hF.1 z ((hk.1 z).trans hz) hO (O1_copy _ _ _ _ _ _ _ _ _ _ _ _) (c_FS_copy ok h w f b fr to_ x y cs rs tx ty hF (fun c1 c2 c3 c4 c5 c6 => p1 ⟨c1, c2, c3, c4, c5, c6⟩)), m1, c_MO_copy ok _ q fr to_ x y cs rs tx ty m1 (out_cr _ hqz cr), m2, m3, f, b, m4⟩
theorem L_commit (ok : fx_ok g) (I : LI h w q z f b) (cl : Int32) : ∃ (c : Int32) (K : fx_H) (v : Int32) (K2 : fx_H), fx_C g mq_LA_commit [.ref w, .int cl, .ref z] h (fx_is (some c) K) 1 6 ∧ isM K q ∧ fx_C g mq_MO_commit [.ref q, .int cl] K (fx_is (some v) K2) 0 0 ∧ v_MO_thrown K2 q = c ∧ (c = 0 → fx_i K2 z 0 = v) ∧ ∃ f b, LI K2 w q z f b := by
  have I' := I
  obtain ⟨hF, hM, hj, hz, hqz⟩ := I'
  obtain ⟨p1, a1, a2, a3⟩ := A_commit hj cl
  have hk := kx_FS_commit h w f b cl
  have hO := OA_commit h w f b cl
  obtain ⟨m1, m2, m3, m4⟩ := L_out (fun u => k_MO_commit u q cl) (fun u => v_MO_commit u q cl) I hO hk (fun u => kx_sm (sm_MO_commit u q cl)) (fun v => ph_commit hqz v _ cl) a1 a2 a3
  exact ⟨_, _, _, _, c_LA_commit ok h _ w cl _ hF.1 z ((hk.1 z).trans hz) hO (c_FS_commit ok h w f b cl hF (fun c1 _ => p1 c1)), m1, c_MO_commit ok _ q cl m1 (fun c => by
    have := wi_b c
    have a0 : (0 : Int32).toInt = 0 := rfl
    have a3 : (3 : Int32).toInt = 3 := rfl
    exact iz_in (by omega) (by omega)), m2, m3, f, b, m4⟩
theorem L_draw (ok : fx_ok g) (I : LI h w q z f b) (x : Int32) : ∃ (c : Int32) (K : fx_H) (v : Int32) (K2 : fx_H), fx_C g mq_LA_draw [.ref w, .int x, .ref z] h (fx_is (some c) K) 1 6 ∧ isM K q ∧ fx_C g mq_MO_draw [.ref q, .int x] K (fx_is (some v) K2) 0 0 ∧ v_MO_thrown K2 q = c ∧ (c = 0 → fx_i K2 z 0 = v) ∧ ∃ f b, LI K2 w q z f b := by
  have I' := I
  obtain ⟨hF, hM, hj, hz, hqz⟩ := I'
  have hk := kx_FS_draw h w f b x
  have hO := OA_draw h w f b x
  obtain ⟨p1, p2, cl, ms, bk, d0, d1, a1, a2, a3⟩ := A_draw hj x (K := outH z (o_FS_draw h w f b x) (k_FS_draw h w f b x)) (fun y j hy => out_i _ _ _ (by omega))
  have k1 := kx_t hk (kx_out z (o_FS_draw h w f b x) (k_FS_draw h w f b x))
  have m1 : isM (outH z (o_FS_draw h w f b x) (k_FS_draw h w f b x)) q := isM_kp (kx_kp k1 _ _) hM
  refine ⟨_, _, _, _, c_LA_draw ok h _ w x _ hF.1 z ((hk.1 z).trans hz) hO (O1_draw _ _ _ _ _) (c_FS_draw ok h w f b x hF (fun c _ => p1 c) (fun c _ _ => p1 c) (fun c _ _ _ => p1 c) (fun c _ _ _ => (p2 c).1) (fun c _ _ _ => (p2 c).2)), m1, c_MO_draw ok _ q x m1 cl ms bk (dI w q f b) (fun u hu hs => dI_step u hu hs) d0 (fun _ _ _ => d1), a1, fun c => ?_, f, b, LI_kx I (kx_t k1 (kx_sm (sm_MO_draw _ q x))) a3⟩
  obtain ⟨v, hv⟩ := cod_0 hO c
  rw [z_draw hqz, ← a2 v hv, hv]
  exact ph_z z v _
theorem L_destroy (ok : fx_ok g) (I : LI h w q z f b) (s : Int32) : ∃ (c : Int32) (K : fx_H) (K2 : fx_H), fx_C g mq_LA_destroy [.ref w, .int s] h (fx_is (some c) K) 1 6 ∧ isM K q ∧ fx_C g mq_MO_destroy [.ref q, .int s] K (fx_is none K2) 0 0 ∧ v_MO_thrown K2 q = c ∧ ∃ f b, LI K2 w q z f b := by
  obtain ⟨a1, a2⟩ := A_destroy I.2.2.1 s
  have hk := kx_FS_destroy h w f b s
  have hO := OV_destroy h w f b s
  have m1 := isM_kp (kx_kp hk _ _) I.2.1
  exact ⟨_, _, _, c_LA_destroy ok h _ w s _ I.1.1 hO.1 hO.2 (c_FS_destroy ok h w f b s I.1), m1, c_MO_destroy ok _ q s m1 (pre_destroy _ _ _), a1, f, b, LI_kx I (kx_t hk (kx_sm (sm_MO_destroy _ q s))) a2⟩
theorem L_place (ok : fx_ok g) (I : LI h w q z f b) (s x y od al vi : Int32) (hv : vi = 0 ∨ vi = 1) : ∃ (c : Int32) (K : fx_H) (K2 : fx_H), fx_C g mq_LA_place [.ref w, .int s, .int x, .int y, .int od, .int al, .int vi] h (fx_is (some c) K) 1 6 ∧ isM K q ∧ fx_C g mq_MO_place [.ref q, .int s, .int x, .int y, .int od, .int al, .int vi] K (fx_is none K2) 0 0 ∧ v_MO_thrown K2 q = c ∧ ∃ f b, LI K2 w q z f b := by
  obtain ⟨a1, a2⟩ := A_place I.2.2.1 s x y od al vi
  have hk := kx_FS_place h w f b s x y od al vi
  have hO := OV_place h w f b s x y od al vi
  have m1 := isM_kp (kx_kp hk _ _) I.2.1
  exact ⟨_, _, _, c_LA_place ok h _ w s x y od al vi _ I.1.1 hO.1 hO.2 (c_FS_place ok h w f b s x y od al vi I.1 hv), m1, c_MO_place ok _ q s x y od al vi m1 hv (pre_place _ _ _ _ _ _ _ _), a1, f, b, LI_kx I (kx_t hk (kx_sm (sm_MO_place _ q s x y od al vi))) a2⟩
theorem L_clip (ok : fx_ok g) (I : LI h w q z f b) (s x y cs rs : Int32) : ∃ (c : Int32) (K : fx_H) (K2 : fx_H), fx_C g mq_LA_clip [.ref w, .int s, .int x, .int y, .int cs, .int rs] h (fx_is (some c) K) 1 6 ∧ isM K q ∧ fx_C g mq_MO_clip [.ref q, .int s, .int x, .int y, .int cs, .int rs] K (fx_is none K2) 0 0 ∧ v_MO_thrown K2 q = c ∧ ∃ f b, LI K2 w q z f b := by
  obtain ⟨a1, a2⟩ := A_clip I.2.2.1 s x y cs rs
  have hk := kx_FS_clip h w f b s x y cs rs
  have hO := OV_clip h w f b s x y cs rs
  have m1 := isM_kp (kx_kp hk _ _) I.2.1
  exact ⟨_, _, _, c_LA_clip ok h _ w s x y cs rs _ I.1.1 hO.1 hO.2 (c_FS_clip ok h w f b s x y cs rs I.1), m1, c_MO_clip ok _ q s x y cs rs m1, a1, f, b, LI_kx I (kx_t hk (kx_sm (sm_MO_clip _ q s x y cs rs))) a2⟩
theorem L_put (ok : fx_ok g) (I : LI h w q z f b) (s x y co : Int32) : ∃ (c : Int32) (K : fx_H) (K2 : fx_H), fx_C g mq_LA_put [.ref w, .int s, .int x, .int y, .int co] h (fx_is (some c) K) 1 6 ∧ isM K q ∧ fx_C g mq_MO_put [.ref q, .int s, .int x, .int y, .int co] K (fx_is none K2) 0 0 ∧ v_MO_thrown K2 q = c ∧ ∃ f b, LI K2 w q z f b := by
  obtain ⟨p1, p2, a1, a2⟩ := A_put I.2.2.1 s x y co
  have hk := kx_FS_put h w f b s x y co
  have hO := OV_put h w f b s x y co
  have m1 := isM_kp (kx_kp hk _ _) I.2.1
  exact ⟨_, _, _, c_LA_put ok h _ w s x y co _ I.1.1 hO (c_FS_put ok h w f b s x y co I.1 p1), m1, c_MO_put ok _ q s x y co m1 p2, a1, f, b, LI_kx I (kx_t hk (kx_sm (sm_MO_put _ q s x y co))) a2⟩
theorem fx_ou_is {M : fx_M} {as : List Value} {O : fx_O} {v : Option Int32} {k : fx_H} {mc ms : Nat} (e : O = .inl v) (hC : fx_C g M as h (fx_ou O k) mc ms) : fx_C g M as h (fx_is v k) mc ms := by
  rw [e] at hC
  exact hC
theorem Q_scan (ok : fx_ok g) (I : LI h w q z f b) : ∃ (v : Int32) (K K2 : fx_H), fx_C g mq_FS_scan [.ref w] h (fx_is (some v) K) 0 0 ∧ isM K q ∧ fx_C g mq_MO_scan [.ref q] K (fx_is (some v) K2) 0 0 ∧ ∃ f b, LI K2 w q z f b := by
  obtain ⟨⟨n0, n1⟩, m1, lk, ch, e, f', b', I2⟩ := L_scan I
  exact ⟨_, _, _, fx_ou_is e (c_FS_scan ok h w f b I.1 n0 n1), m1, c_MO_scan ok _ q m1 lk ch, f', b', I2⟩
theorem Q_state (ok : fx_ok g) (I : LI h w q z f b) : ∃ (v : Int32) (K K2 : fx_H), fx_C g mq_FS_state [.ref w] h (fx_is (some v) K) 0 0 ∧ isM K q ∧ fx_C g mq_MO_state [.ref q] K (fx_is (some v) K2) 0 0 ∧ ∃ f b, LI K2 w q z f b := by
  obtain ⟨e, j⟩ := A_state I.2.2.1
  exact ⟨_, _, _, fx_ou_is e (c_FS_state ok h w f b I.1), I.2.1, c_MO_state ok h q I.2.1, f, b, LI_kx I (kx_sm (sm_MO_state _ q)) j⟩
theorem Q_free (ok : fx_ok g) (I : LI h w q z f b) : ∃ (v : Int32) (K K2 : fx_H), fx_C g mq_FS_free [.ref w] h (fx_is (some v) K) 0 0 ∧ isM K q ∧ fx_C g mq_MO_free [.ref q] K (fx_is (some v) K2) 0 0 ∧ ∃ f b, LI K2 w q z f b := by
  obtain ⟨e, j⟩ := A_free I.2.2.1
  exact ⟨_, _, _, fx_ou_is e (c_FS_free ok h w f b I.1), I.2.1, c_MO_free ok h q I.2.1, f, b, LI_kx I (kx_sm (sm_wi _ _ _ _)) j⟩
theorem Q_seen (ok : fx_ok g) (I : LI h w q z f b) (x y : Int32) : ∃ (v : Int32) (K K2 : fx_H), fx_C g mq_FS_seen [.ref w, .int x, .int y] h (fx_is (some v) K) 0 0 ∧ isM K q ∧ fx_C g mq_MO_seen [.ref q, .int x, .int y] K (fx_is (some v) K2) 0 0 ∧ ∃ f b, LI K2 w q z f b := by
  obtain ⟨p, e, j⟩ := A_seen I.2.2.1 x y
  exact ⟨_, _, _, fx_ou_is e (c_FS_seen ok h w f b x y I.1), I.2.1, c_MO_seen ok h q x y I.2.1 p, f, b, LI_kx I (kx_sm (sm_MO_seen _ q x y)) j⟩
theorem Q_wanted (ok : fx_ok g) (I : LI h w q z f b) (x y : Int32) : ∃ (v : Int32) (K K2 : fx_H), fx_C g mq_FS_wanted [.ref w, .int x, .int y] h (fx_is (some v) K) 0 0 ∧ isM K q ∧ fx_C g mq_MO_wanted [.ref q, .int x, .int y] K (fx_is (some v) K2) 0 0 ∧ ∃ f b, LI K2 w q z f b := by
  obtain ⟨p, p2, e, j⟩ := A_wanted I.2.2.1 x y
  exact ⟨_, _, _, fx_ou_is e (c_FS_wanted ok h w f b x y I.1 (fun _ => p.1) (fun _ => p.2)), I.2.1, c_MO_wanted ok h q x y I.2.1 (fun _ => p2), f, b, LI_kx I (kx_sm (sm_MO_wanted _ q x y)) j⟩
theorem Q_count (ok : fx_ok g) (I : LI h w q z f b) (x : Int32) : ∃ (v : Int32) (K K2 : fx_H), fx_C g mq_FS_count [.ref w, .int x] h (fx_is (some v) K) 0 0 ∧ isM K q ∧ fx_C g mq_MO_count [.ref q, .int x] K (fx_is (some v) K2) 0 0 ∧ ∃ f b, LI K2 w q z f b := by
  obtain ⟨e, j⟩ := A_count I.2.2.1 x
  exact ⟨_, _, _, fx_ou_is e (c_FS_count ok h w f b x I.1), I.2.1, c_MO_count ok h q x I.2.1, f, b, LI_kx I (kx_sm (sm_MO_count _ q x)) j⟩
theorem Q_missed (ok : fx_ok g) (I : LI h w q z f b) (x y : Int32) : ∃ (v : Int32) (K K2 : fx_H), fx_C g mq_FS_missed [.ref w, .int x, .int y] h (fx_is (some v) K) 0 0 ∧ isM K q ∧ fx_C g mq_MO_missed [.ref q, .int x, .int y] K (fx_is (some v) K2) 0 0 ∧ ∃ f b, LI K2 w q z f b := by
  obtain ⟨p, p2, e, j⟩ := A_missed I.2.2.1 x y
  exact ⟨_, _, _, fx_ou_is e (c_FS_missed ok h w f b x y I.1 p), I.2.1, c_MO_missed ok h q x y I.2.1 p2, f, b, LI_kx I (kx_sm (sm_MO_missed _ q x y)) j⟩
theorem Q_plane (ok : fx_ok g) (I : LI h w q z f b) (x : Int32) : ∃ (v : Int32) (K K2 : fx_H), fx_C g mq_FS_plane [.ref w, .int x] h (fx_is (some v) K) 0 0 ∧ isM K q ∧ fx_C g mq_MO_plane [.ref q, .int x] K (fx_is (some v) K2) 0 0 ∧ ∃ f b, LI K2 w q z f b := by
  obtain ⟨p, e, j⟩ := A_plane I.2.2.1 x
  exact ⟨_, _, _, fx_ou_is e (c_FS_plane ok h w f b x I.1), I.2.1, c_MO_plane ok h q x I.2.1 p, f, b, LI_kx I (kx_sm (sm_MO_plane _ q x)) j⟩
end CALLS
