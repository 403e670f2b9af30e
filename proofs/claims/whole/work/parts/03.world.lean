abbrev StV : Type := Int64 × Int64 × Int64 × Int64 × Int32 × Int32 × (Nat → Nat → Int64) × (Nat → Nat → Int64)
def s_tm (v : StV) : Int64 := v.1
def s_pl (v : StV) : Int64 := v.2.1
def s_go (v : StV) : Int64 := v.2.2.1
def s_mv (v : StV) : Int64 := v.2.2.2.1
def s_en (v : StV) : Int32 := v.2.2.2.2.1
def s_rs (v : StV) : Int32 := v.2.2.2.2.2.1
def s_du (v : StV) : Nat → Nat → Int64 := v.2.2.2.2.2.2.1
def s_ro (v : StV) : Nat → Nat → Int64 := v.2.2.2.2.2.2.2
def s_wtm (v : StV) (x : Int64) : StV := (x, v.2.1, v.2.2.1, v.2.2.2.1, v.2.2.2.2.1, v.2.2.2.2.2.1, v.2.2.2.2.2.2.1, v.2.2.2.2.2.2.2)
def s_wpl (v : StV) (x : Int64) : StV := (v.1, x, v.2.2.1, v.2.2.2.1, v.2.2.2.2.1, v.2.2.2.2.2.1, v.2.2.2.2.2.2.1, v.2.2.2.2.2.2.2)
def s_wgo (v : StV) (x : Int64) : StV := (v.1, v.2.1, x, v.2.2.2.1, v.2.2.2.2.1, v.2.2.2.2.2.1, v.2.2.2.2.2.2.1, v.2.2.2.2.2.2.2)
def s_wmv (v : StV) (x : Int64) : StV := (v.1, v.2.1, v.2.2.1, x, v.2.2.2.2.1, v.2.2.2.2.2.1, v.2.2.2.2.2.2.1, v.2.2.2.2.2.2.2)
def s_wen (v : StV) (x : Int32) : StV := (v.1, v.2.1, v.2.2.1, v.2.2.2.1, x, v.2.2.2.2.2.1, v.2.2.2.2.2.2.1, v.2.2.2.2.2.2.2)
def s_wrs (v : StV) (x : Int32) : StV := (v.1, v.2.1, v.2.2.1, v.2.2.2.1, v.2.2.2.2.1, x, v.2.2.2.2.2.2.1, v.2.2.2.2.2.2.2)
def s_wDU (v : StV) (x : Nat → Nat → Int64) : StV := (v.1, v.2.1, v.2.2.1, v.2.2.2.1, v.2.2.2.2.1, v.2.2.2.2.2.1, x, v.2.2.2.2.2.2.2)
def s_wRO (v : StV) (x : Nat → Nat → Int64) : StV := (v.1, v.2.1, v.2.2.1, v.2.2.2.1, v.2.2.2.2.1, v.2.2.2.2.2.1, v.2.2.2.2.2.2.1, x)
theorem s_wtm_s_tm (v : StV) (x : Int64) : s_tm (s_wtm v x) = x := rfl
theorem s_wtm_s_pl (v : StV) (x : Int64) : s_pl (s_wtm v x) = s_pl v := rfl
theorem s_wtm_s_go (v : StV) (x : Int64) : s_go (s_wtm v x) = s_go v := rfl
theorem s_wtm_s_mv (v : StV) (x : Int64) : s_mv (s_wtm v x) = s_mv v := rfl
theorem s_wtm_s_en (v : StV) (x : Int64) : s_en (s_wtm v x) = s_en v := rfl
theorem s_wtm_s_rs (v : StV) (x : Int64) : s_rs (s_wtm v x) = s_rs v := rfl
theorem s_wtm_s_du (v : StV) (x : Int64) : s_du (s_wtm v x) = s_du v := rfl
theorem s_wtm_s_ro (v : StV) (x : Int64) : s_ro (s_wtm v x) = s_ro v := rfl
theorem s_wpl_s_tm (v : StV) (x : Int64) : s_tm (s_wpl v x) = s_tm v := rfl
theorem s_wpl_s_pl (v : StV) (x : Int64) : s_pl (s_wpl v x) = x := rfl
theorem s_wpl_s_go (v : StV) (x : Int64) : s_go (s_wpl v x) = s_go v := rfl
theorem s_wpl_s_mv (v : StV) (x : Int64) : s_mv (s_wpl v x) = s_mv v := rfl
theorem s_wpl_s_en (v : StV) (x : Int64) : s_en (s_wpl v x) = s_en v := rfl
theorem s_wpl_s_rs (v : StV) (x : Int64) : s_rs (s_wpl v x) = s_rs v := rfl
theorem s_wpl_s_du (v : StV) (x : Int64) : s_du (s_wpl v x) = s_du v := rfl
theorem s_wpl_s_ro (v : StV) (x : Int64) : s_ro (s_wpl v x) = s_ro v := rfl
theorem s_wgo_s_tm (v : StV) (x : Int64) : s_tm (s_wgo v x) = s_tm v := rfl
theorem s_wgo_s_pl (v : StV) (x : Int64) : s_pl (s_wgo v x) = s_pl v := rfl
theorem s_wgo_s_go (v : StV) (x : Int64) : s_go (s_wgo v x) = x := rfl
theorem s_wgo_s_mv (v : StV) (x : Int64) : s_mv (s_wgo v x) = s_mv v := rfl
theorem s_wgo_s_en (v : StV) (x : Int64) : s_en (s_wgo v x) = s_en v := rfl
theorem s_wgo_s_rs (v : StV) (x : Int64) : s_rs (s_wgo v x) = s_rs v := rfl
theorem s_wgo_s_du (v : StV) (x : Int64) : s_du (s_wgo v x) = s_du v := rfl
theorem s_wgo_s_ro (v : StV) (x : Int64) : s_ro (s_wgo v x) = s_ro v := rfl
theorem s_wmv_s_tm (v : StV) (x : Int64) : s_tm (s_wmv v x) = s_tm v := rfl
theorem s_wmv_s_pl (v : StV) (x : Int64) : s_pl (s_wmv v x) = s_pl v := rfl
theorem s_wmv_s_go (v : StV) (x : Int64) : s_go (s_wmv v x) = s_go v := rfl
theorem s_wmv_s_mv (v : StV) (x : Int64) : s_mv (s_wmv v x) = x := rfl
theorem s_wmv_s_en (v : StV) (x : Int64) : s_en (s_wmv v x) = s_en v := rfl
theorem s_wmv_s_rs (v : StV) (x : Int64) : s_rs (s_wmv v x) = s_rs v := rfl
theorem s_wmv_s_du (v : StV) (x : Int64) : s_du (s_wmv v x) = s_du v := rfl
theorem s_wmv_s_ro (v : StV) (x : Int64) : s_ro (s_wmv v x) = s_ro v := rfl
theorem s_wen_s_tm (v : StV) (x : Int32) : s_tm (s_wen v x) = s_tm v := rfl
theorem s_wen_s_pl (v : StV) (x : Int32) : s_pl (s_wen v x) = s_pl v := rfl
theorem s_wen_s_go (v : StV) (x : Int32) : s_go (s_wen v x) = s_go v := rfl
theorem s_wen_s_mv (v : StV) (x : Int32) : s_mv (s_wen v x) = s_mv v := rfl
theorem s_wen_s_en (v : StV) (x : Int32) : s_en (s_wen v x) = x := rfl
theorem s_wen_s_rs (v : StV) (x : Int32) : s_rs (s_wen v x) = s_rs v := rfl
theorem s_wen_s_du (v : StV) (x : Int32) : s_du (s_wen v x) = s_du v := rfl
theorem s_wen_s_ro (v : StV) (x : Int32) : s_ro (s_wen v x) = s_ro v := rfl
theorem s_wrs_s_tm (v : StV) (x : Int32) : s_tm (s_wrs v x) = s_tm v := rfl
theorem s_wrs_s_pl (v : StV) (x : Int32) : s_pl (s_wrs v x) = s_pl v := rfl
theorem s_wrs_s_go (v : StV) (x : Int32) : s_go (s_wrs v x) = s_go v := rfl
theorem s_wrs_s_mv (v : StV) (x : Int32) : s_mv (s_wrs v x) = s_mv v := rfl
theorem s_wrs_s_en (v : StV) (x : Int32) : s_en (s_wrs v x) = s_en v := rfl
theorem s_wrs_s_rs (v : StV) (x : Int32) : s_rs (s_wrs v x) = x := rfl
theorem s_wrs_s_du (v : StV) (x : Int32) : s_du (s_wrs v x) = s_du v := rfl
theorem s_wrs_s_ro (v : StV) (x : Int32) : s_ro (s_wrs v x) = s_ro v := rfl
theorem s_wDU_s_tm (v : StV) (x : Nat → Nat → Int64) : s_tm (s_wDU v x) = s_tm v := rfl
theorem s_wDU_s_pl (v : StV) (x : Nat → Nat → Int64) : s_pl (s_wDU v x) = s_pl v := rfl
theorem s_wDU_s_go (v : StV) (x : Nat → Nat → Int64) : s_go (s_wDU v x) = s_go v := rfl
theorem s_wDU_s_mv (v : StV) (x : Nat → Nat → Int64) : s_mv (s_wDU v x) = s_mv v := rfl
theorem s_wDU_s_en (v : StV) (x : Nat → Nat → Int64) : s_en (s_wDU v x) = s_en v := rfl
theorem s_wDU_s_rs (v : StV) (x : Nat → Nat → Int64) : s_rs (s_wDU v x) = s_rs v := rfl
theorem s_wDU_s_du (v : StV) (x : Nat → Nat → Int64) : s_du (s_wDU v x) = x := rfl
theorem s_wDU_s_ro (v : StV) (x : Nat → Nat → Int64) : s_ro (s_wDU v x) = s_ro v := rfl
theorem s_wRO_s_tm (v : StV) (x : Nat → Nat → Int64) : s_tm (s_wRO v x) = s_tm v := rfl
theorem s_wRO_s_pl (v : StV) (x : Nat → Nat → Int64) : s_pl (s_wRO v x) = s_pl v := rfl
theorem s_wRO_s_go (v : StV) (x : Nat → Nat → Int64) : s_go (s_wRO v x) = s_go v := rfl
theorem s_wRO_s_mv (v : StV) (x : Nat → Nat → Int64) : s_mv (s_wRO v x) = s_mv v := rfl
theorem s_wRO_s_en (v : StV) (x : Nat → Nat → Int64) : s_en (s_wRO v x) = s_en v := rfl
theorem s_wRO_s_rs (v : StV) (x : Nat → Nat → Int64) : s_rs (s_wRO v x) = s_rs v := rfl
theorem s_wRO_s_du (v : StV) (x : Nat → Nat → Int64) : s_du (s_wRO v x) = s_du v := rfl
theorem s_wRO_s_ro (v : StV) (x : Nat → Nat → Int64) : s_ro (s_wRO v x) = x := rfl
abbrev LnV : Type := Int32 × (Nat → Int32) × (Nat → Int64) × (Nat → Int64)
def l_sz (v : LnV) : Int32 := v.1
def l_du (v : LnV) : Nat → Int32 := v.2.1
def l_f1 (v : LnV) : Nat → Int64 := v.2.2.1
def l_f2 (v : LnV) : Nat → Int64 := v.2.2.2
def l_wsz (v : LnV) (x : Int32) : LnV := (x, v.2.1, v.2.2.1, v.2.2.2)
def l_wdu (v : LnV) (x : Nat → Int32) : LnV := (v.1, x, v.2.2.1, v.2.2.2)
def l_wf1 (v : LnV) (x : Nat → Int64) : LnV := (v.1, v.2.1, x, v.2.2.2)
def l_wf2 (v : LnV) (x : Nat → Int64) : LnV := (v.1, v.2.1, v.2.2.1, x)
theorem l_wsz_l_sz (v : LnV) (x : Int32) : l_sz (l_wsz v x) = x := rfl
theorem l_wsz_l_du (v : LnV) (x : Int32) : l_du (l_wsz v x) = l_du v := rfl
theorem l_wsz_l_f1 (v : LnV) (x : Int32) : l_f1 (l_wsz v x) = l_f1 v := rfl
theorem l_wsz_l_f2 (v : LnV) (x : Int32) : l_f2 (l_wsz v x) = l_f2 v := rfl
theorem l_wdu_l_sz (v : LnV) (x : Nat → Int32) : l_sz (l_wdu v x) = l_sz v := rfl
theorem l_wdu_l_du (v : LnV) (x : Nat → Int32) : l_du (l_wdu v x) = x := rfl
theorem l_wdu_l_f1 (v : LnV) (x : Nat → Int32) : l_f1 (l_wdu v x) = l_f1 v := rfl
theorem l_wdu_l_f2 (v : LnV) (x : Nat → Int32) : l_f2 (l_wdu v x) = l_f2 v := rfl
theorem l_wf1_l_sz (v : LnV) (x : Nat → Int64) : l_sz (l_wf1 v x) = l_sz v := rfl
theorem l_wf1_l_du (v : LnV) (x : Nat → Int64) : l_du (l_wf1 v x) = l_du v := rfl
theorem l_wf1_l_f1 (v : LnV) (x : Nat → Int64) : l_f1 (l_wf1 v x) = x := rfl
theorem l_wf1_l_f2 (v : LnV) (x : Nat → Int64) : l_f2 (l_wf1 v x) = l_f2 v := rfl
theorem l_wf2_l_sz (v : LnV) (x : Nat → Int64) : l_sz (l_wf2 v x) = l_sz v := rfl
theorem l_wf2_l_du (v : LnV) (x : Nat → Int64) : l_du (l_wf2 v x) = l_du v := rfl
theorem l_wf2_l_f1 (v : LnV) (x : Nat → Int64) : l_f1 (l_wf2 v x) = l_f1 v := rfl
theorem l_wf2_l_f2 (v : LnV) (x : Nat → Int64) : l_f2 (l_wf2 v x) = x := rfl
abbrev SvV : Type := (Nat → Int64) × (Nat → Int64) × Int32
def t_sd (v : SvV) : Nat → Int64 := v.1
def t_fa (v : SvV) : Nat → Int64 := v.2.1
def t_fz (v : SvV) : Int32 := v.2.2
def t_wsd (v : SvV) (x : Nat → Int64) : SvV := (x, v.2.1, v.2.2)
def t_wfa (v : SvV) (x : Nat → Int64) : SvV := (v.1, x, v.2.2)
def t_wfz (v : SvV) (x : Int32) : SvV := (v.1, v.2.1, x)
theorem t_wsd_t_sd (v : SvV) (x : Nat → Int64) : t_sd (t_wsd v x) = x := rfl
theorem t_wsd_t_fa (v : SvV) (x : Nat → Int64) : t_fa (t_wsd v x) = t_fa v := rfl
theorem t_wsd_t_fz (v : SvV) (x : Nat → Int64) : t_fz (t_wsd v x) = t_fz v := rfl
theorem t_wfa_t_sd (v : SvV) (x : Nat → Int64) : t_sd (t_wfa v x) = t_sd v := rfl
theorem t_wfa_t_fa (v : SvV) (x : Nat → Int64) : t_fa (t_wfa v x) = x := rfl
theorem t_wfa_t_fz (v : SvV) (x : Nat → Int64) : t_fz (t_wfa v x) = t_fz v := rfl
theorem t_wfz_t_sd (v : SvV) (x : Int32) : t_sd (t_wfz v x) = t_sd v := rfl
theorem t_wfz_t_fa (v : SvV) (x : Int32) : t_fa (t_wfz v x) = t_fa v := rfl
theorem t_wfz_t_fz (v : SvV) (x : Int32) : t_fz (t_wfz v x) = x := rfl
abbrev KvV : Type := (Nat → Nat) × Int32 × Int32 × Nat
def k_rg (v : KvV) : Nat → Nat := v.1
def k_la (v : KvV) : Int32 := v.2.1
def k_sz (v : KvV) : Int32 := v.2.2.1
def k_ns (v : KvV) : Nat := v.2.2.2
def k_wrg (v : KvV) (x : Nat → Nat) : KvV := (x, v.2.1, v.2.2.1, v.2.2.2)
def k_wla (v : KvV) (x : Int32) : KvV := (v.1, x, v.2.2.1, v.2.2.2)
def k_wsz (v : KvV) (x : Int32) : KvV := (v.1, v.2.1, x, v.2.2.2)
def k_wns (v : KvV) (x : Nat) : KvV := (v.1, v.2.1, v.2.2.1, x)
theorem k_wrg_k_rg (v : KvV) (x : Nat → Nat) : k_rg (k_wrg v x) = x := rfl
theorem k_wrg_k_la (v : KvV) (x : Nat → Nat) : k_la (k_wrg v x) = k_la v := rfl
theorem k_wrg_k_sz (v : KvV) (x : Nat → Nat) : k_sz (k_wrg v x) = k_sz v := rfl
theorem k_wrg_k_ns (v : KvV) (x : Nat → Nat) : k_ns (k_wrg v x) = k_ns v := rfl
theorem k_wla_k_rg (v : KvV) (x : Int32) : k_rg (k_wla v x) = k_rg v := rfl
theorem k_wla_k_la (v : KvV) (x : Int32) : k_la (k_wla v x) = x := rfl
theorem k_wla_k_sz (v : KvV) (x : Int32) : k_sz (k_wla v x) = k_sz v := rfl
theorem k_wla_k_ns (v : KvV) (x : Int32) : k_ns (k_wla v x) = k_ns v := rfl
theorem k_wsz_k_rg (v : KvV) (x : Int32) : k_rg (k_wsz v x) = k_rg v := rfl
theorem k_wsz_k_la (v : KvV) (x : Int32) : k_la (k_wsz v x) = k_la v := rfl
theorem k_wsz_k_sz (v : KvV) (x : Int32) : k_sz (k_wsz v x) = x := rfl
theorem k_wsz_k_ns (v : KvV) (x : Int32) : k_ns (k_wsz v x) = k_ns v := rfl
theorem k_wns_k_rg (v : KvV) (x : Nat) : k_rg (k_wns v x) = k_rg v := rfl
theorem k_wns_k_la (v : KvV) (x : Nat) : k_la (k_wns v x) = k_la v := rfl
theorem k_wns_k_sz (v : KvV) (x : Nat) : k_sz (k_wns v x) = k_sz v := rfl
theorem k_wns_k_ns (v : KvV) (x : Nat) : k_ns (k_wns v x) = x := rfl
abbrev MmV : Type := (Nat → Int64) × (Nat → Int64) × Int32 × (Nat → Int32) × Int32 × (Nat → Int32) × (Nat → Int64) × Int32 × (Nat → Int32)
def m_s (v : MmV) : Nat → Int64 := v.1
def m_bf (v : MmV) : Nat → Int64 := v.2.1
def m_kp (v : MmV) : Int32 := v.2.2.1
def m_gs (v : MmV) : Nat → Int32 := v.2.2.2.1
def m_gc (v : MmV) : Int32 := v.2.2.2.2.1
def m_lo (v : MmV) : Nat → Int32 := v.2.2.2.2.2.1
def m_tk (v : MmV) : Nat → Int64 := v.2.2.2.2.2.2.1
def m_lc (v : MmV) : Int32 := v.2.2.2.2.2.2.2.1
def m_fs (v : MmV) : Nat → Int32 := v.2.2.2.2.2.2.2.2
def m_ws (v : MmV) (x : Nat → Int64) : MmV := (x, v.2.1, v.2.2.1, v.2.2.2.1, v.2.2.2.2.1, v.2.2.2.2.2.1, v.2.2.2.2.2.2.1, v.2.2.2.2.2.2.2.1, v.2.2.2.2.2.2.2.2)
def m_wbf (v : MmV) (x : Nat → Int64) : MmV := (v.1, x, v.2.2.1, v.2.2.2.1, v.2.2.2.2.1, v.2.2.2.2.2.1, v.2.2.2.2.2.2.1, v.2.2.2.2.2.2.2.1, v.2.2.2.2.2.2.2.2)
def m_wkp (v : MmV) (x : Int32) : MmV := (v.1, v.2.1, x, v.2.2.2.1, v.2.2.2.2.1, v.2.2.2.2.2.1, v.2.2.2.2.2.2.1, v.2.2.2.2.2.2.2.1, v.2.2.2.2.2.2.2.2)
def m_wgs (v : MmV) (x : Nat → Int32) : MmV := (v.1, v.2.1, v.2.2.1, x, v.2.2.2.2.1, v.2.2.2.2.2.1, v.2.2.2.2.2.2.1, v.2.2.2.2.2.2.2.1, v.2.2.2.2.2.2.2.2)
def m_wgc (v : MmV) (x : Int32) : MmV := (v.1, v.2.1, v.2.2.1, v.2.2.2.1, x, v.2.2.2.2.2.1, v.2.2.2.2.2.2.1, v.2.2.2.2.2.2.2.1, v.2.2.2.2.2.2.2.2)
def m_wlo (v : MmV) (x : Nat → Int32) : MmV := (v.1, v.2.1, v.2.2.1, v.2.2.2.1, v.2.2.2.2.1, x, v.2.2.2.2.2.2.1, v.2.2.2.2.2.2.2.1, v.2.2.2.2.2.2.2.2)
def m_wtk (v : MmV) (x : Nat → Int64) : MmV := (v.1, v.2.1, v.2.2.1, v.2.2.2.1, v.2.2.2.2.1, v.2.2.2.2.2.1, x, v.2.2.2.2.2.2.2.1, v.2.2.2.2.2.2.2.2)
def m_wlc (v : MmV) (x : Int32) : MmV := (v.1, v.2.1, v.2.2.1, v.2.2.2.1, v.2.2.2.2.1, v.2.2.2.2.2.1, v.2.2.2.2.2.2.1, x, v.2.2.2.2.2.2.2.2)
def m_wfs (v : MmV) (x : Nat → Int32) : MmV := (v.1, v.2.1, v.2.2.1, v.2.2.2.1, v.2.2.2.2.1, v.2.2.2.2.2.1, v.2.2.2.2.2.2.1, v.2.2.2.2.2.2.2.1, x)
theorem m_ws_m_s (v : MmV) (x : Nat → Int64) : m_s (m_ws v x) = x := rfl
theorem m_ws_m_bf (v : MmV) (x : Nat → Int64) : m_bf (m_ws v x) = m_bf v := rfl
theorem m_ws_m_kp (v : MmV) (x : Nat → Int64) : m_kp (m_ws v x) = m_kp v := rfl
theorem m_ws_m_gs (v : MmV) (x : Nat → Int64) : m_gs (m_ws v x) = m_gs v := rfl
theorem m_ws_m_gc (v : MmV) (x : Nat → Int64) : m_gc (m_ws v x) = m_gc v := rfl
theorem m_ws_m_lo (v : MmV) (x : Nat → Int64) : m_lo (m_ws v x) = m_lo v := rfl
theorem m_ws_m_tk (v : MmV) (x : Nat → Int64) : m_tk (m_ws v x) = m_tk v := rfl
theorem m_ws_m_lc (v : MmV) (x : Nat → Int64) : m_lc (m_ws v x) = m_lc v := rfl
theorem m_ws_m_fs (v : MmV) (x : Nat → Int64) : m_fs (m_ws v x) = m_fs v := rfl
theorem m_wbf_m_s (v : MmV) (x : Nat → Int64) : m_s (m_wbf v x) = m_s v := rfl
theorem m_wbf_m_bf (v : MmV) (x : Nat → Int64) : m_bf (m_wbf v x) = x := rfl
theorem m_wbf_m_kp (v : MmV) (x : Nat → Int64) : m_kp (m_wbf v x) = m_kp v := rfl
theorem m_wbf_m_gs (v : MmV) (x : Nat → Int64) : m_gs (m_wbf v x) = m_gs v := rfl
theorem m_wbf_m_gc (v : MmV) (x : Nat → Int64) : m_gc (m_wbf v x) = m_gc v := rfl
theorem m_wbf_m_lo (v : MmV) (x : Nat → Int64) : m_lo (m_wbf v x) = m_lo v := rfl
theorem m_wbf_m_tk (v : MmV) (x : Nat → Int64) : m_tk (m_wbf v x) = m_tk v := rfl
theorem m_wbf_m_lc (v : MmV) (x : Nat → Int64) : m_lc (m_wbf v x) = m_lc v := rfl
theorem m_wbf_m_fs (v : MmV) (x : Nat → Int64) : m_fs (m_wbf v x) = m_fs v := rfl
theorem m_wkp_m_s (v : MmV) (x : Int32) : m_s (m_wkp v x) = m_s v := rfl
theorem m_wkp_m_bf (v : MmV) (x : Int32) : m_bf (m_wkp v x) = m_bf v := rfl
theorem m_wkp_m_kp (v : MmV) (x : Int32) : m_kp (m_wkp v x) = x := rfl
theorem m_wkp_m_gs (v : MmV) (x : Int32) : m_gs (m_wkp v x) = m_gs v := rfl
theorem m_wkp_m_gc (v : MmV) (x : Int32) : m_gc (m_wkp v x) = m_gc v := rfl
theorem m_wkp_m_lo (v : MmV) (x : Int32) : m_lo (m_wkp v x) = m_lo v := rfl
theorem m_wkp_m_tk (v : MmV) (x : Int32) : m_tk (m_wkp v x) = m_tk v := rfl
theorem m_wkp_m_lc (v : MmV) (x : Int32) : m_lc (m_wkp v x) = m_lc v := rfl
theorem m_wkp_m_fs (v : MmV) (x : Int32) : m_fs (m_wkp v x) = m_fs v := rfl
theorem m_wgs_m_s (v : MmV) (x : Nat → Int32) : m_s (m_wgs v x) = m_s v := rfl
theorem m_wgs_m_bf (v : MmV) (x : Nat → Int32) : m_bf (m_wgs v x) = m_bf v := rfl
theorem m_wgs_m_kp (v : MmV) (x : Nat → Int32) : m_kp (m_wgs v x) = m_kp v := rfl
theorem m_wgs_m_gs (v : MmV) (x : Nat → Int32) : m_gs (m_wgs v x) = x := rfl
theorem m_wgs_m_gc (v : MmV) (x : Nat → Int32) : m_gc (m_wgs v x) = m_gc v := rfl
theorem m_wgs_m_lo (v : MmV) (x : Nat → Int32) : m_lo (m_wgs v x) = m_lo v := rfl
theorem m_wgs_m_tk (v : MmV) (x : Nat → Int32) : m_tk (m_wgs v x) = m_tk v := rfl
theorem m_wgs_m_lc (v : MmV) (x : Nat → Int32) : m_lc (m_wgs v x) = m_lc v := rfl
theorem m_wgs_m_fs (v : MmV) (x : Nat → Int32) : m_fs (m_wgs v x) = m_fs v := rfl
theorem m_wgc_m_s (v : MmV) (x : Int32) : m_s (m_wgc v x) = m_s v := rfl
theorem m_wgc_m_bf (v : MmV) (x : Int32) : m_bf (m_wgc v x) = m_bf v := rfl
theorem m_wgc_m_kp (v : MmV) (x : Int32) : m_kp (m_wgc v x) = m_kp v := rfl
theorem m_wgc_m_gs (v : MmV) (x : Int32) : m_gs (m_wgc v x) = m_gs v := rfl
theorem m_wgc_m_gc (v : MmV) (x : Int32) : m_gc (m_wgc v x) = x := rfl
theorem m_wgc_m_lo (v : MmV) (x : Int32) : m_lo (m_wgc v x) = m_lo v := rfl
theorem m_wgc_m_tk (v : MmV) (x : Int32) : m_tk (m_wgc v x) = m_tk v := rfl
theorem m_wgc_m_lc (v : MmV) (x : Int32) : m_lc (m_wgc v x) = m_lc v := rfl
theorem m_wgc_m_fs (v : MmV) (x : Int32) : m_fs (m_wgc v x) = m_fs v := rfl
theorem m_wlo_m_s (v : MmV) (x : Nat → Int32) : m_s (m_wlo v x) = m_s v := rfl
theorem m_wlo_m_bf (v : MmV) (x : Nat → Int32) : m_bf (m_wlo v x) = m_bf v := rfl
theorem m_wlo_m_kp (v : MmV) (x : Nat → Int32) : m_kp (m_wlo v x) = m_kp v := rfl
theorem m_wlo_m_gs (v : MmV) (x : Nat → Int32) : m_gs (m_wlo v x) = m_gs v := rfl
theorem m_wlo_m_gc (v : MmV) (x : Nat → Int32) : m_gc (m_wlo v x) = m_gc v := rfl
theorem m_wlo_m_lo (v : MmV) (x : Nat → Int32) : m_lo (m_wlo v x) = x := rfl
theorem m_wlo_m_tk (v : MmV) (x : Nat → Int32) : m_tk (m_wlo v x) = m_tk v := rfl
theorem m_wlo_m_lc (v : MmV) (x : Nat → Int32) : m_lc (m_wlo v x) = m_lc v := rfl
theorem m_wlo_m_fs (v : MmV) (x : Nat → Int32) : m_fs (m_wlo v x) = m_fs v := rfl
theorem m_wtk_m_s (v : MmV) (x : Nat → Int64) : m_s (m_wtk v x) = m_s v := rfl
theorem m_wtk_m_bf (v : MmV) (x : Nat → Int64) : m_bf (m_wtk v x) = m_bf v := rfl
theorem m_wtk_m_kp (v : MmV) (x : Nat → Int64) : m_kp (m_wtk v x) = m_kp v := rfl
theorem m_wtk_m_gs (v : MmV) (x : Nat → Int64) : m_gs (m_wtk v x) = m_gs v := rfl
theorem m_wtk_m_gc (v : MmV) (x : Nat → Int64) : m_gc (m_wtk v x) = m_gc v := rfl
theorem m_wtk_m_lo (v : MmV) (x : Nat → Int64) : m_lo (m_wtk v x) = m_lo v := rfl
theorem m_wtk_m_tk (v : MmV) (x : Nat → Int64) : m_tk (m_wtk v x) = x := rfl
theorem m_wtk_m_lc (v : MmV) (x : Nat → Int64) : m_lc (m_wtk v x) = m_lc v := rfl
theorem m_wtk_m_fs (v : MmV) (x : Nat → Int64) : m_fs (m_wtk v x) = m_fs v := rfl
theorem m_wlc_m_s (v : MmV) (x : Int32) : m_s (m_wlc v x) = m_s v := rfl
theorem m_wlc_m_bf (v : MmV) (x : Int32) : m_bf (m_wlc v x) = m_bf v := rfl
theorem m_wlc_m_kp (v : MmV) (x : Int32) : m_kp (m_wlc v x) = m_kp v := rfl
theorem m_wlc_m_gs (v : MmV) (x : Int32) : m_gs (m_wlc v x) = m_gs v := rfl
theorem m_wlc_m_gc (v : MmV) (x : Int32) : m_gc (m_wlc v x) = m_gc v := rfl
theorem m_wlc_m_lo (v : MmV) (x : Int32) : m_lo (m_wlc v x) = m_lo v := rfl
theorem m_wlc_m_tk (v : MmV) (x : Int32) : m_tk (m_wlc v x) = m_tk v := rfl
theorem m_wlc_m_lc (v : MmV) (x : Int32) : m_lc (m_wlc v x) = x := rfl
theorem m_wlc_m_fs (v : MmV) (x : Int32) : m_fs (m_wlc v x) = m_fs v := rfl
theorem m_wfs_m_s (v : MmV) (x : Nat → Int32) : m_s (m_wfs v x) = m_s v := rfl
theorem m_wfs_m_bf (v : MmV) (x : Nat → Int32) : m_bf (m_wfs v x) = m_bf v := rfl
theorem m_wfs_m_kp (v : MmV) (x : Nat → Int32) : m_kp (m_wfs v x) = m_kp v := rfl
theorem m_wfs_m_gs (v : MmV) (x : Nat → Int32) : m_gs (m_wfs v x) = m_gs v := rfl
theorem m_wfs_m_gc (v : MmV) (x : Nat → Int32) : m_gc (m_wfs v x) = m_gc v := rfl
theorem m_wfs_m_lo (v : MmV) (x : Nat → Int32) : m_lo (m_wfs v x) = m_lo v := rfl
theorem m_wfs_m_tk (v : MmV) (x : Nat → Int32) : m_tk (m_wfs v x) = m_tk v := rfl
theorem m_wfs_m_lc (v : MmV) (x : Nat → Int32) : m_lc (m_wfs v x) = m_lc v := rfl
theorem m_wfs_m_fs (v : MmV) (x : Nat → Int32) : m_fs (m_wfs v x) = x := rfl
/-- one row of a state's table put anew; one place of it -/
def s_rdu (v : StV) (f : Nat) (r : Nat → Int64) : StV := s_wDU v (va_up (s_du v) f r)
def s_rro (v : StV) (f : Nat) (r : Nat → Int64) : StV := s_wRO v (va_up (s_ro v) f r)
def s_wdu (v : StV) (f i : Nat) (x : Int64) : StV := s_rdu v f (vp_updL (s_du v f) i x)
def s_wro (v : StV) (f i : Nat) (x : Int64) : StV := s_rro v f (vp_updL (s_ro v f) i x)
def xaS (j : Nat) : Nat := 15 + 18 * j
def xaD0 (j : Nat) : Nat := 15 + 18 * j + 1
def xaD (j f : Nat) : Nat := 15 + 18 * j + (2 + f)
def xaR0 (j : Nat) : Nat := 15 + 18 * j + 14
def xaR (j f : Nat) : Nat := 15 + 18 * j + (15 + f)
def xaL (g : Nat) : Nat := 4 + 5 * g
def xaLd (g : Nat) : Nat := 4 + 5 * g + 1
def xaLf (g : Nat) : Nat := 4 + 5 * g + 2
def xaLs (g : Nat) : Nat := 4 + 5 * g + 3
def xn (n : Nat) : Nat := 15 + 18 * n
/-- the ring's places; 7 and above stand for null -/
def xrg (ad : Nat → Nat) (kv : KvV) (i : Nat) : Option Nat := if k_rg kv i < 7 then some (ad (xaS (k_rg kv i))) else none
def xT (ci : Nat → ClassId) : List (ClassId × FieldType) := [(ci 0, .int), (ci 1, .long), (ci 2, .boolean), (ci 3, .object "DueWheels$State"), (ci 4, .array .long)]
def xs (ad : Nat → Nat) (ci : Nat → ClassId) (j : Nat) (v : StV) (o : Nat) : va_E :=
  if o = 0 then .inr (4, [.long (s_tm v), .long (s_pl v), .long (s_go v), .long (s_mv v), .int (s_en v), .int (s_rs v), .ref (ad (xaD0 j)), .ref (ad (xaR0 j))])
  else if o = 1 then .inl (ci 4, 12, x_q (fun i => some (ad (xaD j i))))
  else if o = 14 then .inl (ci 4, 3, x_q (fun i => some (ad (xaR j i))))
  else if o < 14 then .inl (ci 1, 200, .inr (.inl (s_du v (o - 2))))
  else .inl (ci 1, 300, .inr (.inl (s_ro v (o - 15))))
def xl (ad : Nat → Nat) (ci : Nat → ClassId) (g : Nat) (w : LnV) (o : Nat) : va_E :=
  if o = 0 then .inr (2, [.int (l_sz w), .ref (ad (xaLd g)), .ref (ad (xaLf g)), .ref (ad (xaLs g))])
  else if o = 1 then .inl (ci 0, 200, .inl (l_du w))
  else if o = 2 then .inl (ci 1, 200, .inr (.inl (l_f1 w)))
  else .inl (ci 1, 200, .inr (.inl (l_f2 w)))
def xc (ad : Nat → Nat) (ci : Nat → ClassId) (st : Nat → StV) (ln : Nat → LnV) (sv : SvV) (kv : KvV) (cu : Nat) : Nat → va_E := fun k =>
  if k = 0 then .inr (5, [.ref (ad 1), .ref (ad 3), .ref (ad 8), .ref (ad (xaS cu))])
  else if k = 1 then .inr (1, [.ref (ad 2), .int (k_la kv), .int (k_sz kv)])
  else if k = 2 then .inl (ci 3, 6, x_q (xrg ad kv))
  else if k = 3 then .inr (0, [.ref (ad (xaL 0))])
  else if k < 8 then xl ad ci 0 (ln 0) (k - 4)
  else if k = 8 then .inr (3, [.ref (ad (xaL 1)), .ref (ad 13), .ref (ad 14), .int (t_fz sv)])
  else if k < 13 then xl ad ci 1 (ln 1) (k - 9)
  else if k = 13 then .inl (ci 1, 200, .inr (.inl (t_sd sv)))
  else if k = 14 then .inl (ci 1, 200, .inr (.inl (t_fa sv)))
  else xs ad ci ((k - 15) / 18) (st ((k - 15) / 18)) ((k - 15) % 18)
def mc (ad : Nat → Nat) (ci : Nat → ClassId) (r : MmV) : Nat → va_E := fun k =>
  if k = 0 then .inr (6, [.ref (ad 1), .ref (ad 2), .int (m_kp r), .ref (ad 3), .int (m_gc r), .ref (ad 4), .ref (ad 5), .int (m_lc r), .ref (ad 6)])
  else if k = 1 then .inl (ci 1, 3705, .inr (.inl (m_s r)))
  else if k = 2 then .inl (ci 1, 22230, .inr (.inl (m_bf r)))
  else if k = 3 then .inl (ci 0, 200, .inl (m_gs r))
  else if k = 4 then .inl (ci 0, 200, .inl (m_lo r))
  else if k = 5 then .inl (ci 1, 200, .inr (.inl (m_tk r)))
  else .inl (ci 2, 200, .inl (m_fs r))
theorem xq_c {n k : Nat} (h : k < 15) : k < xn n := by unfold xn; omega
theorem xq_S {n j : Nat} (h : j < n) : xaS j < xn n := by unfold xaS xn; omega
theorem xq_D0 {n j : Nat} (h : j < n) : xaD0 j < xn n := by unfold xaD0 xn; omega
theorem xq_R0 {n j : Nat} (h : j < n) : xaR0 j < xn n := by unfold xaR0 xn; omega
theorem xq_D {n j f : Nat} (h : j < n) (hf : f < 12) : xaD j f < xn n := by unfold xaD xn; omega
theorem xq_R {n j f : Nat} (h : j < n) (hf : f < 3) : xaR j f < xn n := by unfold xaR xn; omega
theorem xq_L {n g : Nat} (h : g < 2) : xaL g < xn n := by unfold xaL xn; omega
theorem xq_Ld {n g : Nat} (h : g < 2) : xaLd g < xn n := by unfold xaLd xn; omega
theorem xq_Lf {n g : Nat} (h : g < 2) : xaLf g < xn n := by unfold xaLf xn; omega
theorem xq_Ls {n g : Nat} (h : g < 2) : xaLs g < xn n := by unfold xaLs xn; omega
section XW
variable {nn : Nat} {ad : Nat → Nat} {ci : Nat → ClassId} {st st' : Nat → StV} {ln ln' : Nat → LnV} {sv : SvV} {kv : KvV} {cu : Nat} {j g : Nat} {v : StV} {w : LnV}
theorem xc_st (o : Nat) (ho : o < 18) : xc ad ci st ln sv kv cu (15 + 18 * j + o) = xs ad ci j (st j) o := by
  unfold xc
  have h1 : (15 + 18 * j + o - 15) / 18 = j := by omega
  have h2 : (15 + 18 * j + o - 15) % 18 = o := by omega
  rw [if_neg (by omega), if_neg (by omega), if_neg (by omega), if_neg (by omega), if_neg (by omega), if_neg (by omega), if_neg (by omega), if_neg (by omega), if_neg (by omega), h1, h2]
theorem xc_ln (o : Nat) (ho : o < 4) (hg : g < 2) : xc ad ci st ln sv kv cu (4 + 5 * g + o) = xl ad ci g (ln g) o := by
  unfold xc
  rcases (show g = 0 ∨ g = 1 by omega) with rfl | rfl
  · rw [if_neg (by omega), if_neg (by omega), if_neg (by omega), if_neg (by omega), if_pos (by omega), show 4 + 5 * 0 + o - 4 = o by omega]
  · rw [if_neg (by omega), if_neg (by omega), if_neg (by omega), if_neg (by omega), if_neg (by omega), if_neg (by omega), if_pos (by omega), show 4 + 5 * 1 + o - 9 = o by omega]
theorem xe_S (hv : st j = v) : xc ad ci st ln sv kv cu (xaS j) = .inr (4, [.long (s_tm v), .long (s_pl v), .long (s_go v), .long (s_mv v), .int (s_en v), .int (s_rs v), .ref (ad (xaD0 j)), .ref (ad (xaR0 j))]) := by
  subst hv; exact xc_st 0 (by omega)
theorem xe_D0 : xc ad ci st ln sv kv cu (xaD0 j) = .inl (ci 4, 12, x_q (fun i => some (ad (xaD j i)))) := xc_st 1 (by omega)
theorem xe_R0 : xc ad ci st ln sv kv cu (xaR0 j) = .inl (ci 4, 3, x_q (fun i => some (ad (xaR j i)))) := xc_st 14 (by omega)
theorem xe_D {f : Nat} (hf : f < 12) (hv : st j = v) : xc ad ci st ln sv kv cu (xaD j f) = .inl (ci 1, 200, .inr (.inl (s_du v f))) := by
  subst hv
  unfold xaD
  rw [xc_st (2 + f) (by omega)]
  unfold xs
  rw [if_neg (by omega), if_neg (by omega), if_neg (by omega), if_pos (by omega), show 2 + f - 2 = f by omega]
theorem xe_R {f : Nat} (hf : f < 3) (hv : st j = v) : xc ad ci st ln sv kv cu (xaR j f) = .inl (ci 1, 300, .inr (.inl (s_ro v f))) := by
  subst hv
  unfold xaR
  rw [xc_st (15 + f) (by omega)]
  unfold xs
  rw [if_neg (by omega), if_neg (by omega), if_neg (by omega), if_neg (by omega), show 15 + f - 15 = f by omega]
theorem xe_L (hg : g < 2) (hw : ln g = w) : xc ad ci st ln sv kv cu (xaL g) = .inr (2, [.int (l_sz w), .ref (ad (xaLd g)), .ref (ad (xaLf g)), .ref (ad (xaLs g))]) := by
  subst hw; exact xc_ln 0 (by omega) hg
theorem xe_Ld (hg : g < 2) (hw : ln g = w) : xc ad ci st ln sv kv cu (xaLd g) = .inl (ci 0, 200, .inl (l_du w)) := by
  subst hw; exact xc_ln 1 (by omega) hg
theorem xe_Lf (hg : g < 2) (hw : ln g = w) : xc ad ci st ln sv kv cu (xaLf g) = .inl (ci 1, 200, .inr (.inl (l_f1 w))) := by
  subst hw; exact xc_ln 2 (by omega) hg
theorem xe_Ls (hg : g < 2) (hw : ln g = w) : xc ad ci st ln sv kv cu (xaLs g) = .inl (ci 1, 200, .inr (.inl (l_f2 w))) := by
  subst hw; exact xc_ln 3 (by omega) hg
theorem xe_X : xc ad ci st ln sv kv cu 0 = .inr (5, [.ref (ad 1), .ref (ad 3), .ref (ad 8), .ref (ad (xaS cu))]) := rfl
theorem xe_K : xc ad ci st ln sv kv cu 1 = .inr (1, [.ref (ad 2), .int (k_la kv), .int (k_sz kv)]) := rfl
theorem xe_RG : xc ad ci st ln sv kv cu 2 = .inl (ci 3, 6, x_q (xrg ad kv)) := rfl
theorem xe_G : xc ad ci st ln sv kv cu 3 = .inr (0, [.ref (ad (xaL 0))]) := rfl
theorem xe_T : xc ad ci st ln sv kv cu 8 = .inr (3, [.ref (ad (xaL 1)), .ref (ad 13), .ref (ad 14), .int (t_fz sv)]) := rfl
theorem xe_sd : xc ad ci st ln sv kv cu 13 = .inl (ci 1, 200, .inr (.inl (t_sd sv))) := rfl
theorem xe_fa : xc ad ci st ln sv kv cu 14 = .inl (ci 1, 200, .inr (.inl (t_fa sv))) := rfl
/-- one cell of a state is put anew -/
theorem xc_wst {v' : StV} (o : Nat) (ho : o < 18) (h : ∀ o', o' < 18 → o' ≠ o → xs ad ci j v' o' = xs ad ci j (st j) o') (hst : va_up st j v' = st') : ∀ i, i < nn → xc ad ci st' ln sv kv cu i = va_up (xc ad ci st ln sv kv cu) (15 + 18 * j + o) (xs ad ci j v' o) i := by
  subst hst
  intro i _
  by_cases hi : i < 15
  · rw [va_up_ne _ _ (show i ≠ 15 + 18 * j + o by omega)]
    unfold xc
    by_cases h0 : i = 0
    · subst h0; rfl
    rw [if_neg h0, if_neg h0]
    by_cases h0 : i = 1
    · subst h0; rfl
    rw [if_neg h0, if_neg h0]
    by_cases h0 : i = 2
    · subst h0; rfl
    rw [if_neg h0, if_neg h0]
    by_cases h0 : i = 3
    · subst h0; rfl
    rw [if_neg h0, if_neg h0]
    by_cases h0 : i < 8
    · rw [if_pos h0, if_pos h0]
    rw [if_neg h0, if_neg h0]
    by_cases h0 : i = 8
    · subst h0; rfl
    rw [if_neg h0, if_neg h0]
    by_cases h0 : i < 13
    · rw [if_pos h0, if_pos h0]
    rw [if_neg h0, if_neg h0]
    by_cases h0 : i = 13
    · subst h0; rfl
    rw [if_neg h0, if_neg h0, if_pos (by omega), if_pos (by omega)]
  · obtain ⟨j', o', ho', rfl⟩ : ∃ j' o', o' < 18 ∧ i = 15 + 18 * j' + o' := ⟨(i - 15) / 18, (i - 15) % 18, by omega, by omega⟩
    rw [xc_st o' ho']
    by_cases hj : j' = j
    · subst hj
      rw [va_up_self]
      by_cases h2 : o' = o
      · subst h2; rw [va_up_self]
      · rw [va_up_ne _ _ (show 15 + 18 * j' + o' ≠ 15 + 18 * j' + o by omega), xc_st o' ho', h o' ho' h2]
    · rw [va_up_ne _ _ hj, va_up_ne _ _ (show 15 + 18 * j' + o' ≠ 15 + 18 * j + o by omega), xc_st o' ho']
theorem xc_wln {w' : LnV} (o : Nat) (ho : o < 4) (hg : g < 2) (h : ∀ o', o' < 4 → o' ≠ o → xl ad ci g w' o' = xl ad ci g (ln g) o') (hln : va_up ln g w' = ln') : ∀ i, i < nn → xc ad ci st ln' sv kv cu i = va_up (xc ad ci st ln sv kv cu) (4 + 5 * g + o) (xl ad ci g w' o) i := by
  subst hln
  intro i _
  by_cases hi : ∃ g' o', g' < 2 ∧ o' < 4 ∧ i = 4 + 5 * g' + o'
  · obtain ⟨g', o', hg', ho', rfl⟩ := hi
    rw [xc_ln o' ho' hg']
    by_cases hj : g' = g
    · subst hj
      rw [va_up_self]
      by_cases h2 : o' = o
      · subst h2; rw [va_up_self]
      · rw [va_up_ne _ _ (show 4 + 5 * g' + o' ≠ 4 + 5 * g' + o by omega), xc_ln o' ho' hg', h o' ho' h2]
    · rw [va_up_ne _ _ hj, va_up_ne _ _ (show 4 + 5 * g' + o' ≠ 4 + 5 * g + o by omega), xc_ln o' ho' hg']
  · have n8 : ¬ (4 ≤ i ∧ i < 8) := fun q => hi ⟨0, i - 4, by omega, by omega, by omega⟩
    have n13 : ¬ (9 ≤ i ∧ i < 13) := fun q => hi ⟨1, i - 9, by omega, by omega, by omega⟩
    rw [va_up_ne _ _ (show i ≠ 4 + 5 * g + o by omega)]
    unfold xc
    by_cases h0 : i = 0
    · subst h0; rfl
    by_cases h1 : i = 1
    · subst h1; rfl
    by_cases h2 : i = 2
    · subst h2; rfl
    by_cases h3 : i = 3
    · subst h3; rfl
    by_cases h8 : i = 8
    · subst h8; rfl
    have n1 : ¬ i < 8 := by omega
    have n2 : ¬ i < 13 := by omega
    rw [if_neg h0, if_neg h0, if_neg h1, if_neg h1, if_neg h2, if_neg h2, if_neg h3, if_neg h3, if_neg n1, if_neg n1, if_neg h8, if_neg h8, if_neg n2, if_neg n2]
theorem xg_tm {x : Int64} (hv : st j = v) (hst : va_up st j (s_wtm v x) = st') : ∀ i, i < nn → xc ad ci st' ln sv kv cu i = va_up (xc ad ci st ln sv kv cu) (xaS j) (.inr (4, [.long (s_tm v), .long (s_pl v), .long (s_go v), .long (s_mv v), .int (s_en v), .int (s_rs v), .ref (ad (xaD0 j)), .ref (ad (xaR0 j))].set 0 (.long x))) i := by
  subst hv
  refine xc_wst (v' := s_wtm (st j) x) 0 (by omega) (fun o' h1 h2 => ?_) hst
  unfold xs
  rw [if_neg h2, if_neg h2]
  rfl
theorem xg_pl {x : Int64} (hv : st j = v) (hst : va_up st j (s_wpl v x) = st') : ∀ i, i < nn → xc ad ci st' ln sv kv cu i = va_up (xc ad ci st ln sv kv cu) (xaS j) (.inr (4, [.long (s_tm v), .long (s_pl v), .long (s_go v), .long (s_mv v), .int (s_en v), .int (s_rs v), .ref (ad (xaD0 j)), .ref (ad (xaR0 j))].set 1 (.long x))) i := by
  subst hv
  refine xc_wst (v' := s_wpl (st j) x) 0 (by omega) (fun o' h1 h2 => ?_) hst
  unfold xs
  rw [if_neg h2, if_neg h2]
  rfl
theorem xg_go {x : Int64} (hv : st j = v) (hst : va_up st j (s_wgo v x) = st') : ∀ i, i < nn → xc ad ci st' ln sv kv cu i = va_up (xc ad ci st ln sv kv cu) (xaS j) (.inr (4, [.long (s_tm v), .long (s_pl v), .long (s_go v), .long (s_mv v), .int (s_en v), .int (s_rs v), .ref (ad (xaD0 j)), .ref (ad (xaR0 j))].set 2 (.long x))) i := by
  subst hv
  refine xc_wst (v' := s_wgo (st j) x) 0 (by omega) (fun o' h1 h2 => ?_) hst
  unfold xs
  rw [if_neg h2, if_neg h2]
  rfl
theorem xg_mv {x : Int64} (hv : st j = v) (hst : va_up st j (s_wmv v x) = st') : ∀ i, i < nn → xc ad ci st' ln sv kv cu i = va_up (xc ad ci st ln sv kv cu) (xaS j) (.inr (4, [.long (s_tm v), .long (s_pl v), .long (s_go v), .long (s_mv v), .int (s_en v), .int (s_rs v), .ref (ad (xaD0 j)), .ref (ad (xaR0 j))].set 3 (.long x))) i := by
  subst hv
  refine xc_wst (v' := s_wmv (st j) x) 0 (by omega) (fun o' h1 h2 => ?_) hst
  unfold xs
  rw [if_neg h2, if_neg h2]
  rfl
theorem xg_en {x : Int32} (hv : st j = v) (hst : va_up st j (s_wen v x) = st') : ∀ i, i < nn → xc ad ci st' ln sv kv cu i = va_up (xc ad ci st ln sv kv cu) (xaS j) (.inr (4, [.long (s_tm v), .long (s_pl v), .long (s_go v), .long (s_mv v), .int (s_en v), .int (s_rs v), .ref (ad (xaD0 j)), .ref (ad (xaR0 j))].set 4 (.int x))) i := by
  subst hv
  refine xc_wst (v' := s_wen (st j) x) 0 (by omega) (fun o' h1 h2 => ?_) hst
  unfold xs
  rw [if_neg h2, if_neg h2]
  rfl
theorem xg_rs {x : Int32} (hv : st j = v) (hst : va_up st j (s_wrs v x) = st') : ∀ i, i < nn → xc ad ci st' ln sv kv cu i = va_up (xc ad ci st ln sv kv cu) (xaS j) (.inr (4, [.long (s_tm v), .long (s_pl v), .long (s_go v), .long (s_mv v), .int (s_en v), .int (s_rs v), .ref (ad (xaD0 j)), .ref (ad (xaR0 j))].set 5 (.int x))) i := by
  subst hv
  refine xc_wst (v' := s_wrs (st j) x) 0 (by omega) (fun o' h1 h2 => ?_) hst
  unfold xs
  rw [if_neg h2, if_neg h2]
  rfl
theorem xg_rdu {f : Nat} {r : Nat → Int64} (hf : f < 12) (hv : st j = v) (hst : va_up st j (s_rdu v f r) = st') : ∀ i, i < nn → xc ad ci st' ln sv kv cu i = va_up (xc ad ci st ln sv kv cu) (xaD j f) (.inl (ci 1, 200, .inr (.inl r))) i := by
  subst hv
  have h0 : xs ad ci j (s_rdu (st j) f r) (2 + f) = .inl (ci 1, 200, .inr (.inl r)) := by
    unfold xs
    rw [if_neg (by omega), if_neg (by omega), if_neg (by omega), if_pos (by omega), show 2 + f - 2 = f by omega]
    show Sum.inl (ci 1, 200, Sum.inr (Sum.inl (va_up (s_du (st j)) f r f))) = _
    rw [va_up_self]
  rw [← h0]
  refine xc_wst (v' := s_rdu (st j) f r) (2 + f) (by omega) (fun o' h1 h2 => ?_) hst
  unfold xs
  by_cases h3 : o' = 0
  · subst h3; rfl
  rw [if_neg h3, if_neg h3]
  by_cases h3 : o' = 1
  · subst h3; rfl
  rw [if_neg h3, if_neg h3]
  by_cases h3 : o' = 14
  · subst h3; rfl
  rw [if_neg h3, if_neg h3]
  by_cases h3 : o' < 14
  · rw [if_pos h3, if_pos h3]
    show Sum.inl (ci 1, 200, Sum.inr (Sum.inl (va_up (s_du (st j)) f r (o' - 2)))) = _
    rw [va_up_ne _ _ (by omega)]
  · rw [if_neg h3, if_neg h3]; rfl
theorem xg_rro {f : Nat} {r : Nat → Int64} (hf : f < 3) (hv : st j = v) (hst : va_up st j (s_rro v f r) = st') : ∀ i, i < nn → xc ad ci st' ln sv kv cu i = va_up (xc ad ci st ln sv kv cu) (xaR j f) (.inl (ci 1, 300, .inr (.inl r))) i := by
  subst hv
  have h0 : xs ad ci j (s_rro (st j) f r) (15 + f) = .inl (ci 1, 300, .inr (.inl r)) := by
    unfold xs
    rw [if_neg (by omega), if_neg (by omega), if_neg (by omega), if_neg (by omega), show 15 + f - 15 = f by omega]
    show Sum.inl (ci 1, 300, Sum.inr (Sum.inl (va_up (s_ro (st j)) f r f))) = _
    rw [va_up_self]
  rw [← h0]
  refine xc_wst (v' := s_rro (st j) f r) (15 + f) (by omega) (fun o' h1 h2 => ?_) hst
  unfold xs
  by_cases h3 : o' = 0
  · subst h3; rfl
  rw [if_neg h3, if_neg h3]
  by_cases h3 : o' = 1
  · subst h3; rfl
  rw [if_neg h3, if_neg h3]
  by_cases h3 : o' = 14
  · subst h3; rfl
  rw [if_neg h3, if_neg h3]
  by_cases h3 : o' < 14
  · rw [if_pos h3, if_pos h3]; rfl
  · rw [if_neg h3, if_neg h3]
    show Sum.inl (ci 1, 300, Sum.inr (Sum.inl (va_up (s_ro (st j)) f r (o' - 15)))) = _
    rw [va_up_ne _ _ (by omega)]
theorem xg_du {f k : Nat} {x : Int64} (hf : f < 12) (hv : st j = v) (hst : va_up st j (s_wdu v f k x) = st') : ∀ i, i < nn → xc ad ci st' ln sv kv cu i = va_up (xc ad ci st ln sv kv cu) (xaD j f) (.inl (ci 1, 200, .inr (.inl (vp_updL (s_du v f) k x)))) i := xg_rdu hf hv hst
theorem xg_ro {f k : Nat} {x : Int64} (hf : f < 3) (hv : st j = v) (hst : va_up st j (s_wro v f k x) = st') : ∀ i, i < nn → xc ad ci st' ln sv kv cu i = va_up (xc ad ci st ln sv kv cu) (xaR j f) (.inl (ci 1, 300, .inr (.inl (vp_updL (s_ro v f) k x)))) i := xg_rro hf hv hst
theorem xl_other {w w' : LnV} {o : Nat} (ho : o < 4) (h0 : o = 0 → l_sz w' = l_sz w) (h1 : o = 1 → l_du w' = l_du w) (h2 : o = 2 → l_f1 w' = l_f1 w) (h3 : o = 3 → l_f2 w' = l_f2 w) : xl ad ci g w' o = xl ad ci g w o := by
  rcases (show o = 0 ∨ o = 1 ∨ o = 2 ∨ o = 3 by omega) with rfl | rfl | rfl | rfl
  · show (Sum.inr (2, [Value.int (l_sz w'), .ref (ad (xaLd g)), .ref (ad (xaLf g)), .ref (ad (xaLs g))]) : va_E) = Sum.inr (2, [Value.int (l_sz w), .ref (ad (xaLd g)), .ref (ad (xaLf g)), .ref (ad (xaLs g))])
    rw [h0 rfl]
  · show Sum.inl (ci 0, 200, Sum.inl (l_du w')) = Sum.inl (ci 0, 200, Sum.inl (l_du w))
    rw [h1 rfl]
  · show Sum.inl (ci 1, 200, Sum.inr (Sum.inl (l_f1 w'))) = Sum.inl (ci 1, 200, Sum.inr (Sum.inl (l_f1 w)))
    rw [h2 rfl]
  · show Sum.inl (ci 1, 200, Sum.inr (Sum.inl (l_f2 w'))) = Sum.inl (ci 1, 200, Sum.inr (Sum.inl (l_f2 w)))
    rw [h3 rfl]
theorem xg_lsz {x : Int32} (hg : g < 2) (hw : ln g = w) (hln : va_up ln g (l_wsz w x) = ln') : ∀ i, i < nn → xc ad ci st ln' sv kv cu i = va_up (xc ad ci st ln sv kv cu) (xaL g) (.inr (2, [.int (l_sz w), .ref (ad (xaLd g)), .ref (ad (xaLf g)), .ref (ad (xaLs g))].set 0 (.int x))) i := by
  subst hw
  exact xc_wln (w' := l_wsz (ln g) x) 0 (by omega) hg (fun o' h1 h2 => xl_other h1 (fun q => absurd q h2) (fun _ => rfl) (fun _ => rfl) (fun _ => rfl)) hln
theorem xg_ldu {x : Int32} {k : Nat} (hg : g < 2) (hw : ln g = w) (hln : va_up ln g (l_wdu w (upd (l_du w) k x)) = ln') : ∀ i, i < nn → xc ad ci st ln' sv kv cu i = va_up (xc ad ci st ln sv kv cu) (xaLd g) (.inl (ci 0, 200, .inl (upd (l_du w) k x))) i := by
  subst hw
  exact xc_wln (w' := l_wdu (ln g) (upd (l_du (ln g)) k x)) 1 (by omega) hg (fun o' h1 h2 => xl_other h1 (fun _ => rfl) (fun q => absurd q h2) (fun _ => rfl) (fun _ => rfl)) hln
theorem xg_lf1 {x : Int64} {k : Nat} (hg : g < 2) (hw : ln g = w) (hln : va_up ln g (l_wf1 w (vp_updL (l_f1 w) k x)) = ln') : ∀ i, i < nn → xc ad ci st ln' sv kv cu i = va_up (xc ad ci st ln sv kv cu) (xaLf g) (.inl (ci 1, 200, .inr (.inl (vp_updL (l_f1 w) k x)))) i := by
  subst hw
  exact xc_wln (w' := l_wf1 (ln g) (vp_updL (l_f1 (ln g)) k x)) 2 (by omega) hg (fun o' h1 h2 => xl_other h1 (fun _ => rfl) (fun _ => rfl) (fun q => absurd q h2) (fun _ => rfl)) hln
theorem xg_lf2 {x : Int64} {k : Nat} (hg : g < 2) (hw : ln g = w) (hln : va_up ln g (l_wf2 w (vp_updL (l_f2 w) k x)) = ln') : ∀ i, i < nn → xc ad ci st ln' sv kv cu i = va_up (xc ad ci st ln sv kv cu) (xaLs g) (.inl (ci 1, 200, .inr (.inl (vp_updL (l_f2 w) k x)))) i := by
  subst hw
  exact xc_wln (w' := l_wf2 (ln g) (vp_updL (l_f2 (ln g)) k x)) 3 (by omega) hg (fun o' h1 h2 => xl_other h1 (fun _ => rfl) (fun _ => rfl) (fun _ => rfl) (fun q => absurd q h2)) hln
theorem xg_tfz {x : Int32} : ∀ i, i < nn → xc ad ci st ln (t_wfz sv x) kv cu i = va_up (xc ad ci st ln sv kv cu) 8 (.inr (3, [.ref (ad (xaL 1)), .ref (ad 13), .ref (ad 14), .int (t_fz sv)].set 3 (.int x))) i := by
  intro i _
  by_cases hi : i = 8
  · subst hi; rw [va_up_self]; rfl
  · rw [va_up_ne _ _ hi]
    unfold xc
    repeat' split
    all_goals first | rfl | omega
theorem xg_tsd {x : Int64} {k : Nat} : ∀ i, i < nn → xc ad ci st ln (t_wsd sv (vp_updL (t_sd sv) k x)) kv cu i = va_up (xc ad ci st ln sv kv cu) 13 (.inl (ci 1, 200, .inr (.inl (vp_updL (t_sd sv) k x)))) i := by
  intro i _
  by_cases hi : i = 13
  · subst hi; rw [va_up_self]; rfl
  · rw [va_up_ne _ _ hi]
    unfold xc
    repeat' split
    all_goals first | rfl | omega
theorem xg_tfa {x : Int64} {k : Nat} : ∀ i, i < nn → xc ad ci st ln (t_wfa sv (vp_updL (t_fa sv) k x)) kv cu i = va_up (xc ad ci st ln sv kv cu) 14 (.inl (ci 1, 200, .inr (.inl (vp_updL (t_fa sv) k x)))) i := by
  intro i _
  by_cases hi : i = 14
  · subst hi; rw [va_up_self]; rfl
  · rw [va_up_ne _ _ hi]
    unfold xc
    repeat' split
    all_goals first | rfl | omega
theorem xg_kla {x : Int32} : ∀ i, i < nn → xc ad ci st ln sv (k_wla kv x) cu i = va_up (xc ad ci st ln sv kv cu) 1 (.inr (1, [.ref (ad 2), .int (k_la kv), .int (k_sz kv)].set 1 (.int x))) i := by
  intro i _
  by_cases hi : i = 1
  · subst hi; rw [va_up_self]; rfl
  · rw [va_up_ne _ _ hi]
    unfold xc
    repeat' split
    all_goals first | rfl | omega
theorem xg_ksz {x : Int32} : ∀ i, i < nn → xc ad ci st ln sv (k_wsz kv x) cu i = va_up (xc ad ci st ln sv kv cu) 1 (.inr (1, [.ref (ad 2), .int (k_la kv), .int (k_sz kv)].set 2 (.int x))) i := by
  intro i _
  by_cases hi : i = 1
  · subst hi; rw [va_up_self]; rfl
  · rw [va_up_ne _ _ hi]
    unfold xc
    repeat' split
    all_goals first | rfl | omega
theorem xg_cu {x : Nat} : ∀ i, i < nn → xc ad ci st ln sv kv x i = va_up (xc ad ci st ln sv kv cu) 0 (.inr (5, [.ref (ad 1), .ref (ad 3), .ref (ad 8), .ref (ad (xaS cu))].set 3 (.ref (ad (xaS x))))) i := by
  intro i _
  by_cases hi : i = 0
  · subst hi; rw [va_up_self]; rfl
  · rw [va_up_ne _ _ hi]
    unfold xc
    repeat' split
    all_goals first | rfl | omega
theorem xrg_up {x k : Nat} (hx : x < 7) : xrg ad (k_wrg kv (va_up (k_rg kv) k x)) = va_up (xrg ad kv) k (some (ad (xaS x))) := by
  funext a
  show (if va_up (k_rg kv) k x a < 7 then some (ad (xaS (va_up (k_rg kv) k x a))) else none) = _
  by_cases ha : a = k
  · subst ha; rw [va_up_self, va_up_self, if_pos hx]
  · rw [va_up_ne _ _ ha, va_up_ne _ _ ha]; rfl
theorem xg_krg {x k : Nat} (hx : x < 7) : ∀ i, i < nn → xc ad ci st ln sv (k_wrg kv (va_up (k_rg kv) k x)) cu i = va_up (xc ad ci st ln sv kv cu) 2 (.inl (ci 3, 6, x_q (va_up (xrg ad kv) k (some (ad (xaS x)))))) i := by
  intro i _
  by_cases hi : i = 2
  · subst hi
    rw [va_up_self]
    show Sum.inl (ci 3, 6, x_q (xrg ad (k_wrg kv (va_up (k_rg kv) k x)))) = _
    rw [xrg_up hx]
  · rw [va_up_ne _ _ hi]
    unfold xc
    repeat' split
    all_goals first | rfl | omega
theorem x_e1 {D : va_G} {H : Heap} (j : Nat) (hP : va_P D vwCl (xw nn ad (xc ad ci st ln sv kv cu)) H) : va_P D vwCl (xw nn ad (xc ad ci (va_up st j (st j)) ln sv kv cu)) H := by rw [x_eta]; exact hP
theorem x_e2 {D : va_G} {H : Heap} (g : Nat) (hP : va_P D vwCl (xw nn ad (xc ad ci st ln sv kv cu)) H) : va_P D vwCl (xw nn ad (xc ad ci st (va_up ln g (ln g)) sv kv cu)) H := by rw [x_eta]; exact hP
theorem x_e3 {D : va_G} {H : Heap} (j g : Nat) (hP : va_P D vwCl (xw nn ad (xc ad ci st ln sv kv cu)) H) : va_P D vwCl (xw nn ad (xc ad ci (va_up st j (st j)) (va_up ln g (ln g)) sv kv cu)) H := by rw [x_eta, x_eta]; exact hP
end XW
/-- the class's object at a0, whatever the addresses of its parts -/
def xB (D : va_G) (ci : Nat → ClassId) (A : Nat → Prop) (a0 : Nat) (st : Nat → StV) (ln : Nat → LnV) (sv : SvV) (kv : KvV) (cu : Nat) (H : Heap) : Prop := ∃ (ad : Nat → Nat) (ns : Nat), k_ns kv = ns ∧ ad 0 = a0 ∧ xw_D (xn ns) ad A ∧ cu < ns ∧ va_P D vwCl (xw (xn ns) ad (xc ad ci st ln sv kv cu)) H
section XM
variable {ad : Nat → Nat} {ci : Nat → ClassId} {r : MmV}
theorem me_M : mc ad ci r 0 = .inr (6, [.ref (ad 1), .ref (ad 2), .int (m_kp r), .ref (ad 3), .int (m_gc r), .ref (ad 4), .ref (ad 5), .int (m_lc r), .ref (ad 6)]) := rfl
theorem me_s : mc ad ci r 1 = .inl (ci 1, 3705, .inr (.inl (m_s r))) := rfl
theorem me_bf : mc ad ci r 2 = .inl (ci 1, 22230, .inr (.inl (m_bf r))) := rfl
theorem me_gs : mc ad ci r 3 = .inl (ci 0, 200, .inl (m_gs r)) := rfl
theorem me_lo : mc ad ci r 4 = .inl (ci 0, 200, .inl (m_lo r)) := rfl
theorem me_tk : mc ad ci r 5 = .inl (ci 1, 200, .inr (.inl (m_tk r))) := rfl
theorem me_fs : mc ad ci r 6 = .inl (ci 2, 200, .inl (m_fs r)) := rfl
theorem mg_kp {x : Int32} : ∀ i, i < 7 → mc ad ci (m_wkp r x) i = va_up (mc ad ci r) 0 (.inr (6, [.ref (ad 1), .ref (ad 2), .int (m_kp r), .ref (ad 3), .int (m_gc r), .ref (ad 4), .ref (ad 5), .int (m_lc r), .ref (ad 6)].set 2 (.int x))) i := by
  intro i _
  by_cases hi : i = 0
  · subst hi; rw [va_up_self]; rfl
  · rw [va_up_ne _ _ hi]
    unfold mc
    repeat' split
    all_goals first | rfl | omega
theorem mg_gc {x : Int32} : ∀ i, i < 7 → mc ad ci (m_wgc r x) i = va_up (mc ad ci r) 0 (.inr (6, [.ref (ad 1), .ref (ad 2), .int (m_kp r), .ref (ad 3), .int (m_gc r), .ref (ad 4), .ref (ad 5), .int (m_lc r), .ref (ad 6)].set 4 (.int x))) i := by
  intro i _
  by_cases hi : i = 0
  · subst hi; rw [va_up_self]; rfl
  · rw [va_up_ne _ _ hi]
    unfold mc
    repeat' split
    all_goals first | rfl | omega
theorem mg_lc {x : Int32} : ∀ i, i < 7 → mc ad ci (m_wlc r x) i = va_up (mc ad ci r) 0 (.inr (6, [.ref (ad 1), .ref (ad 2), .int (m_kp r), .ref (ad 3), .int (m_gc r), .ref (ad 4), .ref (ad 5), .int (m_lc r), .ref (ad 6)].set 7 (.int x))) i := by
  intro i _
  by_cases hi : i = 0
  · subst hi; rw [va_up_self]; rfl
  · rw [va_up_ne _ _ hi]
    unfold mc
    repeat' split
    all_goals first | rfl | omega
theorem mg_s {x : Int64} {k : Nat} : ∀ i, i < 7 → mc ad ci (m_ws r (vp_updL (m_s r) k x)) i = va_up (mc ad ci r) 1 (.inl (ci 1, 3705, .inr (.inl (vp_updL (m_s r) k x)))) i := by
  intro i _
  by_cases hi : i = 1
  · subst hi; rw [va_up_self]; rfl
  · rw [va_up_ne _ _ hi]
    unfold mc
    repeat' split
    all_goals first | rfl | omega
theorem mg_bf {x : Int64} {k : Nat} : ∀ i, i < 7 → mc ad ci (m_wbf r (vp_updL (m_bf r) k x)) i = va_up (mc ad ci r) 2 (.inl (ci 1, 22230, .inr (.inl (vp_updL (m_bf r) k x)))) i := by
  intro i _
  by_cases hi : i = 2
  · subst hi; rw [va_up_self]; rfl
  · rw [va_up_ne _ _ hi]
    unfold mc
    repeat' split
    all_goals first | rfl | omega
theorem mg_gs {x : Int32} {k : Nat} : ∀ i, i < 7 → mc ad ci (m_wgs r (upd (m_gs r) k x)) i = va_up (mc ad ci r) 3 (.inl (ci 0, 200, .inl (upd (m_gs r) k x))) i := by
  intro i _
  by_cases hi : i = 3
  · subst hi; rw [va_up_self]; rfl
  · rw [va_up_ne _ _ hi]
    unfold mc
    repeat' split
    all_goals first | rfl | omega
theorem mg_lo {x : Int32} {k : Nat} : ∀ i, i < 7 → mc ad ci (m_wlo r (upd (m_lo r) k x)) i = va_up (mc ad ci r) 4 (.inl (ci 0, 200, .inl (upd (m_lo r) k x))) i := by
  intro i _
  by_cases hi : i = 4
  · subst hi; rw [va_up_self]; rfl
  · rw [va_up_ne _ _ hi]
    unfold mc
    repeat' split
    all_goals first | rfl | omega
theorem mg_tk {x : Int64} {k : Nat} : ∀ i, i < 7 → mc ad ci (m_wtk r (vp_updL (m_tk r) k x)) i = va_up (mc ad ci r) 5 (.inl (ci 1, 200, .inr (.inl (vp_updL (m_tk r) k x)))) i := by
  intro i _
  by_cases hi : i = 5
  · subst hi; rw [va_up_self]; rfl
  · rw [va_up_ne _ _ hi]
    unfold mc
    repeat' split
    all_goals first | rfl | omega
theorem mg_fs {x : Int32} {k : Nat} : ∀ i, i < 7 → mc ad ci (m_wfs r (upd (m_fs r) k (vp_nar .boolean x))) i = va_up (mc ad ci r) 6 (.inl (ci 2, 200, .inl (upd (m_fs r) k (vp_nar .boolean x)))) i := by
  intro i _
  by_cases hi : i = 6
  · subst hi; rw [va_up_self]; rfl
  · rw [va_up_ne _ _ hi]
    unfold mc
    repeat' split
    all_goals first | rfl | omega
end XM
