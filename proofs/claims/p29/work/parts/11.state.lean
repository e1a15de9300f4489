/-- addresses of the constants: the words, their texts, the texts' bytes; WORDS, the switch map, the three messages -/
abbrev wAd : Type := (Nat → Nat) × (Nat → Nat) × (Nat → Nat) × Nat × Nat × (Nat → Nat)
/-! PART 11: what a state of each side is, and the cells that hold it -/
abbrev CS : Type := Bool × Int32 × Int32 × Int64 × Int32 × Int32 × Int32 × Int32
def cs_aw (x : CS) : Bool := x.1
def cs_delay (x : CS) : Int32 := x.2.1
def cs_alarm (x : CS) : Int32 := x.2.2.1
def cs_mail (x : CS) : Int64 := x.2.2.2.1
def cs_done (x : CS) : Int32 := x.2.2.2.2.1
def cs_fin (x : CS) : Int32 := x.2.2.2.2.2.1
def cs_qua (x : CS) : Int32 := x.2.2.2.2.2.2.1
def cs_fell (x : CS) : Int32 := x.2.2.2.2.2.2.2
def cs_aw_s (x : CS) (v : Bool) : CS := (v, x.2)
def cs_delay_s (x : CS) (v : Int32) : CS := (x.1, v, x.2.2)
def cs_alarm_s (x : CS) (v : Int32) : CS := (x.1, x.2.1, v, x.2.2.2)
def cs_mail_s (x : CS) (v : Int64) : CS := (x.1, x.2.1, x.2.2.1, v, x.2.2.2.2)
def cs_done_s (x : CS) (v : Int32) : CS := (x.1, x.2.1, x.2.2.1, x.2.2.2.1, v, x.2.2.2.2.2)
def cs_fin_s (x : CS) (v : Int32) : CS := (x.1, x.2.1, x.2.2.1, x.2.2.2.1, x.2.2.2.2.1, v, x.2.2.2.2.2.2)
def cs_qua_s (x : CS) (v : Int32) : CS := (x.1, x.2.1, x.2.2.1, x.2.2.2.1, x.2.2.2.2.1, x.2.2.2.2.2.1, v, x.2.2.2.2.2.2.2)
def cs_fell_s (x : CS) (v : Int32) : CS := (x.1, x.2.1, x.2.2.1, x.2.2.2.1, x.2.2.2.2.1, x.2.2.2.2.2.1, x.2.2.2.2.2.2.1, v)
theorem cs_aw_aw (x : CS) (v : Bool) : cs_aw (cs_aw_s x v) = v := rfl
theorem cs_aw_delay (x : CS) (v : Bool) : cs_delay (cs_aw_s x v) = cs_delay x := rfl
theorem cs_aw_alarm (x : CS) (v : Bool) : cs_alarm (cs_aw_s x v) = cs_alarm x := rfl
theorem cs_aw_mail (x : CS) (v : Bool) : cs_mail (cs_aw_s x v) = cs_mail x := rfl
theorem cs_aw_done (x : CS) (v : Bool) : cs_done (cs_aw_s x v) = cs_done x := rfl
theorem cs_aw_fin (x : CS) (v : Bool) : cs_fin (cs_aw_s x v) = cs_fin x := rfl
theorem cs_aw_qua (x : CS) (v : Bool) : cs_qua (cs_aw_s x v) = cs_qua x := rfl
theorem cs_aw_fell (x : CS) (v : Bool) : cs_fell (cs_aw_s x v) = cs_fell x := rfl
theorem cs_delay_aw (x : CS) (v : Int32) : cs_aw (cs_delay_s x v) = cs_aw x := rfl
theorem cs_delay_delay (x : CS) (v : Int32) : cs_delay (cs_delay_s x v) = v := rfl
theorem cs_delay_alarm (x : CS) (v : Int32) : cs_alarm (cs_delay_s x v) = cs_alarm x := rfl
theorem cs_delay_mail (x : CS) (v : Int32) : cs_mail (cs_delay_s x v) = cs_mail x := rfl
theorem cs_delay_done (x : CS) (v : Int32) : cs_done (cs_delay_s x v) = cs_done x := rfl
theorem cs_delay_fin (x : CS) (v : Int32) : cs_fin (cs_delay_s x v) = cs_fin x := rfl
theorem cs_delay_qua (x : CS) (v : Int32) : cs_qua (cs_delay_s x v) = cs_qua x := rfl
theorem cs_delay_fell (x : CS) (v : Int32) : cs_fell (cs_delay_s x v) = cs_fell x := rfl
theorem cs_alarm_aw (x : CS) (v : Int32) : cs_aw (cs_alarm_s x v) = cs_aw x := rfl
theorem cs_alarm_delay (x : CS) (v : Int32) : cs_delay (cs_alarm_s x v) = cs_delay x := rfl
theorem cs_alarm_alarm (x : CS) (v : Int32) : cs_alarm (cs_alarm_s x v) = v := rfl
theorem cs_alarm_mail (x : CS) (v : Int32) : cs_mail (cs_alarm_s x v) = cs_mail x := rfl
theorem cs_alarm_done (x : CS) (v : Int32) : cs_done (cs_alarm_s x v) = cs_done x := rfl
theorem cs_alarm_fin (x : CS) (v : Int32) : cs_fin (cs_alarm_s x v) = cs_fin x := rfl
theorem cs_alarm_qua (x : CS) (v : Int32) : cs_qua (cs_alarm_s x v) = cs_qua x := rfl
theorem cs_alarm_fell (x : CS) (v : Int32) : cs_fell (cs_alarm_s x v) = cs_fell x := rfl
theorem cs_mail_aw (x : CS) (v : Int64) : cs_aw (cs_mail_s x v) = cs_aw x := rfl
theorem cs_mail_delay (x : CS) (v : Int64) : cs_delay (cs_mail_s x v) = cs_delay x := rfl
theorem cs_mail_alarm (x : CS) (v : Int64) : cs_alarm (cs_mail_s x v) = cs_alarm x := rfl
theorem cs_mail_mail (x : CS) (v : Int64) : cs_mail (cs_mail_s x v) = v := rfl
theorem cs_mail_done (x : CS) (v : Int64) : cs_done (cs_mail_s x v) = cs_done x := rfl
theorem cs_mail_fin (x : CS) (v : Int64) : cs_fin (cs_mail_s x v) = cs_fin x := rfl
theorem cs_mail_qua (x : CS) (v : Int64) : cs_qua (cs_mail_s x v) = cs_qua x := rfl
theorem cs_mail_fell (x : CS) (v : Int64) : cs_fell (cs_mail_s x v) = cs_fell x := rfl
theorem cs_done_aw (x : CS) (v : Int32) : cs_aw (cs_done_s x v) = cs_aw x := rfl
theorem cs_done_delay (x : CS) (v : Int32) : cs_delay (cs_done_s x v) = cs_delay x := rfl
theorem cs_done_alarm (x : CS) (v : Int32) : cs_alarm (cs_done_s x v) = cs_alarm x := rfl
theorem cs_done_mail (x : CS) (v : Int32) : cs_mail (cs_done_s x v) = cs_mail x := rfl
theorem cs_done_done (x : CS) (v : Int32) : cs_done (cs_done_s x v) = v := rfl
theorem cs_done_fin (x : CS) (v : Int32) : cs_fin (cs_done_s x v) = cs_fin x := rfl
theorem cs_done_qua (x : CS) (v : Int32) : cs_qua (cs_done_s x v) = cs_qua x := rfl
theorem cs_done_fell (x : CS) (v : Int32) : cs_fell (cs_done_s x v) = cs_fell x := rfl
theorem cs_fin_aw (x : CS) (v : Int32) : cs_aw (cs_fin_s x v) = cs_aw x := rfl
theorem cs_fin_delay (x : CS) (v : Int32) : cs_delay (cs_fin_s x v) = cs_delay x := rfl
theorem cs_fin_alarm (x : CS) (v : Int32) : cs_alarm (cs_fin_s x v) = cs_alarm x := rfl
theorem cs_fin_mail (x : CS) (v : Int32) : cs_mail (cs_fin_s x v) = cs_mail x := rfl
theorem cs_fin_done (x : CS) (v : Int32) : cs_done (cs_fin_s x v) = cs_done x := rfl
theorem cs_fin_fin (x : CS) (v : Int32) : cs_fin (cs_fin_s x v) = v := rfl
theorem cs_fin_qua (x : CS) (v : Int32) : cs_qua (cs_fin_s x v) = cs_qua x := rfl
theorem cs_fin_fell (x : CS) (v : Int32) : cs_fell (cs_fin_s x v) = cs_fell x := rfl
theorem cs_qua_aw (x : CS) (v : Int32) : cs_aw (cs_qua_s x v) = cs_aw x := rfl
theorem cs_qua_delay (x : CS) (v : Int32) : cs_delay (cs_qua_s x v) = cs_delay x := rfl
theorem cs_qua_alarm (x : CS) (v : Int32) : cs_alarm (cs_qua_s x v) = cs_alarm x := rfl
theorem cs_qua_mail (x : CS) (v : Int32) : cs_mail (cs_qua_s x v) = cs_mail x := rfl
theorem cs_qua_done (x : CS) (v : Int32) : cs_done (cs_qua_s x v) = cs_done x := rfl
theorem cs_qua_fin (x : CS) (v : Int32) : cs_fin (cs_qua_s x v) = cs_fin x := rfl
theorem cs_qua_qua (x : CS) (v : Int32) : cs_qua (cs_qua_s x v) = v := rfl
theorem cs_qua_fell (x : CS) (v : Int32) : cs_fell (cs_qua_s x v) = cs_fell x := rfl
theorem cs_fell_aw (x : CS) (v : Int32) : cs_aw (cs_fell_s x v) = cs_aw x := rfl
theorem cs_fell_delay (x : CS) (v : Int32) : cs_delay (cs_fell_s x v) = cs_delay x := rfl
theorem cs_fell_alarm (x : CS) (v : Int32) : cs_alarm (cs_fell_s x v) = cs_alarm x := rfl
theorem cs_fell_mail (x : CS) (v : Int32) : cs_mail (cs_fell_s x v) = cs_mail x := rfl
theorem cs_fell_done (x : CS) (v : Int32) : cs_done (cs_fell_s x v) = cs_done x := rfl
theorem cs_fell_fin (x : CS) (v : Int32) : cs_fin (cs_fell_s x v) = cs_fin x := rfl
theorem cs_fell_qua (x : CS) (v : Int32) : cs_qua (cs_fell_s x v) = cs_qua x := rfl
theorem cs_fell_fell (x : CS) (v : Int32) : cs_fell (cs_fell_s x v) = v := rfl
abbrev DS : Type := (Nat → Int32) × (Nat → Int32) × CS × CS × Int32 × Int32 × Int32 × Int32
def ds_val (x : DS) : (Nat → Int32) := x.1
def ds_fac (x : DS) : (Nat → Int32) := x.2.1
def ds_zero (x : DS) : CS := x.2.2.1
def ds_one (x : DS) : CS := x.2.2.2.1
def ds_ord (x : DS) : Int32 := x.2.2.2.2.1
def ds_tick (x : DS) : Int32 := x.2.2.2.2.2.1
def ds_mo (x : DS) : Int32 := x.2.2.2.2.2.2.1
def ds_mv (x : DS) : Int32 := x.2.2.2.2.2.2.2
def ds_val_s (x : DS) (v : (Nat → Int32)) : DS := (v, x.2)
def ds_fac_s (x : DS) (v : (Nat → Int32)) : DS := (x.1, v, x.2.2)
def ds_zero_s (x : DS) (v : CS) : DS := (x.1, x.2.1, v, x.2.2.2)
def ds_one_s (x : DS) (v : CS) : DS := (x.1, x.2.1, x.2.2.1, v, x.2.2.2.2)
def ds_ord_s (x : DS) (v : Int32) : DS := (x.1, x.2.1, x.2.2.1, x.2.2.2.1, v, x.2.2.2.2.2)
def ds_tick_s (x : DS) (v : Int32) : DS := (x.1, x.2.1, x.2.2.1, x.2.2.2.1, x.2.2.2.2.1, v, x.2.2.2.2.2.2)
def ds_mo_s (x : DS) (v : Int32) : DS := (x.1, x.2.1, x.2.2.1, x.2.2.2.1, x.2.2.2.2.1, x.2.2.2.2.2.1, v, x.2.2.2.2.2.2.2)
def ds_mv_s (x : DS) (v : Int32) : DS := (x.1, x.2.1, x.2.2.1, x.2.2.2.1, x.2.2.2.2.1, x.2.2.2.2.2.1, x.2.2.2.2.2.2.1, v)
theorem ds_val_val (x : DS) (v : (Nat → Int32)) : ds_val (ds_val_s x v) = v := rfl
theorem ds_val_fac (x : DS) (v : (Nat → Int32)) : ds_fac (ds_val_s x v) = ds_fac x := rfl
theorem ds_val_zero (x : DS) (v : (Nat → Int32)) : ds_zero (ds_val_s x v) = ds_zero x := rfl
theorem ds_val_one (x : DS) (v : (Nat → Int32)) : ds_one (ds_val_s x v) = ds_one x := rfl
theorem ds_val_ord (x : DS) (v : (Nat → Int32)) : ds_ord (ds_val_s x v) = ds_ord x := rfl
theorem ds_val_tick (x : DS) (v : (Nat → Int32)) : ds_tick (ds_val_s x v) = ds_tick x := rfl
theorem ds_val_mo (x : DS) (v : (Nat → Int32)) : ds_mo (ds_val_s x v) = ds_mo x := rfl
theorem ds_val_mv (x : DS) (v : (Nat → Int32)) : ds_mv (ds_val_s x v) = ds_mv x := rfl
theorem ds_fac_val (x : DS) (v : (Nat → Int32)) : ds_val (ds_fac_s x v) = ds_val x := rfl
theorem ds_fac_fac (x : DS) (v : (Nat → Int32)) : ds_fac (ds_fac_s x v) = v := rfl
theorem ds_fac_zero (x : DS) (v : (Nat → Int32)) : ds_zero (ds_fac_s x v) = ds_zero x := rfl
theorem ds_fac_one (x : DS) (v : (Nat → Int32)) : ds_one (ds_fac_s x v) = ds_one x := rfl
theorem ds_fac_ord (x : DS) (v : (Nat → Int32)) : ds_ord (ds_fac_s x v) = ds_ord x := rfl
theorem ds_fac_tick (x : DS) (v : (Nat → Int32)) : ds_tick (ds_fac_s x v) = ds_tick x := rfl
theorem ds_fac_mo (x : DS) (v : (Nat → Int32)) : ds_mo (ds_fac_s x v) = ds_mo x := rfl
theorem ds_fac_mv (x : DS) (v : (Nat → Int32)) : ds_mv (ds_fac_s x v) = ds_mv x := rfl
theorem ds_zero_val (x : DS) (v : CS) : ds_val (ds_zero_s x v) = ds_val x := rfl
theorem ds_zero_fac (x : DS) (v : CS) : ds_fac (ds_zero_s x v) = ds_fac x := rfl
theorem ds_zero_zero (x : DS) (v : CS) : ds_zero (ds_zero_s x v) = v := rfl
theorem ds_zero_one (x : DS) (v : CS) : ds_one (ds_zero_s x v) = ds_one x := rfl
theorem ds_zero_ord (x : DS) (v : CS) : ds_ord (ds_zero_s x v) = ds_ord x := rfl
theorem ds_zero_tick (x : DS) (v : CS) : ds_tick (ds_zero_s x v) = ds_tick x := rfl
theorem ds_zero_mo (x : DS) (v : CS) : ds_mo (ds_zero_s x v) = ds_mo x := rfl
theorem ds_zero_mv (x : DS) (v : CS) : ds_mv (ds_zero_s x v) = ds_mv x := rfl
theorem ds_one_val (x : DS) (v : CS) : ds_val (ds_one_s x v) = ds_val x := rfl
theorem ds_one_fac (x : DS) (v : CS) : ds_fac (ds_one_s x v) = ds_fac x := rfl
theorem ds_one_zero (x : DS) (v : CS) : ds_zero (ds_one_s x v) = ds_zero x := rfl
theorem ds_one_one (x : DS) (v : CS) : ds_one (ds_one_s x v) = v := rfl
theorem ds_one_ord (x : DS) (v : CS) : ds_ord (ds_one_s x v) = ds_ord x := rfl
theorem ds_one_tick (x : DS) (v : CS) : ds_tick (ds_one_s x v) = ds_tick x := rfl
theorem ds_one_mo (x : DS) (v : CS) : ds_mo (ds_one_s x v) = ds_mo x := rfl
theorem ds_one_mv (x : DS) (v : CS) : ds_mv (ds_one_s x v) = ds_mv x := rfl
theorem ds_ord_val (x : DS) (v : Int32) : ds_val (ds_ord_s x v) = ds_val x := rfl
theorem ds_ord_fac (x : DS) (v : Int32) : ds_fac (ds_ord_s x v) = ds_fac x := rfl
theorem ds_ord_zero (x : DS) (v : Int32) : ds_zero (ds_ord_s x v) = ds_zero x := rfl
theorem ds_ord_one (x : DS) (v : Int32) : ds_one (ds_ord_s x v) = ds_one x := rfl
theorem ds_ord_ord (x : DS) (v : Int32) : ds_ord (ds_ord_s x v) = v := rfl
theorem ds_ord_tick (x : DS) (v : Int32) : ds_tick (ds_ord_s x v) = ds_tick x := rfl
theorem ds_ord_mo (x : DS) (v : Int32) : ds_mo (ds_ord_s x v) = ds_mo x := rfl
theorem ds_ord_mv (x : DS) (v : Int32) : ds_mv (ds_ord_s x v) = ds_mv x := rfl
theorem ds_tick_val (x : DS) (v : Int32) : ds_val (ds_tick_s x v) = ds_val x := rfl
theorem ds_tick_fac (x : DS) (v : Int32) : ds_fac (ds_tick_s x v) = ds_fac x := rfl
theorem ds_tick_zero (x : DS) (v : Int32) : ds_zero (ds_tick_s x v) = ds_zero x := rfl
theorem ds_tick_one (x : DS) (v : Int32) : ds_one (ds_tick_s x v) = ds_one x := rfl
theorem ds_tick_ord (x : DS) (v : Int32) : ds_ord (ds_tick_s x v) = ds_ord x := rfl
theorem ds_tick_tick (x : DS) (v : Int32) : ds_tick (ds_tick_s x v) = v := rfl
theorem ds_tick_mo (x : DS) (v : Int32) : ds_mo (ds_tick_s x v) = ds_mo x := rfl
theorem ds_tick_mv (x : DS) (v : Int32) : ds_mv (ds_tick_s x v) = ds_mv x := rfl
theorem ds_mo_val (x : DS) (v : Int32) : ds_val (ds_mo_s x v) = ds_val x := rfl
theorem ds_mo_fac (x : DS) (v : Int32) : ds_fac (ds_mo_s x v) = ds_fac x := rfl
theorem ds_mo_zero (x : DS) (v : Int32) : ds_zero (ds_mo_s x v) = ds_zero x := rfl
theorem ds_mo_one (x : DS) (v : Int32) : ds_one (ds_mo_s x v) = ds_one x := rfl
theorem ds_mo_ord (x : DS) (v : Int32) : ds_ord (ds_mo_s x v) = ds_ord x := rfl
theorem ds_mo_tick (x : DS) (v : Int32) : ds_tick (ds_mo_s x v) = ds_tick x := rfl
theorem ds_mo_mo (x : DS) (v : Int32) : ds_mo (ds_mo_s x v) = v := rfl
theorem ds_mo_mv (x : DS) (v : Int32) : ds_mv (ds_mo_s x v) = ds_mv x := rfl
theorem ds_mv_val (x : DS) (v : Int32) : ds_val (ds_mv_s x v) = ds_val x := rfl
theorem ds_mv_fac (x : DS) (v : Int32) : ds_fac (ds_mv_s x v) = ds_fac x := rfl
theorem ds_mv_zero (x : DS) (v : Int32) : ds_zero (ds_mv_s x v) = ds_zero x := rfl
theorem ds_mv_one (x : DS) (v : Int32) : ds_one (ds_mv_s x v) = ds_one x := rfl
theorem ds_mv_ord (x : DS) (v : Int32) : ds_ord (ds_mv_s x v) = ds_ord x := rfl
theorem ds_mv_tick (x : DS) (v : Int32) : ds_tick (ds_mv_s x v) = ds_tick x := rfl
theorem ds_mv_mo (x : DS) (v : Int32) : ds_mo (ds_mv_s x v) = ds_mo x := rfl
theorem ds_mv_mv (x : DS) (v : Int32) : ds_mv (ds_mv_s x v) = v := rfl
abbrev HS : Type := (Nat → DS) × Int32 × Int32
def hs_sv (x : HS) : (Nat → DS) := x.1
def hs_size (x : HS) : Int32 := x.2.1
def hs_new (x : HS) : Int32 := x.2.2
def hs_sv_s (x : HS) (v : (Nat → DS)) : HS := (v, x.2)
def hs_size_s (x : HS) (v : Int32) : HS := (x.1, v, x.2.2)
def hs_new_s (x : HS) (v : Int32) : HS := (x.1, x.2.1, v)
theorem hs_sv_sv (x : HS) (v : (Nat → DS)) : hs_sv (hs_sv_s x v) = v := rfl
theorem hs_sv_size (x : HS) (v : (Nat → DS)) : hs_size (hs_sv_s x v) = hs_size x := rfl
theorem hs_sv_new (x : HS) (v : (Nat → DS)) : hs_new (hs_sv_s x v) = hs_new x := rfl
theorem hs_size_sv (x : HS) (v : Int32) : hs_sv (hs_size_s x v) = hs_sv x := rfl
theorem hs_size_size (x : HS) (v : Int32) : hs_size (hs_size_s x v) = v := rfl
theorem hs_size_new (x : HS) (v : Int32) : hs_new (hs_size_s x v) = hs_new x := rfl
theorem hs_new_sv (x : HS) (v : Int32) : hs_sv (hs_new_s x v) = hs_sv x := rfl
theorem hs_new_size (x : HS) (v : Int32) : hs_size (hs_new_s x v) = hs_size x := rfl
theorem hs_new_new (x : HS) (v : Int32) : hs_new (hs_new_s x v) = v := rfl
abbrev TS : Type := (Nat → Int32) × (Nat → Int32) × Int32 × Int32 × (Option Nat)
def ts_by (x : TS) : (Nat → Int32) := x.1
def ts_nu (x : TS) : (Nat → Int32) := x.2.1
def ts_len (x : TS) : Int32 := x.2.2.1
def ts_cur (x : TS) : Int32 := x.2.2.2.1
def ts_word (x : TS) : (Option Nat) := x.2.2.2.2
def ts_by_s (x : TS) (v : (Nat → Int32)) : TS := (v, x.2)
def ts_nu_s (x : TS) (v : (Nat → Int32)) : TS := (x.1, v, x.2.2)
def ts_len_s (x : TS) (v : Int32) : TS := (x.1, x.2.1, v, x.2.2.2)
def ts_cur_s (x : TS) (v : Int32) : TS := (x.1, x.2.1, x.2.2.1, v, x.2.2.2.2)
def ts_word_s (x : TS) (v : (Option Nat)) : TS := (x.1, x.2.1, x.2.2.1, x.2.2.2.1, v)
theorem ts_by_by (x : TS) (v : (Nat → Int32)) : ts_by (ts_by_s x v) = v := rfl
theorem ts_by_nu (x : TS) (v : (Nat → Int32)) : ts_nu (ts_by_s x v) = ts_nu x := rfl
theorem ts_by_len (x : TS) (v : (Nat → Int32)) : ts_len (ts_by_s x v) = ts_len x := rfl
theorem ts_by_cur (x : TS) (v : (Nat → Int32)) : ts_cur (ts_by_s x v) = ts_cur x := rfl
theorem ts_by_word (x : TS) (v : (Nat → Int32)) : ts_word (ts_by_s x v) = ts_word x := rfl
theorem ts_nu_by (x : TS) (v : (Nat → Int32)) : ts_by (ts_nu_s x v) = ts_by x := rfl
theorem ts_nu_nu (x : TS) (v : (Nat → Int32)) : ts_nu (ts_nu_s x v) = v := rfl
theorem ts_nu_len (x : TS) (v : (Nat → Int32)) : ts_len (ts_nu_s x v) = ts_len x := rfl
theorem ts_nu_cur (x : TS) (v : (Nat → Int32)) : ts_cur (ts_nu_s x v) = ts_cur x := rfl
theorem ts_nu_word (x : TS) (v : (Nat → Int32)) : ts_word (ts_nu_s x v) = ts_word x := rfl
theorem ts_len_by (x : TS) (v : Int32) : ts_by (ts_len_s x v) = ts_by x := rfl
theorem ts_len_nu (x : TS) (v : Int32) : ts_nu (ts_len_s x v) = ts_nu x := rfl
theorem ts_len_len (x : TS) (v : Int32) : ts_len (ts_len_s x v) = v := rfl
theorem ts_len_cur (x : TS) (v : Int32) : ts_cur (ts_len_s x v) = ts_cur x := rfl
theorem ts_len_word (x : TS) (v : Int32) : ts_word (ts_len_s x v) = ts_word x := rfl
theorem ts_cur_by (x : TS) (v : Int32) : ts_by (ts_cur_s x v) = ts_by x := rfl
theorem ts_cur_nu (x : TS) (v : Int32) : ts_nu (ts_cur_s x v) = ts_nu x := rfl
theorem ts_cur_len (x : TS) (v : Int32) : ts_len (ts_cur_s x v) = ts_len x := rfl
theorem ts_cur_cur (x : TS) (v : Int32) : ts_cur (ts_cur_s x v) = v := rfl
theorem ts_cur_word (x : TS) (v : Int32) : ts_word (ts_cur_s x v) = ts_word x := rfl
theorem ts_word_by (x : TS) (v : (Option Nat)) : ts_by (ts_word_s x v) = ts_by x := rfl
theorem ts_word_nu (x : TS) (v : (Option Nat)) : ts_nu (ts_word_s x v) = ts_nu x := rfl
theorem ts_word_len (x : TS) (v : (Option Nat)) : ts_len (ts_word_s x v) = ts_len x := rfl
theorem ts_word_cur (x : TS) (v : (Option Nat)) : ts_cur (ts_word_s x v) = ts_cur x := rfl
theorem ts_word_word (x : TS) (v : (Option Nat)) : ts_word (ts_word_s x v) = v := rfl
abbrev SS : Type := DS × DS × HS × TS × (Nat → Int32) × (Nat → Int32)
def ss_drv (x : SS) : DS := x.1
def ss_img (x : SS) : DS := x.2.1
def ss_his (x : SS) : HS := x.2.2.1
def ss_txt (x : SS) : TS := x.2.2.2.1
def ss_fin (x : SS) : (Nat → Int32) := x.2.2.2.2.1
def ss_dep (x : SS) : (Nat → Int32) := x.2.2.2.2.2
def ss_drv_s (x : SS) (v : DS) : SS := (v, x.2)
def ss_img_s (x : SS) (v : DS) : SS := (x.1, v, x.2.2)
def ss_his_s (x : SS) (v : HS) : SS := (x.1, x.2.1, v, x.2.2.2)
def ss_txt_s (x : SS) (v : TS) : SS := (x.1, x.2.1, x.2.2.1, v, x.2.2.2.2)
def ss_fin_s (x : SS) (v : (Nat → Int32)) : SS := (x.1, x.2.1, x.2.2.1, x.2.2.2.1, v, x.2.2.2.2.2)
def ss_dep_s (x : SS) (v : (Nat → Int32)) : SS := (x.1, x.2.1, x.2.2.1, x.2.2.2.1, x.2.2.2.2.1, v)
theorem ss_drv_drv (x : SS) (v : DS) : ss_drv (ss_drv_s x v) = v := rfl
theorem ss_drv_img (x : SS) (v : DS) : ss_img (ss_drv_s x v) = ss_img x := rfl
theorem ss_drv_his (x : SS) (v : DS) : ss_his (ss_drv_s x v) = ss_his x := rfl
theorem ss_drv_txt (x : SS) (v : DS) : ss_txt (ss_drv_s x v) = ss_txt x := rfl
theorem ss_drv_fin (x : SS) (v : DS) : ss_fin (ss_drv_s x v) = ss_fin x := rfl
theorem ss_drv_dep (x : SS) (v : DS) : ss_dep (ss_drv_s x v) = ss_dep x := rfl
theorem ss_img_drv (x : SS) (v : DS) : ss_drv (ss_img_s x v) = ss_drv x := rfl
theorem ss_img_img (x : SS) (v : DS) : ss_img (ss_img_s x v) = v := rfl
theorem ss_img_his (x : SS) (v : DS) : ss_his (ss_img_s x v) = ss_his x := rfl
theorem ss_img_txt (x : SS) (v : DS) : ss_txt (ss_img_s x v) = ss_txt x := rfl
theorem ss_img_fin (x : SS) (v : DS) : ss_fin (ss_img_s x v) = ss_fin x := rfl
theorem ss_img_dep (x : SS) (v : DS) : ss_dep (ss_img_s x v) = ss_dep x := rfl
theorem ss_his_drv (x : SS) (v : HS) : ss_drv (ss_his_s x v) = ss_drv x := rfl
theorem ss_his_img (x : SS) (v : HS) : ss_img (ss_his_s x v) = ss_img x := rfl
theorem ss_his_his (x : SS) (v : HS) : ss_his (ss_his_s x v) = v := rfl
theorem ss_his_txt (x : SS) (v : HS) : ss_txt (ss_his_s x v) = ss_txt x := rfl
theorem ss_his_fin (x : SS) (v : HS) : ss_fin (ss_his_s x v) = ss_fin x := rfl
theorem ss_his_dep (x : SS) (v : HS) : ss_dep (ss_his_s x v) = ss_dep x := rfl
theorem ss_txt_drv (x : SS) (v : TS) : ss_drv (ss_txt_s x v) = ss_drv x := rfl
theorem ss_txt_img (x : SS) (v : TS) : ss_img (ss_txt_s x v) = ss_img x := rfl
theorem ss_txt_his (x : SS) (v : TS) : ss_his (ss_txt_s x v) = ss_his x := rfl
theorem ss_txt_txt (x : SS) (v : TS) : ss_txt (ss_txt_s x v) = v := rfl
theorem ss_txt_fin (x : SS) (v : TS) : ss_fin (ss_txt_s x v) = ss_fin x := rfl
theorem ss_txt_dep (x : SS) (v : TS) : ss_dep (ss_txt_s x v) = ss_dep x := rfl
theorem ss_fin_drv (x : SS) (v : (Nat → Int32)) : ss_drv (ss_fin_s x v) = ss_drv x := rfl
theorem ss_fin_img (x : SS) (v : (Nat → Int32)) : ss_img (ss_fin_s x v) = ss_img x := rfl
theorem ss_fin_his (x : SS) (v : (Nat → Int32)) : ss_his (ss_fin_s x v) = ss_his x := rfl
theorem ss_fin_txt (x : SS) (v : (Nat → Int32)) : ss_txt (ss_fin_s x v) = ss_txt x := rfl
theorem ss_fin_fin (x : SS) (v : (Nat → Int32)) : ss_fin (ss_fin_s x v) = v := rfl
theorem ss_fin_dep (x : SS) (v : (Nat → Int32)) : ss_dep (ss_fin_s x v) = ss_dep x := rfl
theorem ss_dep_drv (x : SS) (v : (Nat → Int32)) : ss_drv (ss_dep_s x v) = ss_drv x := rfl
theorem ss_dep_img (x : SS) (v : (Nat → Int32)) : ss_img (ss_dep_s x v) = ss_img x := rfl
theorem ss_dep_his (x : SS) (v : (Nat → Int32)) : ss_his (ss_dep_s x v) = ss_his x := rfl
theorem ss_dep_txt (x : SS) (v : (Nat → Int32)) : ss_txt (ss_dep_s x v) = ss_txt x := rfl
theorem ss_dep_fin (x : SS) (v : (Nat → Int32)) : ss_fin (ss_dep_s x v) = ss_fin x := rfl
theorem ss_dep_dep (x : SS) (v : (Nat → Int32)) : ss_dep (ss_dep_s x v) = v := rfl
def cCtl (c : CS) : List Value := [.int (zI (cs_aw c)), .int (cs_delay c), .int (cs_alarm c), .long (cs_mail c), .int (cs_done c), .int (cs_fin c), .int (cs_qua c), .int (cs_fell c)]
def wCtl (a : Nat) (c : CS) : va_W := [(a, .inr (1, cCtl c))]
def wDrv (cI : ClassId) (g : Nat → Nat) (d : DS) : va_W := [(g 0, .inr (2, [.ref (g 1), .ref (g 2), .ref (g 3), .ref (g 4), .int (ds_ord d), .int (ds_tick d), .int (ds_mo d), .int (ds_mv d)])), (g 1, .inl (cI, 16, .inl (ds_val d))), (g 2, .inl (cI, 480, .inl (ds_fac d))), (g 3, .inr (1, cCtl (ds_zero d))), (g 4, .inr (1, cCtl (ds_one d)))]
def wRow (cI : ClassId) (a n : Nat) (f : Nat → Int32) : va_W := [(a, .inl (cI, n, .inl f))]
def wHis (cI cD : ClassId) (g : Nat → Nat) (h : HS) : va_W := [(g 0, .inr (3, [.ref (g 1), .int (hs_size h), .int (hs_new h)])), (g 1, .inl (cD, 4, .inr (.inr (.inr (.inr (fun i => some (g (2 + 5 * i))))))))] ++ (wDrv cI (fun i => g (2 + i)) (hs_sv h 0) ++ (wDrv cI (fun i => g (7 + i)) (hs_sv h 1) ++ (wDrv cI (fun i => g (12 + i)) (hs_sv h 2) ++ wDrv cI (fun i => g (17 + i)) (hs_sv h 3))))
def wTxt (cI : ClassId) (ad : Nat → Nat) (g : Nat → Nat) (t : TS) : va_W := [(g 0, .inr (0, [.ref (g 1), .ref (g 2), .int (ts_len t), .int (ts_cur t), va_re ad (ts_word t)])), (g 1, .inl (cI, 150, .inl (ts_by t))), (g 2, .inl (cI, 4, .inl (ts_nu t)))]
def wSys (cI cD : ClassId) (ad : Nat → Nat) (g : Nat → Nat) (x : SS) : va_W := [(g 0, .inr (4, [.ref (g 1), .ref (g 6), .ref (g 11), .ref (g 33), .ref (g 36), .ref (g 37)]))] ++ (wDrv cI (fun i => g (1 + i)) (ss_drv x) ++ (wDrv cI (fun i => g (6 + i)) (ss_img x) ++ (wHis cI cD (fun i => g (11 + i)) (ss_his x) ++ (wTxt cI ad (fun i => g (33 + i)) (ss_txt x) ++ (wRow cI (g 36) 16 (ss_fin x) ++ wRow cI (g 37) 40 (ss_dep x))))))
def upS (f : Nat → DS) (k : Nat) (v : DS) : Nat → DS := fun i => bif Nat.beq i k then v else f i
abbrev wTys (cI cD _cJ : ClassId) : List (ClassId × FieldType) := [(cI, .int), (cD, .object "WokenDrive$Drive")]
def dCtl (d : DS) (c : Int32) : CS := if c = 0 then ds_zero d else ds_one d
def dCtl_s (d : DS) (c : Int32) (x : CS) : DS := (d.1, d.2.1, if c = 0 then x else ds_zero d, if c = 0 then ds_one d else x, d.2.2.2.2)
def ctlA (g : Nat → Nat) (c : Int32) : Nat := if c = 0 then g 3 else g 4
