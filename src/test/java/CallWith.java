/** A call on a keeper, one of whose arguments is still to be named. */
interface CallWith {
    int on(RoomKeeper x, int argument);
}
