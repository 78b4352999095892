/** A call on a keeper. */
interface Call {
    int on(RoomKeeper x);
}
