public final class Promise17CountTest {
    public static void main(String[] args) {
        Due due = new Due();
        TraderRights x = World.withTraders(5);
        x.right(0, 0, 0, 0, 0);
        x.right(0, 0, 0, 0, 0);
        x.mandate(0, 1, true, 0);
        x.mandate(0, 1, false, 0);
        x.mandate(2, 1, false, 0);
        x.suspend(0, 0, true);
        x.suspend(0, 0, false);
        x.suspend(1, 9, false);
        x.suspend(1, 7, true);
        x.two(1, true);
        x.two(6, true);
        World.read(x, "ABC");
        long[] want = {5, 2, 3, 4, 66, 3};
        for (int what = 0; what <= 5; what++) {
            due.is("count(" + what + ")", x.count(what), want[what]);
        }
        for (int what : new int[] {-1, 6, 7, Integer.MIN_VALUE, Integer.MAX_VALUE}) {
            due.is("count(" + what + ")", x.count(what), -1);
        }
        due.end();
    }
}
