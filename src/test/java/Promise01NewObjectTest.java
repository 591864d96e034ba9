public final class Promise01NewObjectTest {
    public static void main(String[] args) {
        Due due = new Due();
        TraderRights x = new TraderRights();
        for (int what = 0; what <= 5; what++) {
            due.is("count(" + what + ") of a new object", x.count(what), 0);
        }
        due.is("certified() of a new object", x.certified(), -1);
        due.is("may(0, 0, 0, 0) of a new object", x.may(0, 0, 0, 0), 1);
        due.is("NONE", TraderRights.NONE, -1);

        TraderRights other = new TraderRights();
        x.trader();
        x.two(3, true);
        World.read(x, "AB");
        due.is("traders of another object", other.count(0), 0);
        due.is("acts of two of another object", other.count(4), 0);
        due.is("letters read by another object", other.count(5), 0);
        due.end();
    }
}
