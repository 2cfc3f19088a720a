/** Promise 12: state. */
public final class Promise12Test {
    public static void main(String[] args) {
        Check.bothWays(c -> {
            for (int s = 0; s <= 10; s++) {
                Wire x = Check.inState(s);
                c.due("state " + s, x.state(0), s);
                c.due("the other end", x.state(1), 0);
                c.due("end -1", x.state(-1), -1);
                c.due("end 2", x.state(2), -1);
                c.due("asking changes nothing", x.state(0), s);
            }
        });
    }
}
