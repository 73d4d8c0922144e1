import java.lang.management.ManagementFactory;

/** All calls of one run live in one room: no call makes an object, and a new object is small. */
public final class RoomTest {
    private RoomTest() { }

    private static int sink = 0;

    private static void all(AWordStuck x, int i) {
        int one = i % 5;
        sink += x.set(2, one, i % 10) + x.man(i % 6, 3) + x.told(one, i % 40) + x.fill(one, i % 10, i % 16, i % 9);
        sink += x.say(one, i % 16, i % 10) + x.floss(one, i * 7 % 10) + x.kiss(one, (one + 1) % 5) + x.live();
        sink += x.run(60, i % 5) + x.off(one, i % 10, 60) + x.foods(one, 3, i % 10) + x.best(60, i % 2) + x.few(one, 60, 40);
        sink += x.kissing(60, i % 2) + x.church(60, i % 2) + x.film(1, one) + x.tells(1, one, i % 4) + x.tells(1, one, 10 + i % 30);
        sink += x.drawn(one, i, 16) + (int) x.chance(one, i, 20, 0) + x.image() + x.back() + x.count(i % 6);
        sink += x.sheet(0, 0, 12) + x.cell(0, 4, 3) + x.plan(0, 0) + x.copy(0, 0, 0, 4, 8) + x.people(0, 0, 0, 5) + x.taken(one, 1);
        for (int j = 0; j < 26; j++) sink += x.feed("sticks 1;lasts 2;shames 3;".charAt(j));
        sink += x.text() + x.force(i % 3);
    }

    private static long made() {
        return ((com.sun.management.ThreadMXBean) ManagementFactory.getThreadMXBean()).getCurrentThreadAllocatedBytes();
    }

    public static void main(String[] args) {
        AWordStuck x = new AWordStuck();
        made();
        for (int i = 0; i < 20; i++) all(x, i);
        long before = made();
        for (int i = 20; i < 120; i++) all(x, i);
        long calls = made() - before;
        before = made();
        AWordStuck y = new AWordStuck();
        long object = made() - before;
        System.out.println("bytes made by 5800 calls: " + calls + ", by a new object: " + object + " (" + (sink + y.count(0)) + ")");
        Check.due("calls make nothing", calls < 1000 ? 1 : 0, 1);
        Check.due("a new object is small", object < 40000 ? 1 : 0, 1);
        Check.end();
    }
}
