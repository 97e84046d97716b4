import com.sun.management.ThreadMXBean;
import java.lang.management.ManagementFactory;

/** A run of 512 of the dearest calls makes few things, and ends soon. */
public final class RoomTest {
    private static final ThreadMXBean THREADS = (ThreadMXBean) ManagementFactory.getThreadMXBean();
    private static int wrong;

    private RoomTest() {
    }

    private static long made() {
        return THREADS.getThreadAllocatedBytes(Thread.currentThread().getId());
    }

    private static void atMost(String what, long bytes, long most) {
        System.out.println(what + ": " + bytes + " bytes");
        if (bytes > most) {
            wrong++;
            System.out.println(what + " may make " + most + " at most");
        }
    }

    public static void main(String[] args) {
        // Once ahead, so that the loading of classes is not counted.
        everyCall(new NineGraves());
        texts(new NineGraves());
        long start = made();
        NineGraves x = new NineGraves();
        long object = made();
        everyCall(x);
        long calls = made();
        NineGraves y = new NineGraves();
        long other = made();
        texts(y);
        long last = made();
        atMost("a new object", object - start, 120000);
        atMost("512 calls", calls - object, 40000);
        atMost("texts again and again", last - other, 200000);
        if (wrong != 0) {
            System.exit(1);
        }
    }

    private static void feed(NineGraves x, String text) {
        for (int i = 0; i < text.length(); i += 20) {
            int[] five = new int[5];
            for (int k = 0; k < 20; k++) {
                five[k / 4] = five[k / 4] << 8 | (i + k < text.length() ? text.charAt(i + k) : ' ');
            }
            x.feed(five[0], five[1], five[2], five[3], five[4]);
        }
    }

    private static void everyCall(NineGraves x) {
        for (int i = 0; i < 10; i++) {
            x.town(i * 37 % 100, i * 59 % 100);
        }
        for (int i = 0; i < 12; i++) {
            x.bone(0, 100 + i, i % 10);
            x.seen(0, 0, 500, i);
        }
        // Eleven could be three by three by three by two; the twelfth can be with none of them.
        feed(x, "worn weight-weight+((((((((1))))))));kind 0 many 3;unlike oweight=111 and weight#111;holy 1=1;");
        x.text();
        x.by(0);
        for (int i = 0; i < 30; i++) {
            x.rules(9, 90 + i % 9);
            x.histories();
            x.image();
            x.back();
            x.pass(9);
            x.saints(1023, i % 12);
            x.round(255, -1);
            x.chance(20, 10, 3, i % 2);
            x.pilgrims(i, 99, 3, 0);
            x.steal(i % 12, i % 10);
            x.undo();
            x.swap(i % 12, (i + 1) % 12);
            x.burn(i % 10);
            x.prove(i % 10, i % 12);
            x.played(0);
        }
    }

    private static void texts(NineGraves x) {
        String text = "worn 1" + "+1".repeat(140) + ";" + "burn 0;";
        for (int i = 0; i < 30; i++) {
            feed(x, text);
            if (x.text() != 0) {
                wrong++;
            }
            x.back();
        }
    }
}
