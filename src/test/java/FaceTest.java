import java.lang.reflect.Constructor;
import java.lang.reflect.Field;
import java.lang.reflect.Member;
import java.lang.reflect.Method;
import java.lang.reflect.Modifier;
import java.util.ArrayList;
import java.util.Arrays;
import java.util.List;
import java.util.TreeSet;

/** The public face is that of the document, and nothing else can be reached from outside. */
public final class FaceTest {
    private static final String[] FACE = {
        "public ChannelRules()",
        "public boolean ChannelRules.back(int)",
        "public boolean ChannelRules.rule(int,int,int)",
        "public boolean ChannelRules.tick(int)",
        "public boolean ChannelRules.wind(boolean)",
        "public int ChannelRules.ask(int,int,int,int)"
            + " throws java.lang.IllegalArgumentException,java.lang.IllegalStateException",
        "public int ChannelRules.at(int,int,int) throws java.lang.IndexOutOfBoundsException",
        "public int ChannelRules.change(int,int) throws java.lang.IllegalArgumentException",
        "public int ChannelRules.close(int,int,int)"
            + " throws java.lang.IllegalArgumentException,java.lang.IllegalStateException",
        "public int ChannelRules.conflict(int,int) throws java.lang.IllegalArgumentException",
        "public int ChannelRules.count(int)",
        "public int ChannelRules.earliest(int,int,int,int)"
            + " throws java.lang.IllegalArgumentException",
        "public int ChannelRules.piece(int,int,int,int)"
            + " throws java.lang.IllegalArgumentException,java.lang.IllegalStateException",
        "public int ChannelRules.route(int,int,int,int)"
            + " throws java.lang.IllegalArgumentException",
        "public int ChannelRules.ship(int,int,int)"
            + " throws java.lang.IllegalArgumentException,java.lang.IllegalStateException",
        "public static final int ChannelRules.NONE",
    };

    private FaceTest() {
    }

    public static void main(String[] args) {
        List<String> open = new ArrayList<>();
        for (Constructor<?> c : ChannelRules.class.getDeclaredConstructors()) {
            addOpen(open, c, c.toString());
        }
        for (Method m : ChannelRules.class.getDeclaredMethods()) {
            addOpen(open, m, m.toString());
        }
        for (Field f : ChannelRules.class.getDeclaredFields()) {
            addOpen(open, f, f.toString());
        }
        TreeSet<String> got = new TreeSet<>(open);
        TreeSet<String> due = new TreeSet<>(Arrays.asList(FACE));
        boolean right = got.equals(due)
            && Modifier.isFinal(ChannelRules.class.getModifiers())
            && ChannelRules.NONE == -1;
        if (!right) {
            System.out.println("the face is " + got + ", due is " + due);
            System.exit(1);
        }
        System.out.println("the face is as due");
    }

    private static void addOpen(List<String> open, Member member, String text) {
        if (!Modifier.isPrivate(member.getModifiers())) {
            open.add(text);
        }
    }
}
