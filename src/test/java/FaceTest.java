import java.lang.reflect.Constructor;
import java.lang.reflect.Field;
import java.lang.reflect.Method;
import java.lang.reflect.Modifier;

/** The constants, the public face, and promise 1. */
public final class FaceTest {
    public static void main(String[] args) {
        Due due = new Due();
        constants(due);
        face(due);
        newObject(due);
        due.end("FaceTest");
    }

    private static void constants(Due due) {
        due.is("NONE", TokenHeart.NONE, -1);
        due.is("MISSING", TokenHeart.MISSING, -2);
        due.is("BEYOND", TokenHeart.BEYOND, -3);
        due.is("BELOW", TokenHeart.BELOW, -4);
        due.is("KIND", TokenHeart.KIND, -5);
        due.is("COPY", TokenHeart.COPY, -6);
        due.is("NO", TokenHeart.NO, -7);
        due.is("FULL", TokenHeart.FULL, -8);
    }

    /** 40 promises: a constructor, 39 methods; 8 constants; nothing else that isn't private. */
    private static void face(Due due) {
        int methods = 0;
        for (Method m : TokenHeart.class.getDeclaredMethods()) {
            boolean isPrivate = Modifier.isPrivate(m.getModifiers());
            methods += isPrivate || m.isSynthetic() ? 0 : 1;
            due.is(m.getName() + " answers an int", isPrivate || m.getReturnType() == int.class ? 1 : 0, 1);
        }
        due.is("methods that aren't private", methods, 39);
        int fields = 0;
        for (Field f : TokenHeart.class.getDeclaredFields()) {
            fields += Modifier.isPrivate(f.getModifiers()) || f.isSynthetic() ? 0 : 1;
        }
        due.is("fields that aren't private", fields, 8);
        Constructor<?>[] all = TokenHeart.class.getConstructors();
        due.is("constructors", all.length, 1);
        due.is("parameters of it", all[0].getParameterCount(), 0);
        due.is("final", Modifier.isFinal(TokenHeart.class.getModifiers()) ? 1 : 0, 1);
    }

    // Promise 1
    private static void newObject(Due due) {
        TokenHeart x = new TokenHeart();
        int[] token = {0, -1, 31, 960, -1, 0, 0, -1, -1, 0};
        for (int what = 0; what < 10; what++) {
            due.is("new: token(0, " + what + ")", x.token(0, what), token[what]);
        }
        int[] thing = {1, -1, 0, 0, 0, 0};
        for (int what = 0; what < 6; what++) {
            due.is("new: thing(0, " + what + ")", x.thing(0, what), thing[what]);
        }
        int[] count = {0, 1, 1, 0, 0, 0, 0, 0, 0, -1, 0, 0};
        for (int what = 0; what < 12; what++) {
            due.is("new: count(" + what + ")", x.count(what), count[what]);
        }
        due.is("new: slot(0, 0)", x.slot(0, 0), 0);
        for (int i = 1; i < 10; i++) {
            due.is("new: slot(0, " + i + ")", x.slot(0, i), -1);
        }
        for (int by = -8; by <= -2; by++) {
            due.is("new: status(" + by + ")", x.status(by), 0);
        }
        due.is("new: thing(1, 0)", x.thing(1, 0), -3);
        due.is("new: token(1, 0)", x.token(1, 0), -3);
        due.is("new: look(0, 0)", x.look(0, 0), -3);
        due.is("new: show(0)", x.show(0), -3);
        for (int s = 0; s < 4; s++) {
            due.is("new: time(" + s + ")", x.time(s), -2);
        }
        due.is("new: tear()", x.tear(), 0);
        due.is("new: back()", x.back(), -2);
    }
}
